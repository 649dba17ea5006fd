def mil_L29 (post : Int32 → Prop) (x0 : Int32) (y0 : Int32) : Prop := narrow .boolean (.int y0) = .int y0 ∧ post y0 
def mil_L28 (post : Int32 → Prop) (x0 : Int32) : Prop := mil_L29 post x0 0
def mil_L24 (post : Int32 → Prop) (x0 : Int32) : Prop := mil_L29 post x0 1
def mil_L12 (post : Int32 → Prop) (x0 : Int32) : Prop := (x0 < 65 → mil_L28 post x0) ∧ (¬ x0 < 65 → (90 < x0 → mil_L28 post x0) ∧ (¬ 90 < x0 → mil_L24 post x0))
def mil_wp (post : Int32 → Prop) (cx : Int32) : Prop := (cx < 97 → mil_L12 post cx) ∧ (¬ cx < 97 → (cx ≤ 122 → mil_L24 post cx) ∧ (¬ cx ≤ 122 → mil_L12 post cx))
set_option maxHeartbeats 8000000 in
set_option maxRecDepth 100000 in
theorem mil_met (l : Launch) (dC : Nat → ClassId) (dI : Nat → Nat → Nat) (sz : Nat) (cx : Int32) (post : Int32 → Prop) (hw : mil_wp post cx) : Met l px_y23 px_s23 ({ frames := 0, cells := 0, slots := 0, locals := 0 }) (va_Pc [.int cx] (fun U => U.heap.size = sz ∧ va_P (dC, dI) vwCl [] U.heap ∧ va_K (dC, dI) vwCl [] U ∧ va_D (fun _ => True) [] ∧ px_N U)) (va_Qi (fun (r : Int32) (u : Unit) => post r ) (fun (u : Unit) (t : State) => va_P (dC, dI) vwCl [] t.heap ∧ va_K (dC, dI) vwCl [] t ∧ va_D (va_A [] sz) []) (va_A [] sz)) 0 0 (va_A [] sz) := by
  refine Met.ofW (cc := prog_15_method_51_code) (maxL := 1) (ret := (some .boolean)) (by decide) rfl ?_
  intro p e s m args below meth c s₁ B hml hv
  obtain ⟨rfl, hsz, hP, hK, hD0, hN⟩ := hv
  have hx := B.exec
  have hb := B.bytes
  have hr := B.returns
  have htw : ∀ w ∈ px_all, w.before _ s = true := fun w h => atoms_spec (ws := px_s23) B.pre w (List.mem_cons_of_mem _ h)
  have hown : s.vm.findClass "MatroidDeskModel" = some m.cls := findClass_of_methodNamed B.named
  have hlocks := B.notSynchronized
  subst hsz
  have hD := hD0.self (sz := s.heap.size)
  generalize hAe : va_A [] s.heap.size = A at hD ⊢
  have hA : ∀ q : Nat, s.heap.size ≤ q → A q := fun q h => by rw [← hAe]; exact Or.inr h
  have hS : va_S A s.heap s.heap [] := va_S.rf
  have hP : va_P (dC, dI) vwCl [] s.heap := hP
  have hl := lv_entry ([.int cx]) (n := 1) (Nat.le_of_ble_eq_true rfl)
  rw [lg_entry_eq]
  generalize (lg_sl ([.int cx]) ++ List.replicate (1 - (lg_sl ([.int cx])).length) Slot.unset).toArray = ls at hl ⊢
  have hl : lv_has ls 1 [(0, .int cx)] := hl
  generalize hQ : MQ _ _ _ _ _ _ _ = Q
  have S29 : ∀ (x0 : Int32) (y0 : Int32) (H : Heap) (locs : List Loc) (ls : Array Slot), va_P (dC, dI) vwCl [] H → va_D A [] → va_S A s.heap H locs → lv_has ls 1 [(0, .int x0)] → mil_L29 post x0 y0 → W p l e (headSpec px_s23 ({ frames := 0, cells := 0, slots := 0, locals := 0 })).room s m ([.int cx]).toArray below meth c H locs 0 0 Q (F0 m 29 ls [.int y0]) := by
    intro x0 y0 H locs ls hP hD hS hl hw
    unfold mil_L29 at hw
    obtain ⟨hz9, hw⟩ := hw
    rw [← hQ]
    exact W.zret (v := y0) hx hb hr hz9 (fun t ht hW => ⟨⟨y0, (), rfl, hw, by rw [ht]; exact hP, va_K.moved hW.alike hK, hD⟩, hS.F ht⟩) hS.2.2 px_d23_29
  have S28 : ∀ (x0 : Int32) (H : Heap) (locs : List Loc) (ls : Array Slot), va_P (dC, dI) vwCl [] H → va_D A [] → va_S A s.heap H locs → lv_has ls 1 [(0, .int x0)] → mil_L28 post x0 → W p l e (headSpec px_s23 ({ frames := 0, cells := 0, slots := 0, locals := 0 })).room s m ([.int cx]).toArray below meth c H locs 0 0 Q (F0 m 28 ls []) := by
    intro x0 H locs ls hP hD hS hl hw
    unfold mil_L28 at hw
    refine lv_iconst (v := 0) hx hb px_d23_28 (by decide) ?_
    exact S29 x0 0 H locs ls hP hD hS (lv_sub hl [0] rfl) hw
  have S24 : ∀ (x0 : Int32) (H : Heap) (locs : List Loc) (ls : Array Slot), va_P (dC, dI) vwCl [] H → va_D A [] → va_S A s.heap H locs → lv_has ls 1 [(0, .int x0)] → mil_L24 post x0 → W p l e (headSpec px_s23 ({ frames := 0, cells := 0, slots := 0, locals := 0 })).room s m ([.int cx]).toArray below meth c H locs 0 0 Q (F0 m 24 ls []) := by
    intro x0 H locs ls hP hD hS hl hw
    unfold mil_L24 at hw
    refine lv_iconst (v := 1) hx hb px_d23_24 (by decide) ?_
    refine lv_goto (tgt := 29) hx hb px_d23_25 (by decide) ?_
    exact S29 x0 1 H locs ls hP hD hS (lv_sub hl [0] rfl) hw
  have S12 : ∀ (x0 : Int32) (H : Heap) (locs : List Loc) (ls : Array Slot), va_P (dC, dI) vwCl [] H → va_D A [] → va_S A s.heap H locs → lv_has ls 1 [(0, .int x0)] → mil_L12 post x0 → W p l e (headSpec px_s23 ({ frames := 0, cells := 0, slots := 0, locals := 0 })).room s m ([.int cx]).toArray below meth c H locs 0 0 Q (F0 m 12 ls []) := by
    intro x0 H locs ls hP hD hS hl hw
    unfold mil_L12 at hw
    refine lv_iload_n hx hb px_d23_12 rfl (lv_at hl 0 rfl) ?_
    refine lv_bipush (v := 65) hx hb px_d23_13 (by decide) ?_
    refine lv_icmp_lt (tgt := 28) hx hb px_d23_15 (by decide) (fun c15 => ?_) (fun c15 => ?_)
    · have hw := hw.1 c15
      exact S28 x0 H locs ls hP hD hS (lv_sub hl [0] rfl) hw
    · have hw := hw.2 c15
      refine lv_iload_n hx hb px_d23_18 rfl (lv_at hl 0 rfl) ?_
      refine lv_bipush (v := 90) hx hb px_d23_19 (by decide) ?_
      refine lv_icmp_gt (tgt := 28) hx hb px_d23_21 (by decide) (fun c21 => ?_) (fun c21 => ?_)
      · have hw := hw.1 c21
        exact S28 x0 H locs ls hP hD hS (lv_sub hl [0] rfl) hw
      · have hw := hw.2 c21
        exact S24 x0 H locs ls hP hD hS (lv_sub hl [0] rfl) hw
  unfold mil_wp at hw
  have hS0 := hS
  obtain ⟨H, hH9⟩ : ∃ z, z = s.heap := ⟨_, rfl⟩
  have hP : va_P (dC, dI) vwCl [] H := by rw [hH9]; exact hP
  obtain ⟨locs, hlo9⟩ : ∃ z : List Loc, z = [] := ⟨_, rfl⟩
  have hS : va_S A s.heap H locs := by rw [hH9, hlo9]; exact hS
  suffices hG : W p l e (headSpec px_s23 ({ frames := 0, cells := 0, slots := 0, locals := 0 })).room s m ([.int cx]).toArray below meth c H locs 0 0 Q (F0 m 0 ls []) by rw [hH9, hlo9] at hG; exact hG
  refine lv_iload_n hx hb px_d23_0 rfl (lv_at hl 0 rfl) ?_
  refine lv_bipush (v := 97) hx hb px_d23_1 (by decide) ?_
  refine lv_icmp_lt (tgt := 12) hx hb px_d23_3 (by decide) (fun c3 => ?_) (fun c3 => ?_)
  · have hw := hw.1 c3
    exact S12 cx H locs ls hP hD hS (lv_sub hl [0] rfl) hw
  · have hw := hw.2 c3
    refine lv_iload_n hx hb px_d23_6 rfl (lv_at hl 0 rfl) ?_
    refine lv_bipush (v := 122) hx hb px_d23_7 (by decide) ?_
    refine lv_icmp_le (tgt := 24) hx hb px_d23_9 (by decide) (fun c9 => ?_) (fun c9 => ?_)
    · have hw := hw.1 c9
      exact S24 cx H locs ls hP hD hS (lv_sub hl [0] rfl) hw
    · have hw := hw.2 c9
      exact S12 cx H locs ls hP hD hS (lv_sub hl [0] rfl) hw

def mid_L17 (post : Int32 → Prop) (x0 : Int32) (y0 : Int32) : Prop := narrow .boolean (.int y0) = .int y0 ∧ post y0 
def mid_L16 (post : Int32 → Prop) (x0 : Int32) : Prop := mid_L17 post x0 0
def mid_wp (post : Int32 → Prop) (cx : Int32) : Prop := (cx < 48 → mid_L16 post cx) ∧ (¬ cx < 48 → (57 < cx → mid_L16 post cx) ∧ (¬ 57 < cx → mid_L17 post cx 1))
set_option maxHeartbeats 8000000 in
set_option maxRecDepth 100000 in
theorem mid_met (l : Launch) (dC : Nat → ClassId) (dI : Nat → Nat → Nat) (sz : Nat) (cx : Int32) (post : Int32 → Prop) (hw : mid_wp post cx) : Met l px_y24 px_s24 ({ frames := 0, cells := 0, slots := 0, locals := 0 }) (va_Pc [.int cx] (fun U => U.heap.size = sz ∧ va_P (dC, dI) vwCl [] U.heap ∧ va_K (dC, dI) vwCl [] U ∧ va_D (fun _ => True) [] ∧ px_N U)) (va_Qi (fun (r : Int32) (u : Unit) => post r ) (fun (u : Unit) (t : State) => va_P (dC, dI) vwCl [] t.heap ∧ va_K (dC, dI) vwCl [] t ∧ va_D (va_A [] sz) []) (va_A [] sz)) 0 0 (va_A [] sz) := by
  refine Met.ofW (cc := prog_15_method_52_code) (maxL := 1) (ret := (some .boolean)) (by decide) rfl ?_
  intro p e s m args below meth c s₁ B hml hv
  obtain ⟨rfl, hsz, hP, hK, hD0, hN⟩ := hv
  have hx := B.exec
  have hb := B.bytes
  have hr := B.returns
  have htw : ∀ w ∈ px_all, w.before _ s = true := fun w h => atoms_spec (ws := px_s24) B.pre w (List.mem_cons_of_mem _ h)
  have hown : s.vm.findClass "MatroidDeskModel" = some m.cls := findClass_of_methodNamed B.named
  have hlocks := B.notSynchronized
  subst hsz
  have hD := hD0.self (sz := s.heap.size)
  generalize hAe : va_A [] s.heap.size = A at hD ⊢
  have hA : ∀ q : Nat, s.heap.size ≤ q → A q := fun q h => by rw [← hAe]; exact Or.inr h
  have hS : va_S A s.heap s.heap [] := va_S.rf
  have hP : va_P (dC, dI) vwCl [] s.heap := hP
  have hl := lv_entry ([.int cx]) (n := 1) (Nat.le_of_ble_eq_true rfl)
  rw [lg_entry_eq]
  generalize (lg_sl ([.int cx]) ++ List.replicate (1 - (lg_sl ([.int cx])).length) Slot.unset).toArray = ls at hl ⊢
  have hl : lv_has ls 1 [(0, .int cx)] := hl
  generalize hQ : MQ _ _ _ _ _ _ _ = Q
  have S17 : ∀ (x0 : Int32) (y0 : Int32) (H : Heap) (locs : List Loc) (ls : Array Slot), va_P (dC, dI) vwCl [] H → va_D A [] → va_S A s.heap H locs → lv_has ls 1 [(0, .int x0)] → mid_L17 post x0 y0 → W p l e (headSpec px_s24 ({ frames := 0, cells := 0, slots := 0, locals := 0 })).room s m ([.int cx]).toArray below meth c H locs 0 0 Q (F0 m 17 ls [.int y0]) := by
    intro x0 y0 H locs ls hP hD hS hl hw
    unfold mid_L17 at hw
    obtain ⟨hz9, hw⟩ := hw
    rw [← hQ]
    exact W.zret (v := y0) hx hb hr hz9 (fun t ht hW => ⟨⟨y0, (), rfl, hw, by rw [ht]; exact hP, va_K.moved hW.alike hK, hD⟩, hS.F ht⟩) hS.2.2 px_d24_17
  have S16 : ∀ (x0 : Int32) (H : Heap) (locs : List Loc) (ls : Array Slot), va_P (dC, dI) vwCl [] H → va_D A [] → va_S A s.heap H locs → lv_has ls 1 [(0, .int x0)] → mid_L16 post x0 → W p l e (headSpec px_s24 ({ frames := 0, cells := 0, slots := 0, locals := 0 })).room s m ([.int cx]).toArray below meth c H locs 0 0 Q (F0 m 16 ls []) := by
    intro x0 H locs ls hP hD hS hl hw
    unfold mid_L16 at hw
    refine lv_iconst (v := 0) hx hb px_d24_16 (by decide) ?_
    exact S17 x0 0 H locs ls hP hD hS (lv_sub hl [0] rfl) hw
  unfold mid_wp at hw
  have hS0 := hS
  obtain ⟨H, hH9⟩ : ∃ z, z = s.heap := ⟨_, rfl⟩
  have hP : va_P (dC, dI) vwCl [] H := by rw [hH9]; exact hP
  obtain ⟨locs, hlo9⟩ : ∃ z : List Loc, z = [] := ⟨_, rfl⟩
  have hS : va_S A s.heap H locs := by rw [hH9, hlo9]; exact hS
  suffices hG : W p l e (headSpec px_s24 ({ frames := 0, cells := 0, slots := 0, locals := 0 })).room s m ([.int cx]).toArray below meth c H locs 0 0 Q (F0 m 0 ls []) by rw [hH9, hlo9] at hG; exact hG
  refine lv_iload_n hx hb px_d24_0 rfl (lv_at hl 0 rfl) ?_
  refine lv_bipush (v := 48) hx hb px_d24_1 (by decide) ?_
  refine lv_icmp_lt (tgt := 16) hx hb px_d24_3 (by decide) (fun c3 => ?_) (fun c3 => ?_)
  · have hw := hw.1 c3
    exact S16 cx H locs ls hP hD hS (lv_sub hl [0] rfl) hw
  · have hw := hw.2 c3
    refine lv_iload_n hx hb px_d24_6 rfl (lv_at hl 0 rfl) ?_
    refine lv_bipush (v := 57) hx hb px_d24_7 (by decide) ?_
    refine lv_icmp_gt (tgt := 16) hx hb px_d24_9 (by decide) (fun c9 => ?_) (fun c9 => ?_)
    · have hw := hw.1 c9
      exact S16 cx H locs ls hP hD hS (lv_sub hl [0] rfl) hw
    · have hw := hw.2 c9
      refine lv_iconst (v := 1) hx hb px_d24_12 (by decide) ?_
      refine lv_goto (tgt := 17) hx hb px_d24_13 (by decide) ?_
      exact S17 cx 1 H locs ls hP hD hS (lv_sub hl [0] rfl) hw

def mip_L49 (post : Int32 → Prop) (x0 : Int32) (x1 : Int32) (x2 : Int32) : Prop := narrow .boolean (.int x1) = .int x1 ∧ post x1 
def mip_L42 (K20 : Int32 → Int32 → Int32 → Prop) (post : Int32 → Prop) (x0 : Int32) (x1 : Int32) (x2 : Int32) (y0 : Int32) : Prop := ∀ z1 : Int32, z1 = x2 + 1 → K20 x0 y0 z1
def mip_L20 (post : Int32 → Prop) : Nat → Int32 → Int32 → Int32 → Prop
  | 0 => fun _ _ _ => False
  | k + 1 => fun x0 x1 x2 => (x0 < (x2 * x2) → mip_L49 post x0 x1 x2) ∧ (¬ x0 < (x2 * x2) → (x1 = 0 → mip_L49 post x0 x1 x2) ∧ (¬ x1 = 0 → ¬ x2 = 0 ∧ (((x0 - x0 / x2 * x2) = 0 → mip_L42 (mip_L20 post k) post x0 x1 x2 0) ∧ (¬ (x0 - x0 / x2 * x2) = 0 → mip_L42 (mip_L20 post k) post x0 x1 x2 1))))
def mip_L17 (post : Int32 → Prop) (x0 : Int32) (y0 : Int32) : Prop := ∃ j20, mip_L20 post j20 x0 y0 2
def mip_L16 (post : Int32 → Prop) (x0 : Int32) : Prop := mip_L17 post x0 0
def mip_wp (post : Int32 → Prop) (vx : Int32) : Prop := (vx < 2 → mip_L16 post vx) ∧ (¬ vx < 2 → (251 < vx → mip_L16 post vx) ∧ (¬ 251 < vx → mip_L17 post vx 1))
set_option maxHeartbeats 8000000 in
set_option maxRecDepth 100000 in
theorem mip_met (l : Launch) (dC : Nat → ClassId) (dI : Nat → Nat → Nat) (sz : Nat) (vx : Int32) (post : Int32 → Prop) (hw : mip_wp post vx) : Met l px_y34 px_s34 ({ frames := 0, cells := 0, slots := 0, locals := 0 }) (va_Pc [.int vx] (fun U => U.heap.size = sz ∧ va_P (dC, dI) vwCl [] U.heap ∧ va_K (dC, dI) vwCl [] U ∧ va_D (fun _ => True) [] ∧ px_N U)) (va_Qi (fun (r : Int32) (u : Unit) => post r ) (fun (u : Unit) (t : State) => va_P (dC, dI) vwCl [] t.heap ∧ va_K (dC, dI) vwCl [] t ∧ va_D (va_A [] sz) []) (va_A [] sz)) 0 0 (va_A [] sz) := by
  refine Met.ofW (cc := prog_15_method_67_code) (maxL := 3) (ret := (some .boolean)) (by decide) rfl ?_
  intro p e s m args below meth c s₁ B hml hv
  obtain ⟨rfl, hsz, hP, hK, hD0, hN⟩ := hv
  have hx := B.exec
  have hb := B.bytes
  have hr := B.returns
  have htw : ∀ w ∈ px_all, w.before _ s = true := fun w h => atoms_spec (ws := px_s34) B.pre w (List.mem_cons_of_mem _ h)
  have hown : s.vm.findClass "MatroidDeskModel" = some m.cls := findClass_of_methodNamed B.named
  have hlocks := B.notSynchronized
  subst hsz
  have hD := hD0.self (sz := s.heap.size)
  generalize hAe : va_A [] s.heap.size = A at hD ⊢
  have hA : ∀ q : Nat, s.heap.size ≤ q → A q := fun q h => by rw [← hAe]; exact Or.inr h
  have hS : va_S A s.heap s.heap [] := va_S.rf
  have hP : va_P (dC, dI) vwCl [] s.heap := hP
  have hl := lv_entry ([.int vx]) (n := 3) (Nat.le_of_ble_eq_true rfl)
  rw [lg_entry_eq]
  generalize (lg_sl ([.int vx]) ++ List.replicate (3 - (lg_sl ([.int vx])).length) Slot.unset).toArray = ls at hl ⊢
  have hl : lv_has ls 3 [(0, .int vx)] := hl
  generalize hQ : MQ _ _ _ _ _ _ _ = Q
  have S49 : ∀ (x0 : Int32) (x1 : Int32) (x2 : Int32) (H : Heap) (locs : List Loc) (ls : Array Slot), va_P (dC, dI) vwCl [] H → va_D A [] → va_S A s.heap H locs → lv_has ls 3 [(0, .int x0), (1, .int x1), (2, .int x2)] → mip_L49 post x0 x1 x2 → W p l e (headSpec px_s34 ({ frames := 0, cells := 0, slots := 0, locals := 0 })).room s m ([.int vx]).toArray below meth c H locs 0 0 Q (F0 m 49 ls []) := by
    intro x0 x1 x2 H locs ls hP hD hS hl hw
    unfold mip_L49 at hw
    refine lv_iload_n hx hb px_d34_49 rfl (lv_at hl 1 rfl) ?_
    obtain ⟨hz9, hw⟩ := hw
    rw [← hQ]
    exact W.zret (v := x1) hx hb hr hz9 (fun t ht hW => ⟨⟨x1, (), rfl, hw, by rw [ht]; exact hP, va_K.moved hW.alike hK, hD⟩, hS.F ht⟩) hS.2.2 px_d34_50
  have S20 : ∀ (k20 : Nat) (x0 : Int32) (x1 : Int32) (x2 : Int32) (H : Heap) (locs : List Loc) (ls : Array Slot), va_P (dC, dI) vwCl [] H → va_D A [] → va_S A s.heap H locs → lv_has ls 3 [(0, .int x0), (1, .int x1), (2, .int x2)] → mip_L20 post k20 x0 x1 x2 → W p l e (headSpec px_s34 ({ frames := 0, cells := 0, slots := 0, locals := 0 })).room s m ([.int vx]).toArray below meth c H locs 0 0 Q (F0 m 20 ls []) := by
    intro k20
    induction k20 with
    | zero => intro x0 x1 x2 H locs ls hP hD hS hl hw; exact False.elim hw
    | succ k20 ih20 =>
      have S42 : ∀ (x0 : Int32) (x1 : Int32) (x2 : Int32) (y0 : Int32) (H : Heap) (locs : List Loc) (ls : Array Slot), va_P (dC, dI) vwCl [] H → va_D A [] → va_S A s.heap H locs → lv_has ls 3 [(0, .int x0), (1, .int x1), (2, .int x2)] → mip_L42 (mip_L20 post k20) post x0 x1 x2 y0 → W p l e (headSpec px_s34 ({ frames := 0, cells := 0, slots := 0, locals := 0 })).room s m ([.int vx]).toArray below meth c H locs 0 0 Q (F0 m 42 ls [.int y0]) := by
        intro x0 x1 x2 y0 H locs ls hP hD hS hl hw
        unfold mip_L42 at hw
        refine lv_istore_n (lv' := [(1, .int y0), (0, .int x0), (2, .int x2)]) hx hb px_d34_42 rfl hl (by decide) rfl (fun ls hl => ?_)
        obtain ⟨z1, ez1⟩ : ∃ y : Int32, y = x2 + 1 := ⟨_, rfl⟩
        have hw := hw z1 ez1
        refine lv_iinc (v := z1) (lv' := [(2, .int z1), (1, .int y0), (0, .int x0)]) hx hb px_d34_43 hl (k := 2) rfl (by rw [ez1]; rfl) (by decide) rfl (fun ls hl => ?_)
        refine lv_goto (tgt := 20) hx hb px_d34_46 (by decide) ?_
        exact ih20 x0 y0 z1 H locs ls hP hD hS (lv_sub hl [2, 1, 0] rfl) hw
      intro x0 x1 x2 H locs ls hP hD hS hl hw
      unfold mip_L20 at hw
      refine lv_iload_n hx hb px_d34_20 rfl (lv_at hl 2 rfl) ?_
      refine lv_iload_n hx hb px_d34_21 rfl (lv_at hl 2 rfl) ?_
      refine lv_imul hx hb px_d34_22 ?_
      refine lv_iload_n hx hb px_d34_23 rfl (lv_at hl 0 rfl) ?_
      refine lv_icmp_gt (tgt := 49) hx hb px_d34_24 (by decide) (fun c24 => ?_) (fun c24 => ?_)
      · have hw := hw.1 c24
        exact S49 x0 x1 x2 H locs ls hP hD hS (lv_sub hl [0, 1, 2] rfl) hw
      · have hw := hw.2 c24
        refine lv_iload_n hx hb px_d34_27 rfl (lv_at hl 1 rfl) ?_
        refine lv_if_eq (tgt := 49) hx hb px_d34_28 (by decide) (fun c28 => ?_) (fun c28 => ?_)
        · have hw := hw.1 c28
          exact S49 x0 x1 x2 H locs ls hP hD hS (lv_sub hl [0, 1, 2] rfl) hw
        · have hw := hw.2 c28
          refine lv_iload_n hx hb px_d34_31 rfl (lv_at hl 0 rfl) ?_
          refine lv_iload_n hx hb px_d34_32 rfl (lv_at hl 2 rfl) ?_
          obtain ⟨hd33, hw⟩ := hw
          refine lv_irem hx hb px_d34_33 hd33 ?_
          refine lv_if_eq (tgt := 41) hx hb px_d34_34 (by decide) (fun c34 => ?_) (fun c34 => ?_)
          · have hw := hw.1 c34
            refine lv_iconst (v := 0) hx hb px_d34_41 (by decide) ?_
            exact S42 x0 x1 x2 0 H locs ls hP hD hS (lv_sub hl [0, 1, 2] rfl) hw
          · have hw := hw.2 c34
            refine lv_iconst (v := 1) hx hb px_d34_37 (by decide) ?_
            refine lv_goto (tgt := 42) hx hb px_d34_38 (by decide) ?_
            exact S42 x0 x1 x2 1 H locs ls hP hD hS (lv_sub hl [0, 1, 2] rfl) hw
  have S17 : ∀ (x0 : Int32) (y0 : Int32) (H : Heap) (locs : List Loc) (ls : Array Slot), va_P (dC, dI) vwCl [] H → va_D A [] → va_S A s.heap H locs → lv_has ls 3 [(0, .int x0)] → mip_L17 post x0 y0 → W p l e (headSpec px_s34 ({ frames := 0, cells := 0, slots := 0, locals := 0 })).room s m ([.int vx]).toArray below meth c H locs 0 0 Q (F0 m 17 ls [.int y0]) := by
    intro x0 y0 H locs ls hP hD hS hl hw
    unfold mip_L17 at hw
    refine lv_istore_n (lv' := [(1, .int y0), (0, .int x0)]) hx hb px_d34_17 rfl hl (by decide) rfl (fun ls hl => ?_)
    refine lv_iconst (v := 2) hx hb px_d34_18 (by decide) ?_
    refine lv_istore_n (lv' := [(2, .int 2), (1, .int y0), (0, .int x0)]) hx hb px_d34_19 rfl hl (by decide) rfl (fun ls hl => ?_)
    obtain ⟨k9, hw⟩ := hw
    exact S20 k9 x0 y0 2 H locs ls hP hD hS (lv_sub hl [2, 1, 0] rfl) hw
  have S16 : ∀ (x0 : Int32) (H : Heap) (locs : List Loc) (ls : Array Slot), va_P (dC, dI) vwCl [] H → va_D A [] → va_S A s.heap H locs → lv_has ls 3 [(0, .int x0)] → mip_L16 post x0 → W p l e (headSpec px_s34 ({ frames := 0, cells := 0, slots := 0, locals := 0 })).room s m ([.int vx]).toArray below meth c H locs 0 0 Q (F0 m 16 ls []) := by
    intro x0 H locs ls hP hD hS hl hw
    unfold mip_L16 at hw
    refine lv_iconst (v := 0) hx hb px_d34_16 (by decide) ?_
    exact S17 x0 0 H locs ls hP hD hS (lv_sub hl [0] rfl) hw
  unfold mip_wp at hw
  have hS0 := hS
  obtain ⟨H, hH9⟩ : ∃ z, z = s.heap := ⟨_, rfl⟩
  have hP : va_P (dC, dI) vwCl [] H := by rw [hH9]; exact hP
  obtain ⟨locs, hlo9⟩ : ∃ z : List Loc, z = [] := ⟨_, rfl⟩
  have hS : va_S A s.heap H locs := by rw [hH9, hlo9]; exact hS
  suffices hG : W p l e (headSpec px_s34 ({ frames := 0, cells := 0, slots := 0, locals := 0 })).room s m ([.int vx]).toArray below meth c H locs 0 0 Q (F0 m 0 ls []) by rw [hH9, hlo9] at hG; exact hG
  refine lv_iload_n hx hb px_d34_0 rfl (lv_at hl 0 rfl) ?_
  refine lv_iconst (v := 2) hx hb px_d34_1 (by decide) ?_
  refine lv_icmp_lt (tgt := 16) hx hb px_d34_2 (by decide) (fun c2 => ?_) (fun c2 => ?_)
  · have hw := hw.1 c2
    exact S16 vx H locs ls hP hD hS (lv_sub hl [0] rfl) hw
  · have hw := hw.2 c2
    refine lv_iload_n hx hb px_d34_5 rfl (lv_at hl 0 rfl) ?_
    refine lv_sipush (v := 251) hx hb px_d34_6 (by decide) ?_
    refine lv_icmp_gt (tgt := 16) hx hb px_d34_9 (by decide) (fun c9 => ?_) (fun c9 => ?_)
    · have hw := hw.1 c9
      exact S16 vx H locs ls hP hD hS (lv_sub hl [0] rfl) hw
    · have hw := hw.2 c9
      refine lv_iconst (v := 1) hx hb px_d34_12 (by decide) ?_
      refine lv_goto (tgt := 17) hx hb px_d34_13 (by decide) ?_
      exact S17 vx 1 H locs ls hP hD hS (lv_sub hl [0] rfl) hw

def mfe_L56 (post : (Nat → Int32) → (Nat → Int32) → Prop) (x1 : Int32) (x2 : Int32) (x3 : Int32) (x4 : Int32) (x5 : Int32) (iv : Nat → Int32) (g_came : Nat → Int32) : Prop := post iv g_came
def mfe_L19 (post : (Nat → Int32) → (Nat → Int32) → Prop) (x1 : Int32) (x2 : Int32) (x3 : Int32) (x4 : Int32) (x5 : Int32) (y0 : Int32) (iv : Nat → Int32) (g_came : Nat → Int32) : Prop := (¬ y0 = 0 → mfe_L56 post x1 x2 x3 x4 x5 (va_up iv 49 y0) g_came) ∧ (y0 = 0 → mtk_wp (fun v1 v2 => mtk_wp (fun v3 v4 => mtk_wp (fun v5 v6 => mtk_wp (fun v7 v8 => mtk_wp (fun v9 v10 => mfe_L56 post x1 x2 x3 x4 x5 v9 v10) x5 v7 v8) x4 v5 v6) x3 v3 v4) x2 v1 v2) x1 (va_up iv 49 y0) g_came)
def mfe_wp (post : (Nat → Int32) → (Nat → Int32) → Prop) (a1x : Int32) (a2x : Int32) (a3x : Int32) (a4x : Int32) (a5x : Int32) (iv : Nat → Int32) (g_came : Nat → Int32) : Prop := (((iv 51) + 20) ≤ 16384 → mfe_L19 post a1x a2x a3x a4x a5x 0 iv g_came) ∧ (¬ ((iv 51) + 20) ≤ 16384 → mfe_L19 post a1x a2x a3x a4x a5x 1 iv g_came)
set_option maxHeartbeats 8000000 in
set_option maxRecDepth 100000 in
theorem mfe_met (l : Launch) (dC : Nat → ClassId) (dI : Nat → Nat → Nat) (sz : Nat) (h0 : Nat) (rf : Nat → Nat) (c_came : ClassId) (a1x : Int32) (a2x : Int32) (a3x : Int32) (a4x : Int32) (a5x : Int32) (iv : Nat → Int32) (g_came : Nat → Int32) (post : (Nat → Int32) → (Nat → Int32) → Prop) (hw : mfe_wp post a1x a2x a3x a4x a5x iv g_came) : Met l px_y40 px_s40 ({ frames := 1, cells := 0, slots := 0, locals := 22 }) (va_Pc [.ref h0, .int a1x, .int a2x, .int a3x, .int a4x, .int a5x] (fun U => U.heap.size = sz ∧ va_P (dC, dI) vwCl [(h0, .inr (8, px_mf rf iv)), (rf 50, .inl (c_came, 16384, .inl g_came))] U.heap ∧ va_K (dC, dI) vwCl [(c_came, .byte)] U ∧ va_D (fun _ => True) [(h0, .inr (8, px_mf rf iv)), (rf 50, .inl (c_came, 16384, .inl g_came))] ∧ px_N U)) (va_Qv (fun (u : (Nat → Int32) × (Nat → Int32)) => post u.1 u.2) (fun (u : (Nat → Int32) × (Nat → Int32)) (t : State) => va_P (dC, dI) vwCl [(h0, .inr (8, px_mf rf u.1)), (rf 50, .inl (c_came, 16384, .inl u.2))] t.heap ∧ va_K (dC, dI) vwCl [(c_came, .byte)] t ∧ va_D (va_A [(h0, .inr (8, px_mf rf iv)), (rf 50, .inl (c_came, 16384, .inl g_came))] sz) [(h0, .inr (8, px_mf rf u.1)), (rf 50, .inl (c_came, 16384, .inl u.2))]) (va_A [(h0, .inr (8, px_mf rf iv)), (rf 50, .inl (c_came, 16384, .inl g_came))] sz)) 0 0 (va_A [(h0, .inr (8, px_mf rf iv)), (rf 50, .inl (c_came, 16384, .inl g_came))] sz) := by
  refine Met.ofW (cc := prog_15_method_90_code) (maxL := 6) (ret := none) (by decide) rfl ?_
  intro p e s m args below meth c s₁ B hml hv
  obtain ⟨rfl, hsz, hP, hK, hD0, hN⟩ := hv
  have hx := B.exec
  have hb := B.bytes
  have hr := B.returns
  have htw : ∀ w ∈ px_all, w.before _ s = true := fun w h => atoms_spec (ws := px_s40) B.pre w (List.mem_cons_of_mem _ h)
  have hown : s.vm.findClass "MatroidDeskModel" = some m.cls := findClass_of_methodNamed B.named
  have hlocks := B.notSynchronized
  subst hsz
  have hD := hD0.self (sz := s.heap.size)
  generalize hAe : va_A [(h0, .inr (8, px_mf rf iv)), (rf 50, .inl (c_came, 16384, .inl g_came))] s.heap.size = A at hD ⊢
  have hA : ∀ q : Nat, s.heap.size ≤ q → A q := fun q h => by rw [← hAe]; exact Or.inr h
  have hS : va_S A s.heap s.heap [] := va_S.rf
  have hP : va_P (dC, dI) vwCl [(h0, .inr (8, px_mf rf iv)), (rf 50, .inl (c_came, 16384, .inl g_came))] s.heap := hP
  have hl := lv_entry ([.ref h0, .int a1x, .int a2x, .int a3x, .int a4x, .int a5x]) (n := 6) (Nat.le_of_ble_eq_true rfl)
  rw [lg_entry_eq]
  generalize (lg_sl ([.ref h0, .int a1x, .int a2x, .int a3x, .int a4x, .int a5x]) ++ List.replicate (6 - (lg_sl ([.ref h0, .int a1x, .int a2x, .int a3x, .int a4x, .int a5x])).length) Slot.unset).toArray = ls at hl ⊢
  have hl : lv_has ls 6 [(0, .ref h0), (1, .int a1x), (2, .int a2x), (3, .int a3x), (4, .int a4x), (5, .int a5x)] := hl
  generalize hQ : MQ _ _ _ _ _ _ _ = Q
  have S56 : ∀ (x1 : Int32) (x2 : Int32) (x3 : Int32) (x4 : Int32) (x5 : Int32) (iv : Nat → Int32) (g_came : Nat → Int32) (H : Heap) (locs : List Loc) (ls : Array Slot), va_P (dC, dI) vwCl [(h0, .inr (8, px_mf rf iv)), (rf 50, .inl (c_came, 16384, .inl g_came))] H → va_D A [(h0, .inr (8, px_mf rf iv)), (rf 50, .inl (c_came, 16384, .inl g_came))] → va_S A s.heap H locs → lv_has ls 6 [(0, .ref h0), (1, .int x1), (2, .int x2), (3, .int x3), (4, .int x4), (5, .int x5)] → mfe_L56 post x1 x2 x3 x4 x5 iv g_came → W p l e (headSpec px_s40 ({ frames := 1, cells := 0, slots := 0, locals := 22 })).room s m ([.ref h0, .int a1x, .int a2x, .int a3x, .int a4x, .int a5x]).toArray below meth c H locs 0 0 Q (F0 m 56 ls []) := by
    intro x1 x2 x3 x4 x5 iv g_came H locs ls hP hD hS hl hw
    unfold mfe_L56 at hw
    rw [← hQ]
    exact W.vret hx hb hr (fun t ht hW => ⟨⟨(iv, g_came), rfl, hw, by rw [ht]; exact hP, va_K.moved hW.alike hK, hD⟩, hS.F ht⟩) hS.2.2 px_d40_56
  have S19 : ∀ (x1 : Int32) (x2 : Int32) (x3 : Int32) (x4 : Int32) (x5 : Int32) (y0 : Int32) (iv : Nat → Int32) (g_came : Nat → Int32) (H : Heap) (locs : List Loc) (ls : Array Slot), va_P (dC, dI) vwCl [(h0, .inr (8, px_mf rf iv)), (rf 50, .inl (c_came, 16384, .inl g_came))] H → va_D A [(h0, .inr (8, px_mf rf iv)), (rf 50, .inl (c_came, 16384, .inl g_came))] → va_S A s.heap H locs → lv_has ls 6 [(0, .ref h0), (1, .int x1), (2, .int x2), (3, .int x3), (4, .int x4), (5, .int x5)] → mfe_L19 post x1 x2 x3 x4 x5 y0 iv g_came → W p l e (headSpec px_s40 ({ frames := 1, cells := 0, slots := 0, locals := 22 })).room s m ([.ref h0, .int a1x, .int a2x, .int a3x, .int a4x, .int a5x]).toArray below meth c H locs 0 0 Q (F0 m 19 ls [.int y0, .ref h0]) := by
    intro x1 x2 x3 x4 x5 y0 iv g_came H locs ls hP hD hS hl hw
    unfold mfe_L19 at hw
    refine va_put (D := (dC, dI)) (ci := 8) (v := .int y0) (ty := .int) (C := "MatroidDeskModel") (T := px_T8) (N := 53) hx hb htw px_in8 px_ty8 px_tyok8 px_nm8 hown hK hP hD hS 0 rfl rfl 49 (by decide) (htw _ px_w384) (fun _ h9 => h9) rfl (by decide +kernel) rfl rfl (Nat.le_of_ble_eq_true rfl) px_d40_19 (fun H locs hP hD hS => ?_)
    rw [px_ms49] at hP hD
    have hP : va_P (dC, dI) vwCl [(h0, .inr (8, px_mf rf (va_up iv 49 y0))), (rf 50, .inl (c_came, 16384, .inl g_came))] H := hP
    have hD : va_D A [(h0, .inr (8, px_mf rf (va_up iv 49 y0))), (rf 50, .inl (c_came, 16384, .inl g_came))] := hD
    refine lv_aload_n hx hb px_d40_22 rfl (lv_at hl 0 rfl) ?_
    refine va_get (D := (dC, dI)) (ci := 8) (v := .int y0) (C := "MatroidDeskModel") (T := px_T8) (N := 53) hx hb htw px_in8 hown hK hP 0 rfl rfl 49 (by decide) (htw _ px_w384) (fun _ h9 => h9) rfl px_d40_23 ?_
    refine lv_if_ne (tgt := 56) hx hb px_d40_26 (by decide) (fun c26 => ?_) (fun c26 => ?_)
    · have hw := hw.1 c26
      exact S56 x1 x2 x3 x4 x5 (va_up iv 49 y0) g_came H locs ls hP hD hS (lv_sub hl [0, 1, 2, 3, 4, 5] rfl) hw
    · have hw := hw.2 c26
      refine lv_aload_n hx hb px_d40_29 rfl (lv_at hl 0 rfl) ?_
      refine lv_iload_n hx hb px_d40_30 rfl (lv_at hl 1 rfl) ?_
      have hPc := hP.sub (ws' := [(h0, .inr (8, px_mf rf (va_up iv 49 y0))), (rf 50, .inl (c_came, 16384, .inl g_came))]) [0, 1] rfl
      have hDc := hD.sub (ws' := [(h0, .inr (8, px_mf rf (va_up iv 49 y0))), (rf 50, .inl (c_came, 16384, .inl g_came))]) [0, 1] (by decide) rfl
      have hKc := hK.sub (tys' := [(c_came, .byte)]) [0] rfl
      have hFc := va_free (wc := [(h0, .inr (8, px_mf rf (va_up iv 49 y0))), (rf 50, .inl (c_came, 16384, .inl g_came))]) hD hS hA [0, 1] rfl
      refine va_callv (va_runV (As := [.int x1]) (rest := []) ⟨hx, hb, hml, hown, htw⟩ (mtk_met l dC dI H.size h0 rf c_came x1 (va_up iv 49 y0) g_came _ hw) (cwV 1 htw (px_gv px_w393 px_w386 px_w387 px_w94 px_g39) rfl rfl rfl (by decide +kernel) ⟨Nat.le_of_ble_eq_true rfl, Nat.le_of_ble_eq_true rfl⟩) ⟨fun a U g mk q => by obtain ⟨q0, q1, qP, qK, qD, qN⟩ := q; exact ⟨q0, q1, qP, va_K.moved (u := U) (U := U.calling g mk a) (Vm.Alike.refl U.vm) qK, qD, qN.same rfl⟩, va_recv hK hP (ci := 8) (q0 := 0) rfl rfl, fun U hU hW => ⟨rfl, by rw [hU], by rw [hU]; exact hPc, va_K.moved hW.alike hKc, hDc.weaken (fun _ _ _ _ => trivial), hN.warm hW⟩⟩ rfl rfl hl.1 rfl (lv_room (Nat.le_of_ble_eq_true rfl)) px_d40_31 ⟨(Nat.le_of_ble_eq_true rfl), (Nat.le_of_ble_eq_true rfl)⟩) hS (fun q _ h => hFc q h) hFc (fun u t H1 locs ht hvm hw hB hz1 hk1 hS => ?_)
      obtain ⟨v1, v2⟩ := u
      obtain ⟨hP1, hK1, hD1⟩ := hB
      rw [ht] at hP1
      have hK1 := va_K.moved hvm.symm hK1
      obtain ⟨hP, hD⟩ := va_join (wr := []) (w1 := [(h0, .inr (8, px_mf rf v1)), (rf 50, .inl (c_came, 16384, .inl v2))]) hP hD [0, 1] [] rfl rfl (by decide) (by decide) hk1 hFc hP1 hD1
      generalize H1 = H at hP hS ⊢
      have hP : va_P (dC, dI) vwCl [(h0, .inr (8, px_mf rf v1)), (rf 50, .inl (c_came, 16384, .inl v2))] H := hP
      have hD : va_D A [(h0, .inr (8, px_mf rf v1)), (rf 50, .inl (c_came, 16384, .inl v2))] := hD
      refine lv_aload_n hx hb px_d40_34 rfl (lv_at hl 0 rfl) ?_
      refine lv_iload_n hx hb px_d40_35 rfl (lv_at hl 2 rfl) ?_
      have hPc := hP.sub (ws' := [(h0, .inr (8, px_mf rf v1)), (rf 50, .inl (c_came, 16384, .inl v2))]) [0, 1] rfl
      have hDc := hD.sub (ws' := [(h0, .inr (8, px_mf rf v1)), (rf 50, .inl (c_came, 16384, .inl v2))]) [0, 1] (by decide) rfl
      have hKc := hK.sub (tys' := [(c_came, .byte)]) [0] rfl
      have hFc := va_free (wc := [(h0, .inr (8, px_mf rf v1)), (rf 50, .inl (c_came, 16384, .inl v2))]) hD hS hA [0, 1] rfl
      refine va_callv (va_runV (As := [.int x2]) (rest := []) ⟨hx, hb, hml, hown, htw⟩ (mtk_met l dC dI H.size h0 rf c_came x2 v1 v2 _ hw) (cwV 1 htw (px_gv px_w393 px_w386 px_w387 px_w94 px_g39) rfl rfl rfl (by decide +kernel) ⟨Nat.le_of_ble_eq_true rfl, Nat.le_of_ble_eq_true rfl⟩) ⟨fun a U g mk q => by obtain ⟨q0, q1, qP, qK, qD, qN⟩ := q; exact ⟨q0, q1, qP, va_K.moved (u := U) (U := U.calling g mk a) (Vm.Alike.refl U.vm) qK, qD, qN.same rfl⟩, va_recv hK hP (ci := 8) (q0 := 0) rfl rfl, fun U hU hW => ⟨rfl, by rw [hU], by rw [hU]; exact hPc, va_K.moved hW.alike hKc, hDc.weaken (fun _ _ _ _ => trivial), hN.warm hW⟩⟩ rfl rfl hl.1 rfl (lv_room (Nat.le_of_ble_eq_true rfl)) px_d40_36 ⟨(Nat.le_of_ble_eq_true rfl), (Nat.le_of_ble_eq_true rfl)⟩) hS (fun q _ h => hFc q h) hFc (fun u t H1 locs ht hvm hw hB hz1 hk1 hS => ?_)
      obtain ⟨v3, v4⟩ := u
      obtain ⟨hP1, hK1, hD1⟩ := hB
      rw [ht] at hP1
      have hK1 := va_K.moved hvm.symm hK1
      obtain ⟨hP, hD⟩ := va_join (wr := []) (w1 := [(h0, .inr (8, px_mf rf v3)), (rf 50, .inl (c_came, 16384, .inl v4))]) hP hD [0, 1] [] rfl rfl (by decide) (by decide) hk1 hFc hP1 hD1
      generalize H1 = H at hP hS ⊢
      have hP : va_P (dC, dI) vwCl [(h0, .inr (8, px_mf rf v3)), (rf 50, .inl (c_came, 16384, .inl v4))] H := hP
      have hD : va_D A [(h0, .inr (8, px_mf rf v3)), (rf 50, .inl (c_came, 16384, .inl v4))] := hD
      refine lv_aload_n hx hb px_d40_39 rfl (lv_at hl 0 rfl) ?_
      refine lv_iload_n hx hb px_d40_40 rfl (lv_at hl 3 rfl) ?_
      have hPc := hP.sub (ws' := [(h0, .inr (8, px_mf rf v3)), (rf 50, .inl (c_came, 16384, .inl v4))]) [0, 1] rfl
      have hDc := hD.sub (ws' := [(h0, .inr (8, px_mf rf v3)), (rf 50, .inl (c_came, 16384, .inl v4))]) [0, 1] (by decide) rfl
      have hKc := hK.sub (tys' := [(c_came, .byte)]) [0] rfl
      have hFc := va_free (wc := [(h0, .inr (8, px_mf rf v3)), (rf 50, .inl (c_came, 16384, .inl v4))]) hD hS hA [0, 1] rfl
      refine va_callv (va_runV (As := [.int x3]) (rest := []) ⟨hx, hb, hml, hown, htw⟩ (mtk_met l dC dI H.size h0 rf c_came x3 v3 v4 _ hw) (cwV 1 htw (px_gv px_w393 px_w386 px_w387 px_w94 px_g39) rfl rfl rfl (by decide +kernel) ⟨Nat.le_of_ble_eq_true rfl, Nat.le_of_ble_eq_true rfl⟩) ⟨fun a U g mk q => by obtain ⟨q0, q1, qP, qK, qD, qN⟩ := q; exact ⟨q0, q1, qP, va_K.moved (u := U) (U := U.calling g mk a) (Vm.Alike.refl U.vm) qK, qD, qN.same rfl⟩, va_recv hK hP (ci := 8) (q0 := 0) rfl rfl, fun U hU hW => ⟨rfl, by rw [hU], by rw [hU]; exact hPc, va_K.moved hW.alike hKc, hDc.weaken (fun _ _ _ _ => trivial), hN.warm hW⟩⟩ rfl rfl hl.1 rfl (lv_room (Nat.le_of_ble_eq_true rfl)) px_d40_41 ⟨(Nat.le_of_ble_eq_true rfl), (Nat.le_of_ble_eq_true rfl)⟩) hS (fun q _ h => hFc q h) hFc (fun u t H1 locs ht hvm hw hB hz1 hk1 hS => ?_)
      obtain ⟨v5, v6⟩ := u
      obtain ⟨hP1, hK1, hD1⟩ := hB
      rw [ht] at hP1
      have hK1 := va_K.moved hvm.symm hK1
      obtain ⟨hP, hD⟩ := va_join (wr := []) (w1 := [(h0, .inr (8, px_mf rf v5)), (rf 50, .inl (c_came, 16384, .inl v6))]) hP hD [0, 1] [] rfl rfl (by decide) (by decide) hk1 hFc hP1 hD1
      generalize H1 = H at hP hS ⊢
      have hP : va_P (dC, dI) vwCl [(h0, .inr (8, px_mf rf v5)), (rf 50, .inl (c_came, 16384, .inl v6))] H := hP
      have hD : va_D A [(h0, .inr (8, px_mf rf v5)), (rf 50, .inl (c_came, 16384, .inl v6))] := hD
      refine lv_aload_n hx hb px_d40_44 rfl (lv_at hl 0 rfl) ?_
      refine lv_iload hx hb px_d40_45 (lv_at hl 4 rfl) ?_
      have hPc := hP.sub (ws' := [(h0, .inr (8, px_mf rf v5)), (rf 50, .inl (c_came, 16384, .inl v6))]) [0, 1] rfl
      have hDc := hD.sub (ws' := [(h0, .inr (8, px_mf rf v5)), (rf 50, .inl (c_came, 16384, .inl v6))]) [0, 1] (by decide) rfl
      have hKc := hK.sub (tys' := [(c_came, .byte)]) [0] rfl
      have hFc := va_free (wc := [(h0, .inr (8, px_mf rf v5)), (rf 50, .inl (c_came, 16384, .inl v6))]) hD hS hA [0, 1] rfl
      refine va_callv (va_runV (As := [.int x4]) (rest := []) ⟨hx, hb, hml, hown, htw⟩ (mtk_met l dC dI H.size h0 rf c_came x4 v5 v6 _ hw) (cwV 1 htw (px_gv px_w393 px_w386 px_w387 px_w94 px_g39) rfl rfl rfl (by decide +kernel) ⟨Nat.le_of_ble_eq_true rfl, Nat.le_of_ble_eq_true rfl⟩) ⟨fun a U g mk q => by obtain ⟨q0, q1, qP, qK, qD, qN⟩ := q; exact ⟨q0, q1, qP, va_K.moved (u := U) (U := U.calling g mk a) (Vm.Alike.refl U.vm) qK, qD, qN.same rfl⟩, va_recv hK hP (ci := 8) (q0 := 0) rfl rfl, fun U hU hW => ⟨rfl, by rw [hU], by rw [hU]; exact hPc, va_K.moved hW.alike hKc, hDc.weaken (fun _ _ _ _ => trivial), hN.warm hW⟩⟩ rfl rfl hl.1 rfl (lv_room (Nat.le_of_ble_eq_true rfl)) px_d40_47 ⟨(Nat.le_of_ble_eq_true rfl), (Nat.le_of_ble_eq_true rfl)⟩) hS (fun q _ h => hFc q h) hFc (fun u t H1 locs ht hvm hw hB hz1 hk1 hS => ?_)
      obtain ⟨v7, v8⟩ := u
      obtain ⟨hP1, hK1, hD1⟩ := hB
      rw [ht] at hP1
      have hK1 := va_K.moved hvm.symm hK1
      obtain ⟨hP, hD⟩ := va_join (wr := []) (w1 := [(h0, .inr (8, px_mf rf v7)), (rf 50, .inl (c_came, 16384, .inl v8))]) hP hD [0, 1] [] rfl rfl (by decide) (by decide) hk1 hFc hP1 hD1
      generalize H1 = H at hP hS ⊢
      have hP : va_P (dC, dI) vwCl [(h0, .inr (8, px_mf rf v7)), (rf 50, .inl (c_came, 16384, .inl v8))] H := hP
      have hD : va_D A [(h0, .inr (8, px_mf rf v7)), (rf 50, .inl (c_came, 16384, .inl v8))] := hD
      refine lv_aload_n hx hb px_d40_50 rfl (lv_at hl 0 rfl) ?_
      refine lv_iload hx hb px_d40_51 (lv_at hl 5 rfl) ?_
      have hPc := hP.sub (ws' := [(h0, .inr (8, px_mf rf v7)), (rf 50, .inl (c_came, 16384, .inl v8))]) [0, 1] rfl
      have hDc := hD.sub (ws' := [(h0, .inr (8, px_mf rf v7)), (rf 50, .inl (c_came, 16384, .inl v8))]) [0, 1] (by decide) rfl
      have hKc := hK.sub (tys' := [(c_came, .byte)]) [0] rfl
      have hFc := va_free (wc := [(h0, .inr (8, px_mf rf v7)), (rf 50, .inl (c_came, 16384, .inl v8))]) hD hS hA [0, 1] rfl
      refine va_callv (va_runV (As := [.int x5]) (rest := []) ⟨hx, hb, hml, hown, htw⟩ (mtk_met l dC dI H.size h0 rf c_came x5 v7 v8 _ hw) (cwV 1 htw (px_gv px_w393 px_w386 px_w387 px_w94 px_g39) rfl rfl rfl (by decide +kernel) ⟨Nat.le_of_ble_eq_true rfl, Nat.le_of_ble_eq_true rfl⟩) ⟨fun a U g mk q => by obtain ⟨q0, q1, qP, qK, qD, qN⟩ := q; exact ⟨q0, q1, qP, va_K.moved (u := U) (U := U.calling g mk a) (Vm.Alike.refl U.vm) qK, qD, qN.same rfl⟩, va_recv hK hP (ci := 8) (q0 := 0) rfl rfl, fun U hU hW => ⟨rfl, by rw [hU], by rw [hU]; exact hPc, va_K.moved hW.alike hKc, hDc.weaken (fun _ _ _ _ => trivial), hN.warm hW⟩⟩ rfl rfl hl.1 rfl (lv_room (Nat.le_of_ble_eq_true rfl)) px_d40_53 ⟨(Nat.le_of_ble_eq_true rfl), (Nat.le_of_ble_eq_true rfl)⟩) hS (fun q _ h => hFc q h) hFc (fun u t H1 locs ht hvm hw hB hz1 hk1 hS => ?_)
      obtain ⟨v9, v10⟩ := u
      obtain ⟨hP1, hK1, hD1⟩ := hB
      rw [ht] at hP1
      have hK1 := va_K.moved hvm.symm hK1
      obtain ⟨hP, hD⟩ := va_join (wr := []) (w1 := [(h0, .inr (8, px_mf rf v9)), (rf 50, .inl (c_came, 16384, .inl v10))]) hP hD [0, 1] [] rfl rfl (by decide) (by decide) hk1 hFc hP1 hD1
      generalize H1 = H at hP hS ⊢
      have hP : va_P (dC, dI) vwCl [(h0, .inr (8, px_mf rf v9)), (rf 50, .inl (c_came, 16384, .inl v10))] H := hP
      have hD : va_D A [(h0, .inr (8, px_mf rf v9)), (rf 50, .inl (c_came, 16384, .inl v10))] := hD
      exact S56 x1 x2 x3 x4 x5 v9 v10 H locs ls hP hD hS (lv_sub hl [0, 1, 2, 3, 4, 5] rfl) hw
  unfold mfe_wp at hw
  have hS0 := hS
  obtain ⟨H, hH9⟩ : ∃ z, z = s.heap := ⟨_, rfl⟩
  have hP : va_P (dC, dI) vwCl [(h0, .inr (8, px_mf rf iv)), (rf 50, .inl (c_came, 16384, .inl g_came))] H := by rw [hH9]; exact hP
  obtain ⟨locs, hlo9⟩ : ∃ z : List Loc, z = [] := ⟨_, rfl⟩
  have hS : va_S A s.heap H locs := by rw [hH9, hlo9]; exact hS
  suffices hG : W p l e (headSpec px_s40 ({ frames := 1, cells := 0, slots := 0, locals := 22 })).room s m ([.ref h0, .int a1x, .int a2x, .int a3x, .int a4x, .int a5x]).toArray below meth c H locs 0 0 Q (F0 m 0 ls []) by rw [hH9, hlo9] at hG; exact hG
  refine lv_aload_n hx hb px_d40_0 rfl (lv_at hl 0 rfl) ?_
  refine lv_aload_n hx hb px_d40_1 rfl (lv_at hl 0 rfl) ?_
  refine va_get (D := (dC, dI)) (ci := 8) (v := .int (iv 51)) (C := "MatroidDeskModel") (T := px_T8) (N := 53) hx hb htw px_in8 hown hK hP 0 rfl rfl 51 (by decide) (htw _ px_w389) (fun _ h9 => h9) rfl px_d40_2 ?_
  refine lv_bipush (v := 20) hx hb px_d40_5 (by decide) ?_
  refine lv_iadd hx hb px_d40_7 ?_
  refine lv_sipush (v := 16384) hx hb px_d40_8 (by decide) ?_
  refine lv_icmp_le (tgt := 18) hx hb px_d40_11 (by decide) (fun c11 => ?_) (fun c11 => ?_)
  · have hw := hw.1 c11
    refine lv_iconst (v := 0) hx hb px_d40_18 (by decide) ?_
    exact S19 a1x a2x a3x a4x a5x 0 iv g_came H locs ls hP hD hS (lv_sub hl [0, 1, 2, 3, 4, 5] rfl) hw
  · have hw := hw.2 c11
    refine lv_iconst (v := 1) hx hb px_d40_14 (by decide) ?_
    refine lv_goto (tgt := 19) hx hb px_d40_15 (by decide) ?_
    exact S19 a1x a2x a3x a4x a5x 1 iv g_came H locs ls hP hD hS (lv_sub hl [0, 1, 2, 3, 4, 5] rfl) hw

def mnx_L276 (post : (Nat → Int32) → (Nat → Int32) → Prop) (x1 : Int32) (x2 : Int32) (iv : Nat → Int32) (g_text : Nat → Int32) : Prop := post iv g_text
def mnx_L273 (post : (Nat → Int32) → (Nat → Int32) → Prop) (x1 : Int32) (x2 : Int32) (y0 : Int32) (iv : Nat → Int32) (g_text : Nat → Int32) : Prop := mnx_L276 post x1 x2 (va_up iv 38 y0) g_text
def mnx_L268 (post : (Nat → Int32) → (Nat → Int32) → Prop) (x1 : Int32) (x2 : Int32) (iv : Nat → Int32) (g_text : Nat → Int32) : Prop := mnx_L273 post x1 x2 x2 iv g_text
def mnx_L223 (post : (Nat → Int32) → (Nat → Int32) → Prop) (x1 : Int32) (x2 : Int32) (x3 : Int32) (x4 : Int32) (y0 : Int32) (iv : Nat → Int32) (g_text : Nat → Int32) : Prop := ∀ z1 : Int32, z1 = x3 + x4 → mnx_L276 post x1 x2 (va_up (va_up iv 38 y0) 40 z1) g_text
def mnx_L222 (post : (Nat → Int32) → (Nat → Int32) → Prop) (x1 : Int32) (x2 : Int32) (x3 : Int32) (x4 : Int32) (iv : Nat → Int32) (g_text : Nat → Int32) : Prop := mnx_L223 post x1 x2 x3 x4 3 iv g_text
def mnx_L186 (post : (Nat → Int32) → (Nat → Int32) → Prop) : Nat → Int32 → Int32 → Int32 → Int32 → (Nat → Int32) → (Nat → Int32) → Prop
  | 0 => fun _ _ _ _ _ _ => False
  | k + 1 => fun x1 x2 x3 x4 iv g_text => mlk_wp (fun r191 v2 v3 => mid_wp (fun r194  => (r194 = 0 → (x4 ≤ 0 → mnx_L222 post x1 x2 x3 x4 v2 v3) ∧ (¬ x4 ≤ 0 → (4 ≤ x4 → mnx_L222 post x1 x2 x3 x4 v2 v3) ∧ (¬ 4 ≤ x4 → mnx_L223 post x1 x2 x3 x4 2 v2 v3))) ∧ (¬ r194 = 0 → ∀ z4 : Int32, z4 = x4 + 1 → (mnx_L186 post k) x1 x2 x3 z4 v2 v3)) r191) (x3 + x4) iv g_text
def mnx_L182 (post : (Nat → Int32) → (Nat → Int32) → Prop) (x1 : Int32) (x2 : Int32) (y0 : Int32) (iv : Nat → Int32) (g_text : Nat → Int32) : Prop := ∃ j186, mnx_L186 post j186 x1 x2 y0 0 iv g_text
def mnx_L169 (post : (Nat → Int32) → (Nat → Int32) → Prop) (x1 : Int32) (x2 : Int32) (iv : Nat → Int32) (g_text : Nat → Int32) : Prop := (¬ x2 = 45 → mnx_L182 post x1 x2 x1 iv g_text) ∧ (x2 = 45 → mnx_L182 post x1 x2 (x1 + 1) iv g_text)
def mnx_L129 (post : (Nat → Int32) → (Nat → Int32) → Prop) : Nat → Int32 → Int32 → (Nat → Int32) → (Nat → Int32) → Prop
  | 0 => fun _ _ _ _ => False
  | k + 1 => fun x1 x2 iv g_text => mlk_wp (fun r134 v5 v6 => mil_wp (fun r137  => (r137 = 0 → mnx_L276 post x1 x2 v5 v6) ∧ (¬ r137 = 0 → ∀ z7 : Int32, z7 = (v5 40) + 1 → (mnx_L129 post k) x1 x2 (va_up v5 40 z7) v6)) r134) (iv 40) iv g_text
def mnx_L75 (K11 : Int32 → Int32 → (Nat → Int32) → (Nat → Int32) → Prop) (post : (Nat → Int32) → (Nat → Int32) → Prop) (x1 : Int32) (x2 : Int32) (iv : Nat → Int32) (g_text : Nat → Int32) : Prop := mlk_wp (fun r77 v8 v9 => K11 x1 r77 v8 v9) x1 iv g_text
def mnx_L47 (K11 : Int32 → Int32 → (Nat → Int32) → (Nat → Int32) → Prop) (post : (Nat → Int32) → (Nat → Int32) → Prop) : Nat → Int32 → Int32 → (Nat → Int32) → (Nat → Int32) → Prop
  | 0 => fun _ _ _ _ => False
  | k + 1 => fun x1 x2 iv g_text => ((iv 37) ≤ x1 → mnx_L75 K11 post x1 x2 iv g_text) ∧ (¬ (iv 37) ≤ x1 → vp_in x1 16384 ∧ (((g_text (Int32.toNatClampNeg x1)) = 10 → mnx_L75 K11 post x1 x2 iv g_text) ∧ (¬ (g_text (Int32.toNatClampNeg x1)) = 10 → ∀ z10 : Int32, z10 = x1 + 1 → (mnx_L47 K11 post k) z10 x2 iv g_text)))
def mnx_L41 (K11 : Int32 → Int32 → (Nat → Int32) → (Nat → Int32) → Prop) (post : (Nat → Int32) → (Nat → Int32) → Prop) (x1 : Int32) (x2 : Int32) (iv : Nat → Int32) (g_text : Nat → Int32) : Prop := (¬ x2 = 35 → ∀ z11 : Int32, z11 = x1 + 1 → mnx_L75 K11 post z11 x2 iv g_text) ∧ (x2 = 35 → ∃ j47, mnx_L47 K11 post j47 x1 x2 iv g_text)
def mnx_L11 (post : (Nat → Int32) → (Nat → Int32) → Prop) : Nat → Int32 → Int32 → (Nat → Int32) → (Nat → Int32) → Prop
  | 0 => fun _ _ _ _ => False
  | k + 1 => fun x1 x2 iv g_text => (x2 = 32 → mnx_L41 (mnx_L11 post k) post x1 x2 iv g_text) ∧ (¬ x2 = 32 → (x2 = 10 → mnx_L41 (mnx_L11 post k) post x1 x2 iv g_text) ∧ (¬ x2 = 10 → (x2 = 13 → mnx_L41 (mnx_L11 post k) post x1 x2 iv g_text) ∧ (¬ x2 = 13 → (x2 = 9 → mnx_L41 (mnx_L11 post k) post x1 x2 iv g_text) ∧ (¬ x2 = 9 → (¬ x2 = 35 → ∀ z12 : Int32, z12 = x1 + 1 → (x1 < (iv 37) → mil_wp (fun r118  => (r118 = 0 → (x2 = 45 → mnx_L169 post x1 x2 (va_up (va_up iv 39 x1) 40 z12) g_text) ∧ (¬ x2 = 45 → mid_wp (fun r163  => (r163 = 0 → (x2 = 123 → mnx_L268 post x1 x2 (va_up (va_up iv 39 x1) 40 z12) g_text) ∧ (¬ x2 = 123 → (x2 = 125 → mnx_L268 post x1 x2 (va_up (va_up iv 39 x1) 40 z12) g_text) ∧ (¬ x2 = 125 → (x2 = 44 → mnx_L268 post x1 x2 (va_up (va_up iv 39 x1) 40 z12) g_text) ∧ (¬ x2 = 44 → (x2 = 61 → mnx_L268 post x1 x2 (va_up (va_up iv 39 x1) 40 z12) g_text) ∧ (¬ x2 = 61 → (¬ x2 = 59 → mnx_L273 post x1 x2 3 (va_up (va_up iv 39 x1) 40 z12) g_text) ∧ (x2 = 59 → mnx_L268 post x1 x2 (va_up (va_up iv 39 x1) 40 z12) g_text)))))) ∧ (¬ r163 = 0 → mnx_L169 post x1 x2 (va_up (va_up iv 39 x1) 40 z12) g_text)) x2)) ∧ (¬ r118 = 0 → ∃ j129, mnx_L129 post j129 x1 x2 (va_up (va_up (va_up iv 39 x1) 40 z12) 38 1) g_text)) x2) ∧ (¬ x1 < (iv 37) → mnx_L276 post x1 x2 (va_up (va_up (va_up (va_up iv 39 x1) 40 z12) 38 0) 40 x1) g_text)) ∧ (x2 = 35 → mnx_L41 (mnx_L11 post k) post x1 x2 iv g_text)))))
def mnx_wp (post : (Nat → Int32) → (Nat → Int32) → Prop) (iv : Nat → Int32) (g_text : Nat → Int32) : Prop := ∀ z13 : Int32, z13 = iv 40 → mlk_wp (fun r7 v14 v15 => ∃ j11, mnx_L11 post j11 z13 r7 v14 v15) z13 iv g_text
set_option maxHeartbeats 8000000 in
set_option maxRecDepth 100000 in
theorem mnx_met (l : Launch) (dC : Nat → ClassId) (dI : Nat → Nat → Nat) (sz : Nat) (h0 : Nat) (rf : Nat → Nat) (c_text : ClassId) (iv : Nat → Int32) (g_text : Nat → Int32) (post : (Nat → Int32) → (Nat → Int32) → Prop) (hw : mnx_wp post iv g_text) : Met l px_y25 px_s25 ({ frames := 1, cells := 0, slots := 0, locals := 21 }) (va_Pc [.ref h0] (fun U => U.heap.size = sz ∧ va_P (dC, dI) vwCl [(h0, .inr (8, px_mf rf iv)), (rf 36, .inl (c_text, 16384, .inl g_text))] U.heap ∧ va_K (dC, dI) vwCl [(c_text, .byte)] U ∧ va_D (fun _ => True) [(h0, .inr (8, px_mf rf iv)), (rf 36, .inl (c_text, 16384, .inl g_text))] ∧ px_N U)) (va_Qv (fun (u : (Nat → Int32) × (Nat → Int32)) => post u.1 u.2) (fun (u : (Nat → Int32) × (Nat → Int32)) (t : State) => va_P (dC, dI) vwCl [(h0, .inr (8, px_mf rf u.1)), (rf 36, .inl (c_text, 16384, .inl u.2))] t.heap ∧ va_K (dC, dI) vwCl [(c_text, .byte)] t ∧ va_D (va_A [(h0, .inr (8, px_mf rf iv)), (rf 36, .inl (c_text, 16384, .inl g_text))] sz) [(h0, .inr (8, px_mf rf u.1)), (rf 36, .inl (c_text, 16384, .inl u.2))]) (va_A [(h0, .inr (8, px_mf rf iv)), (rf 36, .inl (c_text, 16384, .inl g_text))] sz)) 0 0 (va_A [(h0, .inr (8, px_mf rf iv)), (rf 36, .inl (c_text, 16384, .inl g_text))] sz) := by
  refine Met.ofW (cc := prog_15_method_53_code) (maxL := 5) (ret := none) (by decide) rfl ?_
  intro p e s m args below meth c s₁ B hml hv
  obtain ⟨rfl, hsz, hP, hK, hD0, hN⟩ := hv
  have hx := B.exec
  have hb := B.bytes
  have hr := B.returns
  have htw : ∀ w ∈ px_all, w.before _ s = true := fun w h => atoms_spec (ws := px_s25) B.pre w (List.mem_cons_of_mem _ h)
  have hown : s.vm.findClass "MatroidDeskModel" = some m.cls := findClass_of_methodNamed B.named
  have hlocks := B.notSynchronized
  subst hsz
  have hD := hD0.self (sz := s.heap.size)
  generalize hAe : va_A [(h0, .inr (8, px_mf rf iv)), (rf 36, .inl (c_text, 16384, .inl g_text))] s.heap.size = A at hD ⊢
  have hA : ∀ q : Nat, s.heap.size ≤ q → A q := fun q h => by rw [← hAe]; exact Or.inr h
  have hS : va_S A s.heap s.heap [] := va_S.rf
  have hP : va_P (dC, dI) vwCl [(h0, .inr (8, px_mf rf iv)), (rf 36, .inl (c_text, 16384, .inl g_text))] s.heap := hP
  have hl := lv_entry ([.ref h0]) (n := 5) (Nat.le_of_ble_eq_true rfl)
  rw [lg_entry_eq]
  generalize (lg_sl ([.ref h0]) ++ List.replicate (5 - (lg_sl ([.ref h0])).length) Slot.unset).toArray = ls at hl ⊢
  have hl : lv_has ls 5 [(0, .ref h0)] := hl
  generalize hQ : MQ _ _ _ _ _ _ _ = Q
  have S276 : ∀ (x1 : Int32) (x2 : Int32) (iv : Nat → Int32) (g_text : Nat → Int32) (H : Heap) (locs : List Loc) (ls : Array Slot), va_P (dC, dI) vwCl [(h0, .inr (8, px_mf rf iv)), (rf 36, .inl (c_text, 16384, .inl g_text))] H → va_D A [(h0, .inr (8, px_mf rf iv)), (rf 36, .inl (c_text, 16384, .inl g_text))] → va_S A s.heap H locs → lv_has ls 5 [(0, .ref h0), (1, .int x1), (2, .int x2)] → mnx_L276 post x1 x2 iv g_text → W p l e (headSpec px_s25 ({ frames := 1, cells := 0, slots := 0, locals := 21 })).room s m ([.ref h0]).toArray below meth c H locs 0 0 Q (F0 m 276 ls []) := by
    intro x1 x2 iv g_text H locs ls hP hD hS hl hw
    unfold mnx_L276 at hw
    rw [← hQ]
    exact W.vret hx hb hr (fun t ht hW => ⟨⟨(iv, g_text), rfl, hw, by rw [ht]; exact hP, va_K.moved hW.alike hK, hD⟩, hS.F ht⟩) hS.2.2 px_d25_276
  have S273 : ∀ (x1 : Int32) (x2 : Int32) (y0 : Int32) (iv : Nat → Int32) (g_text : Nat → Int32) (H : Heap) (locs : List Loc) (ls : Array Slot), va_P (dC, dI) vwCl [(h0, .inr (8, px_mf rf iv)), (rf 36, .inl (c_text, 16384, .inl g_text))] H → va_D A [(h0, .inr (8, px_mf rf iv)), (rf 36, .inl (c_text, 16384, .inl g_text))] → va_S A s.heap H locs → lv_has ls 5 [(0, .ref h0), (1, .int x1), (2, .int x2)] → mnx_L273 post x1 x2 y0 iv g_text → W p l e (headSpec px_s25 ({ frames := 1, cells := 0, slots := 0, locals := 21 })).room s m ([.ref h0]).toArray below meth c H locs 0 0 Q (F0 m 273 ls [.int y0, .ref h0]) := by
    intro x1 x2 y0 iv g_text H locs ls hP hD hS hl hw
    unfold mnx_L273 at hw
    refine va_put (D := (dC, dI)) (ci := 8) (v := .int y0) (ty := .int) (C := "MatroidDeskModel") (T := px_T8) (N := 53) hx hb htw px_in8 px_ty8 px_tyok8 px_nm8 hown hK hP hD hS 0 rfl rfl 38 (by decide) (htw _ px_w331) (fun _ h9 => h9) rfl (by decide +kernel) rfl rfl (Nat.le_of_ble_eq_true rfl) px_d25_273 (fun H locs hP hD hS => ?_)
    rw [px_ms38] at hP hD
    have hP : va_P (dC, dI) vwCl [(h0, .inr (8, px_mf rf (va_up iv 38 y0))), (rf 36, .inl (c_text, 16384, .inl g_text))] H := hP
    have hD : va_D A [(h0, .inr (8, px_mf rf (va_up iv 38 y0))), (rf 36, .inl (c_text, 16384, .inl g_text))] := hD
    exact S276 x1 x2 (va_up iv 38 y0) g_text H locs ls hP hD hS (lv_sub hl [0, 1, 2] rfl) hw
  have S268 : ∀ (x1 : Int32) (x2 : Int32) (iv : Nat → Int32) (g_text : Nat → Int32) (H : Heap) (locs : List Loc) (ls : Array Slot), va_P (dC, dI) vwCl [(h0, .inr (8, px_mf rf iv)), (rf 36, .inl (c_text, 16384, .inl g_text))] H → va_D A [(h0, .inr (8, px_mf rf iv)), (rf 36, .inl (c_text, 16384, .inl g_text))] → va_S A s.heap H locs → lv_has ls 5 [(0, .ref h0), (1, .int x1), (2, .int x2)] → mnx_L268 post x1 x2 iv g_text → W p l e (headSpec px_s25 ({ frames := 1, cells := 0, slots := 0, locals := 21 })).room s m ([.ref h0]).toArray below meth c H locs 0 0 Q (F0 m 268 ls [.ref h0]) := by
    intro x1 x2 iv g_text H locs ls hP hD hS hl hw
    unfold mnx_L268 at hw
    refine lv_iload_n hx hb px_d25_268 rfl (lv_at hl 2 rfl) ?_
    refine lv_goto (tgt := 273) hx hb px_d25_269 (by decide) ?_
    exact S273 x1 x2 x2 iv g_text H locs ls hP hD hS (lv_sub hl [0, 1, 2] rfl) hw
  have S223 : ∀ (x1 : Int32) (x2 : Int32) (x3 : Int32) (x4 : Int32) (y0 : Int32) (iv : Nat → Int32) (g_text : Nat → Int32) (H : Heap) (locs : List Loc) (ls : Array Slot), va_P (dC, dI) vwCl [(h0, .inr (8, px_mf rf iv)), (rf 36, .inl (c_text, 16384, .inl g_text))] H → va_D A [(h0, .inr (8, px_mf rf iv)), (rf 36, .inl (c_text, 16384, .inl g_text))] → va_S A s.heap H locs → lv_has ls 5 [(0, .ref h0), (1, .int x1), (2, .int x2), (3, .int x3), (4, .int x4)] → mnx_L223 post x1 x2 x3 x4 y0 iv g_text → W p l e (headSpec px_s25 ({ frames := 1, cells := 0, slots := 0, locals := 21 })).room s m ([.ref h0]).toArray below meth c H locs 0 0 Q (F0 m 223 ls [.int y0, .ref h0]) := by
    intro x1 x2 x3 x4 y0 iv g_text H locs ls hP hD hS hl hw
    unfold mnx_L223 at hw
    refine va_put (D := (dC, dI)) (ci := 8) (v := .int y0) (ty := .int) (C := "MatroidDeskModel") (T := px_T8) (N := 53) hx hb htw px_in8 px_ty8 px_tyok8 px_nm8 hown hK hP hD hS 0 rfl rfl 38 (by decide) (htw _ px_w331) (fun _ h9 => h9) rfl (by decide +kernel) rfl rfl (Nat.le_of_ble_eq_true rfl) px_d25_223 (fun H locs hP hD hS => ?_)
    rw [px_ms38] at hP hD
    have hP : va_P (dC, dI) vwCl [(h0, .inr (8, px_mf rf (va_up iv 38 y0))), (rf 36, .inl (c_text, 16384, .inl g_text))] H := hP
    have hD : va_D A [(h0, .inr (8, px_mf rf (va_up iv 38 y0))), (rf 36, .inl (c_text, 16384, .inl g_text))] := hD
    refine lv_aload_n hx hb px_d25_226 rfl (lv_at hl 0 rfl) ?_
    refine lv_iload_n hx hb px_d25_227 rfl (lv_at hl 3 rfl) ?_
    refine lv_iload hx hb px_d25_228 (lv_at hl 4 rfl) ?_
    refine lv_iadd hx hb px_d25_230 ?_
    refine lv_topi (fun z1 ez1 => ?_)
    have hw := hw z1 ez1
    refine va_put (D := (dC, dI)) (ci := 8) (v := .int z1) (ty := .int) (C := "MatroidDeskModel") (T := px_T8) (N := 53) hx hb htw px_in8 px_ty8 px_tyok8 px_nm8 hown hK hP hD hS 0 rfl rfl 40 (by decide) (htw _ px_w328) (fun _ h9 => h9) rfl (by decide +kernel) rfl rfl (Nat.le_of_ble_eq_true rfl) px_d25_231 (fun H locs hP hD hS => ?_)
    rw [px_ms40] at hP hD
    have hP : va_P (dC, dI) vwCl [(h0, .inr (8, px_mf rf (va_up (va_up iv 38 y0) 40 z1))), (rf 36, .inl (c_text, 16384, .inl g_text))] H := hP
    have hD : va_D A [(h0, .inr (8, px_mf rf (va_up (va_up iv 38 y0) 40 z1))), (rf 36, .inl (c_text, 16384, .inl g_text))] := hD
    refine lv_goto (tgt := 276) hx hb px_d25_234 (by decide) ?_
    exact S276 x1 x2 (va_up (va_up iv 38 y0) 40 z1) g_text H locs ls hP hD hS (lv_sub hl [0, 1, 2] rfl) hw
  have S222 : ∀ (x1 : Int32) (x2 : Int32) (x3 : Int32) (x4 : Int32) (iv : Nat → Int32) (g_text : Nat → Int32) (H : Heap) (locs : List Loc) (ls : Array Slot), va_P (dC, dI) vwCl [(h0, .inr (8, px_mf rf iv)), (rf 36, .inl (c_text, 16384, .inl g_text))] H → va_D A [(h0, .inr (8, px_mf rf iv)), (rf 36, .inl (c_text, 16384, .inl g_text))] → va_S A s.heap H locs → lv_has ls 5 [(0, .ref h0), (1, .int x1), (2, .int x2), (3, .int x3), (4, .int x4)] → mnx_L222 post x1 x2 x3 x4 iv g_text → W p l e (headSpec px_s25 ({ frames := 1, cells := 0, slots := 0, locals := 21 })).room s m ([.ref h0]).toArray below meth c H locs 0 0 Q (F0 m 222 ls [.ref h0]) := by
    intro x1 x2 x3 x4 iv g_text H locs ls hP hD hS hl hw
    unfold mnx_L222 at hw
    refine lv_iconst (v := 3) hx hb px_d25_222 (by decide) ?_
    exact S223 x1 x2 x3 x4 3 iv g_text H locs ls hP hD hS (lv_sub hl [0, 1, 2, 3, 4] rfl) hw
  have S186 : ∀ (k186 : Nat) (x1 : Int32) (x2 : Int32) (x3 : Int32) (x4 : Int32) (iv : Nat → Int32) (g_text : Nat → Int32) (H : Heap) (locs : List Loc) (ls : Array Slot), va_P (dC, dI) vwCl [(h0, .inr (8, px_mf rf iv)), (rf 36, .inl (c_text, 16384, .inl g_text))] H → va_D A [(h0, .inr (8, px_mf rf iv)), (rf 36, .inl (c_text, 16384, .inl g_text))] → va_S A s.heap H locs → lv_has ls 5 [(0, .ref h0), (1, .int x1), (2, .int x2), (3, .int x3), (4, .int x4)] → mnx_L186 post k186 x1 x2 x3 x4 iv g_text → W p l e (headSpec px_s25 ({ frames := 1, cells := 0, slots := 0, locals := 21 })).room s m ([.ref h0]).toArray below meth c H locs 0 0 Q (F0 m 186 ls []) := by
    intro k186
    induction k186 with
    | zero => intro x1 x2 x3 x4 iv g_text H locs ls hP hD hS hl hw; exact False.elim hw
    | succ k186 ih186 =>
      intro x1 x2 x3 x4 iv g_text H locs ls hP hD hS hl hw
      unfold mnx_L186 at hw
      refine lv_aload_n hx hb px_d25_186 rfl (lv_at hl 0 rfl) ?_
      refine lv_iload_n hx hb px_d25_187 rfl (lv_at hl 3 rfl) ?_
      refine lv_iload hx hb px_d25_188 (lv_at hl 4 rfl) ?_
      refine lv_iadd hx hb px_d25_190 ?_
      have hPc := hP.sub (ws' := [(h0, .inr (8, px_mf rf iv)), (rf 36, .inl (c_text, 16384, .inl g_text))]) [0, 1] rfl
      have hDc := hD.sub (ws' := [(h0, .inr (8, px_mf rf iv)), (rf 36, .inl (c_text, 16384, .inl g_text))]) [0, 1] (by decide) rfl
      have hKc := hK.sub (tys' := [(c_text, .byte)]) [0] rfl
      have hFc := va_free (wc := [(h0, .inr (8, px_mf rf iv)), (rf 36, .inl (c_text, 16384, .inl g_text))]) hD hS hA [0, 1] rfl
      refine va_calli (va_runV (As := [.int (x3 + x4)]) (rest := []) ⟨hx, hb, hml, hown, htw⟩ (mlk_met l dC dI H.size h0 rf c_text (x3 + x4) iv g_text _ hw) (cwV 1 htw (px_gv px_w329 px_w317 px_w318 px_w94 px_g22) rfl rfl rfl (by decide +kernel) ⟨Nat.le_of_ble_eq_true rfl, Nat.le_of_ble_eq_true rfl⟩) ⟨fun a U g mk q => by obtain ⟨q0, q1, qP, qK, qD, qN⟩ := q; exact ⟨q0, q1, qP, va_K.moved (u := U) (U := U.calling g mk a) (Vm.Alike.refl U.vm) qK, qD, qN.same rfl⟩, va_recv hK hP (ci := 8) (q0 := 0) rfl rfl, fun U hU hW => ⟨rfl, by rw [hU], by rw [hU]; exact hPc, va_K.moved hW.alike hKc, hDc.weaken (fun _ _ _ _ => trivial), hN.warm hW⟩⟩ rfl rfl hl.1 rfl (lv_room (Nat.le_of_ble_eq_true rfl)) px_d25_191 ⟨(Nat.le_of_ble_eq_true rfl), (Nat.le_of_ble_eq_true rfl)⟩) hS (fun q _ h => hFc q h) hFc (fun r191 u t H1 locs ht hvm hw hB hz1 hk1 hS => ?_)
      obtain ⟨v2, v3⟩ := u
      obtain ⟨hP1, hK1, hD1⟩ := hB
      rw [ht] at hP1
      have hK1 := va_K.moved hvm.symm hK1
      obtain ⟨hP, hD⟩ := va_join (wr := []) (w1 := [(h0, .inr (8, px_mf rf v2)), (rf 36, .inl (c_text, 16384, .inl v3))]) hP hD [0, 1] [] rfl rfl (by decide) (by decide) hk1 hFc hP1 hD1
      generalize H1 = H at hP hS ⊢
      have hP : va_P (dC, dI) vwCl [(h0, .inr (8, px_mf rf v2)), (rf 36, .inl (c_text, 16384, .inl v3))] H := hP
      have hD : va_D A [(h0, .inr (8, px_mf rf v2)), (rf 36, .inl (c_text, 16384, .inl v3))] := hD
      have hPc := hP.sub (ws' := []) [] rfl
      have hDc := hD.sub (ws' := []) [] (by decide) rfl
      have hKc := hK.sub (tys' := []) [] rfl
      have hFc := va_free (wc := []) hD hS hA [] rfl
      refine va_calli (va_runS (As := [.int r191]) (rest := []) ⟨hx, hb, hml, hown, htw⟩ (mid_met l dC dI H.size r191 _ hw) (cwS 1 htw (px_gs px_w333 px_w324 px_w94 px_g24) rfl rfl rfl (by decide +kernel) ⟨Nat.le_of_ble_eq_true rfl, Nat.le_of_ble_eq_true rfl⟩) ⟨fun a U g mk q => by obtain ⟨q0, q1, qP, qK, qD, qN⟩ := q; exact ⟨q0, q1, qP, va_K.moved (u := U) (U := U.calling g mk a) (Vm.Alike.refl U.vm) qK, qD, qN.same rfl⟩, fun U hU hW => ⟨rfl, by rw [hU], by rw [hU]; exact hPc, va_K.moved hW.alike hKc, hDc.weaken (fun _ _ _ _ => trivial), hN.warm hW⟩⟩ rfl rfl hl.1 rfl (lv_room (Nat.le_of_ble_eq_true rfl)) px_d25_194 ⟨(Nat.le_of_ble_eq_true rfl), (Nat.le_of_ble_eq_true rfl)⟩) hS (fun q _ h => hFc q h) hFc (fun r194 u t H1 locs ht hvm hw hB hz1 hk1 hS => ?_)
      obtain ⟨hP1, hK1, hD1⟩ := hB
      rw [ht] at hP1
      have hK1 := va_K.moved hvm.symm hK1
      obtain ⟨hP, hD⟩ := va_join (wr := [(h0, .inr (8, px_mf rf v2)), (rf 36, .inl (c_text, 16384, .inl v3))]) (w1 := []) hP hD [] [0, 1] rfl rfl (by decide) (by decide) hk1 hFc hP1 hD1
      generalize H1 = H at hP hS ⊢
      have hP : va_P (dC, dI) vwCl [(h0, .inr (8, px_mf rf v2)), (rf 36, .inl (c_text, 16384, .inl v3))] H := hP
      have hD : va_D A [(h0, .inr (8, px_mf rf v2)), (rf 36, .inl (c_text, 16384, .inl v3))] := hD
      refine lv_if_eq (tgt := 206) hx hb px_d25_197 (by decide) (fun c197 => ?_) (fun c197 => ?_)
      · have hw := hw.1 c197
        refine lv_aload_n hx hb px_d25_206 rfl (lv_at hl 0 rfl) ?_
        refine lv_iload hx hb px_d25_207 (lv_at hl 4 rfl) ?_
        refine lv_if_le (tgt := 222) hx hb px_d25_209 (by decide) (fun c209 => ?_) (fun c209 => ?_)
        · have hw := hw.1 c209
          exact S222 x1 x2 x3 x4 v2 v3 H locs ls hP hD hS (lv_sub hl [0, 1, 2, 3, 4] rfl) hw
        · have hw := hw.2 c209
          refine lv_iload hx hb px_d25_212 (lv_at hl 4 rfl) ?_
          refine lv_iconst (v := 4) hx hb px_d25_214 (by decide) ?_
          refine lv_icmp_ge (tgt := 222) hx hb px_d25_215 (by decide) (fun c215 => ?_) (fun c215 => ?_)
          · have hw := hw.1 c215
            exact S222 x1 x2 x3 x4 v2 v3 H locs ls hP hD hS (lv_sub hl [0, 1, 2, 3, 4] rfl) hw
          · have hw := hw.2 c215
            refine lv_iconst (v := 2) hx hb px_d25_218 (by decide) ?_
            refine lv_goto (tgt := 223) hx hb px_d25_219 (by decide) ?_
            exact S223 x1 x2 x3 x4 2 v2 v3 H locs ls hP hD hS (lv_sub hl [0, 1, 2, 3, 4] rfl) hw
      · have hw := hw.2 c197
        obtain ⟨z4, ez4⟩ : ∃ y : Int32, y = x4 + 1 := ⟨_, rfl⟩
        have hw := hw z4 ez4
        refine lv_iinc (v := z4) (lv' := [(4, .int z4), (0, .ref h0), (1, .int x1), (2, .int x2), (3, .int x3)]) hx hb px_d25_200 hl (k := 4) rfl (by rw [ez4]; rfl) (by decide) rfl (fun ls hl => ?_)
        refine lv_goto (tgt := 186) hx hb px_d25_203 (by decide) ?_
        exact ih186 x1 x2 x3 z4 v2 v3 H locs ls hP hD hS (lv_sub hl [1, 2, 3, 4, 0] rfl) hw
  have S182 : ∀ (x1 : Int32) (x2 : Int32) (y0 : Int32) (iv : Nat → Int32) (g_text : Nat → Int32) (H : Heap) (locs : List Loc) (ls : Array Slot), va_P (dC, dI) vwCl [(h0, .inr (8, px_mf rf iv)), (rf 36, .inl (c_text, 16384, .inl g_text))] H → va_D A [(h0, .inr (8, px_mf rf iv)), (rf 36, .inl (c_text, 16384, .inl g_text))] → va_S A s.heap H locs → lv_has ls 5 [(0, .ref h0), (1, .int x1), (2, .int x2)] → mnx_L182 post x1 x2 y0 iv g_text → W p l e (headSpec px_s25 ({ frames := 1, cells := 0, slots := 0, locals := 21 })).room s m ([.ref h0]).toArray below meth c H locs 0 0 Q (F0 m 182 ls [.int y0]) := by
    intro x1 x2 y0 iv g_text H locs ls hP hD hS hl hw
    unfold mnx_L182 at hw
    refine lv_istore_n (lv' := [(3, .int y0), (0, .ref h0), (1, .int x1), (2, .int x2)]) hx hb px_d25_182 rfl hl (by decide) rfl (fun ls hl => ?_)
    refine lv_iconst (v := 0) hx hb px_d25_183 (by decide) ?_
    refine lv_istore (lv' := [(4, .int 0), (3, .int y0), (0, .ref h0), (1, .int x1), (2, .int x2)]) hx hb px_d25_184 hl (by decide) rfl (fun ls hl => ?_)
    obtain ⟨k9, hw⟩ := hw
    exact S186 k9 x1 x2 y0 0 iv g_text H locs ls hP hD hS (lv_sub hl [2, 3, 4, 1, 0] rfl) hw
  have S169 : ∀ (x1 : Int32) (x2 : Int32) (iv : Nat → Int32) (g_text : Nat → Int32) (H : Heap) (locs : List Loc) (ls : Array Slot), va_P (dC, dI) vwCl [(h0, .inr (8, px_mf rf iv)), (rf 36, .inl (c_text, 16384, .inl g_text))] H → va_D A [(h0, .inr (8, px_mf rf iv)), (rf 36, .inl (c_text, 16384, .inl g_text))] → va_S A s.heap H locs → lv_has ls 5 [(0, .ref h0), (1, .int x1), (2, .int x2)] → mnx_L169 post x1 x2 iv g_text → W p l e (headSpec px_s25 ({ frames := 1, cells := 0, slots := 0, locals := 21 })).room s m ([.ref h0]).toArray below meth c H locs 0 0 Q (F0 m 169 ls []) := by
    intro x1 x2 iv g_text H locs ls hP hD hS hl hw
    unfold mnx_L169 at hw
    refine lv_iload_n hx hb px_d25_169 rfl (lv_at hl 2 rfl) ?_
    refine lv_bipush (v := 45) hx hb px_d25_170 (by decide) ?_
    refine lv_icmp_ne (tgt := 181) hx hb px_d25_172 (by decide) (fun c172 => ?_) (fun c172 => ?_)
    · have hw := hw.1 c172
      refine lv_iload_n hx hb px_d25_181 rfl (lv_at hl 1 rfl) ?_
      exact S182 x1 x2 x1 iv g_text H locs ls hP hD hS (lv_sub hl [0, 1, 2] rfl) hw
    · have hw := hw.2 c172
      refine lv_iload_n hx hb px_d25_175 rfl (lv_at hl 1 rfl) ?_
      refine lv_iconst (v := 1) hx hb px_d25_176 (by decide) ?_
      refine lv_iadd hx hb px_d25_177 ?_
      refine lv_goto (tgt := 182) hx hb px_d25_178 (by decide) ?_
      exact S182 x1 x2 (x1 + 1) iv g_text H locs ls hP hD hS (lv_sub hl [0, 1, 2] rfl) hw
  have S129 : ∀ (k129 : Nat) (x1 : Int32) (x2 : Int32) (iv : Nat → Int32) (g_text : Nat → Int32) (H : Heap) (locs : List Loc) (ls : Array Slot), va_P (dC, dI) vwCl [(h0, .inr (8, px_mf rf iv)), (rf 36, .inl (c_text, 16384, .inl g_text))] H → va_D A [(h0, .inr (8, px_mf rf iv)), (rf 36, .inl (c_text, 16384, .inl g_text))] → va_S A s.heap H locs → lv_has ls 5 [(0, .ref h0), (1, .int x1), (2, .int x2)] → mnx_L129 post k129 x1 x2 iv g_text → W p l e (headSpec px_s25 ({ frames := 1, cells := 0, slots := 0, locals := 21 })).room s m ([.ref h0]).toArray below meth c H locs 0 0 Q (F0 m 129 ls []) := by
    intro k129
    induction k129 with
    | zero => intro x1 x2 iv g_text H locs ls hP hD hS hl hw; exact False.elim hw
    | succ k129 ih129 =>
      intro x1 x2 iv g_text H locs ls hP hD hS hl hw
      unfold mnx_L129 at hw
      refine lv_aload_n hx hb px_d25_129 rfl (lv_at hl 0 rfl) ?_
      refine lv_aload_n hx hb px_d25_130 rfl (lv_at hl 0 rfl) ?_
      refine va_get (D := (dC, dI)) (ci := 8) (v := .int (iv 40)) (C := "MatroidDeskModel") (T := px_T8) (N := 53) hx hb htw px_in8 hown hK hP 0 rfl rfl 40 (by decide) (htw _ px_w328) (fun _ h9 => h9) rfl px_d25_131 ?_
      have hPc := hP.sub (ws' := [(h0, .inr (8, px_mf rf iv)), (rf 36, .inl (c_text, 16384, .inl g_text))]) [0, 1] rfl
      have hDc := hD.sub (ws' := [(h0, .inr (8, px_mf rf iv)), (rf 36, .inl (c_text, 16384, .inl g_text))]) [0, 1] (by decide) rfl
      have hKc := hK.sub (tys' := [(c_text, .byte)]) [0] rfl
      have hFc := va_free (wc := [(h0, .inr (8, px_mf rf iv)), (rf 36, .inl (c_text, 16384, .inl g_text))]) hD hS hA [0, 1] rfl
      refine va_calli (va_runV (As := [.int (iv 40)]) (rest := []) ⟨hx, hb, hml, hown, htw⟩ (mlk_met l dC dI H.size h0 rf c_text (iv 40) iv g_text _ hw) (cwV 1 htw (px_gv px_w329 px_w317 px_w318 px_w94 px_g22) rfl rfl rfl (by decide +kernel) ⟨Nat.le_of_ble_eq_true rfl, Nat.le_of_ble_eq_true rfl⟩) ⟨fun a U g mk q => by obtain ⟨q0, q1, qP, qK, qD, qN⟩ := q; exact ⟨q0, q1, qP, va_K.moved (u := U) (U := U.calling g mk a) (Vm.Alike.refl U.vm) qK, qD, qN.same rfl⟩, va_recv hK hP (ci := 8) (q0 := 0) rfl rfl, fun U hU hW => ⟨rfl, by rw [hU], by rw [hU]; exact hPc, va_K.moved hW.alike hKc, hDc.weaken (fun _ _ _ _ => trivial), hN.warm hW⟩⟩ rfl rfl hl.1 rfl (lv_room (Nat.le_of_ble_eq_true rfl)) px_d25_134 ⟨(Nat.le_of_ble_eq_true rfl), (Nat.le_of_ble_eq_true rfl)⟩) hS (fun q _ h => hFc q h) hFc (fun r134 u t H1 locs ht hvm hw hB hz1 hk1 hS => ?_)
      obtain ⟨v5, v6⟩ := u
      obtain ⟨hP1, hK1, hD1⟩ := hB
      rw [ht] at hP1
      have hK1 := va_K.moved hvm.symm hK1
      obtain ⟨hP, hD⟩ := va_join (wr := []) (w1 := [(h0, .inr (8, px_mf rf v5)), (rf 36, .inl (c_text, 16384, .inl v6))]) hP hD [0, 1] [] rfl rfl (by decide) (by decide) hk1 hFc hP1 hD1
      generalize H1 = H at hP hS ⊢
      have hP : va_P (dC, dI) vwCl [(h0, .inr (8, px_mf rf v5)), (rf 36, .inl (c_text, 16384, .inl v6))] H := hP
      have hD : va_D A [(h0, .inr (8, px_mf rf v5)), (rf 36, .inl (c_text, 16384, .inl v6))] := hD
      have hPc := hP.sub (ws' := []) [] rfl
      have hDc := hD.sub (ws' := []) [] (by decide) rfl
      have hKc := hK.sub (tys' := []) [] rfl
      have hFc := va_free (wc := []) hD hS hA [] rfl
      refine va_calli (va_runS (As := [.int r134]) (rest := []) ⟨hx, hb, hml, hown, htw⟩ (mil_met l dC dI H.size r134 _ hw) (cwS 1 htw (px_gs px_w332 px_w322 px_w94 px_g23) rfl rfl rfl (by decide +kernel) ⟨Nat.le_of_ble_eq_true rfl, Nat.le_of_ble_eq_true rfl⟩) ⟨fun a U g mk q => by obtain ⟨q0, q1, qP, qK, qD, qN⟩ := q; exact ⟨q0, q1, qP, va_K.moved (u := U) (U := U.calling g mk a) (Vm.Alike.refl U.vm) qK, qD, qN.same rfl⟩, fun U hU hW => ⟨rfl, by rw [hU], by rw [hU]; exact hPc, va_K.moved hW.alike hKc, hDc.weaken (fun _ _ _ _ => trivial), hN.warm hW⟩⟩ rfl rfl hl.1 rfl (lv_room (Nat.le_of_ble_eq_true rfl)) px_d25_137 ⟨(Nat.le_of_ble_eq_true rfl), (Nat.le_of_ble_eq_true rfl)⟩) hS (fun q _ h => hFc q h) hFc (fun r137 u t H1 locs ht hvm hw hB hz1 hk1 hS => ?_)
      obtain ⟨hP1, hK1, hD1⟩ := hB
      rw [ht] at hP1
      have hK1 := va_K.moved hvm.symm hK1
      obtain ⟨hP, hD⟩ := va_join (wr := [(h0, .inr (8, px_mf rf v5)), (rf 36, .inl (c_text, 16384, .inl v6))]) (w1 := []) hP hD [] [0, 1] rfl rfl (by decide) (by decide) hk1 hFc hP1 hD1
      generalize H1 = H at hP hS ⊢
      have hP : va_P (dC, dI) vwCl [(h0, .inr (8, px_mf rf v5)), (rf 36, .inl (c_text, 16384, .inl v6))] H := hP
      have hD : va_D A [(h0, .inr (8, px_mf rf v5)), (rf 36, .inl (c_text, 16384, .inl v6))] := hD
      refine lv_if_eq (tgt := 276) hx hb px_d25_140 (by decide) (fun c140 => ?_) (fun c140 => ?_)
      · have hw := hw.1 c140
        exact S276 x1 x2 v5 v6 H locs ls hP hD hS (lv_sub hl [0, 1, 2] rfl) hw
      · have hw := hw.2 c140
        refine lv_aload_n hx hb px_d25_143 rfl (lv_at hl 0 rfl) ?_
        refine lv_dup hx hb px_d25_144 rfl ?_
        refine va_get (D := (dC, dI)) (ci := 8) (v := .int (v5 40)) (C := "MatroidDeskModel") (T := px_T8) (N := 53) hx hb htw px_in8 hown hK hP 0 rfl rfl 40 (by decide) (htw _ px_w328) (fun _ h9 => h9) rfl px_d25_145 ?_
        refine lv_iconst (v := 1) hx hb px_d25_148 (by decide) ?_
        refine lv_iadd hx hb px_d25_149 ?_
        refine lv_topi (fun z7 ez7 => ?_)
        have hw := hw z7 ez7
        refine va_put (D := (dC, dI)) (ci := 8) (v := .int z7) (ty := .int) (C := "MatroidDeskModel") (T := px_T8) (N := 53) hx hb htw px_in8 px_ty8 px_tyok8 px_nm8 hown hK hP hD hS 0 rfl rfl 40 (by decide) (htw _ px_w328) (fun _ h9 => h9) rfl (by decide +kernel) rfl rfl (Nat.le_of_ble_eq_true rfl) px_d25_150 (fun H locs hP hD hS => ?_)
        rw [px_ms40] at hP hD
        have hP : va_P (dC, dI) vwCl [(h0, .inr (8, px_mf rf (va_up v5 40 z7))), (rf 36, .inl (c_text, 16384, .inl v6))] H := hP
        have hD : va_D A [(h0, .inr (8, px_mf rf (va_up v5 40 z7))), (rf 36, .inl (c_text, 16384, .inl v6))] := hD
        refine lv_goto (tgt := 129) hx hb px_d25_153 (by decide) ?_
        exact ih129 x1 x2 (va_up v5 40 z7) v6 H locs ls hP hD hS (lv_sub hl [0, 1, 2] rfl) hw
  have S11 : ∀ (k11 : Nat) (x1 : Int32) (x2 : Int32) (iv : Nat → Int32) (g_text : Nat → Int32) (H : Heap) (locs : List Loc) (ls : Array Slot), va_P (dC, dI) vwCl [(h0, .inr (8, px_mf rf iv)), (rf 36, .inl (c_text, 16384, .inl g_text))] H → va_D A [(h0, .inr (8, px_mf rf iv)), (rf 36, .inl (c_text, 16384, .inl g_text))] → va_S A s.heap H locs → lv_has ls 5 [(0, .ref h0), (1, .int x1), (2, .int x2)] → mnx_L11 post k11 x1 x2 iv g_text → W p l e (headSpec px_s25 ({ frames := 1, cells := 0, slots := 0, locals := 21 })).room s m ([.ref h0]).toArray below meth c H locs 0 0 Q (F0 m 11 ls []) := by
    intro k11
    induction k11 with
    | zero => intro x1 x2 iv g_text H locs ls hP hD hS hl hw; exact False.elim hw
    | succ k11 ih11 =>
      have S75 : ∀ (x1 : Int32) (x2 : Int32) (iv : Nat → Int32) (g_text : Nat → Int32) (H : Heap) (locs : List Loc) (ls : Array Slot), va_P (dC, dI) vwCl [(h0, .inr (8, px_mf rf iv)), (rf 36, .inl (c_text, 16384, .inl g_text))] H → va_D A [(h0, .inr (8, px_mf rf iv)), (rf 36, .inl (c_text, 16384, .inl g_text))] → va_S A s.heap H locs → lv_has ls 5 [(0, .ref h0), (1, .int x1), (2, .int x2)] → mnx_L75 (mnx_L11 post k11) post x1 x2 iv g_text → W p l e (headSpec px_s25 ({ frames := 1, cells := 0, slots := 0, locals := 21 })).room s m ([.ref h0]).toArray below meth c H locs 0 0 Q (F0 m 75 ls []) := by
        intro x1 x2 iv g_text H locs ls hP hD hS hl hw
        unfold mnx_L75 at hw
        refine lv_aload_n hx hb px_d25_75 rfl (lv_at hl 0 rfl) ?_
        refine lv_iload_n hx hb px_d25_76 rfl (lv_at hl 1 rfl) ?_
        have hPc := hP.sub (ws' := [(h0, .inr (8, px_mf rf iv)), (rf 36, .inl (c_text, 16384, .inl g_text))]) [0, 1] rfl
        have hDc := hD.sub (ws' := [(h0, .inr (8, px_mf rf iv)), (rf 36, .inl (c_text, 16384, .inl g_text))]) [0, 1] (by decide) rfl
        have hKc := hK.sub (tys' := [(c_text, .byte)]) [0] rfl
        have hFc := va_free (wc := [(h0, .inr (8, px_mf rf iv)), (rf 36, .inl (c_text, 16384, .inl g_text))]) hD hS hA [0, 1] rfl
        refine va_calli (va_runV (As := [.int x1]) (rest := []) ⟨hx, hb, hml, hown, htw⟩ (mlk_met l dC dI H.size h0 rf c_text x1 iv g_text _ hw) (cwV 1 htw (px_gv px_w329 px_w317 px_w318 px_w94 px_g22) rfl rfl rfl (by decide +kernel) ⟨Nat.le_of_ble_eq_true rfl, Nat.le_of_ble_eq_true rfl⟩) ⟨fun a U g mk q => by obtain ⟨q0, q1, qP, qK, qD, qN⟩ := q; exact ⟨q0, q1, qP, va_K.moved (u := U) (U := U.calling g mk a) (Vm.Alike.refl U.vm) qK, qD, qN.same rfl⟩, va_recv hK hP (ci := 8) (q0 := 0) rfl rfl, fun U hU hW => ⟨rfl, by rw [hU], by rw [hU]; exact hPc, va_K.moved hW.alike hKc, hDc.weaken (fun _ _ _ _ => trivial), hN.warm hW⟩⟩ rfl rfl hl.1 rfl (lv_room (Nat.le_of_ble_eq_true rfl)) px_d25_77 ⟨(Nat.le_of_ble_eq_true rfl), (Nat.le_of_ble_eq_true rfl)⟩) hS (fun q _ h => hFc q h) hFc (fun r77 u t H1 locs ht hvm hw hB hz1 hk1 hS => ?_)
        obtain ⟨v8, v9⟩ := u
        obtain ⟨hP1, hK1, hD1⟩ := hB
        rw [ht] at hP1
        have hK1 := va_K.moved hvm.symm hK1
        obtain ⟨hP, hD⟩ := va_join (wr := []) (w1 := [(h0, .inr (8, px_mf rf v8)), (rf 36, .inl (c_text, 16384, .inl v9))]) hP hD [0, 1] [] rfl rfl (by decide) (by decide) hk1 hFc hP1 hD1
        generalize H1 = H at hP hS ⊢
        have hP : va_P (dC, dI) vwCl [(h0, .inr (8, px_mf rf v8)), (rf 36, .inl (c_text, 16384, .inl v9))] H := hP
        have hD : va_D A [(h0, .inr (8, px_mf rf v8)), (rf 36, .inl (c_text, 16384, .inl v9))] := hD
        refine lv_istore_n (lv' := [(2, .int r77), (0, .ref h0), (1, .int x1)]) hx hb px_d25_80 rfl hl (by decide) rfl (fun ls hl => ?_)
        refine lv_goto (tgt := 11) hx hb px_d25_81 (by decide) ?_
        exact ih11 x1 r77 v8 v9 H locs ls hP hD hS (lv_sub hl [1, 2, 0] rfl) hw
      have S47 : ∀ (k47 : Nat) (x1 : Int32) (x2 : Int32) (iv : Nat → Int32) (g_text : Nat → Int32) (H : Heap) (locs : List Loc) (ls : Array Slot), va_P (dC, dI) vwCl [(h0, .inr (8, px_mf rf iv)), (rf 36, .inl (c_text, 16384, .inl g_text))] H → va_D A [(h0, .inr (8, px_mf rf iv)), (rf 36, .inl (c_text, 16384, .inl g_text))] → va_S A s.heap H locs → lv_has ls 5 [(0, .ref h0), (1, .int x1), (2, .int x2)] → mnx_L47 (mnx_L11 post k11) post k47 x1 x2 iv g_text → W p l e (headSpec px_s25 ({ frames := 1, cells := 0, slots := 0, locals := 21 })).room s m ([.ref h0]).toArray below meth c H locs 0 0 Q (F0 m 47 ls []) := by
        intro k47
        induction k47 with
        | zero => intro x1 x2 iv g_text H locs ls hP hD hS hl hw; exact False.elim hw
        | succ k47 ih47 =>
          intro x1 x2 iv g_text H locs ls hP hD hS hl hw
          unfold mnx_L47 at hw
          refine lv_iload_n hx hb px_d25_47 rfl (lv_at hl 1 rfl) ?_
          refine lv_aload_n hx hb px_d25_48 rfl (lv_at hl 0 rfl) ?_
          refine va_get (D := (dC, dI)) (ci := 8) (v := .int (iv 37)) (C := "MatroidDeskModel") (T := px_T8) (N := 53) hx hb htw px_in8 hown hK hP 0 rfl rfl 37 (by decide) (htw _ px_w319) (fun _ h9 => h9) rfl px_d25_49 ?_
          refine lv_icmp_ge (tgt := 75) hx hb px_d25_52 (by decide) (fun c52 => ?_) (fun c52 => ?_)
          · have hw := hw.1 c52
            exact S75 x1 x2 iv g_text H locs ls hP hD hS (lv_sub hl [0, 1, 2] rfl) hw
          · have hw := hw.2 c52
            refine lv_aload_n hx hb px_d25_55 rfl (lv_at hl 0 rfl) ?_
            refine va_get (D := (dC, dI)) (ci := 8) (v := .ref (rf 36)) (C := "MatroidDeskModel") (T := px_T8) (N := 53) hx hb htw px_in8 hown hK hP 0 rfl rfl 36 (by decide) (htw _ px_w320) (fun _ h9 => h9) rfl px_d25_56 ?_
            refine lv_iload_n hx hb px_d25_59 rfl (lv_at hl 1 rfl) ?_
            obtain ⟨hi60, hw⟩ := hw
            refine va_bald hx hb hK hP 1 0 rfl rfl hi60 px_d25_60 ?_
            refine lv_bipush (v := 10) hx hb px_d25_61 (by decide) ?_
            refine lv_icmp_eq (tgt := 75) hx hb px_d25_63 (by decide) (fun c63 => ?_) (fun c63 => ?_)
            · have hw := hw.1 c63
              exact S75 x1 x2 iv g_text H locs ls hP hD hS (lv_sub hl [0, 1, 2] rfl) hw
            · have hw := hw.2 c63
              obtain ⟨z10, ez10⟩ : ∃ y : Int32, y = x1 + 1 := ⟨_, rfl⟩
              have hw := hw z10 ez10
              refine lv_iinc (v := z10) (lv' := [(1, .int z10), (0, .ref h0), (2, .int x2)]) hx hb px_d25_66 hl (k := 1) rfl (by rw [ez10]; rfl) (by decide) rfl (fun ls hl => ?_)
              refine lv_goto (tgt := 47) hx hb px_d25_69 (by decide) ?_
              exact ih47 z10 x2 iv g_text H locs ls hP hD hS (lv_sub hl [1, 0, 2] rfl) hw
      have S41 : ∀ (x1 : Int32) (x2 : Int32) (iv : Nat → Int32) (g_text : Nat → Int32) (H : Heap) (locs : List Loc) (ls : Array Slot), va_P (dC, dI) vwCl [(h0, .inr (8, px_mf rf iv)), (rf 36, .inl (c_text, 16384, .inl g_text))] H → va_D A [(h0, .inr (8, px_mf rf iv)), (rf 36, .inl (c_text, 16384, .inl g_text))] → va_S A s.heap H locs → lv_has ls 5 [(0, .ref h0), (1, .int x1), (2, .int x2)] → mnx_L41 (mnx_L11 post k11) post x1 x2 iv g_text → W p l e (headSpec px_s25 ({ frames := 1, cells := 0, slots := 0, locals := 21 })).room s m ([.ref h0]).toArray below meth c H locs 0 0 Q (F0 m 41 ls []) := by
        intro x1 x2 iv g_text H locs ls hP hD hS hl hw
        unfold mnx_L41 at hw
        refine lv_iload_n hx hb px_d25_41 rfl (lv_at hl 2 rfl) ?_
        refine lv_bipush (v := 35) hx hb px_d25_42 (by decide) ?_
        refine lv_icmp_ne (tgt := 72) hx hb px_d25_44 (by decide) (fun c44 => ?_) (fun c44 => ?_)
        · have hw := hw.1 c44
          obtain ⟨z11, ez11⟩ : ∃ y : Int32, y = x1 + 1 := ⟨_, rfl⟩
          have hw := hw z11 ez11
          refine lv_iinc (v := z11) (lv' := [(1, .int z11), (0, .ref h0), (2, .int x2)]) hx hb px_d25_72 hl (k := 1) rfl (by rw [ez11]; rfl) (by decide) rfl (fun ls hl => ?_)
          exact S75 z11 x2 iv g_text H locs ls hP hD hS (lv_sub hl [1, 0, 2] rfl) hw
        · have hw := hw.2 c44
          obtain ⟨k9, hw⟩ := hw
          exact S47 k9 x1 x2 iv g_text H locs ls hP hD hS (lv_sub hl [0, 1, 2] rfl) hw
      intro x1 x2 iv g_text H locs ls hP hD hS hl hw
      unfold mnx_L11 at hw
      refine lv_iload_n hx hb px_d25_11 rfl (lv_at hl 2 rfl) ?_
      refine lv_bipush (v := 32) hx hb px_d25_12 (by decide) ?_
      refine lv_icmp_eq (tgt := 41) hx hb px_d25_14 (by decide) (fun c14 => ?_) (fun c14 => ?_)
      · have hw := hw.1 c14
        exact S41 x1 x2 iv g_text H locs ls hP hD hS (lv_sub hl [0, 1, 2] rfl) hw
      · have hw := hw.2 c14
        refine lv_iload_n hx hb px_d25_17 rfl (lv_at hl 2 rfl) ?_
        refine lv_bipush (v := 10) hx hb px_d25_18 (by decide) ?_
        refine lv_icmp_eq (tgt := 41) hx hb px_d25_20 (by decide) (fun c20 => ?_) (fun c20 => ?_)
        · have hw := hw.1 c20
          exact S41 x1 x2 iv g_text H locs ls hP hD hS (lv_sub hl [0, 1, 2] rfl) hw
        · have hw := hw.2 c20
          refine lv_iload_n hx hb px_d25_23 rfl (lv_at hl 2 rfl) ?_
          refine lv_bipush (v := 13) hx hb px_d25_24 (by decide) ?_
          refine lv_icmp_eq (tgt := 41) hx hb px_d25_26 (by decide) (fun c26 => ?_) (fun c26 => ?_)
          · have hw := hw.1 c26
            exact S41 x1 x2 iv g_text H locs ls hP hD hS (lv_sub hl [0, 1, 2] rfl) hw
          · have hw := hw.2 c26
            refine lv_iload_n hx hb px_d25_29 rfl (lv_at hl 2 rfl) ?_
            refine lv_bipush (v := 9) hx hb px_d25_30 (by decide) ?_
            refine lv_icmp_eq (tgt := 41) hx hb px_d25_32 (by decide) (fun c32 => ?_) (fun c32 => ?_)
            · have hw := hw.1 c32
              exact S41 x1 x2 iv g_text H locs ls hP hD hS (lv_sub hl [0, 1, 2] rfl) hw
            · have hw := hw.2 c32
              refine lv_iload_n hx hb px_d25_35 rfl (lv_at hl 2 rfl) ?_
              refine lv_bipush (v := 35) hx hb px_d25_36 (by decide) ?_
              refine lv_icmp_ne (tgt := 84) hx hb px_d25_38 (by decide) (fun c38 => ?_) (fun c38 => ?_)
              · have hw := hw.1 c38
                refine lv_aload_n hx hb px_d25_84 rfl (lv_at hl 0 rfl) ?_
                refine lv_iload_n hx hb px_d25_85 rfl (lv_at hl 1 rfl) ?_
                refine va_put (D := (dC, dI)) (ci := 8) (v := .int x1) (ty := .int) (C := "MatroidDeskModel") (T := px_T8) (N := 53) hx hb htw px_in8 px_ty8 px_tyok8 px_nm8 hown hK hP hD hS 0 rfl rfl 39 (by decide) (htw _ px_w330) (fun _ h9 => h9) rfl (by decide +kernel) rfl rfl (Nat.le_of_ble_eq_true rfl) px_d25_86 (fun H locs hP hD hS => ?_)
                rw [px_ms39] at hP hD
                have hP : va_P (dC, dI) vwCl [(h0, .inr (8, px_mf rf (va_up iv 39 x1))), (rf 36, .inl (c_text, 16384, .inl g_text))] H := hP
                have hD : va_D A [(h0, .inr (8, px_mf rf (va_up iv 39 x1))), (rf 36, .inl (c_text, 16384, .inl g_text))] := hD
                refine lv_aload_n hx hb px_d25_89 rfl (lv_at hl 0 rfl) ?_
                refine lv_iload_n hx hb px_d25_90 rfl (lv_at hl 1 rfl) ?_
                refine lv_iconst (v := 1) hx hb px_d25_91 (by decide) ?_
                refine lv_iadd hx hb px_d25_92 ?_
                refine lv_topi (fun z12 ez12 => ?_)
                have hw := hw z12 ez12
                refine va_put (D := (dC, dI)) (ci := 8) (v := .int z12) (ty := .int) (C := "MatroidDeskModel") (T := px_T8) (N := 53) hx hb htw px_in8 px_ty8 px_tyok8 px_nm8 hown hK hP hD hS 0 rfl rfl 40 (by decide) (htw _ px_w328) (fun _ h9 => h9) rfl (by decide +kernel) rfl rfl (Nat.le_of_ble_eq_true rfl) px_d25_93 (fun H locs hP hD hS => ?_)
                rw [px_ms40] at hP hD
                have hP : va_P (dC, dI) vwCl [(h0, .inr (8, px_mf rf (va_up (va_up iv 39 x1) 40 z12))), (rf 36, .inl (c_text, 16384, .inl g_text))] H := hP
                have hD : va_D A [(h0, .inr (8, px_mf rf (va_up (va_up iv 39 x1) 40 z12))), (rf 36, .inl (c_text, 16384, .inl g_text))] := hD
                refine lv_iload_n hx hb px_d25_96 rfl (lv_at hl 1 rfl) ?_
                refine lv_aload_n hx hb px_d25_97 rfl (lv_at hl 0 rfl) ?_
                refine va_get (D := (dC, dI)) (ci := 8) (v := .int (iv 37)) (C := "MatroidDeskModel") (T := px_T8) (N := 53) hx hb htw px_in8 hown hK hP 0 rfl rfl 37 (by decide) (htw _ px_w319) (fun _ h9 => h9) rfl px_d25_98 ?_
                refine lv_icmp_lt (tgt := 117) hx hb px_d25_101 (by decide) (fun c101 => ?_) (fun c101 => ?_)
                · have hw := hw.1 c101
                  refine lv_iload_n hx hb px_d25_117 rfl (lv_at hl 2 rfl) ?_
                  have hPc := hP.sub (ws' := []) [] rfl
                  have hDc := hD.sub (ws' := []) [] (by decide) rfl
                  have hKc := hK.sub (tys' := []) [] rfl
                  have hFc := va_free (wc := []) hD hS hA [] rfl
                  refine va_calli (va_runS (As := [.int x2]) (rest := []) ⟨hx, hb, hml, hown, htw⟩ (mil_met l dC dI H.size x2 _ hw) (cwS 1 htw (px_gs px_w332 px_w322 px_w94 px_g23) rfl rfl rfl (by decide +kernel) ⟨Nat.le_of_ble_eq_true rfl, Nat.le_of_ble_eq_true rfl⟩) ⟨fun a U g mk q => by obtain ⟨q0, q1, qP, qK, qD, qN⟩ := q; exact ⟨q0, q1, qP, va_K.moved (u := U) (U := U.calling g mk a) (Vm.Alike.refl U.vm) qK, qD, qN.same rfl⟩, fun U hU hW => ⟨rfl, by rw [hU], by rw [hU]; exact hPc, va_K.moved hW.alike hKc, hDc.weaken (fun _ _ _ _ => trivial), hN.warm hW⟩⟩ rfl rfl hl.1 rfl (lv_room (Nat.le_of_ble_eq_true rfl)) px_d25_118 ⟨(Nat.le_of_ble_eq_true rfl), (Nat.le_of_ble_eq_true rfl)⟩) hS (fun q _ h => hFc q h) hFc (fun r118 u t H1 locs ht hvm hw hB hz1 hk1 hS => ?_)
                  obtain ⟨hP1, hK1, hD1⟩ := hB
                  rw [ht] at hP1
                  have hK1 := va_K.moved hvm.symm hK1
                  obtain ⟨hP, hD⟩ := va_join (wr := [(h0, .inr (8, px_mf rf (va_up (va_up iv 39 x1) 40 z12))), (rf 36, .inl (c_text, 16384, .inl g_text))]) (w1 := []) hP hD [] [0, 1] rfl rfl (by decide) (by decide) hk1 hFc hP1 hD1
                  generalize H1 = H at hP hS ⊢
                  have hP : va_P (dC, dI) vwCl [(h0, .inr (8, px_mf rf (va_up (va_up iv 39 x1) 40 z12))), (rf 36, .inl (c_text, 16384, .inl g_text))] H := hP
                  have hD : va_D A [(h0, .inr (8, px_mf rf (va_up (va_up iv 39 x1) 40 z12))), (rf 36, .inl (c_text, 16384, .inl g_text))] := hD
                  refine lv_if_eq (tgt := 156) hx hb px_d25_121 (by decide) (fun c121 => ?_) (fun c121 => ?_)
                  · have hw := hw.1 c121
                    refine lv_iload_n hx hb px_d25_156 rfl (lv_at hl 2 rfl) ?_
                    refine lv_bipush (v := 45) hx hb px_d25_157 (by decide) ?_
                    refine lv_icmp_eq (tgt := 169) hx hb px_d25_159 (by decide) (fun c159 => ?_) (fun c159 => ?_)
                    · have hw := hw.1 c159
                      exact S169 x1 x2 (va_up (va_up iv 39 x1) 40 z12) g_text H locs ls hP hD hS (lv_sub hl [0, 1, 2] rfl) hw
                    · have hw := hw.2 c159
                      refine lv_iload_n hx hb px_d25_162 rfl (lv_at hl 2 rfl) ?_
                      have hPc := hP.sub (ws' := []) [] rfl
                      have hDc := hD.sub (ws' := []) [] (by decide) rfl
                      have hKc := hK.sub (tys' := []) [] rfl
                      have hFc := va_free (wc := []) hD hS hA [] rfl
                      refine va_calli (va_runS (As := [.int x2]) (rest := []) ⟨hx, hb, hml, hown, htw⟩ (mid_met l dC dI H.size x2 _ hw) (cwS 1 htw (px_gs px_w333 px_w324 px_w94 px_g24) rfl rfl rfl (by decide +kernel) ⟨Nat.le_of_ble_eq_true rfl, Nat.le_of_ble_eq_true rfl⟩) ⟨fun a U g mk q => by obtain ⟨q0, q1, qP, qK, qD, qN⟩ := q; exact ⟨q0, q1, qP, va_K.moved (u := U) (U := U.calling g mk a) (Vm.Alike.refl U.vm) qK, qD, qN.same rfl⟩, fun U hU hW => ⟨rfl, by rw [hU], by rw [hU]; exact hPc, va_K.moved hW.alike hKc, hDc.weaken (fun _ _ _ _ => trivial), hN.warm hW⟩⟩ rfl rfl hl.1 rfl (lv_room (Nat.le_of_ble_eq_true rfl)) px_d25_163 ⟨(Nat.le_of_ble_eq_true rfl), (Nat.le_of_ble_eq_true rfl)⟩) hS (fun q _ h => hFc q h) hFc (fun r163 u t H1 locs ht hvm hw hB hz1 hk1 hS => ?_)
                      obtain ⟨hP1, hK1, hD1⟩ := hB
                      rw [ht] at hP1
                      have hK1 := va_K.moved hvm.symm hK1
                      obtain ⟨hP, hD⟩ := va_join (wr := [(h0, .inr (8, px_mf rf (va_up (va_up iv 39 x1) 40 z12))), (rf 36, .inl (c_text, 16384, .inl g_text))]) (w1 := []) hP hD [] [0, 1] rfl rfl (by decide) (by decide) hk1 hFc hP1 hD1
                      generalize H1 = H at hP hS ⊢
                      have hP : va_P (dC, dI) vwCl [(h0, .inr (8, px_mf rf (va_up (va_up iv 39 x1) 40 z12))), (rf 36, .inl (c_text, 16384, .inl g_text))] H := hP
                      have hD : va_D A [(h0, .inr (8, px_mf rf (va_up (va_up iv 39 x1) 40 z12))), (rf 36, .inl (c_text, 16384, .inl g_text))] := hD
                      refine lv_if_eq (tgt := 237) hx hb px_d25_166 (by decide) (fun c166 => ?_) (fun c166 => ?_)
                      · have hw := hw.1 c166
                        refine lv_aload_n hx hb px_d25_237 rfl (lv_at hl 0 rfl) ?_
                        refine lv_iload_n hx hb px_d25_238 rfl (lv_at hl 2 rfl) ?_
                        refine lv_bipush (v := 123) hx hb px_d25_239 (by decide) ?_
                        refine lv_icmp_eq (tgt := 268) hx hb px_d25_241 (by decide) (fun c241 => ?_) (fun c241 => ?_)
                        · have hw := hw.1 c241
                          exact S268 x1 x2 (va_up (va_up iv 39 x1) 40 z12) g_text H locs ls hP hD hS (lv_sub hl [0, 1, 2] rfl) hw
                        · have hw := hw.2 c241
                          refine lv_iload_n hx hb px_d25_244 rfl (lv_at hl 2 rfl) ?_
                          refine lv_bipush (v := 125) hx hb px_d25_245 (by decide) ?_
                          refine lv_icmp_eq (tgt := 268) hx hb px_d25_247 (by decide) (fun c247 => ?_) (fun c247 => ?_)
                          · have hw := hw.1 c247
                            exact S268 x1 x2 (va_up (va_up iv 39 x1) 40 z12) g_text H locs ls hP hD hS (lv_sub hl [0, 1, 2] rfl) hw
                          · have hw := hw.2 c247
                            refine lv_iload_n hx hb px_d25_250 rfl (lv_at hl 2 rfl) ?_
                            refine lv_bipush (v := 44) hx hb px_d25_251 (by decide) ?_
                            refine lv_icmp_eq (tgt := 268) hx hb px_d25_253 (by decide) (fun c253 => ?_) (fun c253 => ?_)
                            · have hw := hw.1 c253
                              exact S268 x1 x2 (va_up (va_up iv 39 x1) 40 z12) g_text H locs ls hP hD hS (lv_sub hl [0, 1, 2] rfl) hw
                            · have hw := hw.2 c253
                              refine lv_iload_n hx hb px_d25_256 rfl (lv_at hl 2 rfl) ?_
                              refine lv_bipush (v := 61) hx hb px_d25_257 (by decide) ?_
                              refine lv_icmp_eq (tgt := 268) hx hb px_d25_259 (by decide) (fun c259 => ?_) (fun c259 => ?_)
                              · have hw := hw.1 c259
                                exact S268 x1 x2 (va_up (va_up iv 39 x1) 40 z12) g_text H locs ls hP hD hS (lv_sub hl [0, 1, 2] rfl) hw
                              · have hw := hw.2 c259
                                refine lv_iload_n hx hb px_d25_262 rfl (lv_at hl 2 rfl) ?_
                                refine lv_bipush (v := 59) hx hb px_d25_263 (by decide) ?_
                                refine lv_icmp_ne (tgt := 272) hx hb px_d25_265 (by decide) (fun c265 => ?_) (fun c265 => ?_)
                                · have hw := hw.1 c265
                                  refine lv_iconst (v := 3) hx hb px_d25_272 (by decide) ?_
                                  exact S273 x1 x2 3 (va_up (va_up iv 39 x1) 40 z12) g_text H locs ls hP hD hS (lv_sub hl [0, 1, 2] rfl) hw
                                · have hw := hw.2 c265
                                  exact S268 x1 x2 (va_up (va_up iv 39 x1) 40 z12) g_text H locs ls hP hD hS (lv_sub hl [0, 1, 2] rfl) hw
                      · have hw := hw.2 c166
                        exact S169 x1 x2 (va_up (va_up iv 39 x1) 40 z12) g_text H locs ls hP hD hS (lv_sub hl [0, 1, 2] rfl) hw
                  · have hw := hw.2 c121
                    refine lv_aload_n hx hb px_d25_124 rfl (lv_at hl 0 rfl) ?_
                    refine lv_iconst (v := 1) hx hb px_d25_125 (by decide) ?_
                    refine va_put (D := (dC, dI)) (ci := 8) (v := .int 1) (ty := .int) (C := "MatroidDeskModel") (T := px_T8) (N := 53) hx hb htw px_in8 px_ty8 px_tyok8 px_nm8 hown hK hP hD hS 0 rfl rfl 38 (by decide) (htw _ px_w331) (fun _ h9 => h9) rfl (by decide +kernel) rfl rfl (Nat.le_of_ble_eq_true rfl) px_d25_126 (fun H locs hP hD hS => ?_)
                    rw [px_ms38] at hP hD
                    have hP : va_P (dC, dI) vwCl [(h0, .inr (8, px_mf rf (va_up (va_up (va_up iv 39 x1) 40 z12) 38 1))), (rf 36, .inl (c_text, 16384, .inl g_text))] H := hP
                    have hD : va_D A [(h0, .inr (8, px_mf rf (va_up (va_up (va_up iv 39 x1) 40 z12) 38 1))), (rf 36, .inl (c_text, 16384, .inl g_text))] := hD
                    obtain ⟨k9, hw⟩ := hw
                    exact S129 k9 x1 x2 (va_up (va_up (va_up iv 39 x1) 40 z12) 38 1) g_text H locs ls hP hD hS (lv_sub hl [0, 1, 2] rfl) hw
                · have hw := hw.2 c101
                  refine lv_aload_n hx hb px_d25_104 rfl (lv_at hl 0 rfl) ?_
                  refine lv_iconst (v := 0) hx hb px_d25_105 (by decide) ?_
                  refine va_put (D := (dC, dI)) (ci := 8) (v := .int 0) (ty := .int) (C := "MatroidDeskModel") (T := px_T8) (N := 53) hx hb htw px_in8 px_ty8 px_tyok8 px_nm8 hown hK hP hD hS 0 rfl rfl 38 (by decide) (htw _ px_w331) (fun _ h9 => h9) rfl (by decide +kernel) rfl rfl (Nat.le_of_ble_eq_true rfl) px_d25_106 (fun H locs hP hD hS => ?_)
                  rw [px_ms38] at hP hD
                  have hP : va_P (dC, dI) vwCl [(h0, .inr (8, px_mf rf (va_up (va_up (va_up iv 39 x1) 40 z12) 38 0))), (rf 36, .inl (c_text, 16384, .inl g_text))] H := hP
                  have hD : va_D A [(h0, .inr (8, px_mf rf (va_up (va_up (va_up iv 39 x1) 40 z12) 38 0))), (rf 36, .inl (c_text, 16384, .inl g_text))] := hD
                  refine lv_aload_n hx hb px_d25_109 rfl (lv_at hl 0 rfl) ?_
                  refine lv_iload_n hx hb px_d25_110 rfl (lv_at hl 1 rfl) ?_
                  refine va_put (D := (dC, dI)) (ci := 8) (v := .int x1) (ty := .int) (C := "MatroidDeskModel") (T := px_T8) (N := 53) hx hb htw px_in8 px_ty8 px_tyok8 px_nm8 hown hK hP hD hS 0 rfl rfl 40 (by decide) (htw _ px_w328) (fun _ h9 => h9) rfl (by decide +kernel) rfl rfl (Nat.le_of_ble_eq_true rfl) px_d25_111 (fun H locs hP hD hS => ?_)
                  rw [px_ms40] at hP hD
                  have hP : va_P (dC, dI) vwCl [(h0, .inr (8, px_mf rf (va_up (va_up (va_up (va_up iv 39 x1) 40 z12) 38 0) 40 x1))), (rf 36, .inl (c_text, 16384, .inl g_text))] H := hP
                  have hD : va_D A [(h0, .inr (8, px_mf rf (va_up (va_up (va_up (va_up iv 39 x1) 40 z12) 38 0) 40 x1))), (rf 36, .inl (c_text, 16384, .inl g_text))] := hD
                  refine lv_goto (tgt := 276) hx hb px_d25_114 (by decide) ?_
                  exact S276 x1 x2 (va_up (va_up (va_up (va_up iv 39 x1) 40 z12) 38 0) 40 x1) g_text H locs ls hP hD hS (lv_sub hl [0, 1, 2] rfl) hw
              · have hw := hw.2 c38
                exact S41 x1 x2 iv g_text H locs ls hP hD hS (lv_sub hl [0, 1, 2] rfl) hw
  unfold mnx_wp at hw
  have hS0 := hS
  obtain ⟨H, hH9⟩ : ∃ z, z = s.heap := ⟨_, rfl⟩
  have hP : va_P (dC, dI) vwCl [(h0, .inr (8, px_mf rf iv)), (rf 36, .inl (c_text, 16384, .inl g_text))] H := by rw [hH9]; exact hP
  obtain ⟨locs, hlo9⟩ : ∃ z : List Loc, z = [] := ⟨_, rfl⟩
  have hS : va_S A s.heap H locs := by rw [hH9, hlo9]; exact hS
  suffices hG : W p l e (headSpec px_s25 ({ frames := 1, cells := 0, slots := 0, locals := 21 })).room s m ([.ref h0]).toArray below meth c H locs 0 0 Q (F0 m 0 ls []) by rw [hH9, hlo9] at hG; exact hG
  refine lv_aload_n hx hb px_d25_0 rfl (lv_at hl 0 rfl) ?_
  refine va_get (D := (dC, dI)) (ci := 8) (v := .int (iv 40)) (C := "MatroidDeskModel") (T := px_T8) (N := 53) hx hb htw px_in8 hown hK hP 0 rfl rfl 40 (by decide) (htw _ px_w328) (fun _ h9 => h9) rfl px_d25_1 ?_
  refine lv_topi (fun z13 ez13 => ?_)
  have hw := hw z13 ez13
  refine lv_istore_n (lv' := [(1, .int z13), (0, .ref h0)]) hx hb px_d25_4 rfl hl (by decide) rfl (fun ls hl => ?_)
  refine lv_aload_n hx hb px_d25_5 rfl (lv_at hl 1 rfl) ?_
  refine lv_iload_n hx hb px_d25_6 rfl (lv_at hl 0 rfl) ?_
  have hPc := hP.sub (ws' := [(h0, .inr (8, px_mf rf iv)), (rf 36, .inl (c_text, 16384, .inl g_text))]) [0, 1] rfl
  have hDc := hD.sub (ws' := [(h0, .inr (8, px_mf rf iv)), (rf 36, .inl (c_text, 16384, .inl g_text))]) [0, 1] (by decide) rfl
  have hKc := hK.sub (tys' := [(c_text, .byte)]) [0] rfl
  have hFc := va_free (wc := [(h0, .inr (8, px_mf rf iv)), (rf 36, .inl (c_text, 16384, .inl g_text))]) hD hS hA [0, 1] rfl
  refine va_calli (va_runV (As := [.int z13]) (rest := []) ⟨hx, hb, hml, hown, htw⟩ (mlk_met l dC dI H.size h0 rf c_text z13 iv g_text _ hw) (cwV 1 htw (px_gv px_w329 px_w317 px_w318 px_w94 px_g22) rfl rfl rfl (by decide +kernel) ⟨Nat.le_of_ble_eq_true rfl, Nat.le_of_ble_eq_true rfl⟩) ⟨fun a U g mk q => by obtain ⟨q0, q1, qP, qK, qD, qN⟩ := q; exact ⟨q0, q1, qP, va_K.moved (u := U) (U := U.calling g mk a) (Vm.Alike.refl U.vm) qK, qD, qN.same rfl⟩, va_recv hK hP (ci := 8) (q0 := 0) rfl rfl, fun U hU hW => ⟨rfl, by rw [hU], by rw [hU]; exact hPc, va_K.moved hW.alike hKc, hDc.weaken (fun _ _ _ _ => trivial), hN.warm hW⟩⟩ rfl rfl hl.1 rfl (lv_room (Nat.le_of_ble_eq_true rfl)) px_d25_7 ⟨(Nat.le_of_ble_eq_true rfl), (Nat.le_of_ble_eq_true rfl)⟩) hS (fun q _ h => hFc q h) hFc (fun r7 u t H1 locs ht hvm hw hB hz1 hk1 hS => ?_)
  obtain ⟨v14, v15⟩ := u
  obtain ⟨hP1, hK1, hD1⟩ := hB
  rw [ht] at hP1
  have hK1 := va_K.moved hvm.symm hK1
  obtain ⟨hP, hD⟩ := va_join (wr := []) (w1 := [(h0, .inr (8, px_mf rf v14)), (rf 36, .inl (c_text, 16384, .inl v15))]) hP hD [0, 1] [] rfl rfl (by decide) (by decide) hk1 hFc hP1 hD1
  generalize H1 = H at hP hS ⊢
  have hP : va_P (dC, dI) vwCl [(h0, .inr (8, px_mf rf v14)), (rf 36, .inl (c_text, 16384, .inl v15))] H := hP
  have hD : va_D A [(h0, .inr (8, px_mf rf v14)), (rf 36, .inl (c_text, 16384, .inl v15))] := hD
  refine lv_istore_n (lv' := [(2, .int r7), (1, .int z13), (0, .ref h0)]) hx hb px_d25_10 rfl hl (by decide) rfl (fun ls hl => ?_)
  obtain ⟨k9, hw⟩ := hw
  exact S11 k9 z13 r7 v14 v15 H locs ls hP hD hS (lv_sub hl [2, 1, 0] rfl) hw

