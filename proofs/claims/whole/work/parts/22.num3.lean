def nof_L117 (K49 : Int32 → Int32 → Int64 → Int32 → Int32 → Int32 → (Nat → Int32) → Int32 → Int32 → (Nat → Int32) → Prop) (post : Int32 → Int32 → Int32 → (Nat → Int32) → Int32 → Int32 → (Nat → Int32) → Prop) (x2 : Int32) (x3 : Int32) (x4 : Int64) (x6 : Int32) (x7 : Int64) (y0 : Int64) (n0 : Int32) (m0 : Int32) (f0 : Nat → Int32) (n1 : Int32) (m1 : Int32) (f1 : Nat → Int32) : Prop := ∀ z1 : Int32, z1 = (x7 + (65536 * y0)).toInt32 → vp_in x6 160 ∧ (∀ z2 : Int32, z2 = x6 + 1 → K49 x2 x3 y0 z2 n0 m0 (upd f0 (Int32.toNatClampNeg x6) z1) n1 m1 f1)
def nof_L93 (K49 : Int32 → Int32 → Int64 → Int32 → Int32 → Int32 → (Nat → Int32) → Int32 → Int32 → (Nat → Int32) → Prop) (post : Int32 → Int32 → Int32 → (Nat → Int32) → Int32 → Int32 → (Nat → Int32) → Prop) (x2 : Int32) (x3 : Int32) (x4 : Int64) (x6 : Int32) (y0 : Int64) (y1 : Int64) (n0 : Int32) (m0 : Int32) (f0 : Nat → Int32) (n1 : Int32) (m1 : Int32) (f1 : Nat → Int32) : Prop := ∀ z3 : Int64, z3 = y1 - y0 → (0 ≤ (lg_cmp z3 0) → nof_L117 K49 post x2 x3 x4 x6 z3 0 n0 m0 f0 n1 m1 f1) ∧ (¬ 0 ≤ (lg_cmp z3 0) → nof_L117 K49 post x2 x3 x4 x6 z3 ((65535 - z3) / 65536) n0 m0 f0 n1 m1 f1)
def nof_L49 (post : Int32 → Int32 → Int32 → (Nat → Int32) → Int32 → Int32 → (Nat → Int32) → Prop) : Nat → Int32 → Int32 → Int64 → Int32 → Int32 → Int32 → (Nat → Int32) → Int32 → Int32 → (Nat → Int32) → Prop
  | 0 => fun _ _ _ _ _ _ _ _ _ _ => False
  | k + 1 => fun x2 x3 x4 x6 n0 m0 f0 n1 m1 f1 => (n0 ≤ x6 → nt_wp (fun v4 v5 v6 => post x2 v4 v5 v6 n1 m1 f1) n0 m0 f0) ∧ (¬ n0 ≤ x6 → vp_in x6 160 ∧ ((n1 ≤ x6 → nof_L93 (nof_L49 post k) post x2 x3 x4 x6 0 (((f0 (Int32.toNatClampNeg x6)).toInt64) - x4) n0 m0 f0 n1 m1 f1) ∧ (¬ n1 ≤ x6 → vp_in x6 160 ∧ (nof_L93 (nof_L49 post k) post x2 x3 x4 x6 (((f1 (Int32.toNatClampNeg x6)).toInt64) * x2.toInt64) (((f0 (Int32.toNatClampNeg x6)).toInt64) - x4) n0 m0 f0 n1 m1 f1))))
def nof_L40 (K5 : Int32 → Int32 → Int32 → Int32 → (Nat → Int32) → Int32 → Int32 → (Nat → Int32) → Prop) (post : Int32 → Int32 → Int32 → (Nat → Int32) → Int32 → Int32 → (Nat → Int32) → Prop) (x2 : Int32) (x3 : Int32) (x4 : Int32) (n0 : Int32) (m0 : Int32) (f0 : Nat → Int32) (n1 : Int32) (m1 : Int32) (f1 : Nat → Int32) : Prop := K5 x2 x3 n0 m0 f0 n1 m1 f1
def nof_L5 (post : Int32 → Int32 → Int32 → (Nat → Int32) → Int32 → Int32 → (Nat → Int32) → Prop) : Nat → Int32 → Int32 → Int32 → Int32 → (Nat → Int32) → Int32 → Int32 → (Nat → Int32) → Prop
  | 0 => fun _ _ _ _ _ _ _ _ => False
  | k + 1 => fun x2 x3 n0 m0 f0 n1 m1 f1 => (x3 ≤ x2 → ∃ j49, nof_L49 post j49 x2 x3 0 0 n0 m0 f0 n1 m1 f1) ∧ (¬ x3 ≤ x2 → ∀ z7 : Int32, z7 = ((x2 + x3) + 1) / 2 → nam_wp (fun r23 v8 v9 v10 v11 v12 v13 => (r23 = 0 → ∀ z14 : Int32, z14 = z7 - 1 → nof_L40 (nof_L5 post k) post x2 z14 z7 v11 v12 v13 v8 v9 v10) ∧ (¬ r23 = 0 → nof_L40 (nof_L5 post k) post z7 x3 z7 v11 v12 v13 v8 v9 v10)) z7 n1 m1 f1 n0 m0 f0)
def nof_wp (post : Int32 → Int32 → Int32 → (Nat → Int32) → Int32 → Int32 → (Nat → Int32) → Prop) (n0 : Int32) (m0 : Int32) (f0 : Nat → Int32) (n1 : Int32) (m1 : Int32) (f1 : Nat → Int32) : Prop := ∃ j5, nof_L5 post j5 1 65535 n0 m0 f0 n1 m1 f1
set_option maxHeartbeats 8000000 in
set_option maxRecDepth 100000 in
theorem nof_met (l : Launch) (dC : Nat → ClassId) (dI : Nat → Nat → Nat) (sz : Nat) (h0 : Nat) (q0 : Nat) (h1 : Nat) (q1 : Nat) (c0 : ClassId) (c1 : ClassId) (n0 : Int32) (m0 : Int32) (f0 : Nat → Int32) (n1 : Int32) (m1 : Int32) (f1 : Nat → Int32) (post : Int32 → Int32 → Int32 → (Nat → Int32) → Int32 → Int32 → (Nat → Int32) → Prop) (hw : nof_wp post n0 m0 f0 n1 m1 f1) : Met l px_y20 px_s20 ({ frames := 1, cells := 0, slots := 0, locals := 27 }) (va_Pc [.ref h0, .ref h1] (fun U => U.heap.size = sz ∧ va_P (dC, dI) vwCl [(h0, .inr (9, [.ref q0, .int n0, .int m0])), (q0, .inl (c0, 160, .inl f0)), (h1, .inr (9, [.ref q1, .int n1, .int m1])), (q1, .inl (c1, 160, .inl f1))] U.heap ∧ va_K (dC, dI) vwCl [(c0, .int), (c1, .int)] U ∧ va_D (fun _ => True) [(h0, .inr (9, [.ref q0, .int n0, .int m0])), (q0, .inl (c0, 160, .inl f0)), (h1, .inr (9, [.ref q1, .int n1, .int m1])), (q1, .inl (c1, 160, .inl f1))] ∧ px_N U)) (va_Qi (fun (r : Int32) (u : Int32 × Int32 × (Nat → Int32) × Int32 × Int32 × (Nat → Int32)) => post r u.1 u.2.1 u.2.2.1 u.2.2.2.1 u.2.2.2.2.1 u.2.2.2.2.2) (fun (u : Int32 × Int32 × (Nat → Int32) × Int32 × Int32 × (Nat → Int32)) (t : State) => va_P (dC, dI) vwCl [(h0, .inr (9, [.ref q0, .int u.1, .int u.2.1])), (q0, .inl (c0, 160, .inl u.2.2.1)), (h1, .inr (9, [.ref q1, .int u.2.2.2.1, .int u.2.2.2.2.1])), (q1, .inl (c1, 160, .inl u.2.2.2.2.2))] t.heap ∧ va_K (dC, dI) vwCl [(c0, .int), (c1, .int)] t ∧ va_D (va_A [(h0, .inr (9, [.ref q0, .int n0, .int m0])), (q0, .inl (c0, 160, .inl f0)), (h1, .inr (9, [.ref q1, .int n1, .int m1])), (q1, .inl (c1, 160, .inl f1))] sz) [(h0, .inr (9, [.ref q0, .int u.1, .int u.2.1])), (q0, .inl (c0, 160, .inl u.2.2.1)), (h1, .inr (9, [.ref q1, .int u.2.2.2.1, .int u.2.2.2.2.1])), (q1, .inl (c1, 160, .inl u.2.2.2.2.2))]) (va_A [(h0, .inr (9, [.ref q0, .int n0, .int m0])), (q0, .inl (c0, 160, .inl f0)), (h1, .inr (9, [.ref q1, .int n1, .int m1])), (q1, .inl (c1, 160, .inl f1))] sz)) 0 0 (va_A [(h0, .inr (9, [.ref q0, .int n0, .int m0])), (q0, .inl (c0, 160, .inl f0)), (h1, .inr (9, [.ref q1, .int n1, .int m1])), (q1, .inl (c1, 160, .inl f1))] sz) := by
  refine Met.ofW (cc := prog_16_method_13_code) (maxL := 9) (ret := (some .int)) (by decide) rfl ?_
  intro p e s m args below meth c s₁ B hml hv
  obtain ⟨rfl, hsz, hP, hK, hD0, hN⟩ := hv
  have hx := B.exec
  have hb := B.bytes
  have hr := B.returns
  have htw : ∀ w ∈ px_all, w.before _ s = true := fun w h => atoms_spec (ws := px_s20) B.pre w (List.mem_cons_of_mem _ h)
  have hown : s.vm.findClass "MatroidDeskModel$Num" = some m.cls := findClass_of_methodNamed B.named
  have hlocks := B.notSynchronized
  subst hsz
  have hD := hD0.self (sz := s.heap.size)
  generalize hAe : va_A [(h0, .inr (9, [.ref q0, .int n0, .int m0])), (q0, .inl (c0, 160, .inl f0)), (h1, .inr (9, [.ref q1, .int n1, .int m1])), (q1, .inl (c1, 160, .inl f1))] s.heap.size = A at hD ⊢
  have hA : ∀ q : Nat, s.heap.size ≤ q → A q := fun q h => by rw [← hAe]; exact Or.inr h
  have hS : va_S A s.heap s.heap [] := va_S.rf
  have hP : va_P (dC, dI) vwCl [(h0, .inr (9, [.ref q0, .int n0, .int m0])), (q0, .inl (c0, 160, .inl f0)), (h1, .inr (9, [.ref q1, .int n1, .int m1])), (q1, .inl (c1, 160, .inl f1))] s.heap := hP
  have hl := lv_entry ([.ref h0, .ref h1]) (n := 9) (Nat.le_of_ble_eq_true rfl)
  rw [lg_entry_eq]
  generalize (lg_sl ([.ref h0, .ref h1]) ++ List.replicate (9 - (lg_sl ([.ref h0, .ref h1])).length) Slot.unset).toArray = ls at hl ⊢
  have hl : lv_has ls 9 [(0, .ref h0), (1, .ref h1)] := hl
  generalize hQ : MQ _ _ _ _ _ _ _ = Q
  have S49 : ∀ (k49 : Nat) (x2 : Int32) (x3 : Int32) (x4 : Int64) (x6 : Int32) (n0 : Int32) (m0 : Int32) (f0 : Nat → Int32) (n1 : Int32) (m1 : Int32) (f1 : Nat → Int32) (H : Heap) (locs : List Loc) (ls : Array Slot), va_P (dC, dI) vwCl [(h0, .inr (9, [.ref q0, .int n0, .int m0])), (q0, .inl (c0, 160, .inl f0)), (h1, .inr (9, [.ref q1, .int n1, .int m1])), (q1, .inl (c1, 160, .inl f1))] H → va_D A [(h0, .inr (9, [.ref q0, .int n0, .int m0])), (q0, .inl (c0, 160, .inl f0)), (h1, .inr (9, [.ref q1, .int n1, .int m1])), (q1, .inl (c1, 160, .inl f1))] → va_S A s.heap H locs → lv_has ls 9 [(0, .ref h0), (1, .ref h1), (2, .int x2), (3, .int x3), (4, .long x4), (6, .int x6)] → nof_L49 post k49 x2 x3 x4 x6 n0 m0 f0 n1 m1 f1 → W p l e (headSpec px_s20 ({ frames := 1, cells := 0, slots := 0, locals := 27 })).room s m ([.ref h0, .ref h1]).toArray below meth c H locs 0 0 Q (F0 m 49 ls []) := by
    intro k49
    induction k49 with
    | zero => intro x2 x3 x4 x6 n0 m0 f0 n1 m1 f1 H locs ls hP hD hS hl hw; exact False.elim hw
    | succ k49 ih49 =>
      have S117 : ∀ (x2 : Int32) (x3 : Int32) (x4 : Int64) (x6 : Int32) (x7 : Int64) (y0 : Int64) (n0 : Int32) (m0 : Int32) (f0 : Nat → Int32) (n1 : Int32) (m1 : Int32) (f1 : Nat → Int32) (H : Heap) (locs : List Loc) (ls : Array Slot), va_P (dC, dI) vwCl [(h0, .inr (9, [.ref q0, .int n0, .int m0])), (q0, .inl (c0, 160, .inl f0)), (h1, .inr (9, [.ref q1, .int n1, .int m1])), (q1, .inl (c1, 160, .inl f1))] H → va_D A [(h0, .inr (9, [.ref q0, .int n0, .int m0])), (q0, .inl (c0, 160, .inl f0)), (h1, .inr (9, [.ref q1, .int n1, .int m1])), (q1, .inl (c1, 160, .inl f1))] → va_S A s.heap H locs → lv_has ls 9 [(0, .ref h0), (1, .ref h1), (2, .int x2), (3, .int x3), (4, .long x4), (6, .int x6), (7, .long x7)] → nof_L117 (nof_L49 post k49) post x2 x3 x4 x6 x7 y0 n0 m0 f0 n1 m1 f1 → W p l e (headSpec px_s20 ({ frames := 1, cells := 0, slots := 0, locals := 27 })).room s m ([.ref h0, .ref h1]).toArray below meth c H locs 0 0 Q (F0 m 117 ls [.long y0]) := by
        intro x2 x3 x4 x6 x7 y0 n0 m0 f0 n1 m1 f1 H locs ls hP hD hS hl hw
        unfold nof_L117 at hw
        refine lv_lstore (lv' := [(4, .long y0), (0, .ref h0), (1, .ref h1), (2, .int x2), (3, .int x3), (6, .int x6), (7, .long x7)]) hx hb px_d20_117 hl (by decide) rfl (fun ls hl => ?_)
        refine lv_aload_n hx hb px_d20_119 rfl (lv_at hl 1 rfl) ?_
        refine va_get (D := (dC, dI)) (ci := 9) (v := .ref q0) (C := "MatroidDeskModel$Num") (T := px_T9) (N := 3) hx hb htw px_in9 hown hK hP 0 rfl rfl 0 (by decide) (htw _ px_w267) (fun _ h9 => h9) rfl px_d20_120 ?_
        refine lv_iload hx hb px_d20_123 (lv_at hl 5 rfl) ?_
        refine lv_lload hx hb px_d20_125 (lv_at hl 6 rfl) ?_
        refine lv_ldc2 hx hb (own := "MatroidDeskModel$Num") (index := 24) (v := 65536) hown (htw _ px_w280) px_d20_127 ?_
        refine lv_lload hx hb px_d20_130 (lv_at hl 0 rfl) ?_
        refine lv_lmul hx hb px_d20_132 ?_
        refine lv_ladd hx hb px_d20_133 ?_
        refine lv_l2i (v := (x7 + (65536 * y0)).toInt32) hx hb px_d20_134 rfl ?_
        refine lv_topi (fun z1 ez1 => ?_)
        have hw := hw z1 ez1
        obtain ⟨hi135, hw⟩ := hw
        refine va_iast hx hb hK hP hD hS 1 0 rfl rfl hi135 px_d20_135 (fun H locs hP hD hS => ?_)
        have hP : va_P (dC, dI) vwCl [(h0, .inr (9, [.ref q0, .int n0, .int m0])), (q0, .inl (c0, 160, .inl (upd f0 (Int32.toNatClampNeg x6) z1))), (h1, .inr (9, [.ref q1, .int n1, .int m1])), (q1, .inl (c1, 160, .inl f1))] H := hP
        have hD : va_D A [(h0, .inr (9, [.ref q0, .int n0, .int m0])), (q0, .inl (c0, 160, .inl (upd f0 (Int32.toNatClampNeg x6) z1))), (h1, .inr (9, [.ref q1, .int n1, .int m1])), (q1, .inl (c1, 160, .inl f1))] := hD
        obtain ⟨z2, ez2⟩ : ∃ y : Int32, y = x6 + 1 := ⟨_, rfl⟩
        have hw := hw z2 ez2
        refine lv_iinc (v := z2) (lv' := [(6, .int z2), (4, .long y0), (0, .ref h0), (1, .ref h1), (2, .int x2), (3, .int x3), (7, .long x7)]) hx hb px_d20_136 hl (k := 5) rfl (by rw [ez2]; rfl) (by decide) rfl (fun ls hl => ?_)
        refine lv_goto (tgt := 49) hx hb px_d20_139 (by decide) ?_
        exact ih49 x2 x3 y0 z2 n0 m0 (upd f0 (Int32.toNatClampNeg x6) z1) n1 m1 f1 H locs ls hP hD hS (lv_sub hl [2, 3, 4, 5, 1, 0] rfl) hw
      have S93 : ∀ (x2 : Int32) (x3 : Int32) (x4 : Int64) (x6 : Int32) (y0 : Int64) (y1 : Int64) (n0 : Int32) (m0 : Int32) (f0 : Nat → Int32) (n1 : Int32) (m1 : Int32) (f1 : Nat → Int32) (H : Heap) (locs : List Loc) (ls : Array Slot), va_P (dC, dI) vwCl [(h0, .inr (9, [.ref q0, .int n0, .int m0])), (q0, .inl (c0, 160, .inl f0)), (h1, .inr (9, [.ref q1, .int n1, .int m1])), (q1, .inl (c1, 160, .inl f1))] H → va_D A [(h0, .inr (9, [.ref q0, .int n0, .int m0])), (q0, .inl (c0, 160, .inl f0)), (h1, .inr (9, [.ref q1, .int n1, .int m1])), (q1, .inl (c1, 160, .inl f1))] → va_S A s.heap H locs → lv_has ls 9 [(0, .ref h0), (1, .ref h1), (2, .int x2), (3, .int x3), (4, .long x4), (6, .int x6)] → nof_L93 (nof_L49 post k49) post x2 x3 x4 x6 y0 y1 n0 m0 f0 n1 m1 f1 → W p l e (headSpec px_s20 ({ frames := 1, cells := 0, slots := 0, locals := 27 })).room s m ([.ref h0, .ref h1]).toArray below meth c H locs 0 0 Q (F0 m 93 ls [.long y0, .long y1]) := by
        intro x2 x3 x4 x6 y0 y1 n0 m0 f0 n1 m1 f1 H locs ls hP hD hS hl hw
        unfold nof_L93 at hw
        refine lv_lsub hx hb px_d20_93 ?_
        refine lv_topl (fun z3 ez3 => ?_)
        have hw := hw z3 ez3
        refine lv_lstore (lv' := [(7, .long z3), (0, .ref h0), (1, .ref h1), (2, .int x2), (3, .int x3), (4, .long x4), (6, .int x6)]) hx hb px_d20_94 hl (by decide) rfl (fun ls hl => ?_)
        refine lv_lload hx hb px_d20_96 (lv_at hl 0 rfl) ?_
        refine lv_lconst (v := 0) hx hb px_d20_98 (by decide) ?_
        refine W.lcmp hx hb px_d20_99 ?_
        refine lv_if_ge (tgt := 116) hx hb px_d20_100 (by decide) (fun c100 => ?_) (fun c100 => ?_)
        · have hw := hw.1 c100
          refine lv_lconst (v := 0) hx hb px_d20_116 (by decide) ?_
          exact S117 x2 x3 x4 x6 z3 0 n0 m0 f0 n1 m1 f1 H locs ls hP hD hS (lv_sub hl [1, 2, 3, 4, 5, 6, 0] rfl) hw
        · have hw := hw.2 c100
          refine lv_ldc2 hx hb (own := "MatroidDeskModel$Num") (index := 43) (v := 65535) hown (htw _ px_w313) px_d20_103 ?_
          refine lv_lload hx hb px_d20_106 (lv_at hl 0 rfl) ?_
          refine lv_lsub hx hb px_d20_108 ?_
          refine lv_ldc2 hx hb (own := "MatroidDeskModel$Num") (index := 24) (v := 65536) hown (htw _ px_w280) px_d20_109 ?_
          refine lv_ldiv hx hb px_d20_112 (by decide +kernel) ?_
          refine lv_goto (tgt := 117) hx hb px_d20_113 (by decide) ?_
          exact S117 x2 x3 x4 x6 z3 ((65535 - z3) / 65536) n0 m0 f0 n1 m1 f1 H locs ls hP hD hS (lv_sub hl [1, 2, 3, 4, 5, 6, 0] rfl) hw
      intro x2 x3 x4 x6 n0 m0 f0 n1 m1 f1 H locs ls hP hD hS hl hw
      unfold nof_L49 at hw
      refine lv_iload hx hb px_d20_49 (lv_at hl 5 rfl) ?_
      refine lv_aload_n hx hb px_d20_51 rfl (lv_at hl 0 rfl) ?_
      refine va_get (D := (dC, dI)) (ci := 9) (v := .int n0) (C := "MatroidDeskModel$Num") (T := px_T9) (N := 3) hx hb htw px_in9 hown hK hP 0 rfl rfl 1 (by decide) (htw _ px_w271) (fun _ h9 => h9) rfl px_d20_52 ?_
      refine lv_icmp_ge (tgt := 142) hx hb px_d20_55 (by decide) (fun c55 => ?_) (fun c55 => ?_)
      · have hw := hw.1 c55
        refine lv_aload_n hx hb px_d20_142 rfl (lv_at hl 0 rfl) ?_
        have hPc := hP.sub (ws' := [(h0, .inr (9, [.ref q0, .int n0, .int m0])), (q0, .inl (c0, 160, .inl f0))]) [0, 1] rfl
        have hDc := hD.sub (ws' := [(h0, .inr (9, [.ref q0, .int n0, .int m0])), (q0, .inl (c0, 160, .inl f0))]) [0, 1] (by decide) rfl
        have hKc := hK.sub (tys' := [(c0, .int)]) [0] rfl
        have hFc := va_free (wc := [(h0, .inr (9, [.ref q0, .int n0, .int m0])), (q0, .inl (c0, 160, .inl f0))]) hD hS hA [0, 1] rfl
        refine va_callv (va_runV (As := []) (rest := []) ⟨hx, hb, hml, hown, htw⟩ (nt_met l dC dI H.size h0 q0 c0 n0 m0 f0 _ hw) (cwV 0 htw (px_gv px_w300 px_w291 px_w292 px_w149 px_g15) rfl rfl rfl (by decide +kernel) ⟨Nat.le_of_ble_eq_true rfl, Nat.le_of_ble_eq_true rfl⟩) ⟨fun a U g mk q => by obtain ⟨q0, q1, qP, qK, qD, qN⟩ := q; exact ⟨q0, q1, qP, va_K.moved (u := U) (U := U.calling g mk a) (Vm.Alike.refl U.vm) qK, qD, qN.same rfl⟩, va_recv hK hP (ci := 9) (q0 := 0) rfl rfl, fun U hU hW => ⟨rfl, by rw [hU], by rw [hU]; exact hPc, va_K.moved hW.alike hKc, hDc.weaken (fun _ _ _ _ => trivial), hN.warm hW⟩⟩ rfl rfl hl.1 rfl (lv_room (Nat.le_of_ble_eq_true rfl)) px_d20_143 ⟨(Nat.le_of_ble_eq_true rfl), (Nat.le_of_ble_eq_true rfl)⟩) hS (fun q _ h => hFc q h) hFc (fun u t H1 locs ht hvm hw hB hz1 hk1 hS => ?_)
        obtain ⟨v4, v5, v6⟩ := u
        obtain ⟨hP1, hK1, hD1⟩ := hB
        rw [ht] at hP1
        have hK1 := va_K.moved hvm.symm hK1
        obtain ⟨hP, hD⟩ := va_join (wr := [(h1, .inr (9, [.ref q1, .int n1, .int m1])), (q1, .inl (c1, 160, .inl f1))]) (w1 := [(h0, .inr (9, [.ref q0, .int v4, .int v5])), (q0, .inl (c0, 160, .inl v6))]) hP hD [0, 1] [2, 3] rfl rfl (by decide) (by decide) hk1 hFc hP1 hD1
        generalize H1 = H at hP hS ⊢
        have hP : va_P (dC, dI) vwCl [(h1, .inr (9, [.ref q1, .int n1, .int m1])), (q1, .inl (c1, 160, .inl f1)), (h0, .inr (9, [.ref q0, .int v4, .int v5])), (q0, .inl (c0, 160, .inl v6))] H := hP
        have hD : va_D A [(h1, .inr (9, [.ref q1, .int n1, .int m1])), (q1, .inl (c1, 160, .inl f1)), (h0, .inr (9, [.ref q0, .int v4, .int v5])), (q0, .inl (c0, 160, .inl v6))] := hD
        have hP := hP.sub (ws' := [(h0, .inr (9, [.ref q0, .int v4, .int v5])), (q0, .inl (c0, 160, .inl v6)), (h1, .inr (9, [.ref q1, .int n1, .int m1])), (q1, .inl (c1, 160, .inl f1))]) [2, 3, 0, 1] rfl
        have hD := hD.sub (ws' := [(h0, .inr (9, [.ref q0, .int v4, .int v5])), (q0, .inl (c0, 160, .inl v6)), (h1, .inr (9, [.ref q1, .int n1, .int m1])), (q1, .inl (c1, 160, .inl f1))]) [2, 3, 0, 1] (by decide) rfl
        refine lv_iload_n hx hb px_d20_146 rfl (lv_at hl 2 rfl) ?_
        rw [← hQ]
        exact W.iret (v := x2) hx hb hr (fun t ht hW => ⟨⟨x2, (v4, v5, v6, n1, m1, f1), rfl, hw, by rw [ht]; exact hP, va_K.moved hW.alike hK, hD⟩, hS.F ht⟩) hS.2.2 px_d20_147
      · have hw := hw.2 c55
        refine lv_aload_n hx hb px_d20_58 rfl (lv_at hl 0 rfl) ?_
        refine va_get (D := (dC, dI)) (ci := 9) (v := .ref q0) (C := "MatroidDeskModel$Num") (T := px_T9) (N := 3) hx hb htw px_in9 hown hK hP 0 rfl rfl 0 (by decide) (htw _ px_w267) (fun _ h9 => h9) rfl px_d20_59 ?_
        refine lv_iload hx hb px_d20_62 (lv_at hl 5 rfl) ?_
        obtain ⟨hi64, hw⟩ := hw
        refine va_iald hx hb hK hP 1 0 rfl rfl hi64 px_d20_64 ?_
        refine lv_i2l (v := (f0 (Int32.toNatClampNeg x6)).toInt64) hx hb px_d20_65 rfl ?_
        refine lv_lload hx hb px_d20_66 (lv_at hl 4 rfl) ?_
        refine lv_lsub hx hb px_d20_68 ?_
        refine lv_iload hx hb px_d20_69 (lv_at hl 5 rfl) ?_
        refine lv_aload_n hx hb px_d20_71 rfl (lv_at hl 1 rfl) ?_
        refine va_get (D := (dC, dI)) (ci := 9) (v := .int n1) (C := "MatroidDeskModel$Num") (T := px_T9) (N := 3) hx hb htw px_in9 hown hK hP 2 rfl rfl 1 (by decide) (htw _ px_w271) (fun _ h9 => h9) rfl px_d20_72 ?_
        refine lv_icmp_ge (tgt := 92) hx hb px_d20_75 (by decide) (fun c75 => ?_) (fun c75 => ?_)
        · have hw := hw.1 c75
          refine lv_lconst (v := 0) hx hb px_d20_92 (by decide) ?_
          exact S93 x2 x3 x4 x6 0 (((f0 (Int32.toNatClampNeg x6)).toInt64) - x4) n0 m0 f0 n1 m1 f1 H locs ls hP hD hS (lv_sub hl [0, 1, 2, 3, 4, 5] rfl) hw
        · have hw := hw.2 c75
          refine lv_aload_n hx hb px_d20_78 rfl (lv_at hl 1 rfl) ?_
          refine va_get (D := (dC, dI)) (ci := 9) (v := .ref q1) (C := "MatroidDeskModel$Num") (T := px_T9) (N := 3) hx hb htw px_in9 hown hK hP 2 rfl rfl 0 (by decide) (htw _ px_w267) (fun _ h9 => h9) rfl px_d20_79 ?_
          refine lv_iload hx hb px_d20_82 (lv_at hl 5 rfl) ?_
          obtain ⟨hi84, hw⟩ := hw
          refine va_iald hx hb hK hP 3 1 rfl rfl hi84 px_d20_84 ?_
          refine lv_i2l (v := (f1 (Int32.toNatClampNeg x6)).toInt64) hx hb px_d20_85 rfl ?_
          refine lv_iload_n hx hb px_d20_86 rfl (lv_at hl 2 rfl) ?_
          refine lv_i2l (v := x2.toInt64) hx hb px_d20_87 rfl ?_
          refine lv_lmul hx hb px_d20_88 ?_
          refine lv_goto (tgt := 93) hx hb px_d20_89 (by decide) ?_
          exact S93 x2 x3 x4 x6 (((f1 (Int32.toNatClampNeg x6)).toInt64) * x2.toInt64) (((f0 (Int32.toNatClampNeg x6)).toInt64) - x4) n0 m0 f0 n1 m1 f1 H locs ls hP hD hS (lv_sub hl [0, 1, 2, 3, 4, 5] rfl) hw
  have S5 : ∀ (k5 : Nat) (x2 : Int32) (x3 : Int32) (n0 : Int32) (m0 : Int32) (f0 : Nat → Int32) (n1 : Int32) (m1 : Int32) (f1 : Nat → Int32) (H : Heap) (locs : List Loc) (ls : Array Slot), va_P (dC, dI) vwCl [(h0, .inr (9, [.ref q0, .int n0, .int m0])), (q0, .inl (c0, 160, .inl f0)), (h1, .inr (9, [.ref q1, .int n1, .int m1])), (q1, .inl (c1, 160, .inl f1))] H → va_D A [(h0, .inr (9, [.ref q0, .int n0, .int m0])), (q0, .inl (c0, 160, .inl f0)), (h1, .inr (9, [.ref q1, .int n1, .int m1])), (q1, .inl (c1, 160, .inl f1))] → va_S A s.heap H locs → lv_has ls 9 [(0, .ref h0), (1, .ref h1), (2, .int x2), (3, .int x3)] → nof_L5 post k5 x2 x3 n0 m0 f0 n1 m1 f1 → W p l e (headSpec px_s20 ({ frames := 1, cells := 0, slots := 0, locals := 27 })).room s m ([.ref h0, .ref h1]).toArray below meth c H locs 0 0 Q (F0 m 5 ls []) := by
    intro k5
    induction k5 with
    | zero => intro x2 x3 n0 m0 f0 n1 m1 f1 H locs ls hP hD hS hl hw; exact False.elim hw
    | succ k5 ih5 =>
      have S40 : ∀ (x2 : Int32) (x3 : Int32) (x4 : Int32) (n0 : Int32) (m0 : Int32) (f0 : Nat → Int32) (n1 : Int32) (m1 : Int32) (f1 : Nat → Int32) (H : Heap) (locs : List Loc) (ls : Array Slot), va_P (dC, dI) vwCl [(h0, .inr (9, [.ref q0, .int n0, .int m0])), (q0, .inl (c0, 160, .inl f0)), (h1, .inr (9, [.ref q1, .int n1, .int m1])), (q1, .inl (c1, 160, .inl f1))] H → va_D A [(h0, .inr (9, [.ref q0, .int n0, .int m0])), (q0, .inl (c0, 160, .inl f0)), (h1, .inr (9, [.ref q1, .int n1, .int m1])), (q1, .inl (c1, 160, .inl f1))] → va_S A s.heap H locs → lv_has ls 9 [(0, .ref h0), (1, .ref h1), (2, .int x2), (3, .int x3), (4, .int x4)] → nof_L40 (nof_L5 post k5) post x2 x3 x4 n0 m0 f0 n1 m1 f1 → W p l e (headSpec px_s20 ({ frames := 1, cells := 0, slots := 0, locals := 27 })).room s m ([.ref h0, .ref h1]).toArray below meth c H locs 0 0 Q (F0 m 40 ls []) := by
        intro x2 x3 x4 n0 m0 f0 n1 m1 f1 H locs ls hP hD hS hl hw
        unfold nof_L40 at hw
        refine lv_goto (tgt := 5) hx hb px_d20_40 (by decide) ?_
        exact ih5 x2 x3 n0 m0 f0 n1 m1 f1 H locs ls hP hD hS (lv_sub hl [0, 1, 2, 3] rfl) hw
      intro x2 x3 n0 m0 f0 n1 m1 f1 H locs ls hP hD hS hl hw
      unfold nof_L5 at hw
      refine lv_iload_n hx hb px_d20_5 rfl (lv_at hl 2 rfl) ?_
      refine lv_iload_n hx hb px_d20_6 rfl (lv_at hl 3 rfl) ?_
      refine lv_icmp_ge (tgt := 43) hx hb px_d20_7 (by decide) (fun c7 => ?_) (fun c7 => ?_)
      · have hw := hw.1 c7
        refine lv_lconst (v := 0) hx hb px_d20_43 (by decide) ?_
        refine lv_lstore (lv' := [(4, .long 0), (0, .ref h0), (1, .ref h1), (2, .int x2), (3, .int x3)]) hx hb px_d20_44 hl (by decide) rfl (fun ls hl => ?_)
        refine lv_iconst (v := 0) hx hb px_d20_46 (by decide) ?_
        refine lv_istore (lv' := [(6, .int 0), (4, .long 0), (0, .ref h0), (1, .ref h1), (2, .int x2), (3, .int x3)]) hx hb px_d20_47 hl (by decide) rfl (fun ls hl => ?_)
        obtain ⟨k9, hw⟩ := hw
        exact S49 k9 x2 x3 0 0 n0 m0 f0 n1 m1 f1 H locs ls hP hD hS (lv_sub hl [2, 3, 4, 5, 1, 0] rfl) hw
      · have hw := hw.2 c7
        refine lv_iload_n hx hb px_d20_10 rfl (lv_at hl 2 rfl) ?_
        refine lv_iload_n hx hb px_d20_11 rfl (lv_at hl 3 rfl) ?_
        refine lv_iadd hx hb px_d20_12 ?_
        refine lv_iconst (v := 1) hx hb px_d20_13 (by decide) ?_
        refine lv_iadd hx hb px_d20_14 ?_
        refine lv_iconst (v := 2) hx hb px_d20_15 (by decide) ?_
        refine lv_idiv hx hb px_d20_16 (by decide +kernel) ?_
        refine lv_topi (fun z7 ez7 => ?_)
        have hw := hw z7 ez7
        refine lv_istore (lv' := [(4, .int z7), (0, .ref h0), (1, .ref h1), (2, .int x2), (3, .int x3)]) hx hb px_d20_17 hl (by decide) rfl (fun ls hl => ?_)
        refine lv_aload_n hx hb px_d20_19 rfl (lv_at hl 2 rfl) ?_
        refine lv_iload hx hb px_d20_20 (lv_at hl 0 rfl) ?_
        refine lv_aload_n hx hb px_d20_22 rfl (lv_at hl 1 rfl) ?_
        have hPc := hP.sub (ws' := [(h1, .inr (9, [.ref q1, .int n1, .int m1])), (q1, .inl (c1, 160, .inl f1)), (h0, .inr (9, [.ref q0, .int n0, .int m0])), (q0, .inl (c0, 160, .inl f0))]) [2, 3, 0, 1] rfl
        have hDc := hD.sub (ws' := [(h1, .inr (9, [.ref q1, .int n1, .int m1])), (q1, .inl (c1, 160, .inl f1)), (h0, .inr (9, [.ref q0, .int n0, .int m0])), (q0, .inl (c0, 160, .inl f0))]) [2, 3, 0, 1] (by decide) rfl
        have hKc := hK.sub (tys' := [(c1, .int), (c0, .int)]) [1, 0] rfl
        have hFc := va_free (wc := [(h1, .inr (9, [.ref q1, .int n1, .int m1])), (q1, .inl (c1, 160, .inl f1)), (h0, .inr (9, [.ref q0, .int n0, .int m0])), (q0, .inl (c0, 160, .inl f0))]) hD hS hA [2, 3, 0, 1] rfl
        refine va_calli (va_runS (As := [.ref h1, .int z7, .ref h0]) (rest := []) ⟨hx, hb, hml, hown, htw⟩ (nam_met l dC dI H.size h1 q1 h0 q0 c1 c0 z7 n1 m1 f1 n0 m0 f0 _ hw) (cwS 3 htw (px_gs px_w312 px_w315 px_w149 px_g21) rfl rfl rfl (by decide +kernel) ⟨Nat.le_of_ble_eq_true rfl, Nat.le_of_ble_eq_true rfl⟩) ⟨fun a U g mk q => by obtain ⟨q0, q1, qP, qK, qD, qN⟩ := q; exact ⟨q0, q1, qP, va_K.moved (u := U) (U := U.calling g mk a) (Vm.Alike.refl U.vm) qK, qD, qN.same rfl⟩, fun U hU hW => ⟨rfl, by rw [hU], by rw [hU]; exact hPc, va_K.moved hW.alike hKc, hDc.weaken (fun _ _ _ _ => trivial), hN.warm hW⟩⟩ rfl rfl hl.1 rfl (lv_room (Nat.le_of_ble_eq_true rfl)) px_d20_23 ⟨(Nat.le_of_ble_eq_true rfl), (Nat.le_of_ble_eq_true rfl)⟩) hS (fun q _ h => hFc q h) hFc (fun r23 u t H1 locs ht hvm hw hB hz1 hk1 hS => ?_)
        obtain ⟨v8, v9, v10, v11, v12, v13⟩ := u
        obtain ⟨hP1, hK1, hD1⟩ := hB
        rw [ht] at hP1
        have hK1 := va_K.moved hvm.symm hK1
        obtain ⟨hP, hD⟩ := va_join (wr := []) (w1 := [(h1, .inr (9, [.ref q1, .int v8, .int v9])), (q1, .inl (c1, 160, .inl v10)), (h0, .inr (9, [.ref q0, .int v11, .int v12])), (q0, .inl (c0, 160, .inl v13))]) hP hD [2, 3, 0, 1] [] rfl rfl (by decide) (by decide) hk1 hFc hP1 hD1
        generalize H1 = H at hP hS ⊢
        have hP : va_P (dC, dI) vwCl [(h1, .inr (9, [.ref q1, .int v8, .int v9])), (q1, .inl (c1, 160, .inl v10)), (h0, .inr (9, [.ref q0, .int v11, .int v12])), (q0, .inl (c0, 160, .inl v13))] H := hP
        have hD : va_D A [(h1, .inr (9, [.ref q1, .int v8, .int v9])), (q1, .inl (c1, 160, .inl v10)), (h0, .inr (9, [.ref q0, .int v11, .int v12])), (q0, .inl (c0, 160, .inl v13))] := hD
        have hP := hP.sub (ws' := [(h0, .inr (9, [.ref q0, .int v11, .int v12])), (q0, .inl (c0, 160, .inl v13)), (h1, .inr (9, [.ref q1, .int v8, .int v9])), (q1, .inl (c1, 160, .inl v10))]) [2, 3, 0, 1] rfl
        have hD := hD.sub (ws' := [(h0, .inr (9, [.ref q0, .int v11, .int v12])), (q0, .inl (c0, 160, .inl v13)), (h1, .inr (9, [.ref q1, .int v8, .int v9])), (q1, .inl (c1, 160, .inl v10))]) [2, 3, 0, 1] (by decide) rfl
        refine lv_if_eq (tgt := 35) hx hb px_d20_26 (by decide) (fun c26 => ?_) (fun c26 => ?_)
        · have hw := hw.1 c26
          refine lv_iload hx hb px_d20_35 (lv_at hl 0 rfl) ?_
          refine lv_iconst (v := 1) hx hb px_d20_37 (by decide) ?_
          refine lv_isub hx hb px_d20_38 ?_
          refine lv_topi (fun z14 ez14 => ?_)
          have hw := hw z14 ez14
          refine lv_istore_n (lv' := [(3, .int z14), (4, .int z7), (0, .ref h0), (1, .ref h1), (2, .int x2)]) hx hb px_d20_39 rfl hl (by decide) rfl (fun ls hl => ?_)
          exact S40 x2 z14 z7 v11 v12 v13 v8 v9 v10 H locs ls hP hD hS (lv_sub hl [2, 3, 4, 0, 1] rfl) hw
        · have hw := hw.2 c26
          refine lv_iload hx hb px_d20_29 (lv_at hl 0 rfl) ?_
          refine lv_istore_n (lv' := [(2, .int z7), (4, .int z7), (0, .ref h0), (1, .ref h1), (3, .int x3)]) hx hb px_d20_31 rfl hl (by decide) rfl (fun ls hl => ?_)
          refine lv_goto (tgt := 40) hx hb px_d20_32 (by decide) ?_
          exact S40 z7 x3 z7 v11 v12 v13 v8 v9 v10 H locs ls hP hD hS (lv_sub hl [2, 3, 0, 4, 1] rfl) hw
  unfold nof_wp at hw
  have hS0 := hS
  obtain ⟨H, hH9⟩ : ∃ z, z = s.heap := ⟨_, rfl⟩
  have hP : va_P (dC, dI) vwCl [(h0, .inr (9, [.ref q0, .int n0, .int m0])), (q0, .inl (c0, 160, .inl f0)), (h1, .inr (9, [.ref q1, .int n1, .int m1])), (q1, .inl (c1, 160, .inl f1))] H := by rw [hH9]; exact hP
  obtain ⟨locs, hlo9⟩ : ∃ z : List Loc, z = [] := ⟨_, rfl⟩
  have hS : va_S A s.heap H locs := by rw [hH9, hlo9]; exact hS
  suffices hG : W p l e (headSpec px_s20 ({ frames := 1, cells := 0, slots := 0, locals := 27 })).room s m ([.ref h0, .ref h1]).toArray below meth c H locs 0 0 Q (F0 m 0 ls []) by rw [hH9, hlo9] at hG; exact hG
  refine lv_iconst (v := 1) hx hb px_d20_0 (by decide) ?_
  refine lv_istore_n (lv' := [(2, .int 1), (0, .ref h0), (1, .ref h1)]) hx hb px_d20_1 rfl hl (by decide) rfl (fun ls hl => ?_)
  refine lv_ldc hx hb (own := "MatroidDeskModel$Num") (index := 38) (v := 65535) hown (htw _ px_w311) px_d20_2 ?_
  refine lv_istore_n (lv' := [(3, .int 65535), (2, .int 1), (0, .ref h0), (1, .ref h1)]) hx hb px_d20_4 rfl hl (by decide) rfl (fun ls hl => ?_)
  obtain ⟨k9, hw⟩ := hw
  exact S5 k9 1 65535 n0 m0 f0 n1 m1 f1 H locs ls hP hD hS (lv_sub hl [2, 3, 1, 0] rfl) hw

