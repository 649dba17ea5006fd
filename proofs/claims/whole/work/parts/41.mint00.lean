/-! MatroidDeskModel.polynomial(I)V -/
def w79_L230 (K108 : Int32 → Int32 → (Nat → Int32) → (Nat → Int32) → (Nat → Int32) → (Nat → Int32) → (Nat → Int32) → (Nat → Int64) → (Nat → Int64) → Prop) (K149 : Int32 → Int32 → Int32 → Int32 → Int32 → (Nat → Int32) → (Nat → Int32) → (Nat → Int32) → (Nat → Int32) → (Nat → Int32) → (Nat → Int64) → (Nat → Int64) → Prop) (K158 : Int32 → Int32 → Int32 → Int32 → Int32 → Int32 → (Nat → Int32) → (Nat → Int32) → (Nat → Int32) → (Nat → Int32) → (Nat → Int32) → (Nat → Int64) → (Nat → Int64) → Prop) (post : (Nat → Int32) → (Nat → Int32) → (Nat → Int32) → (Nat → Int32) → (Nat → Int32) → (Nat → Int64) → (Nat → Int64) → Prop) (x1 : Int32) (x2 : Int32) (x3 : Int32) (x4 : Int32) (x5 : Int32) (x6 : Int32) (x7 : Int64) (y0 : Int64) (y1 : Int64) (y2 : Int32) (iv : Nat → Int32) (g_elements : Nat → Int32) (g_ranks : Nat → Int32) (g_rankOf : Nat → Int32) (g_sizes : Nat → Int32) (g_coefficients : Nat → Int64) (g_choices : Nat → Int64) : Prop := ∀ z1 : Int64, z1 = y1 + y0 → vp_in y2 169 ∧ (∀ z2 : Int32, z2 = x6 + 1 → K158 x1 x2 x3 x4 x5 z2 iv g_elements g_ranks g_rankOf g_sizes (vp_updL g_coefficients (Int32.toNatClampNeg y2) z1) g_choices)
def w79_L158 (K108 : Int32 → Int32 → (Nat → Int32) → (Nat → Int32) → (Nat → Int32) → (Nat → Int32) → (Nat → Int32) → (Nat → Int64) → (Nat → Int64) → Prop) (K149 : Int32 → Int32 → Int32 → Int32 → Int32 → (Nat → Int32) → (Nat → Int32) → (Nat → Int32) → (Nat → Int32) → (Nat → Int32) → (Nat → Int64) → (Nat → Int64) → Prop) (post : (Nat → Int32) → (Nat → Int32) → (Nat → Int32) → (Nat → Int32) → (Nat → Int32) → (Nat → Int64) → (Nat → Int64) → Prop) : Nat → Int32 → Int32 → Int32 → Int32 → Int32 → Int32 → (Nat → Int32) → (Nat → Int32) → (Nat → Int32) → (Nat → Int32) → (Nat → Int32) → (Nat → Int64) → (Nat → Int64) → Prop
  | 0 => fun _ _ _ _ _ _ _ _ _ _ _ _ _ => False
  | k + 1 => fun x1 x2 x3 x4 x5 x6 iv g_elements g_ranks g_rankOf g_sizes g_coefficients g_choices => (x4 < x6 → ∀ z3 : Int32, z3 = x5 + 1 → K149 x1 x2 x3 x4 z3 iv g_elements g_ranks g_rankOf g_sizes g_coefficients g_choices) ∧ (¬ x4 < x6 → vp_in ((13 * x3) + x5) 169 ∧ (vp_in ((13 * x4) + x6) 169 ∧ (∀ z4 : Int64, z4 = (g_choices (Int32.toNatClampNeg ((13 * x3) + x5))) * (g_choices (Int32.toNatClampNeg ((13 * x4) + x6))) → vp_in ((13 * x5) + x6) 169 ∧ ((¬ ((((x3 - x5) + x4) - x6) - (((x3 - x5) + x4) - x6) / 2 * 2) = 0 → w79_L230 K108 K149 (w79_L158 K108 K149 post k) post x1 x2 x3 x4 x5 x6 z4 (-z4) (g_coefficients (Int32.toNatClampNeg ((13 * x5) + x6))) ((13 * x5) + x6) iv g_elements g_ranks g_rankOf g_sizes g_coefficients g_choices) ∧ (((((x3 - x5) + x4) - x6) - (((x3 - x5) + x4) - x6) / 2 * 2) = 0 → w79_L230 K108 K149 (w79_L158 K108 K149 post k) post x1 x2 x3 x4 x5 x6 z4 z4 (g_coefficients (Int32.toNatClampNeg ((13 * x5) + x6))) ((13 * x5) + x6) iv g_elements g_ranks g_rankOf g_sizes g_coefficients g_choices)))))
def w79_L149 (K108 : Int32 → Int32 → (Nat → Int32) → (Nat → Int32) → (Nat → Int32) → (Nat → Int32) → (Nat → Int32) → (Nat → Int64) → (Nat → Int64) → Prop) (post : (Nat → Int32) → (Nat → Int32) → (Nat → Int32) → (Nat → Int32) → (Nat → Int32) → (Nat → Int64) → (Nat → Int64) → Prop) : Nat → Int32 → Int32 → Int32 → Int32 → Int32 → (Nat → Int32) → (Nat → Int32) → (Nat → Int32) → (Nat → Int32) → (Nat → Int32) → (Nat → Int64) → (Nat → Int64) → Prop
  | 0 => fun _ _ _ _ _ _ _ _ _ _ _ _ => False
  | k + 1 => fun x1 x2 x3 x4 x5 iv g_elements g_ranks g_rankOf g_sizes g_coefficients g_choices => (x3 < x5 → ∀ z5 : Int32, z5 = x2 + 1 → K108 x1 z5 iv g_elements g_ranks g_rankOf g_sizes g_coefficients g_choices) ∧ (¬ x3 < x5 → ∃ j158, w79_L158 K108 (w79_L149 K108 post k) post j158 x1 x2 x3 x4 x5 0 iv g_elements g_ranks g_rankOf g_sizes g_coefficients g_choices)
def w79_L108 (post : (Nat → Int32) → (Nat → Int32) → (Nat → Int32) → (Nat → Int32) → (Nat → Int32) → (Nat → Int64) → (Nat → Int64) → Prop) : Nat → Int32 → Int32 → (Nat → Int32) → (Nat → Int32) → (Nat → Int32) → (Nat → Int32) → (Nat → Int32) → (Nat → Int64) → (Nat → Int64) → Prop
  | 0 => fun _ _ _ _ _ _ _ _ _ => False
  | k + 1 => fun x1 x2 iv g_elements g_ranks g_rankOf g_sizes g_coefficients g_choices => w71_wp (fun r111 v6 v7 => (r111 < x2 → post v6 v7 g_ranks g_rankOf g_sizes g_coefficients g_choices) ∧ (¬ r111 < x2 → vp_in x1 26 ∧ (w70_wp (fun r126 v8 v9 => ∀ z10 : Int32, z10 = (g_ranks (Int32.toNatClampNeg x1)) - r126 → vp_in x2 4096 ∧ (w70_wp (fun r140 v11 v12 => ∀ z13 : Int32, z13 = (g_sizes (Int32.toNatClampNeg x2)) - r140 → ∃ j149, w79_L149 (w79_L108 post k) post j149 x1 x2 z10 z13 0 v11 v7 g_ranks v12 g_sizes g_coefficients g_choices) x1 x2 v8 v9)) x1 x2 v6 g_rankOf))) x1 iv g_elements
def w79_L93 (K24 : Int32 → Int32 → (Nat → Int32) → (Nat → Int32) → (Nat → Int32) → (Nat → Int32) → (Nat → Int32) → (Nat → Int64) → (Nat → Int64) → Prop) (K32 : Int32 → Int32 → Int32 → (Nat → Int32) → (Nat → Int32) → (Nat → Int32) → (Nat → Int32) → (Nat → Int32) → (Nat → Int64) → (Nat → Int64) → Prop) (post : (Nat → Int32) → (Nat → Int32) → (Nat → Int32) → (Nat → Int32) → (Nat → Int32) → (Nat → Int64) → (Nat → Int64) → Prop) (x1 : Int32) (x2 : Int32) (x3 : Int32) (y0 : Int64) (y1 : Int32) (iv : Nat → Int32) (g_elements : Nat → Int32) (g_ranks : Nat → Int32) (g_rankOf : Nat → Int32) (g_sizes : Nat → Int32) (g_coefficients : Nat → Int64) (g_choices : Nat → Int64) : Prop := vp_in y1 169 ∧ (∀ z14 : Int32, z14 = x3 + 1 → K32 x1 x2 z14 iv g_elements g_ranks g_rankOf g_sizes g_coefficients (vp_updL g_choices (Int32.toNatClampNeg y1) y0))
def w79_L32 (K24 : Int32 → Int32 → (Nat → Int32) → (Nat → Int32) → (Nat → Int32) → (Nat → Int32) → (Nat → Int32) → (Nat → Int64) → (Nat → Int64) → Prop) (post : (Nat → Int32) → (Nat → Int32) → (Nat → Int32) → (Nat → Int32) → (Nat → Int32) → (Nat → Int64) → (Nat → Int64) → Prop) : Nat → Int32 → Int32 → Int32 → (Nat → Int32) → (Nat → Int32) → (Nat → Int32) → (Nat → Int32) → (Nat → Int32) → (Nat → Int64) → (Nat → Int64) → Prop
  | 0 => fun _ _ _ _ _ _ _ _ _ _ => False
  | k + 1 => fun x1 x2 x3 iv g_elements g_ranks g_rankOf g_sizes g_coefficients g_choices => (13 ≤ x3 → ∀ z15 : Int32, z15 = x2 + 1 → K24 x1 z15 iv g_elements g_ranks g_rankOf g_sizes g_coefficients g_choices) ∧ (¬ 13 ≤ x3 → (¬ x3 = 0 → (¬ x2 = 0 → vp_in ((13 * (x2 - 1)) + x3) 169 ∧ (vp_in (((13 * (x2 - 1)) + x3) - 1) 169 ∧ (w79_L93 K24 (w79_L32 K24 post k) post x1 x2 x3 ((g_choices (Int32.toNatClampNeg ((13 * (x2 - 1)) + x3))) + (g_choices (Int32.toNatClampNeg (((13 * (x2 - 1)) + x3) - 1)))) ((13 * x2) + x3) iv g_elements g_ranks g_rankOf g_sizes g_coefficients g_choices))) ∧ (x2 = 0 → w79_L93 K24 (w79_L32 K24 post k) post x1 x2 x3 0 ((13 * x2) + x3) iv g_elements g_ranks g_rankOf g_sizes g_coefficients g_choices)) ∧ (x3 = 0 → w79_L93 K24 (w79_L32 K24 post k) post x1 x2 x3 1 ((13 * x2) + x3) iv g_elements g_ranks g_rankOf g_sizes g_coefficients g_choices))
def w79_L24 (post : (Nat → Int32) → (Nat → Int32) → (Nat → Int32) → (Nat → Int32) → (Nat → Int32) → (Nat → Int64) → (Nat → Int64) → Prop) : Nat → Int32 → Int32 → (Nat → Int32) → (Nat → Int32) → (Nat → Int32) → (Nat → Int32) → (Nat → Int32) → (Nat → Int64) → (Nat → Int64) → Prop
  | 0 => fun _ _ _ _ _ _ _ _ _ => False
  | k + 1 => fun x1 x2 iv g_elements g_ranks g_rankOf g_sizes g_coefficients g_choices => (13 ≤ x2 → ∃ j108, w79_L108 post j108 x1 0 iv g_elements g_ranks g_rankOf g_sizes g_coefficients g_choices) ∧ (¬ 13 ≤ x2 → ∃ j32, w79_L32 (w79_L24 post k) post j32 x1 x2 0 iv g_elements g_ranks g_rankOf g_sizes g_coefficients g_choices)
def w79_L2 (post : (Nat → Int32) → (Nat → Int32) → (Nat → Int32) → (Nat → Int32) → (Nat → Int32) → (Nat → Int64) → (Nat → Int64) → Prop) : Nat → Int32 → Int32 → (Nat → Int32) → (Nat → Int32) → (Nat → Int32) → (Nat → Int32) → (Nat → Int32) → (Nat → Int64) → (Nat → Int64) → Prop
  | 0 => fun _ _ _ _ _ _ _ _ _ => False
  | k + 1 => fun x1 x2 iv g_elements g_ranks g_rankOf g_sizes g_coefficients g_choices => (169 ≤ x2 → ∃ j24, w79_L24 post j24 x1 0 iv g_elements g_ranks g_rankOf g_sizes g_coefficients g_choices) ∧ (¬ 169 ≤ x2 → vp_in x2 169 ∧ (∀ z16 : Int32, z16 = x2 + 1 → (w79_L2 post k) x1 z16 iv g_elements g_ranks g_rankOf g_sizes (vp_updL g_coefficients (Int32.toNatClampNeg x2) 0) g_choices))
def w79_wp (post : (Nat → Int32) → (Nat → Int32) → (Nat → Int32) → (Nat → Int32) → (Nat → Int32) → (Nat → Int64) → (Nat → Int64) → Prop) (a1x : Int32) (iv : Nat → Int32) (g_elements : Nat → Int32) (g_ranks : Nat → Int32) (g_rankOf : Nat → Int32) (g_sizes : Nat → Int32) (g_coefficients : Nat → Int64) (g_choices : Nat → Int64) : Prop := ∃ j2, w79_L2 post j2 a1x 0 iv g_elements g_ranks g_rankOf g_sizes g_coefficients g_choices
set_option maxHeartbeats 8000000 in
set_option maxRecDepth 100000 in
theorem w79_met (l : Launch) (dC : Nat → ClassId) (dI : Nat → Nat → Nat) (sz : Nat) (h0 : Nat) (rf : Nat → Nat) (c_elements : ClassId) (c_ranks : ClassId) (c_rankOf : ClassId) (c_sizes : ClassId) (c_coefficients : ClassId) (c_choices : ClassId) (a1x : Int32) (iv : Nat → Int32) (g_elements : Nat → Int32) (g_ranks : Nat → Int32) (g_rankOf : Nat → Int32) (g_sizes : Nat → Int32) (g_coefficients : Nat → Int64) (g_choices : Nat → Int64) (post : (Nat → Int32) → (Nat → Int32) → (Nat → Int32) → (Nat → Int32) → (Nat → Int32) → (Nat → Int64) → (Nat → Int64) → Prop) (hw : w79_wp post a1x iv g_elements g_ranks g_rankOf g_sizes g_coefficients g_choices) : Met l px_y79 px_s79 ({ frames := 1, cells := 0, slots := 0, locals := 22 }) (va_Pc [.ref h0, .int a1x] (fun U => U.heap.size = sz ∧ va_P (dC, dI) vwCl [(h0, .inr (8, px_mf rf iv)), (rf 19, .inl (c_elements, 26, .inl g_elements)), (rf 21, .inl (c_ranks, 26, .inl g_ranks)), (rf 25, .inl (c_rankOf, 106496, .inl g_rankOf)), (rf 28, .inl (c_sizes, 4096, .inl g_sizes)), (rf 29, .inl (c_coefficients, 169, .inr (.inl g_coefficients))), (rf 30, .inl (c_choices, 169, .inr (.inl g_choices)))] U.heap ∧ va_K (dC, dI) vwCl [(c_elements, .int), (c_ranks, .int), (c_rankOf, .byte), (c_sizes, .int), (c_coefficients, .long), (c_choices, .long)] U ∧ va_D (fun _ => True) [(h0, .inr (8, px_mf rf iv)), (rf 19, .inl (c_elements, 26, .inl g_elements)), (rf 21, .inl (c_ranks, 26, .inl g_ranks)), (rf 25, .inl (c_rankOf, 106496, .inl g_rankOf)), (rf 28, .inl (c_sizes, 4096, .inl g_sizes)), (rf 29, .inl (c_coefficients, 169, .inr (.inl g_coefficients))), (rf 30, .inl (c_choices, 169, .inr (.inl g_choices)))] ∧ px_N U)) (va_Qv (fun (u : (Nat → Int32) × (Nat → Int32) × (Nat → Int32) × (Nat → Int32) × (Nat → Int32) × (Nat → Int64) × (Nat → Int64)) => post u.1 u.2.1 u.2.2.1 u.2.2.2.1 u.2.2.2.2.1 u.2.2.2.2.2.1 u.2.2.2.2.2.2) (fun (u : (Nat → Int32) × (Nat → Int32) × (Nat → Int32) × (Nat → Int32) × (Nat → Int32) × (Nat → Int64) × (Nat → Int64)) (t : State) => va_P (dC, dI) vwCl [(h0, .inr (8, px_mf rf u.1)), (rf 19, .inl (c_elements, 26, .inl u.2.1)), (rf 21, .inl (c_ranks, 26, .inl u.2.2.1)), (rf 25, .inl (c_rankOf, 106496, .inl u.2.2.2.1)), (rf 28, .inl (c_sizes, 4096, .inl u.2.2.2.2.1)), (rf 29, .inl (c_coefficients, 169, .inr (.inl u.2.2.2.2.2.1))), (rf 30, .inl (c_choices, 169, .inr (.inl u.2.2.2.2.2.2)))] t.heap ∧ va_K (dC, dI) vwCl [(c_elements, .int), (c_ranks, .int), (c_rankOf, .byte), (c_sizes, .int), (c_coefficients, .long), (c_choices, .long)] t ∧ va_D (va_A [(h0, .inr (8, px_mf rf iv)), (rf 19, .inl (c_elements, 26, .inl g_elements)), (rf 21, .inl (c_ranks, 26, .inl g_ranks)), (rf 25, .inl (c_rankOf, 106496, .inl g_rankOf)), (rf 28, .inl (c_sizes, 4096, .inl g_sizes)), (rf 29, .inl (c_coefficients, 169, .inr (.inl g_coefficients))), (rf 30, .inl (c_choices, 169, .inr (.inl g_choices)))] sz) [(h0, .inr (8, px_mf rf u.1)), (rf 19, .inl (c_elements, 26, .inl u.2.1)), (rf 21, .inl (c_ranks, 26, .inl u.2.2.1)), (rf 25, .inl (c_rankOf, 106496, .inl u.2.2.2.1)), (rf 28, .inl (c_sizes, 4096, .inl u.2.2.2.2.1)), (rf 29, .inl (c_coefficients, 169, .inr (.inl u.2.2.2.2.2.1))), (rf 30, .inl (c_choices, 169, .inr (.inl u.2.2.2.2.2.2)))]) (va_A [(h0, .inr (8, px_mf rf iv)), (rf 19, .inl (c_elements, 26, .inl g_elements)), (rf 21, .inl (c_ranks, 26, .inl g_ranks)), (rf 25, .inl (c_rankOf, 106496, .inl g_rankOf)), (rf 28, .inl (c_sizes, 4096, .inl g_sizes)), (rf 29, .inl (c_coefficients, 169, .inr (.inl g_coefficients))), (rf 30, .inl (c_choices, 169, .inr (.inl g_choices)))] sz)) 0 0 (va_A [(h0, .inr (8, px_mf rf iv)), (rf 19, .inl (c_elements, 26, .inl g_elements)), (rf 21, .inl (c_ranks, 26, .inl g_ranks)), (rf 25, .inl (c_rankOf, 106496, .inl g_rankOf)), (rf 28, .inl (c_sizes, 4096, .inl g_sizes)), (rf 29, .inl (c_coefficients, 169, .inr (.inl g_coefficients))), (rf 30, .inl (c_choices, 169, .inr (.inl g_choices)))] sz) := by
  refine Met.ofW (cc := prog_15_method_34_code) (maxL := 9) (ret := none) (by decide) rfl ?_
  intro p e s m args below meth c s₁ B hml hv
  obtain ⟨rfl, hsz, hP, hK, hD0, hN⟩ := hv
  have hx := B.exec
  have hb := B.bytes
  have hr := B.returns
  have htw : ∀ w ∈ px_all, w.before _ s = true := fun w h => atoms_spec (ws := px_s79) B.pre w (List.mem_cons_of_mem _ h)
  have hown : s.vm.findClass "MatroidDeskModel" = some m.cls := findClass_of_methodNamed B.named
  have hlocks := B.notSynchronized
  subst hsz
  have hD := hD0.self (sz := s.heap.size)
  generalize hAe : va_A [(h0, .inr (8, px_mf rf iv)), (rf 19, .inl (c_elements, 26, .inl g_elements)), (rf 21, .inl (c_ranks, 26, .inl g_ranks)), (rf 25, .inl (c_rankOf, 106496, .inl g_rankOf)), (rf 28, .inl (c_sizes, 4096, .inl g_sizes)), (rf 29, .inl (c_coefficients, 169, .inr (.inl g_coefficients))), (rf 30, .inl (c_choices, 169, .inr (.inl g_choices)))] s.heap.size = A at hD ⊢
  have hA : ∀ q : Nat, s.heap.size ≤ q → A q := fun q h => by rw [← hAe]; exact Or.inr h
  have hS : va_S A s.heap s.heap [] := va_S.rf
  have hP : va_P (dC, dI) vwCl [(h0, .inr (8, px_mf rf iv)), (rf 19, .inl (c_elements, 26, .inl g_elements)), (rf 21, .inl (c_ranks, 26, .inl g_ranks)), (rf 25, .inl (c_rankOf, 106496, .inl g_rankOf)), (rf 28, .inl (c_sizes, 4096, .inl g_sizes)), (rf 29, .inl (c_coefficients, 169, .inr (.inl g_coefficients))), (rf 30, .inl (c_choices, 169, .inr (.inl g_choices)))] s.heap := hP
  have hl := lv_entry ([.ref h0, .int a1x]) (n := 9) (Nat.le_of_ble_eq_true rfl)
  rw [lg_entry_eq]
  generalize (lg_sl ([.ref h0, .int a1x]) ++ List.replicate (9 - (lg_sl ([.ref h0, .int a1x])).length) Slot.unset).toArray = ls at hl ⊢
  have hl : lv_has ls 9 [(0, .ref h0), (1, .int a1x)] := hl
  generalize hQ : MQ _ _ _ _ _ _ _ = Q
  have S108 : ∀ (k108 : Nat) (x1 : Int32) (x2 : Int32) (iv : Nat → Int32) (g_elements : Nat → Int32) (g_ranks : Nat → Int32) (g_rankOf : Nat → Int32) (g_sizes : Nat → Int32) (g_coefficients : Nat → Int64) (g_choices : Nat → Int64) (H : Heap) (locs : List Loc) (ls : Array Slot), va_P (dC, dI) vwCl [(h0, .inr (8, px_mf rf iv)), (rf 19, .inl (c_elements, 26, .inl g_elements)), (rf 21, .inl (c_ranks, 26, .inl g_ranks)), (rf 25, .inl (c_rankOf, 106496, .inl g_rankOf)), (rf 28, .inl (c_sizes, 4096, .inl g_sizes)), (rf 29, .inl (c_coefficients, 169, .inr (.inl g_coefficients))), (rf 30, .inl (c_choices, 169, .inr (.inl g_choices)))] H → va_D A [(h0, .inr (8, px_mf rf iv)), (rf 19, .inl (c_elements, 26, .inl g_elements)), (rf 21, .inl (c_ranks, 26, .inl g_ranks)), (rf 25, .inl (c_rankOf, 106496, .inl g_rankOf)), (rf 28, .inl (c_sizes, 4096, .inl g_sizes)), (rf 29, .inl (c_coefficients, 169, .inr (.inl g_coefficients))), (rf 30, .inl (c_choices, 169, .inr (.inl g_choices)))] → va_S A s.heap H locs → lv_has ls 9 [(0, .ref h0), (1, .int x1), (2, .int x2)] → w79_L108 post k108 x1 x2 iv g_elements g_ranks g_rankOf g_sizes g_coefficients g_choices → W p l e (headSpec px_s79 ({ frames := 1, cells := 0, slots := 0, locals := 22 })).room s m ([.ref h0, .int a1x]).toArray below meth c H locs 0 0 Q (F0 m 108 ls []) := by
    intro k108
    induction k108 with
    | zero => intro x1 x2 iv g_elements g_ranks g_rankOf g_sizes g_coefficients g_choices H locs ls hP hD hS hl hw; exact False.elim hw
    | succ k108 ih108 =>
      have S149 : ∀ (k149 : Nat) (x1 : Int32) (x2 : Int32) (x3 : Int32) (x4 : Int32) (x5 : Int32) (iv : Nat → Int32) (g_elements : Nat → Int32) (g_ranks : Nat → Int32) (g_rankOf : Nat → Int32) (g_sizes : Nat → Int32) (g_coefficients : Nat → Int64) (g_choices : Nat → Int64) (H : Heap) (locs : List Loc) (ls : Array Slot), va_P (dC, dI) vwCl [(h0, .inr (8, px_mf rf iv)), (rf 19, .inl (c_elements, 26, .inl g_elements)), (rf 21, .inl (c_ranks, 26, .inl g_ranks)), (rf 25, .inl (c_rankOf, 106496, .inl g_rankOf)), (rf 28, .inl (c_sizes, 4096, .inl g_sizes)), (rf 29, .inl (c_coefficients, 169, .inr (.inl g_coefficients))), (rf 30, .inl (c_choices, 169, .inr (.inl g_choices)))] H → va_D A [(h0, .inr (8, px_mf rf iv)), (rf 19, .inl (c_elements, 26, .inl g_elements)), (rf 21, .inl (c_ranks, 26, .inl g_ranks)), (rf 25, .inl (c_rankOf, 106496, .inl g_rankOf)), (rf 28, .inl (c_sizes, 4096, .inl g_sizes)), (rf 29, .inl (c_coefficients, 169, .inr (.inl g_coefficients))), (rf 30, .inl (c_choices, 169, .inr (.inl g_choices)))] → va_S A s.heap H locs → lv_has ls 9 [(0, .ref h0), (1, .int x1), (2, .int x2), (3, .int x3), (4, .int x4), (5, .int x5)] → w79_L149 (w79_L108 post k108) post k149 x1 x2 x3 x4 x5 iv g_elements g_ranks g_rankOf g_sizes g_coefficients g_choices → W p l e (headSpec px_s79 ({ frames := 1, cells := 0, slots := 0, locals := 22 })).room s m ([.ref h0, .int a1x]).toArray below meth c H locs 0 0 Q (F0 m 149 ls []) := by
        intro k149
        induction k149 with
        | zero => intro x1 x2 x3 x4 x5 iv g_elements g_ranks g_rankOf g_sizes g_coefficients g_choices H locs ls hP hD hS hl hw; exact False.elim hw
        | succ k149 ih149 =>
          have S158 : ∀ (k158 : Nat) (x1 : Int32) (x2 : Int32) (x3 : Int32) (x4 : Int32) (x5 : Int32) (x6 : Int32) (iv : Nat → Int32) (g_elements : Nat → Int32) (g_ranks : Nat → Int32) (g_rankOf : Nat → Int32) (g_sizes : Nat → Int32) (g_coefficients : Nat → Int64) (g_choices : Nat → Int64) (H : Heap) (locs : List Loc) (ls : Array Slot), va_P (dC, dI) vwCl [(h0, .inr (8, px_mf rf iv)), (rf 19, .inl (c_elements, 26, .inl g_elements)), (rf 21, .inl (c_ranks, 26, .inl g_ranks)), (rf 25, .inl (c_rankOf, 106496, .inl g_rankOf)), (rf 28, .inl (c_sizes, 4096, .inl g_sizes)), (rf 29, .inl (c_coefficients, 169, .inr (.inl g_coefficients))), (rf 30, .inl (c_choices, 169, .inr (.inl g_choices)))] H → va_D A [(h0, .inr (8, px_mf rf iv)), (rf 19, .inl (c_elements, 26, .inl g_elements)), (rf 21, .inl (c_ranks, 26, .inl g_ranks)), (rf 25, .inl (c_rankOf, 106496, .inl g_rankOf)), (rf 28, .inl (c_sizes, 4096, .inl g_sizes)), (rf 29, .inl (c_coefficients, 169, .inr (.inl g_coefficients))), (rf 30, .inl (c_choices, 169, .inr (.inl g_choices)))] → va_S A s.heap H locs → lv_has ls 9 [(0, .ref h0), (1, .int x1), (2, .int x2), (3, .int x3), (4, .int x4), (5, .int x5), (6, .int x6)] → w79_L158 (w79_L108 post k108) (w79_L149 (w79_L108 post k108) post k149) post k158 x1 x2 x3 x4 x5 x6 iv g_elements g_ranks g_rankOf g_sizes g_coefficients g_choices → W p l e (headSpec px_s79 ({ frames := 1, cells := 0, slots := 0, locals := 22 })).room s m ([.ref h0, .int a1x]).toArray below meth c H locs 0 0 Q (F0 m 158 ls []) := by
            intro k158
            induction k158 with
            | zero => intro x1 x2 x3 x4 x5 x6 iv g_elements g_ranks g_rankOf g_sizes g_coefficients g_choices H locs ls hP hD hS hl hw; exact False.elim hw
            | succ k158 ih158 =>
              have S230 : ∀ (x1 : Int32) (x2 : Int32) (x3 : Int32) (x4 : Int32) (x5 : Int32) (x6 : Int32) (x7 : Int64) (y0 : Int64) (y1 : Int64) (y2 : Int32) (iv : Nat → Int32) (g_elements : Nat → Int32) (g_ranks : Nat → Int32) (g_rankOf : Nat → Int32) (g_sizes : Nat → Int32) (g_coefficients : Nat → Int64) (g_choices : Nat → Int64) (H : Heap) (locs : List Loc) (ls : Array Slot), va_P (dC, dI) vwCl [(h0, .inr (8, px_mf rf iv)), (rf 19, .inl (c_elements, 26, .inl g_elements)), (rf 21, .inl (c_ranks, 26, .inl g_ranks)), (rf 25, .inl (c_rankOf, 106496, .inl g_rankOf)), (rf 28, .inl (c_sizes, 4096, .inl g_sizes)), (rf 29, .inl (c_coefficients, 169, .inr (.inl g_coefficients))), (rf 30, .inl (c_choices, 169, .inr (.inl g_choices)))] H → va_D A [(h0, .inr (8, px_mf rf iv)), (rf 19, .inl (c_elements, 26, .inl g_elements)), (rf 21, .inl (c_ranks, 26, .inl g_ranks)), (rf 25, .inl (c_rankOf, 106496, .inl g_rankOf)), (rf 28, .inl (c_sizes, 4096, .inl g_sizes)), (rf 29, .inl (c_coefficients, 169, .inr (.inl g_coefficients))), (rf 30, .inl (c_choices, 169, .inr (.inl g_choices)))] → va_S A s.heap H locs → lv_has ls 9 [(0, .ref h0), (1, .int x1), (2, .int x2), (3, .int x3), (4, .int x4), (5, .int x5), (6, .int x6), (7, .long x7)] → w79_L230 (w79_L108 post k108) (w79_L149 (w79_L108 post k108) post k149) (w79_L158 (w79_L108 post k108) (w79_L149 (w79_L108 post k108) post k149) post k158) post x1 x2 x3 x4 x5 x6 x7 y0 y1 y2 iv g_elements g_ranks g_rankOf g_sizes g_coefficients g_choices → W p l e (headSpec px_s79 ({ frames := 1, cells := 0, slots := 0, locals := 22 })).room s m ([.ref h0, .int a1x]).toArray below meth c H locs 0 0 Q (F0 m 230 ls [.long y0, .long y1, .int y2, .ref (rf 29)]) := by
                intro x1 x2 x3 x4 x5 x6 x7 y0 y1 y2 iv g_elements g_ranks g_rankOf g_sizes g_coefficients g_choices H locs ls hP hD hS hl hw
                unfold w79_L230 at hw
                refine lv_ladd hx hb px_d79_230 ?_
                refine lv_topl (fun z1 ez1 => ?_)
                have hw := hw z1 ez1
                obtain ⟨hi231, hw⟩ := hw
                refine va_last hx hb hK hP hD hS 5 4 rfl rfl hi231 px_d79_231 (fun H locs hP hD hS => ?_)
                have hP : va_P (dC, dI) vwCl [(h0, .inr (8, px_mf rf iv)), (rf 19, .inl (c_elements, 26, .inl g_elements)), (rf 21, .inl (c_ranks, 26, .inl g_ranks)), (rf 25, .inl (c_rankOf, 106496, .inl g_rankOf)), (rf 28, .inl (c_sizes, 4096, .inl g_sizes)), (rf 29, .inl (c_coefficients, 169, .inr (.inl (vp_updL g_coefficients (Int32.toNatClampNeg y2) z1)))), (rf 30, .inl (c_choices, 169, .inr (.inl g_choices)))] H := hP
                have hD : va_D A [(h0, .inr (8, px_mf rf iv)), (rf 19, .inl (c_elements, 26, .inl g_elements)), (rf 21, .inl (c_ranks, 26, .inl g_ranks)), (rf 25, .inl (c_rankOf, 106496, .inl g_rankOf)), (rf 28, .inl (c_sizes, 4096, .inl g_sizes)), (rf 29, .inl (c_coefficients, 169, .inr (.inl (vp_updL g_coefficients (Int32.toNatClampNeg y2) z1)))), (rf 30, .inl (c_choices, 169, .inr (.inl g_choices)))] := hD
                obtain ⟨z2, ez2⟩ : ∃ y : Int32, y = x6 + 1 := ⟨_, rfl⟩
                have hw := hw z2 ez2
                refine lv_iinc (v := z2) (lv' := [(6, .int z2), (0, .ref h0), (1, .int x1), (2, .int x2), (3, .int x3), (4, .int x4), (5, .int x5), (7, .long x7)]) hx hb px_d79_232 hl (k := 6) rfl (by rw [ez2]; rfl) (by decide) rfl (fun ls hl => ?_)
                refine lv_goto (tgt := 158) hx hb px_d79_235 (by decide) ?_
                exact ih158 x1 x2 x3 x4 x5 z2 iv g_elements g_ranks g_rankOf g_sizes (vp_updL g_coefficients (Int32.toNatClampNeg y2) z1) g_choices H locs ls hP hD hS (lv_sub hl [1, 2, 3, 4, 5, 6, 0] rfl) hw
              intro x1 x2 x3 x4 x5 x6 iv g_elements g_ranks g_rankOf g_sizes g_coefficients g_choices H locs ls hP hD hS hl hw
              unfold w79_L158 at hw
              refine lv_iload hx hb px_d79_158 (lv_at hl 6 rfl) ?_
              refine lv_iload hx hb px_d79_160 (lv_at hl 4 rfl) ?_
              refine lv_icmp_gt (tgt := 238) hx hb px_d79_162 (by decide) (fun c162 => ?_) (fun c162 => ?_)
              · have hw := hw.1 c162
                obtain ⟨z3, ez3⟩ : ∃ y : Int32, y = x5 + 1 := ⟨_, rfl⟩
                have hw := hw z3 ez3
                refine lv_iinc (v := z3) (lv' := [(5, .int z3), (0, .ref h0), (1, .int x1), (2, .int x2), (3, .int x3), (4, .int x4), (6, .int x6)]) hx hb px_d79_238 hl (k := 5) rfl (by rw [ez3]; rfl) (by decide) rfl (fun ls hl => ?_)
                refine lv_goto (tgt := 149) hx hb px_d79_241 (by decide) ?_
                exact ih149 x1 x2 x3 x4 z3 iv g_elements g_ranks g_rankOf g_sizes g_coefficients g_choices H locs ls hP hD hS (lv_sub hl [1, 2, 3, 4, 5, 0] rfl) hw
              · have hw := hw.2 c162
                refine lv_aload_n hx hb px_d79_165 rfl (lv_at hl 0 rfl) ?_
                refine va_get (D := (dC, dI)) (ci := 8) (v := .ref (rf 30)) (C := "MatroidDeskModel") (T := px_T8) (N := 53) hx hb htw px_in8 hown hK hP 0 rfl rfl 30 (by decide) (htw _ px_w515) (fun _ h9 => h9) rfl px_d79_166 ?_
                refine lv_bipush (v := 13) hx hb px_d79_169 (by decide) ?_
                refine lv_iload_n hx hb px_d79_171 rfl (lv_at hl 3 rfl) ?_
                refine lv_imul hx hb px_d79_172 ?_
                refine lv_iload hx hb px_d79_173 (lv_at hl 5 rfl) ?_
                refine lv_iadd hx hb px_d79_175 ?_
                obtain ⟨hi176, hw⟩ := hw
                refine va_lald hx hb hK hP 6 5 rfl rfl hi176 px_d79_176 ?_
                refine lv_aload_n hx hb px_d79_177 rfl (lv_at hl 0 rfl) ?_
                refine va_get (D := (dC, dI)) (ci := 8) (v := .ref (rf 30)) (C := "MatroidDeskModel") (T := px_T8) (N := 53) hx hb htw px_in8 hown hK hP 0 rfl rfl 30 (by decide) (htw _ px_w515) (fun _ h9 => h9) rfl px_d79_178 ?_
                refine lv_bipush (v := 13) hx hb px_d79_181 (by decide) ?_
                refine lv_iload hx hb px_d79_183 (lv_at hl 4 rfl) ?_
                refine lv_imul hx hb px_d79_185 ?_
                refine lv_iload hx hb px_d79_186 (lv_at hl 6 rfl) ?_
                refine lv_iadd hx hb px_d79_188 ?_
                obtain ⟨hi189, hw⟩ := hw
                refine va_lald hx hb hK hP 6 5 rfl rfl hi189 px_d79_189 ?_
                refine lv_lmul hx hb px_d79_190 ?_
                refine lv_topl (fun z4 ez4 => ?_)
                have hw := hw z4 ez4
                refine lv_lstore (lv' := [(7, .long z4), (0, .ref h0), (1, .int x1), (2, .int x2), (3, .int x3), (4, .int x4), (5, .int x5), (6, .int x6)]) hx hb px_d79_191 hl (by decide) rfl (fun ls hl => ?_)
                refine lv_aload_n hx hb px_d79_193 rfl (lv_at hl 1 rfl) ?_
                refine va_get (D := (dC, dI)) (ci := 8) (v := .ref (rf 29)) (C := "MatroidDeskModel") (T := px_T8) (N := 53) hx hb htw px_in8 hown hK hP 0 rfl rfl 29 (by decide) (htw _ px_w514) (fun _ h9 => h9) rfl px_d79_194 ?_
                refine lv_bipush (v := 13) hx hb px_d79_197 (by decide) ?_
                refine lv_iload hx hb px_d79_199 (lv_at hl 6 rfl) ?_
                refine lv_imul hx hb px_d79_201 ?_
                refine lv_iload hx hb px_d79_202 (lv_at hl 7 rfl) ?_
                refine lv_iadd hx hb px_d79_204 ?_
                refine lv_dup2_11 hx hb px_d79_205 rfl rfl ?_
                obtain ⟨hi206, hw⟩ := hw
                refine va_lald hx hb hK hP 5 4 rfl rfl hi206 px_d79_206 ?_
                refine lv_iload_n hx hb px_d79_207 rfl (lv_at hl 4 rfl) ?_
                refine lv_iload hx hb px_d79_208 (lv_at hl 6 rfl) ?_
                refine lv_isub hx hb px_d79_210 ?_
                refine lv_iload hx hb px_d79_211 (lv_at hl 5 rfl) ?_
                refine lv_iadd hx hb px_d79_213 ?_
                refine lv_iload hx hb px_d79_214 (lv_at hl 7 rfl) ?_
                refine lv_isub hx hb px_d79_216 ?_
                refine lv_iconst (v := 2) hx hb px_d79_217 (by decide) ?_
                refine lv_irem hx hb px_d79_218 (by decide +kernel) ?_
                refine lv_if_ne (tgt := 227) hx hb px_d79_219 (by decide) (fun c219 => ?_) (fun c219 => ?_)
                · have hw := hw.1 c219
                  refine lv_lload hx hb px_d79_227 (lv_at hl 0 rfl) ?_
                  refine lv_lneg hx hb px_d79_229 ?_
                  exact S230 x1 x2 x3 x4 x5 x6 z4 (-z4) (g_coefficients (Int32.toNatClampNeg ((13 * x5) + x6))) ((13 * x5) + x6) iv g_elements g_ranks g_rankOf g_sizes g_coefficients g_choices H locs ls hP hD hS (lv_sub hl [1, 2, 3, 4, 5, 6, 7, 0] rfl) hw
                · have hw := hw.2 c219
                  refine lv_lload hx hb px_d79_222 (lv_at hl 0 rfl) ?_
                  refine lv_goto (tgt := 230) hx hb px_d79_224 (by decide) ?_
                  exact S230 x1 x2 x3 x4 x5 x6 z4 z4 (g_coefficients (Int32.toNatClampNeg ((13 * x5) + x6))) ((13 * x5) + x6) iv g_elements g_ranks g_rankOf g_sizes g_coefficients g_choices H locs ls hP hD hS (lv_sub hl [1, 2, 3, 4, 5, 6, 7, 0] rfl) hw
          intro x1 x2 x3 x4 x5 iv g_elements g_ranks g_rankOf g_sizes g_coefficients g_choices H locs ls hP hD hS hl hw
          unfold w79_L149 at hw
          refine lv_iload hx hb px_d79_149 (lv_at hl 5 rfl) ?_
          refine lv_iload_n hx hb px_d79_151 rfl (lv_at hl 3 rfl) ?_
          refine lv_icmp_gt (tgt := 244) hx hb px_d79_152 (by decide) (fun c152 => ?_) (fun c152 => ?_)
          · have hw := hw.1 c152
            obtain ⟨z5, ez5⟩ : ∃ y : Int32, y = x2 + 1 := ⟨_, rfl⟩
            have hw := hw z5 ez5
            refine lv_iinc (v := z5) (lv' := [(2, .int z5), (0, .ref h0), (1, .int x1), (3, .int x3), (4, .int x4), (5, .int x5)]) hx hb px_d79_244 hl (k := 2) rfl (by rw [ez5]; rfl) (by decide) rfl (fun ls hl => ?_)
            refine lv_goto (tgt := 108) hx hb px_d79_247 (by decide) ?_
            exact ih108 x1 z5 iv g_elements g_ranks g_rankOf g_sizes g_coefficients g_choices H locs ls hP hD hS (lv_sub hl [1, 2, 0] rfl) hw
          · have hw := hw.2 c152
            refine lv_iconst (v := 0) hx hb px_d79_155 (by decide) ?_
            refine lv_istore (lv' := [(6, .int 0), (0, .ref h0), (1, .int x1), (2, .int x2), (3, .int x3), (4, .int x4), (5, .int x5)]) hx hb px_d79_156 hl (by decide) rfl (fun ls hl => ?_)
            obtain ⟨k9, hw⟩ := hw
            exact S158 k9 x1 x2 x3 x4 x5 0 iv g_elements g_ranks g_rankOf g_sizes g_coefficients g_choices H locs ls hP hD hS (lv_sub hl [1, 2, 3, 4, 5, 6, 0] rfl) hw
      intro x1 x2 iv g_elements g_ranks g_rankOf g_sizes g_coefficients g_choices H locs ls hP hD hS hl hw
      unfold w79_L108 at hw
      refine lv_iload_n hx hb px_d79_108 rfl (lv_at hl 2 rfl) ?_
      refine lv_aload_n hx hb px_d79_109 rfl (lv_at hl 0 rfl) ?_
      refine lv_iload_n hx hb px_d79_110 rfl (lv_at hl 1 rfl) ?_
      have hPc := hP.sub (ws' := [(h0, .inr (8, px_mf rf iv)), (rf 19, .inl (c_elements, 26, .inl g_elements))]) [0, 1] rfl
      have hDc := hD.sub (ws' := [(h0, .inr (8, px_mf rf iv)), (rf 19, .inl (c_elements, 26, .inl g_elements))]) [0, 1] (by decide) rfl
      have hKc := hK.sub (tys' := [(c_elements, .int)]) [0] rfl
      have hFc := va_free (wc := [(h0, .inr (8, px_mf rf iv)), (rf 19, .inl (c_elements, 26, .inl g_elements))]) hD hS hA [0, 1] rfl
      refine va_calli (va_runV (As := [.int x1]) (rest := [.int x2]) ⟨hx, hb, hml, hown, htw⟩ (w71_met l dC dI H.size h0 rf c_elements x1 iv g_elements _ hw) (cwV 1 htw (px_gv px_w565 px_w556 px_w557 px_w94 px_g71) rfl rfl rfl (by decide +kernel) ⟨Nat.le_of_ble_eq_true rfl, Nat.le_of_ble_eq_true rfl⟩) ⟨fun a U g mk q => by obtain ⟨q0, q1, qP, qK, qD, qN⟩ := q; exact ⟨q0, q1, qP, va_K.moved (u := U) (U := U.calling g mk a) (Vm.Alike.refl U.vm) qK, qD, qN.same rfl⟩, va_recv hK hP (ci := 8) (q0 := 0) rfl rfl, fun U hU hW => ⟨rfl, by rw [hU], by rw [hU]; exact hPc, va_K.moved hW.alike hKc, hDc.weaken (fun _ _ _ _ => trivial), hN.warm hW⟩⟩ rfl rfl hl.1 rfl (lv_room (Nat.le_of_ble_eq_true rfl)) px_d79_111 ⟨(Nat.le_of_ble_eq_true rfl), (Nat.le_of_ble_eq_true rfl)⟩) hS (fun q _ h => hFc q h) hFc (fun r111 u t H1 locs ht hvm hw hB hz1 hk1 hS => ?_)
      obtain ⟨v6, v7⟩ := u
      obtain ⟨hP1, hK1, hD1⟩ := hB
      rw [ht] at hP1
      have hK1 := va_K.moved hvm.symm hK1
      obtain ⟨hP, hD⟩ := va_join (wr := [(rf 21, .inl (c_ranks, 26, .inl g_ranks)), (rf 25, .inl (c_rankOf, 106496, .inl g_rankOf)), (rf 28, .inl (c_sizes, 4096, .inl g_sizes)), (rf 29, .inl (c_coefficients, 169, .inr (.inl g_coefficients))), (rf 30, .inl (c_choices, 169, .inr (.inl g_choices)))]) (w1 := [(h0, .inr (8, px_mf rf v6)), (rf 19, .inl (c_elements, 26, .inl v7))]) hP hD [0, 1] [2, 3, 4, 5, 6] rfl rfl (by decide) (by decide) hk1 hFc hP1 hD1
      generalize H1 = H at hP hS ⊢
      have hP : va_P (dC, dI) vwCl [(rf 21, .inl (c_ranks, 26, .inl g_ranks)), (rf 25, .inl (c_rankOf, 106496, .inl g_rankOf)), (rf 28, .inl (c_sizes, 4096, .inl g_sizes)), (rf 29, .inl (c_coefficients, 169, .inr (.inl g_coefficients))), (rf 30, .inl (c_choices, 169, .inr (.inl g_choices))), (h0, .inr (8, px_mf rf v6)), (rf 19, .inl (c_elements, 26, .inl v7))] H := hP
      have hD : va_D A [(rf 21, .inl (c_ranks, 26, .inl g_ranks)), (rf 25, .inl (c_rankOf, 106496, .inl g_rankOf)), (rf 28, .inl (c_sizes, 4096, .inl g_sizes)), (rf 29, .inl (c_coefficients, 169, .inr (.inl g_coefficients))), (rf 30, .inl (c_choices, 169, .inr (.inl g_choices))), (h0, .inr (8, px_mf rf v6)), (rf 19, .inl (c_elements, 26, .inl v7))] := hD
      have hP := hP.sub (ws' := [(h0, .inr (8, px_mf rf v6)), (rf 19, .inl (c_elements, 26, .inl v7)), (rf 21, .inl (c_ranks, 26, .inl g_ranks)), (rf 25, .inl (c_rankOf, 106496, .inl g_rankOf)), (rf 28, .inl (c_sizes, 4096, .inl g_sizes)), (rf 29, .inl (c_coefficients, 169, .inr (.inl g_coefficients))), (rf 30, .inl (c_choices, 169, .inr (.inl g_choices)))]) [5, 6, 0, 1, 2, 3, 4] rfl
      have hD := hD.sub (ws' := [(h0, .inr (8, px_mf rf v6)), (rf 19, .inl (c_elements, 26, .inl v7)), (rf 21, .inl (c_ranks, 26, .inl g_ranks)), (rf 25, .inl (c_rankOf, 106496, .inl g_rankOf)), (rf 28, .inl (c_sizes, 4096, .inl g_sizes)), (rf 29, .inl (c_coefficients, 169, .inr (.inl g_coefficients))), (rf 30, .inl (c_choices, 169, .inr (.inl g_choices)))]) [5, 6, 0, 1, 2, 3, 4] (by decide) rfl
      refine lv_icmp_gt (tgt := 250) hx hb px_d79_114 (by decide) (fun c114 => ?_) (fun c114 => ?_)
      · have hw := hw.1 c114
        rw [← hQ]
        exact W.vret hx hb hr (fun t ht hW => ⟨⟨(v6, v7, g_ranks, g_rankOf, g_sizes, g_coefficients, g_choices), rfl, hw, by rw [ht]; exact hP, va_K.moved hW.alike hK, hD⟩, hS.F ht⟩) hS.2.2 px_d79_250
      · have hw := hw.2 c114
        refine lv_aload_n hx hb px_d79_117 rfl (lv_at hl 0 rfl) ?_
        refine va_get (D := (dC, dI)) (ci := 8) (v := .ref (rf 21)) (C := "MatroidDeskModel") (T := px_T8) (N := 53) hx hb htw px_in8 hown hK hP 0 rfl rfl 21 (by decide) (htw _ px_w504) (fun _ h9 => h9) rfl px_d79_118 ?_
        refine lv_iload_n hx hb px_d79_121 rfl (lv_at hl 1 rfl) ?_
        obtain ⟨hi122, hw⟩ := hw
        refine va_iald hx hb hK hP 2 1 rfl rfl hi122 px_d79_122 ?_
        refine lv_aload_n hx hb px_d79_123 rfl (lv_at hl 0 rfl) ?_
        refine lv_iload_n hx hb px_d79_124 rfl (lv_at hl 1 rfl) ?_
        refine lv_iload_n hx hb px_d79_125 rfl (lv_at hl 2 rfl) ?_
        have hPc := hP.sub (ws' := [(h0, .inr (8, px_mf rf v6)), (rf 25, .inl (c_rankOf, 106496, .inl g_rankOf))]) [0, 3] rfl
        have hDc := hD.sub (ws' := [(h0, .inr (8, px_mf rf v6)), (rf 25, .inl (c_rankOf, 106496, .inl g_rankOf))]) [0, 3] (by decide) rfl
        have hKc := hK.sub (tys' := [(c_rankOf, .byte)]) [2] rfl
        have hFc := va_free (wc := [(h0, .inr (8, px_mf rf v6)), (rf 25, .inl (c_rankOf, 106496, .inl g_rankOf))]) hD hS hA [0, 3] rfl
        refine va_calli (va_runV (As := [.int x1, .int x2]) (rest := [.int (g_ranks (Int32.toNatClampNeg x1))]) ⟨hx, hb, hml, hown, htw⟩ (w70_met l dC dI H.size h0 rf c_rankOf x1 x2 v6 g_rankOf _ hw) (cwV 2 htw (px_gv px_w561 px_w553 px_w554 px_w94 px_g70) rfl rfl rfl (by decide +kernel) ⟨Nat.le_of_ble_eq_true rfl, Nat.le_of_ble_eq_true rfl⟩) ⟨fun a U g mk q => by obtain ⟨q0, q1, qP, qK, qD, qN⟩ := q; exact ⟨q0, q1, qP, va_K.moved (u := U) (U := U.calling g mk a) (Vm.Alike.refl U.vm) qK, qD, qN.same rfl⟩, va_recv hK hP (ci := 8) (q0 := 0) rfl rfl, fun U hU hW => ⟨rfl, by rw [hU], by rw [hU]; exact hPc, va_K.moved hW.alike hKc, hDc.weaken (fun _ _ _ _ => trivial), hN.warm hW⟩⟩ rfl rfl hl.1 rfl (lv_room (Nat.le_of_ble_eq_true rfl)) px_d79_126 ⟨(Nat.le_of_ble_eq_true rfl), (Nat.le_of_ble_eq_true rfl)⟩) hS (fun q _ h => hFc q h) hFc (fun r126 u t H1 locs ht hvm hw hB hz1 hk1 hS => ?_)
        obtain ⟨v8, v9⟩ := u
        obtain ⟨hP1, hK1, hD1⟩ := hB
        rw [ht] at hP1
        have hK1 := va_K.moved hvm.symm hK1
        obtain ⟨hP, hD⟩ := va_join (wr := [(rf 19, .inl (c_elements, 26, .inl v7)), (rf 21, .inl (c_ranks, 26, .inl g_ranks)), (rf 28, .inl (c_sizes, 4096, .inl g_sizes)), (rf 29, .inl (c_coefficients, 169, .inr (.inl g_coefficients))), (rf 30, .inl (c_choices, 169, .inr (.inl g_choices)))]) (w1 := [(h0, .inr (8, px_mf rf v8)), (rf 25, .inl (c_rankOf, 106496, .inl v9))]) hP hD [0, 3] [1, 2, 4, 5, 6] rfl rfl (by decide) (by decide) hk1 hFc hP1 hD1
        generalize H1 = H at hP hS ⊢
        have hP : va_P (dC, dI) vwCl [(rf 19, .inl (c_elements, 26, .inl v7)), (rf 21, .inl (c_ranks, 26, .inl g_ranks)), (rf 28, .inl (c_sizes, 4096, .inl g_sizes)), (rf 29, .inl (c_coefficients, 169, .inr (.inl g_coefficients))), (rf 30, .inl (c_choices, 169, .inr (.inl g_choices))), (h0, .inr (8, px_mf rf v8)), (rf 25, .inl (c_rankOf, 106496, .inl v9))] H := hP
        have hD : va_D A [(rf 19, .inl (c_elements, 26, .inl v7)), (rf 21, .inl (c_ranks, 26, .inl g_ranks)), (rf 28, .inl (c_sizes, 4096, .inl g_sizes)), (rf 29, .inl (c_coefficients, 169, .inr (.inl g_coefficients))), (rf 30, .inl (c_choices, 169, .inr (.inl g_choices))), (h0, .inr (8, px_mf rf v8)), (rf 25, .inl (c_rankOf, 106496, .inl v9))] := hD
        have hP := hP.sub (ws' := [(h0, .inr (8, px_mf rf v8)), (rf 19, .inl (c_elements, 26, .inl v7)), (rf 21, .inl (c_ranks, 26, .inl g_ranks)), (rf 25, .inl (c_rankOf, 106496, .inl v9)), (rf 28, .inl (c_sizes, 4096, .inl g_sizes)), (rf 29, .inl (c_coefficients, 169, .inr (.inl g_coefficients))), (rf 30, .inl (c_choices, 169, .inr (.inl g_choices)))]) [5, 0, 1, 6, 2, 3, 4] rfl
        have hD := hD.sub (ws' := [(h0, .inr (8, px_mf rf v8)), (rf 19, .inl (c_elements, 26, .inl v7)), (rf 21, .inl (c_ranks, 26, .inl g_ranks)), (rf 25, .inl (c_rankOf, 106496, .inl v9)), (rf 28, .inl (c_sizes, 4096, .inl g_sizes)), (rf 29, .inl (c_coefficients, 169, .inr (.inl g_coefficients))), (rf 30, .inl (c_choices, 169, .inr (.inl g_choices)))]) [5, 0, 1, 6, 2, 3, 4] (by decide) rfl
        refine lv_isub hx hb px_d79_129 ?_
        refine lv_topi (fun z10 ez10 => ?_)
        have hw := hw z10 ez10
        refine lv_istore_n (lv' := [(3, .int z10), (0, .ref h0), (1, .int x1), (2, .int x2)]) hx hb px_d79_130 rfl hl (by decide) rfl (fun ls hl => ?_)
        refine lv_aload_n hx hb px_d79_131 rfl (lv_at hl 1 rfl) ?_
        refine va_get (D := (dC, dI)) (ci := 8) (v := .ref (rf 28)) (C := "MatroidDeskModel") (T := px_T8) (N := 53) hx hb htw px_in8 hown hK hP 0 rfl rfl 28 (by decide) (htw _ px_w513) (fun _ h9 => h9) rfl px_d79_132 ?_
        refine lv_iload_n hx hb px_d79_135 rfl (lv_at hl 3 rfl) ?_
        obtain ⟨hi136, hw⟩ := hw
        refine va_iald hx hb hK hP 4 3 rfl rfl hi136 px_d79_136 ?_
        refine lv_aload_n hx hb px_d79_137 rfl (lv_at hl 1 rfl) ?_
        refine lv_iload_n hx hb px_d79_138 rfl (lv_at hl 2 rfl) ?_
        refine lv_iload_n hx hb px_d79_139 rfl (lv_at hl 3 rfl) ?_
        have hPc := hP.sub (ws' := [(h0, .inr (8, px_mf rf v8)), (rf 25, .inl (c_rankOf, 106496, .inl v9))]) [0, 3] rfl
        have hDc := hD.sub (ws' := [(h0, .inr (8, px_mf rf v8)), (rf 25, .inl (c_rankOf, 106496, .inl v9))]) [0, 3] (by decide) rfl
        have hKc := hK.sub (tys' := [(c_rankOf, .byte)]) [2] rfl
        have hFc := va_free (wc := [(h0, .inr (8, px_mf rf v8)), (rf 25, .inl (c_rankOf, 106496, .inl v9))]) hD hS hA [0, 3] rfl
        refine va_calli (va_runV (As := [.int x1, .int x2]) (rest := [.int (g_sizes (Int32.toNatClampNeg x2))]) ⟨hx, hb, hml, hown, htw⟩ (w70_met l dC dI H.size h0 rf c_rankOf x1 x2 v8 v9 _ hw) (cwV 2 htw (px_gv px_w561 px_w553 px_w554 px_w94 px_g70) rfl rfl rfl (by decide +kernel) ⟨Nat.le_of_ble_eq_true rfl, Nat.le_of_ble_eq_true rfl⟩) ⟨fun a U g mk q => by obtain ⟨q0, q1, qP, qK, qD, qN⟩ := q; exact ⟨q0, q1, qP, va_K.moved (u := U) (U := U.calling g mk a) (Vm.Alike.refl U.vm) qK, qD, qN.same rfl⟩, va_recv hK hP (ci := 8) (q0 := 0) rfl rfl, fun U hU hW => ⟨rfl, by rw [hU], by rw [hU]; exact hPc, va_K.moved hW.alike hKc, hDc.weaken (fun _ _ _ _ => trivial), hN.warm hW⟩⟩ rfl rfl hl.1 rfl (lv_room (Nat.le_of_ble_eq_true rfl)) px_d79_140 ⟨(Nat.le_of_ble_eq_true rfl), (Nat.le_of_ble_eq_true rfl)⟩) hS (fun q _ h => hFc q h) hFc (fun r140 u t H1 locs ht hvm hw hB hz1 hk1 hS => ?_)
        obtain ⟨v11, v12⟩ := u
        obtain ⟨hP1, hK1, hD1⟩ := hB
        rw [ht] at hP1
        have hK1 := va_K.moved hvm.symm hK1
        obtain ⟨hP, hD⟩ := va_join (wr := [(rf 19, .inl (c_elements, 26, .inl v7)), (rf 21, .inl (c_ranks, 26, .inl g_ranks)), (rf 28, .inl (c_sizes, 4096, .inl g_sizes)), (rf 29, .inl (c_coefficients, 169, .inr (.inl g_coefficients))), (rf 30, .inl (c_choices, 169, .inr (.inl g_choices)))]) (w1 := [(h0, .inr (8, px_mf rf v11)), (rf 25, .inl (c_rankOf, 106496, .inl v12))]) hP hD [0, 3] [1, 2, 4, 5, 6] rfl rfl (by decide) (by decide) hk1 hFc hP1 hD1
        generalize H1 = H at hP hS ⊢
        have hP : va_P (dC, dI) vwCl [(rf 19, .inl (c_elements, 26, .inl v7)), (rf 21, .inl (c_ranks, 26, .inl g_ranks)), (rf 28, .inl (c_sizes, 4096, .inl g_sizes)), (rf 29, .inl (c_coefficients, 169, .inr (.inl g_coefficients))), (rf 30, .inl (c_choices, 169, .inr (.inl g_choices))), (h0, .inr (8, px_mf rf v11)), (rf 25, .inl (c_rankOf, 106496, .inl v12))] H := hP
        have hD : va_D A [(rf 19, .inl (c_elements, 26, .inl v7)), (rf 21, .inl (c_ranks, 26, .inl g_ranks)), (rf 28, .inl (c_sizes, 4096, .inl g_sizes)), (rf 29, .inl (c_coefficients, 169, .inr (.inl g_coefficients))), (rf 30, .inl (c_choices, 169, .inr (.inl g_choices))), (h0, .inr (8, px_mf rf v11)), (rf 25, .inl (c_rankOf, 106496, .inl v12))] := hD
        have hP := hP.sub (ws' := [(h0, .inr (8, px_mf rf v11)), (rf 19, .inl (c_elements, 26, .inl v7)), (rf 21, .inl (c_ranks, 26, .inl g_ranks)), (rf 25, .inl (c_rankOf, 106496, .inl v12)), (rf 28, .inl (c_sizes, 4096, .inl g_sizes)), (rf 29, .inl (c_coefficients, 169, .inr (.inl g_coefficients))), (rf 30, .inl (c_choices, 169, .inr (.inl g_choices)))]) [5, 0, 1, 6, 2, 3, 4] rfl
        have hD := hD.sub (ws' := [(h0, .inr (8, px_mf rf v11)), (rf 19, .inl (c_elements, 26, .inl v7)), (rf 21, .inl (c_ranks, 26, .inl g_ranks)), (rf 25, .inl (c_rankOf, 106496, .inl v12)), (rf 28, .inl (c_sizes, 4096, .inl g_sizes)), (rf 29, .inl (c_coefficients, 169, .inr (.inl g_coefficients))), (rf 30, .inl (c_choices, 169, .inr (.inl g_choices)))]) [5, 0, 1, 6, 2, 3, 4] (by decide) rfl
        refine lv_isub hx hb px_d79_143 ?_
        refine lv_topi (fun z13 ez13 => ?_)
        have hw := hw z13 ez13
        refine lv_istore (lv' := [(4, .int z13), (3, .int z10), (0, .ref h0), (1, .int x1), (2, .int x2)]) hx hb px_d79_144 hl (by decide) rfl (fun ls hl => ?_)
        refine lv_iconst (v := 0) hx hb px_d79_146 (by decide) ?_
        refine lv_istore (lv' := [(5, .int 0), (4, .int z13), (3, .int z10), (0, .ref h0), (1, .int x1), (2, .int x2)]) hx hb px_d79_147 hl (by decide) rfl (fun ls hl => ?_)
        obtain ⟨k9, hw⟩ := hw
        exact S149 k9 x1 x2 z10 z13 0 v11 v7 g_ranks v12 g_sizes g_coefficients g_choices H locs ls hP hD hS (lv_sub hl [3, 4, 5, 2, 1, 0] rfl) hw
  have S24 : ∀ (k24 : Nat) (x1 : Int32) (x2 : Int32) (iv : Nat → Int32) (g_elements : Nat → Int32) (g_ranks : Nat → Int32) (g_rankOf : Nat → Int32) (g_sizes : Nat → Int32) (g_coefficients : Nat → Int64) (g_choices : Nat → Int64) (H : Heap) (locs : List Loc) (ls : Array Slot), va_P (dC, dI) vwCl [(h0, .inr (8, px_mf rf iv)), (rf 19, .inl (c_elements, 26, .inl g_elements)), (rf 21, .inl (c_ranks, 26, .inl g_ranks)), (rf 25, .inl (c_rankOf, 106496, .inl g_rankOf)), (rf 28, .inl (c_sizes, 4096, .inl g_sizes)), (rf 29, .inl (c_coefficients, 169, .inr (.inl g_coefficients))), (rf 30, .inl (c_choices, 169, .inr (.inl g_choices)))] H → va_D A [(h0, .inr (8, px_mf rf iv)), (rf 19, .inl (c_elements, 26, .inl g_elements)), (rf 21, .inl (c_ranks, 26, .inl g_ranks)), (rf 25, .inl (c_rankOf, 106496, .inl g_rankOf)), (rf 28, .inl (c_sizes, 4096, .inl g_sizes)), (rf 29, .inl (c_coefficients, 169, .inr (.inl g_coefficients))), (rf 30, .inl (c_choices, 169, .inr (.inl g_choices)))] → va_S A s.heap H locs → lv_has ls 9 [(0, .ref h0), (1, .int x1), (2, .int x2)] → w79_L24 post k24 x1 x2 iv g_elements g_ranks g_rankOf g_sizes g_coefficients g_choices → W p l e (headSpec px_s79 ({ frames := 1, cells := 0, slots := 0, locals := 22 })).room s m ([.ref h0, .int a1x]).toArray below meth c H locs 0 0 Q (F0 m 24 ls []) := by
    intro k24
    induction k24 with
    | zero => intro x1 x2 iv g_elements g_ranks g_rankOf g_sizes g_coefficients g_choices H locs ls hP hD hS hl hw; exact False.elim hw
    | succ k24 ih24 =>
      have S32 : ∀ (k32 : Nat) (x1 : Int32) (x2 : Int32) (x3 : Int32) (iv : Nat → Int32) (g_elements : Nat → Int32) (g_ranks : Nat → Int32) (g_rankOf : Nat → Int32) (g_sizes : Nat → Int32) (g_coefficients : Nat → Int64) (g_choices : Nat → Int64) (H : Heap) (locs : List Loc) (ls : Array Slot), va_P (dC, dI) vwCl [(h0, .inr (8, px_mf rf iv)), (rf 19, .inl (c_elements, 26, .inl g_elements)), (rf 21, .inl (c_ranks, 26, .inl g_ranks)), (rf 25, .inl (c_rankOf, 106496, .inl g_rankOf)), (rf 28, .inl (c_sizes, 4096, .inl g_sizes)), (rf 29, .inl (c_coefficients, 169, .inr (.inl g_coefficients))), (rf 30, .inl (c_choices, 169, .inr (.inl g_choices)))] H → va_D A [(h0, .inr (8, px_mf rf iv)), (rf 19, .inl (c_elements, 26, .inl g_elements)), (rf 21, .inl (c_ranks, 26, .inl g_ranks)), (rf 25, .inl (c_rankOf, 106496, .inl g_rankOf)), (rf 28, .inl (c_sizes, 4096, .inl g_sizes)), (rf 29, .inl (c_coefficients, 169, .inr (.inl g_coefficients))), (rf 30, .inl (c_choices, 169, .inr (.inl g_choices)))] → va_S A s.heap H locs → lv_has ls 9 [(0, .ref h0), (1, .int x1), (2, .int x2), (3, .int x3)] → w79_L32 (w79_L24 post k24) post k32 x1 x2 x3 iv g_elements g_ranks g_rankOf g_sizes g_coefficients g_choices → W p l e (headSpec px_s79 ({ frames := 1, cells := 0, slots := 0, locals := 22 })).room s m ([.ref h0, .int a1x]).toArray below meth c H locs 0 0 Q (F0 m 32 ls []) := by
        intro k32
        induction k32 with
        | zero => intro x1 x2 x3 iv g_elements g_ranks g_rankOf g_sizes g_coefficients g_choices H locs ls hP hD hS hl hw; exact False.elim hw
        | succ k32 ih32 =>
          have S93 : ∀ (x1 : Int32) (x2 : Int32) (x3 : Int32) (y0 : Int64) (y1 : Int32) (iv : Nat → Int32) (g_elements : Nat → Int32) (g_ranks : Nat → Int32) (g_rankOf : Nat → Int32) (g_sizes : Nat → Int32) (g_coefficients : Nat → Int64) (g_choices : Nat → Int64) (H : Heap) (locs : List Loc) (ls : Array Slot), va_P (dC, dI) vwCl [(h0, .inr (8, px_mf rf iv)), (rf 19, .inl (c_elements, 26, .inl g_elements)), (rf 21, .inl (c_ranks, 26, .inl g_ranks)), (rf 25, .inl (c_rankOf, 106496, .inl g_rankOf)), (rf 28, .inl (c_sizes, 4096, .inl g_sizes)), (rf 29, .inl (c_coefficients, 169, .inr (.inl g_coefficients))), (rf 30, .inl (c_choices, 169, .inr (.inl g_choices)))] H → va_D A [(h0, .inr (8, px_mf rf iv)), (rf 19, .inl (c_elements, 26, .inl g_elements)), (rf 21, .inl (c_ranks, 26, .inl g_ranks)), (rf 25, .inl (c_rankOf, 106496, .inl g_rankOf)), (rf 28, .inl (c_sizes, 4096, .inl g_sizes)), (rf 29, .inl (c_coefficients, 169, .inr (.inl g_coefficients))), (rf 30, .inl (c_choices, 169, .inr (.inl g_choices)))] → va_S A s.heap H locs → lv_has ls 9 [(0, .ref h0), (1, .int x1), (2, .int x2), (3, .int x3)] → w79_L93 (w79_L24 post k24) (w79_L32 (w79_L24 post k24) post k32) post x1 x2 x3 y0 y1 iv g_elements g_ranks g_rankOf g_sizes g_coefficients g_choices → W p l e (headSpec px_s79 ({ frames := 1, cells := 0, slots := 0, locals := 22 })).room s m ([.ref h0, .int a1x]).toArray below meth c H locs 0 0 Q (F0 m 93 ls [.long y0, .int y1, .ref (rf 30)]) := by
            intro x1 x2 x3 y0 y1 iv g_elements g_ranks g_rankOf g_sizes g_coefficients g_choices H locs ls hP hD hS hl hw
            unfold w79_L93 at hw
            obtain ⟨hi93, hw⟩ := hw
            refine va_last hx hb hK hP hD hS 6 5 rfl rfl hi93 px_d79_93 (fun H locs hP hD hS => ?_)
            have hP : va_P (dC, dI) vwCl [(h0, .inr (8, px_mf rf iv)), (rf 19, .inl (c_elements, 26, .inl g_elements)), (rf 21, .inl (c_ranks, 26, .inl g_ranks)), (rf 25, .inl (c_rankOf, 106496, .inl g_rankOf)), (rf 28, .inl (c_sizes, 4096, .inl g_sizes)), (rf 29, .inl (c_coefficients, 169, .inr (.inl g_coefficients))), (rf 30, .inl (c_choices, 169, .inr (.inl (vp_updL g_choices (Int32.toNatClampNeg y1) y0))))] H := hP
            have hD : va_D A [(h0, .inr (8, px_mf rf iv)), (rf 19, .inl (c_elements, 26, .inl g_elements)), (rf 21, .inl (c_ranks, 26, .inl g_ranks)), (rf 25, .inl (c_rankOf, 106496, .inl g_rankOf)), (rf 28, .inl (c_sizes, 4096, .inl g_sizes)), (rf 29, .inl (c_coefficients, 169, .inr (.inl g_coefficients))), (rf 30, .inl (c_choices, 169, .inr (.inl (vp_updL g_choices (Int32.toNatClampNeg y1) y0))))] := hD
            obtain ⟨z14, ez14⟩ : ∃ y : Int32, y = x3 + 1 := ⟨_, rfl⟩
            have hw := hw z14 ez14
            refine lv_iinc (v := z14) (lv' := [(3, .int z14), (0, .ref h0), (1, .int x1), (2, .int x2)]) hx hb px_d79_94 hl (k := 3) rfl (by rw [ez14]; rfl) (by decide) rfl (fun ls hl => ?_)
            refine lv_goto (tgt := 32) hx hb px_d79_97 (by decide) ?_
            exact ih32 x1 x2 z14 iv g_elements g_ranks g_rankOf g_sizes g_coefficients (vp_updL g_choices (Int32.toNatClampNeg y1) y0) H locs ls hP hD hS (lv_sub hl [1, 2, 3, 0] rfl) hw
          intro x1 x2 x3 iv g_elements g_ranks g_rankOf g_sizes g_coefficients g_choices H locs ls hP hD hS hl hw
          unfold w79_L32 at hw
          refine lv_iload_n hx hb px_d79_32 rfl (lv_at hl 3 rfl) ?_
          refine lv_bipush (v := 13) hx hb px_d79_33 (by decide) ?_
          refine lv_icmp_ge (tgt := 100) hx hb px_d79_35 (by decide) (fun c35 => ?_) (fun c35 => ?_)
          · have hw := hw.1 c35
            obtain ⟨z15, ez15⟩ : ∃ y : Int32, y = x2 + 1 := ⟨_, rfl⟩
            have hw := hw z15 ez15
            refine lv_iinc (v := z15) (lv' := [(2, .int z15), (0, .ref h0), (1, .int x1), (3, .int x3)]) hx hb px_d79_100 hl (k := 2) rfl (by rw [ez15]; rfl) (by decide) rfl (fun ls hl => ?_)
            refine lv_goto (tgt := 24) hx hb px_d79_103 (by decide) ?_
            exact ih24 x1 z15 iv g_elements g_ranks g_rankOf g_sizes g_coefficients g_choices H locs ls hP hD hS (lv_sub hl [1, 2, 0] rfl) hw
          · have hw := hw.2 c35
            refine lv_aload_n hx hb px_d79_38 rfl (lv_at hl 0 rfl) ?_
            refine va_get (D := (dC, dI)) (ci := 8) (v := .ref (rf 30)) (C := "MatroidDeskModel") (T := px_T8) (N := 53) hx hb htw px_in8 hown hK hP 0 rfl rfl 30 (by decide) (htw _ px_w515) (fun _ h9 => h9) rfl px_d79_39 ?_
            refine lv_bipush (v := 13) hx hb px_d79_42 (by decide) ?_
            refine lv_iload_n hx hb px_d79_44 rfl (lv_at hl 2 rfl) ?_
            refine lv_imul hx hb px_d79_45 ?_
            refine lv_iload_n hx hb px_d79_46 rfl (lv_at hl 3 rfl) ?_
            refine lv_iadd hx hb px_d79_47 ?_
            refine lv_iload_n hx hb px_d79_48 rfl (lv_at hl 3 rfl) ?_
            refine lv_if_ne (tgt := 56) hx hb px_d79_49 (by decide) (fun c49 => ?_) (fun c49 => ?_)
            · have hw := hw.1 c49
              refine lv_iload_n hx hb px_d79_56 rfl (lv_at hl 2 rfl) ?_
              refine lv_if_ne (tgt := 64) hx hb px_d79_57 (by decide) (fun c57 => ?_) (fun c57 => ?_)
              · have hw := hw.1 c57
                refine lv_aload_n hx hb px_d79_64 rfl (lv_at hl 0 rfl) ?_
                refine va_get (D := (dC, dI)) (ci := 8) (v := .ref (rf 30)) (C := "MatroidDeskModel") (T := px_T8) (N := 53) hx hb htw px_in8 hown hK hP 0 rfl rfl 30 (by decide) (htw _ px_w515) (fun _ h9 => h9) rfl px_d79_65 ?_
                refine lv_bipush (v := 13) hx hb px_d79_68 (by decide) ?_
                refine lv_iload_n hx hb px_d79_70 rfl (lv_at hl 2 rfl) ?_
                refine lv_iconst (v := 1) hx hb px_d79_71 (by decide) ?_
                refine lv_isub hx hb px_d79_72 ?_
                refine lv_imul hx hb px_d79_73 ?_
                refine lv_iload_n hx hb px_d79_74 rfl (lv_at hl 3 rfl) ?_
                refine lv_iadd hx hb px_d79_75 ?_
                obtain ⟨hi76, hw⟩ := hw
                refine va_lald hx hb hK hP 6 5 rfl rfl hi76 px_d79_76 ?_
                refine lv_aload_n hx hb px_d79_77 rfl (lv_at hl 0 rfl) ?_
                refine va_get (D := (dC, dI)) (ci := 8) (v := .ref (rf 30)) (C := "MatroidDeskModel") (T := px_T8) (N := 53) hx hb htw px_in8 hown hK hP 0 rfl rfl 30 (by decide) (htw _ px_w515) (fun _ h9 => h9) rfl px_d79_78 ?_
                refine lv_bipush (v := 13) hx hb px_d79_81 (by decide) ?_
                refine lv_iload_n hx hb px_d79_83 rfl (lv_at hl 2 rfl) ?_
                refine lv_iconst (v := 1) hx hb px_d79_84 (by decide) ?_
                refine lv_isub hx hb px_d79_85 ?_
                refine lv_imul hx hb px_d79_86 ?_
                refine lv_iload_n hx hb px_d79_87 rfl (lv_at hl 3 rfl) ?_
                refine lv_iadd hx hb px_d79_88 ?_
                refine lv_iconst (v := 1) hx hb px_d79_89 (by decide) ?_
                refine lv_isub hx hb px_d79_90 ?_
                obtain ⟨hi91, hw⟩ := hw
                refine va_lald hx hb hK hP 6 5 rfl rfl hi91 px_d79_91 ?_
                refine lv_ladd hx hb px_d79_92 ?_
                exact S93 x1 x2 x3 ((g_choices (Int32.toNatClampNeg ((13 * (x2 - 1)) + x3))) + (g_choices (Int32.toNatClampNeg (((13 * (x2 - 1)) + x3) - 1)))) ((13 * x2) + x3) iv g_elements g_ranks g_rankOf g_sizes g_coefficients g_choices H locs ls hP hD hS (lv_sub hl [0, 1, 2, 3] rfl) hw
              · have hw := hw.2 c57
                refine lv_lconst (v := 0) hx hb px_d79_60 (by decide) ?_
                refine lv_goto (tgt := 93) hx hb px_d79_61 (by decide) ?_
                exact S93 x1 x2 x3 0 ((13 * x2) + x3) iv g_elements g_ranks g_rankOf g_sizes g_coefficients g_choices H locs ls hP hD hS (lv_sub hl [0, 1, 2, 3] rfl) hw
            · have hw := hw.2 c49
              refine lv_lconst (v := 1) hx hb px_d79_52 (by decide) ?_
              refine lv_goto (tgt := 93) hx hb px_d79_53 (by decide) ?_
              exact S93 x1 x2 x3 1 ((13 * x2) + x3) iv g_elements g_ranks g_rankOf g_sizes g_coefficients g_choices H locs ls hP hD hS (lv_sub hl [0, 1, 2, 3] rfl) hw
      intro x1 x2 iv g_elements g_ranks g_rankOf g_sizes g_coefficients g_choices H locs ls hP hD hS hl hw
      unfold w79_L24 at hw
      refine lv_iload_n hx hb px_d79_24 rfl (lv_at hl 2 rfl) ?_
      refine lv_bipush (v := 13) hx hb px_d79_25 (by decide) ?_
      refine lv_icmp_ge (tgt := 106) hx hb px_d79_27 (by decide) (fun c27 => ?_) (fun c27 => ?_)
      · have hw := hw.1 c27
        refine lv_iconst (v := 0) hx hb px_d79_106 (by decide) ?_
        refine lv_istore_n (lv' := [(2, .int 0), (0, .ref h0), (1, .int x1)]) hx hb px_d79_107 rfl hl (by decide) rfl (fun ls hl => ?_)
        obtain ⟨k9, hw⟩ := hw
        exact S108 k9 x1 0 iv g_elements g_ranks g_rankOf g_sizes g_coefficients g_choices H locs ls hP hD hS (lv_sub hl [1, 2, 0] rfl) hw
      · have hw := hw.2 c27
        refine lv_iconst (v := 0) hx hb px_d79_30 (by decide) ?_
        refine lv_istore_n (lv' := [(3, .int 0), (0, .ref h0), (1, .int x1), (2, .int x2)]) hx hb px_d79_31 rfl hl (by decide) rfl (fun ls hl => ?_)
        obtain ⟨k9, hw⟩ := hw
        exact S32 k9 x1 x2 0 iv g_elements g_ranks g_rankOf g_sizes g_coefficients g_choices H locs ls hP hD hS (lv_sub hl [1, 2, 3, 0] rfl) hw
  have S2 : ∀ (k2 : Nat) (x1 : Int32) (x2 : Int32) (iv : Nat → Int32) (g_elements : Nat → Int32) (g_ranks : Nat → Int32) (g_rankOf : Nat → Int32) (g_sizes : Nat → Int32) (g_coefficients : Nat → Int64) (g_choices : Nat → Int64) (H : Heap) (locs : List Loc) (ls : Array Slot), va_P (dC, dI) vwCl [(h0, .inr (8, px_mf rf iv)), (rf 19, .inl (c_elements, 26, .inl g_elements)), (rf 21, .inl (c_ranks, 26, .inl g_ranks)), (rf 25, .inl (c_rankOf, 106496, .inl g_rankOf)), (rf 28, .inl (c_sizes, 4096, .inl g_sizes)), (rf 29, .inl (c_coefficients, 169, .inr (.inl g_coefficients))), (rf 30, .inl (c_choices, 169, .inr (.inl g_choices)))] H → va_D A [(h0, .inr (8, px_mf rf iv)), (rf 19, .inl (c_elements, 26, .inl g_elements)), (rf 21, .inl (c_ranks, 26, .inl g_ranks)), (rf 25, .inl (c_rankOf, 106496, .inl g_rankOf)), (rf 28, .inl (c_sizes, 4096, .inl g_sizes)), (rf 29, .inl (c_coefficients, 169, .inr (.inl g_coefficients))), (rf 30, .inl (c_choices, 169, .inr (.inl g_choices)))] → va_S A s.heap H locs → lv_has ls 9 [(0, .ref h0), (1, .int x1), (2, .int x2)] → w79_L2 post k2 x1 x2 iv g_elements g_ranks g_rankOf g_sizes g_coefficients g_choices → W p l e (headSpec px_s79 ({ frames := 1, cells := 0, slots := 0, locals := 22 })).room s m ([.ref h0, .int a1x]).toArray below meth c H locs 0 0 Q (F0 m 2 ls []) := by
    intro k2
    induction k2 with
    | zero => intro x1 x2 iv g_elements g_ranks g_rankOf g_sizes g_coefficients g_choices H locs ls hP hD hS hl hw; exact False.elim hw
    | succ k2 ih2 =>
      intro x1 x2 iv g_elements g_ranks g_rankOf g_sizes g_coefficients g_choices H locs ls hP hD hS hl hw
      unfold w79_L2 at hw
      refine lv_iload_n hx hb px_d79_2 rfl (lv_at hl 2 rfl) ?_
      refine lv_sipush (v := 169) hx hb px_d79_3 (by decide) ?_
      refine lv_icmp_ge (tgt := 22) hx hb px_d79_6 (by decide) (fun c6 => ?_) (fun c6 => ?_)
      · have hw := hw.1 c6
        refine lv_iconst (v := 0) hx hb px_d79_22 (by decide) ?_
        refine lv_istore_n (lv' := [(2, .int 0), (0, .ref h0), (1, .int x1)]) hx hb px_d79_23 rfl hl (by decide) rfl (fun ls hl => ?_)
        obtain ⟨k9, hw⟩ := hw
        exact S24 k9 x1 0 iv g_elements g_ranks g_rankOf g_sizes g_coefficients g_choices H locs ls hP hD hS (lv_sub hl [1, 2, 0] rfl) hw
      · have hw := hw.2 c6
        refine lv_aload_n hx hb px_d79_9 rfl (lv_at hl 0 rfl) ?_
        refine va_get (D := (dC, dI)) (ci := 8) (v := .ref (rf 29)) (C := "MatroidDeskModel") (T := px_T8) (N := 53) hx hb htw px_in8 hown hK hP 0 rfl rfl 29 (by decide) (htw _ px_w514) (fun _ h9 => h9) rfl px_d79_10 ?_
        refine lv_iload_n hx hb px_d79_13 rfl (lv_at hl 2 rfl) ?_
        refine lv_lconst (v := 0) hx hb px_d79_14 (by decide) ?_
        obtain ⟨hi15, hw⟩ := hw
        refine va_last hx hb hK hP hD hS 5 4 rfl rfl hi15 px_d79_15 (fun H locs hP hD hS => ?_)
        have hP : va_P (dC, dI) vwCl [(h0, .inr (8, px_mf rf iv)), (rf 19, .inl (c_elements, 26, .inl g_elements)), (rf 21, .inl (c_ranks, 26, .inl g_ranks)), (rf 25, .inl (c_rankOf, 106496, .inl g_rankOf)), (rf 28, .inl (c_sizes, 4096, .inl g_sizes)), (rf 29, .inl (c_coefficients, 169, .inr (.inl (vp_updL g_coefficients (Int32.toNatClampNeg x2) 0)))), (rf 30, .inl (c_choices, 169, .inr (.inl g_choices)))] H := hP
        have hD : va_D A [(h0, .inr (8, px_mf rf iv)), (rf 19, .inl (c_elements, 26, .inl g_elements)), (rf 21, .inl (c_ranks, 26, .inl g_ranks)), (rf 25, .inl (c_rankOf, 106496, .inl g_rankOf)), (rf 28, .inl (c_sizes, 4096, .inl g_sizes)), (rf 29, .inl (c_coefficients, 169, .inr (.inl (vp_updL g_coefficients (Int32.toNatClampNeg x2) 0)))), (rf 30, .inl (c_choices, 169, .inr (.inl g_choices)))] := hD
        obtain ⟨z16, ez16⟩ : ∃ y : Int32, y = x2 + 1 := ⟨_, rfl⟩
        have hw := hw z16 ez16
        refine lv_iinc (v := z16) (lv' := [(2, .int z16), (0, .ref h0), (1, .int x1)]) hx hb px_d79_16 hl (k := 2) rfl (by rw [ez16]; rfl) (by decide) rfl (fun ls hl => ?_)
        refine lv_goto (tgt := 2) hx hb px_d79_19 (by decide) ?_
        exact ih2 x1 z16 iv g_elements g_ranks g_rankOf g_sizes (vp_updL g_coefficients (Int32.toNatClampNeg x2) 0) g_choices H locs ls hP hD hS (lv_sub hl [1, 2, 0] rfl) hw
  unfold w79_wp at hw
  have hS0 := hS
  obtain ⟨H, hH9⟩ : ∃ z, z = s.heap := ⟨_, rfl⟩
  have hP : va_P (dC, dI) vwCl [(h0, .inr (8, px_mf rf iv)), (rf 19, .inl (c_elements, 26, .inl g_elements)), (rf 21, .inl (c_ranks, 26, .inl g_ranks)), (rf 25, .inl (c_rankOf, 106496, .inl g_rankOf)), (rf 28, .inl (c_sizes, 4096, .inl g_sizes)), (rf 29, .inl (c_coefficients, 169, .inr (.inl g_coefficients))), (rf 30, .inl (c_choices, 169, .inr (.inl g_choices)))] H := by rw [hH9]; exact hP
  obtain ⟨locs, hlo9⟩ : ∃ z : List Loc, z = [] := ⟨_, rfl⟩
  have hS : va_S A s.heap H locs := by rw [hH9, hlo9]; exact hS
  suffices hG : W p l e (headSpec px_s79 ({ frames := 1, cells := 0, slots := 0, locals := 22 })).room s m ([.ref h0, .int a1x]).toArray below meth c H locs 0 0 Q (F0 m 0 ls []) by rw [hH9, hlo9] at hG; exact hG
  refine lv_iconst (v := 0) hx hb px_d79_0 (by decide) ?_
  refine lv_istore_n (lv' := [(2, .int 0), (0, .ref h0), (1, .int a1x)]) hx hb px_d79_1 rfl hl (by decide) rfl (fun ls hl => ?_)
  obtain ⟨k9, hw⟩ := hw
  exact S2 k9 a1x 0 iv g_elements g_ranks g_rankOf g_sizes g_coefficients g_choices H locs ls hP hD hS (lv_sub hl [1, 2, 0] rfl) hw

/-! MatroidDeskModel.isLike(IIII)Z -/
def w87_L198 (K170 : Int32 → Int32 → Int32 → Int32 → Int32 → Int32 → Int32 → (Nat → Int32) → (Nat → Int32) → (Nat → Int32) → (Nat → Int32) → (Nat → Int32) → (Nat → Int32) → Prop) (post : Int32 → (Nat → Int32) → (Nat → Int32) → (Nat → Int32) → (Nat → Int32) → (Nat → Int32) → (Nat → Int32) → Prop) (x1 : Int32) (x2 : Int32) (x3 : Int32) (x4 : Int32) (x5 : Int32) (x6 : Int32) (x7 : Int32) (y0 : Int32) (iv : Nat → Int32) (g_elements : Nat → Int32) (g_ranks : Nat → Int32) (g_rankOf : Nat → Int32) (g_sizes : Nat → Int32) (g_others : Nat → Int32) : Prop := ∀ z1 : Int32, z1 = x7 + 1 → K170 x1 x2 x3 x4 x5 y0 z1 iv g_elements g_ranks g_rankOf g_sizes g_others
def w87_L197 (K170 : Int32 → Int32 → Int32 → Int32 → Int32 → Int32 → Int32 → (Nat → Int32) → (Nat → Int32) → (Nat → Int32) → (Nat → Int32) → (Nat → Int32) → (Nat → Int32) → Prop) (post : Int32 → (Nat → Int32) → (Nat → Int32) → (Nat → Int32) → (Nat → Int32) → (Nat → Int32) → (Nat → Int32) → Prop) (x1 : Int32) (x2 : Int32) (x3 : Int32) (x4 : Int32) (x5 : Int32) (x6 : Int32) (x7 : Int32) (iv : Nat → Int32) (g_elements : Nat → Int32) (g_ranks : Nat → Int32) (g_rankOf : Nat → Int32) (g_sizes : Nat → Int32) (g_others : Nat → Int32) : Prop := w87_L198 K170 post x1 x2 x3 x4 x5 x6 x7 0 iv g_elements g_ranks g_rankOf g_sizes g_others
def w87_L170 (post : Int32 → (Nat → Int32) → (Nat → Int32) → (Nat → Int32) → (Nat → Int32) → (Nat → Int32) → (Nat → Int32) → Prop) : Nat → Int32 → Int32 → Int32 → Int32 → Int32 → Int32 → Int32 → (Nat → Int32) → (Nat → Int32) → (Nat → Int32) → (Nat → Int32) → (Nat → Int32) → (Nat → Int32) → Prop
  | 0 => fun _ _ _ _ _ _ _ _ _ _ _ _ _ => False
  | k + 1 => fun x1 x2 x3 x4 x5 x6 x7 iv g_elements g_ranks g_rankOf g_sizes g_others => (169 ≤ x7 → narrow .boolean (.int x6) = .int x6 ∧ post x6 iv g_elements g_ranks g_rankOf g_sizes g_others) ∧ (¬ 169 ≤ x7 → (x6 = 0 → w87_L197 (w87_L170 post k) post x1 x2 x3 x4 x5 x6 x7 iv g_elements g_ranks g_rankOf g_sizes g_others) ∧ (¬ x6 = 0 → vp_in x7 169 ∧ ((¬ (g_others (Int32.toNatClampNeg x7)) = 0 → w87_L197 (w87_L170 post k) post x1 x2 x3 x4 x5 x6 x7 iv g_elements g_ranks g_rankOf g_sizes g_others) ∧ ((g_others (Int32.toNatClampNeg x7)) = 0 → w87_L198 (w87_L170 post k) post x1 x2 x3 x4 x5 x6 x7 1 iv g_elements g_ranks g_rankOf g_sizes g_others))))
def w87_L159 (K106 : Int32 → Int32 → Int32 → Int32 → Int32 → Int32 → (Nat → Int32) → (Nat → Int32) → (Nat → Int32) → (Nat → Int32) → (Nat → Int32) → (Nat → Int32) → Prop) (post : Int32 → (Nat → Int32) → (Nat → Int32) → (Nat → Int32) → (Nat → Int32) → (Nat → Int32) → (Nat → Int32) → Prop) (x1 : Int32) (x2 : Int32) (x3 : Int32) (x4 : Int32) (x5 : Int32) (x6 : Int32) (y0 : Int32) (iv : Nat → Int32) (g_elements : Nat → Int32) (g_ranks : Nat → Int32) (g_rankOf : Nat → Int32) (g_sizes : Nat → Int32) (g_others : Nat → Int32) : Prop := K106 x1 x2 x3 x4 x5 y0 iv g_elements g_ranks g_rankOf g_sizes g_others
def w87_L106 (post : Int32 → (Nat → Int32) → (Nat → Int32) → (Nat → Int32) → (Nat → Int32) → (Nat → Int32) → (Nat → Int32) → Prop) : Nat → Int32 → Int32 → Int32 → Int32 → Int32 → Int32 → (Nat → Int32) → (Nat → Int32) → (Nat → Int32) → (Nat → Int32) → (Nat → Int32) → (Nat → Int32) → Prop
  | 0 => fun _ _ _ _ _ _ _ _ _ _ _ _ => False
  | k + 1 => fun x1 x2 x3 x4 x5 x6 iv g_elements g_ranks g_rankOf g_sizes g_others => (x6 < 0 → ∃ j170, w87_L170 post j170 x1 x2 x3 x4 x5 1 0 iv g_elements g_ranks g_rankOf g_sizes g_others) ∧ (¬ x6 < 0 → vp_in x6 4096 ∧ (w70_wp (fun r132 v2 v3 => vp_in (((13 * (g_sizes (Int32.toNatClampNeg x6))) + r132) - x5) 169 ∧ (∀ z4 : Int32, z4 = (g_others (Int32.toNatClampNeg (((13 * (g_sizes (Int32.toNatClampNeg x6))) + r132) - x5))) - 1 → vp_in (((13 * (g_sizes (Int32.toNatClampNeg x6))) + r132) - x5) 169 ∧ ((¬ x6 = 0 → w87_L159 (w87_L106 post k) post x1 x2 x3 x4 x5 x6 ((x6 - 1) &&& x3) v2 g_elements g_ranks v3 g_sizes (upd g_others (Int32.toNatClampNeg (((13 * (g_sizes (Int32.toNatClampNeg x6))) + r132) - x5)) z4)) ∧ (x6 = 0 → w87_L159 (w87_L106 post k) post x1 x2 x3 x4 x5 x6 (-1) v2 g_elements g_ranks v3 g_sizes (upd g_others (Int32.toNatClampNeg (((13 * (g_sizes (Int32.toNatClampNeg x6))) + r132) - x5)) z4))))) x1 (x6 ||| x4) iv g_rankOf))
def w87_L60 (post : Int32 → (Nat → Int32) → (Nat → Int32) → (Nat → Int32) → (Nat → Int32) → (Nat → Int32) → (Nat → Int32) → Prop) : Nat → Int32 → Int32 → Int32 → Int32 → Int32 → Int32 → (Nat → Int32) → (Nat → Int32) → (Nat → Int32) → (Nat → Int32) → (Nat → Int32) → (Nat → Int32) → Prop
  | 0 => fun _ _ _ _ _ _ _ _ _ _ _ _ => False
  | k + 1 => fun x1 x2 x3 x4 x5 x6 iv g_elements g_ranks g_rankOf g_sizes g_others => w71_wp (fun r64 v5 v6 => (r64 < x6 → ∃ j106, w87_L106 post j106 x1 x2 x3 x4 x5 x3 v5 v6 g_ranks g_rankOf g_sizes g_others) ∧ (¬ r64 < x6 → vp_in x6 4096 ∧ (w70_wp (fun r88 v7 v8 => vp_in ((13 * (g_sizes (Int32.toNatClampNeg x6))) + r88) 169 ∧ (∀ z9 : Int32, z9 = (g_others (Int32.toNatClampNeg ((13 * (g_sizes (Int32.toNatClampNeg x6))) + r88))) + 1 → vp_in ((13 * (g_sizes (Int32.toNatClampNeg x6))) + r88) 169 ∧ (∀ z10 : Int32, z10 = x6 + 1 → (w87_L60 post k) x1 x2 x3 x4 x5 z10 v7 v6 g_ranks v8 g_sizes (upd g_others (Int32.toNatClampNeg ((13 * (g_sizes (Int32.toNatClampNeg x6))) + r88)) z9)))) x2 x6 v5 g_rankOf))) x2 iv g_elements
def w87_L35 (post : Int32 → (Nat → Int32) → (Nat → Int32) → (Nat → Int32) → (Nat → Int32) → (Nat → Int32) → (Nat → Int32) → Prop) : Nat → Int32 → Int32 → Int32 → Int32 → Int32 → Int32 → (Nat → Int32) → (Nat → Int32) → (Nat → Int32) → (Nat → Int32) → (Nat → Int32) → (Nat → Int32) → Prop
  | 0 => fun _ _ _ _ _ _ _ _ _ _ _ _ => False
  | k + 1 => fun x1 x2 x3 x4 x5 x6 iv g_elements g_ranks g_rankOf g_sizes g_others => (169 ≤ x6 → ∃ j60, w87_L60 post j60 x1 x2 x3 x4 x5 0 iv g_elements g_ranks g_rankOf g_sizes g_others) ∧ (¬ 169 ≤ x6 → vp_in x6 169 ∧ (∀ z11 : Int32, z11 = x6 + 1 → (w87_L35 post k) x1 x2 x3 x4 x5 z11 iv g_elements g_ranks g_rankOf g_sizes (upd g_others (Int32.toNatClampNeg x6) 0)))
def w87_wp (post : Int32 → (Nat → Int32) → (Nat → Int32) → (Nat → Int32) → (Nat → Int32) → (Nat → Int32) → (Nat → Int32) → Prop) (a1x : Int32) (a2x : Int32) (a3x : Int32) (a4x : Int32) (iv : Nat → Int32) (g_elements : Nat → Int32) (g_ranks : Nat → Int32) (g_rankOf : Nat → Int32) (g_sizes : Nat → Int32) (g_others : Nat → Int32) : Prop := w70_wp (fun r4 v12 v13 => w70_wp (fun r15 v14 v15 => vp_in a2x 26 ∧ (((r15 - r4) = (g_ranks (Int32.toNatClampNeg a2x)) → ∃ j35, w87_L35 post j35 a1x a2x a3x a4x r4 0 v14 g_elements g_ranks v15 g_sizes g_others) ∧ (¬ (r15 - r4) = (g_ranks (Int32.toNatClampNeg a2x)) → narrow .boolean (.int 0) = .int 0 ∧ post 0 v14 g_elements g_ranks v15 g_sizes g_others))) a1x (a3x ||| a4x) v12 v13) a1x a4x iv g_rankOf
set_option maxHeartbeats 8000000 in
set_option maxRecDepth 100000 in
theorem w87_met (l : Launch) (dC : Nat → ClassId) (dI : Nat → Nat → Nat) (sz : Nat) (h0 : Nat) (rf : Nat → Nat) (c_elements : ClassId) (c_ranks : ClassId) (c_rankOf : ClassId) (c_sizes : ClassId) (c_others : ClassId) (a1x : Int32) (a2x : Int32) (a3x : Int32) (a4x : Int32) (iv : Nat → Int32) (g_elements : Nat → Int32) (g_ranks : Nat → Int32) (g_rankOf : Nat → Int32) (g_sizes : Nat → Int32) (g_others : Nat → Int32) (post : Int32 → (Nat → Int32) → (Nat → Int32) → (Nat → Int32) → (Nat → Int32) → (Nat → Int32) → (Nat → Int32) → Prop) (hw : w87_wp post a1x a2x a3x a4x iv g_elements g_ranks g_rankOf g_sizes g_others) : Met l px_y87 px_s87 ({ frames := 1, cells := 0, slots := 0, locals := 22 }) (va_Pc [.ref h0, .int a1x, .int a2x, .int a3x, .int a4x] (fun U => U.heap.size = sz ∧ va_P (dC, dI) vwCl [(h0, .inr (8, px_mf rf iv)), (rf 19, .inl (c_elements, 26, .inl g_elements)), (rf 21, .inl (c_ranks, 26, .inl g_ranks)), (rf 25, .inl (c_rankOf, 106496, .inl g_rankOf)), (rf 28, .inl (c_sizes, 4096, .inl g_sizes)), (rf 35, .inl (c_others, 169, .inl g_others))] U.heap ∧ va_K (dC, dI) vwCl [(c_elements, .int), (c_ranks, .int), (c_rankOf, .byte), (c_sizes, .int), (c_others, .int)] U ∧ va_D (fun _ => True) [(h0, .inr (8, px_mf rf iv)), (rf 19, .inl (c_elements, 26, .inl g_elements)), (rf 21, .inl (c_ranks, 26, .inl g_ranks)), (rf 25, .inl (c_rankOf, 106496, .inl g_rankOf)), (rf 28, .inl (c_sizes, 4096, .inl g_sizes)), (rf 35, .inl (c_others, 169, .inl g_others))] ∧ px_N U)) (va_Qi (fun (r : Int32) (u : (Nat → Int32) × (Nat → Int32) × (Nat → Int32) × (Nat → Int32) × (Nat → Int32) × (Nat → Int32)) => post r u.1 u.2.1 u.2.2.1 u.2.2.2.1 u.2.2.2.2.1 u.2.2.2.2.2) (fun (u : (Nat → Int32) × (Nat → Int32) × (Nat → Int32) × (Nat → Int32) × (Nat → Int32) × (Nat → Int32)) (t : State) => va_P (dC, dI) vwCl [(h0, .inr (8, px_mf rf u.1)), (rf 19, .inl (c_elements, 26, .inl u.2.1)), (rf 21, .inl (c_ranks, 26, .inl u.2.2.1)), (rf 25, .inl (c_rankOf, 106496, .inl u.2.2.2.1)), (rf 28, .inl (c_sizes, 4096, .inl u.2.2.2.2.1)), (rf 35, .inl (c_others, 169, .inl u.2.2.2.2.2))] t.heap ∧ va_K (dC, dI) vwCl [(c_elements, .int), (c_ranks, .int), (c_rankOf, .byte), (c_sizes, .int), (c_others, .int)] t ∧ va_D (va_A [(h0, .inr (8, px_mf rf iv)), (rf 19, .inl (c_elements, 26, .inl g_elements)), (rf 21, .inl (c_ranks, 26, .inl g_ranks)), (rf 25, .inl (c_rankOf, 106496, .inl g_rankOf)), (rf 28, .inl (c_sizes, 4096, .inl g_sizes)), (rf 35, .inl (c_others, 169, .inl g_others))] sz) [(h0, .inr (8, px_mf rf u.1)), (rf 19, .inl (c_elements, 26, .inl u.2.1)), (rf 21, .inl (c_ranks, 26, .inl u.2.2.1)), (rf 25, .inl (c_rankOf, 106496, .inl u.2.2.2.1)), (rf 28, .inl (c_sizes, 4096, .inl u.2.2.2.2.1)), (rf 35, .inl (c_others, 169, .inl u.2.2.2.2.2))]) (va_A [(h0, .inr (8, px_mf rf iv)), (rf 19, .inl (c_elements, 26, .inl g_elements)), (rf 21, .inl (c_ranks, 26, .inl g_ranks)), (rf 25, .inl (c_rankOf, 106496, .inl g_rankOf)), (rf 28, .inl (c_sizes, 4096, .inl g_sizes)), (rf 35, .inl (c_others, 169, .inl g_others))] sz)) 0 0 (va_A [(h0, .inr (8, px_mf rf iv)), (rf 19, .inl (c_elements, 26, .inl g_elements)), (rf 21, .inl (c_ranks, 26, .inl g_ranks)), (rf 25, .inl (c_rankOf, 106496, .inl g_rankOf)), (rf 28, .inl (c_sizes, 4096, .inl g_sizes)), (rf 35, .inl (c_others, 169, .inl g_others))] sz) := by
  refine Met.ofW (cc := prog_15_method_42_code) (maxL := 8) (ret := (some .boolean)) (by decide) rfl ?_
  intro p e s m args below meth c s₁ B hml hv
  obtain ⟨rfl, hsz, hP, hK, hD0, hN⟩ := hv
  have hx := B.exec
  have hb := B.bytes
  have hr := B.returns
  have htw : ∀ w ∈ px_all, w.before _ s = true := fun w h => atoms_spec (ws := px_s87) B.pre w (List.mem_cons_of_mem _ h)
  have hown : s.vm.findClass "MatroidDeskModel" = some m.cls := findClass_of_methodNamed B.named
  have hlocks := B.notSynchronized
  subst hsz
  have hD := hD0.self (sz := s.heap.size)
  generalize hAe : va_A [(h0, .inr (8, px_mf rf iv)), (rf 19, .inl (c_elements, 26, .inl g_elements)), (rf 21, .inl (c_ranks, 26, .inl g_ranks)), (rf 25, .inl (c_rankOf, 106496, .inl g_rankOf)), (rf 28, .inl (c_sizes, 4096, .inl g_sizes)), (rf 35, .inl (c_others, 169, .inl g_others))] s.heap.size = A at hD ⊢
  have hA : ∀ q : Nat, s.heap.size ≤ q → A q := fun q h => by rw [← hAe]; exact Or.inr h
  have hS : va_S A s.heap s.heap [] := va_S.rf
  have hP : va_P (dC, dI) vwCl [(h0, .inr (8, px_mf rf iv)), (rf 19, .inl (c_elements, 26, .inl g_elements)), (rf 21, .inl (c_ranks, 26, .inl g_ranks)), (rf 25, .inl (c_rankOf, 106496, .inl g_rankOf)), (rf 28, .inl (c_sizes, 4096, .inl g_sizes)), (rf 35, .inl (c_others, 169, .inl g_others))] s.heap := hP
  have hl := lv_entry ([.ref h0, .int a1x, .int a2x, .int a3x, .int a4x]) (n := 8) (Nat.le_of_ble_eq_true rfl)
  rw [lg_entry_eq]
  generalize (lg_sl ([.ref h0, .int a1x, .int a2x, .int a3x, .int a4x]) ++ List.replicate (8 - (lg_sl ([.ref h0, .int a1x, .int a2x, .int a3x, .int a4x])).length) Slot.unset).toArray = ls at hl ⊢
  have hl : lv_has ls 8 [(0, .ref h0), (1, .int a1x), (2, .int a2x), (3, .int a3x), (4, .int a4x)] := hl
  generalize hQ : MQ _ _ _ _ _ _ _ = Q
  have S170 : ∀ (k170 : Nat) (x1 : Int32) (x2 : Int32) (x3 : Int32) (x4 : Int32) (x5 : Int32) (x6 : Int32) (x7 : Int32) (iv : Nat → Int32) (g_elements : Nat → Int32) (g_ranks : Nat → Int32) (g_rankOf : Nat → Int32) (g_sizes : Nat → Int32) (g_others : Nat → Int32) (H : Heap) (locs : List Loc) (ls : Array Slot), va_P (dC, dI) vwCl [(h0, .inr (8, px_mf rf iv)), (rf 19, .inl (c_elements, 26, .inl g_elements)), (rf 21, .inl (c_ranks, 26, .inl g_ranks)), (rf 25, .inl (c_rankOf, 106496, .inl g_rankOf)), (rf 28, .inl (c_sizes, 4096, .inl g_sizes)), (rf 35, .inl (c_others, 169, .inl g_others))] H → va_D A [(h0, .inr (8, px_mf rf iv)), (rf 19, .inl (c_elements, 26, .inl g_elements)), (rf 21, .inl (c_ranks, 26, .inl g_ranks)), (rf 25, .inl (c_rankOf, 106496, .inl g_rankOf)), (rf 28, .inl (c_sizes, 4096, .inl g_sizes)), (rf 35, .inl (c_others, 169, .inl g_others))] → va_S A s.heap H locs → lv_has ls 8 [(0, .ref h0), (1, .int x1), (2, .int x2), (3, .int x3), (4, .int x4), (5, .int x5), (6, .int x6), (7, .int x7)] → w87_L170 post k170 x1 x2 x3 x4 x5 x6 x7 iv g_elements g_ranks g_rankOf g_sizes g_others → W p l e (headSpec px_s87 ({ frames := 1, cells := 0, slots := 0, locals := 22 })).room s m ([.ref h0, .int a1x, .int a2x, .int a3x, .int a4x]).toArray below meth c H locs 0 0 Q (F0 m 170 ls []) := by
    intro k170
    induction k170 with
    | zero => intro x1 x2 x3 x4 x5 x6 x7 iv g_elements g_ranks g_rankOf g_sizes g_others H locs ls hP hD hS hl hw; exact False.elim hw
    | succ k170 ih170 =>
      have S198 : ∀ (x1 : Int32) (x2 : Int32) (x3 : Int32) (x4 : Int32) (x5 : Int32) (x6 : Int32) (x7 : Int32) (y0 : Int32) (iv : Nat → Int32) (g_elements : Nat → Int32) (g_ranks : Nat → Int32) (g_rankOf : Nat → Int32) (g_sizes : Nat → Int32) (g_others : Nat → Int32) (H : Heap) (locs : List Loc) (ls : Array Slot), va_P (dC, dI) vwCl [(h0, .inr (8, px_mf rf iv)), (rf 19, .inl (c_elements, 26, .inl g_elements)), (rf 21, .inl (c_ranks, 26, .inl g_ranks)), (rf 25, .inl (c_rankOf, 106496, .inl g_rankOf)), (rf 28, .inl (c_sizes, 4096, .inl g_sizes)), (rf 35, .inl (c_others, 169, .inl g_others))] H → va_D A [(h0, .inr (8, px_mf rf iv)), (rf 19, .inl (c_elements, 26, .inl g_elements)), (rf 21, .inl (c_ranks, 26, .inl g_ranks)), (rf 25, .inl (c_rankOf, 106496, .inl g_rankOf)), (rf 28, .inl (c_sizes, 4096, .inl g_sizes)), (rf 35, .inl (c_others, 169, .inl g_others))] → va_S A s.heap H locs → lv_has ls 8 [(0, .ref h0), (1, .int x1), (2, .int x2), (3, .int x3), (4, .int x4), (5, .int x5), (6, .int x6), (7, .int x7)] → w87_L198 (w87_L170 post k170) post x1 x2 x3 x4 x5 x6 x7 y0 iv g_elements g_ranks g_rankOf g_sizes g_others → W p l e (headSpec px_s87 ({ frames := 1, cells := 0, slots := 0, locals := 22 })).room s m ([.ref h0, .int a1x, .int a2x, .int a3x, .int a4x]).toArray below meth c H locs 0 0 Q (F0 m 198 ls [.int y0]) := by
        intro x1 x2 x3 x4 x5 x6 x7 y0 iv g_elements g_ranks g_rankOf g_sizes g_others H locs ls hP hD hS hl hw
        unfold w87_L198 at hw
        refine lv_istore (lv' := [(6, .int y0), (0, .ref h0), (1, .int x1), (2, .int x2), (3, .int x3), (4, .int x4), (5, .int x5), (7, .int x7)]) hx hb px_d87_198 hl (by decide) rfl (fun ls hl => ?_)
        obtain ⟨z1, ez1⟩ : ∃ y : Int32, y = x7 + 1 := ⟨_, rfl⟩
        have hw := hw z1 ez1
        refine lv_iinc (v := z1) (lv' := [(7, .int z1), (6, .int y0), (0, .ref h0), (1, .int x1), (2, .int x2), (3, .int x3), (4, .int x4), (5, .int x5)]) hx hb px_d87_200 hl (k := 7) rfl (by rw [ez1]; rfl) (by decide) rfl (fun ls hl => ?_)
        refine lv_goto (tgt := 170) hx hb px_d87_203 (by decide) ?_
        exact ih170 x1 x2 x3 x4 x5 y0 z1 iv g_elements g_ranks g_rankOf g_sizes g_others H locs ls hP hD hS (lv_sub hl [2, 3, 4, 5, 6, 7, 1, 0] rfl) hw
      have S197 : ∀ (x1 : Int32) (x2 : Int32) (x3 : Int32) (x4 : Int32) (x5 : Int32) (x6 : Int32) (x7 : Int32) (iv : Nat → Int32) (g_elements : Nat → Int32) (g_ranks : Nat → Int32) (g_rankOf : Nat → Int32) (g_sizes : Nat → Int32) (g_others : Nat → Int32) (H : Heap) (locs : List Loc) (ls : Array Slot), va_P (dC, dI) vwCl [(h0, .inr (8, px_mf rf iv)), (rf 19, .inl (c_elements, 26, .inl g_elements)), (rf 21, .inl (c_ranks, 26, .inl g_ranks)), (rf 25, .inl (c_rankOf, 106496, .inl g_rankOf)), (rf 28, .inl (c_sizes, 4096, .inl g_sizes)), (rf 35, .inl (c_others, 169, .inl g_others))] H → va_D A [(h0, .inr (8, px_mf rf iv)), (rf 19, .inl (c_elements, 26, .inl g_elements)), (rf 21, .inl (c_ranks, 26, .inl g_ranks)), (rf 25, .inl (c_rankOf, 106496, .inl g_rankOf)), (rf 28, .inl (c_sizes, 4096, .inl g_sizes)), (rf 35, .inl (c_others, 169, .inl g_others))] → va_S A s.heap H locs → lv_has ls 8 [(0, .ref h0), (1, .int x1), (2, .int x2), (3, .int x3), (4, .int x4), (5, .int x5), (6, .int x6), (7, .int x7)] → w87_L197 (w87_L170 post k170) post x1 x2 x3 x4 x5 x6 x7 iv g_elements g_ranks g_rankOf g_sizes g_others → W p l e (headSpec px_s87 ({ frames := 1, cells := 0, slots := 0, locals := 22 })).room s m ([.ref h0, .int a1x, .int a2x, .int a3x, .int a4x]).toArray below meth c H locs 0 0 Q (F0 m 197 ls []) := by
        intro x1 x2 x3 x4 x5 x6 x7 iv g_elements g_ranks g_rankOf g_sizes g_others H locs ls hP hD hS hl hw
        unfold w87_L197 at hw
        refine lv_iconst (v := 0) hx hb px_d87_197 (by decide) ?_
        exact S198 x1 x2 x3 x4 x5 x6 x7 0 iv g_elements g_ranks g_rankOf g_sizes g_others H locs ls hP hD hS (lv_sub hl [0, 1, 2, 3, 4, 5, 6, 7] rfl) hw
      intro x1 x2 x3 x4 x5 x6 x7 iv g_elements g_ranks g_rankOf g_sizes g_others H locs ls hP hD hS hl hw
      unfold w87_L170 at hw
      refine lv_iload hx hb px_d87_170 (lv_at hl 7 rfl) ?_
      refine lv_sipush (v := 169) hx hb px_d87_172 (by decide) ?_
      refine lv_icmp_ge (tgt := 206) hx hb px_d87_175 (by decide) (fun c175 => ?_) (fun c175 => ?_)
      · have hw := hw.1 c175
        refine lv_iload hx hb px_d87_206 (lv_at hl 6 rfl) ?_
        obtain ⟨hz9, hw⟩ := hw
        rw [← hQ]
        exact W.zret (v := x6) hx hb hr hz9 (fun t ht hW => ⟨⟨x6, (iv, g_elements, g_ranks, g_rankOf, g_sizes, g_others), rfl, hw, by rw [ht]; exact hP, va_K.moved hW.alike hK, hD⟩, hS.F ht⟩) hS.2.2 px_d87_208
      · have hw := hw.2 c175
        refine lv_iload hx hb px_d87_178 (lv_at hl 6 rfl) ?_
        refine lv_if_eq (tgt := 197) hx hb px_d87_180 (by decide) (fun c180 => ?_) (fun c180 => ?_)
        · have hw := hw.1 c180
          exact S197 x1 x2 x3 x4 x5 x6 x7 iv g_elements g_ranks g_rankOf g_sizes g_others H locs ls hP hD hS (lv_sub hl [0, 1, 2, 3, 4, 5, 6, 7] rfl) hw
        · have hw := hw.2 c180
          refine lv_aload_n hx hb px_d87_183 rfl (lv_at hl 0 rfl) ?_
          refine va_get (D := (dC, dI)) (ci := 8) (v := .ref (rf 35)) (C := "MatroidDeskModel") (T := px_T8) (N := 53) hx hb htw px_in8 hown hK hP 0 rfl rfl 35 (by decide) (htw _ px_w518) (fun _ h9 => h9) rfl px_d87_184 ?_
          refine lv_iload hx hb px_d87_187 (lv_at hl 7 rfl) ?_
          obtain ⟨hi189, hw⟩ := hw
          refine va_iald hx hb hK hP 5 4 rfl rfl hi189 px_d87_189 ?_
          refine lv_if_ne (tgt := 197) hx hb px_d87_190 (by decide) (fun c190 => ?_) (fun c190 => ?_)
          · have hw := hw.1 c190
            exact S197 x1 x2 x3 x4 x5 x6 x7 iv g_elements g_ranks g_rankOf g_sizes g_others H locs ls hP hD hS (lv_sub hl [0, 1, 2, 3, 4, 5, 6, 7] rfl) hw
          · have hw := hw.2 c190
            refine lv_iconst (v := 1) hx hb px_d87_193 (by decide) ?_
            refine lv_goto (tgt := 198) hx hb px_d87_194 (by decide) ?_
            exact S198 x1 x2 x3 x4 x5 x6 x7 1 iv g_elements g_ranks g_rankOf g_sizes g_others H locs ls hP hD hS (lv_sub hl [0, 1, 2, 3, 4, 5, 6, 7] rfl) hw
  have S106 : ∀ (k106 : Nat) (x1 : Int32) (x2 : Int32) (x3 : Int32) (x4 : Int32) (x5 : Int32) (x6 : Int32) (iv : Nat → Int32) (g_elements : Nat → Int32) (g_ranks : Nat → Int32) (g_rankOf : Nat → Int32) (g_sizes : Nat → Int32) (g_others : Nat → Int32) (H : Heap) (locs : List Loc) (ls : Array Slot), va_P (dC, dI) vwCl [(h0, .inr (8, px_mf rf iv)), (rf 19, .inl (c_elements, 26, .inl g_elements)), (rf 21, .inl (c_ranks, 26, .inl g_ranks)), (rf 25, .inl (c_rankOf, 106496, .inl g_rankOf)), (rf 28, .inl (c_sizes, 4096, .inl g_sizes)), (rf 35, .inl (c_others, 169, .inl g_others))] H → va_D A [(h0, .inr (8, px_mf rf iv)), (rf 19, .inl (c_elements, 26, .inl g_elements)), (rf 21, .inl (c_ranks, 26, .inl g_ranks)), (rf 25, .inl (c_rankOf, 106496, .inl g_rankOf)), (rf 28, .inl (c_sizes, 4096, .inl g_sizes)), (rf 35, .inl (c_others, 169, .inl g_others))] → va_S A s.heap H locs → lv_has ls 8 [(0, .ref h0), (1, .int x1), (2, .int x2), (3, .int x3), (4, .int x4), (5, .int x5), (6, .int x6)] → w87_L106 post k106 x1 x2 x3 x4 x5 x6 iv g_elements g_ranks g_rankOf g_sizes g_others → W p l e (headSpec px_s87 ({ frames := 1, cells := 0, slots := 0, locals := 22 })).room s m ([.ref h0, .int a1x, .int a2x, .int a3x, .int a4x]).toArray below meth c H locs 0 0 Q (F0 m 106 ls []) := by
    intro k106
    induction k106 with
    | zero => intro x1 x2 x3 x4 x5 x6 iv g_elements g_ranks g_rankOf g_sizes g_others H locs ls hP hD hS hl hw; exact False.elim hw
    | succ k106 ih106 =>
      have S159 : ∀ (x1 : Int32) (x2 : Int32) (x3 : Int32) (x4 : Int32) (x5 : Int32) (x6 : Int32) (y0 : Int32) (iv : Nat → Int32) (g_elements : Nat → Int32) (g_ranks : Nat → Int32) (g_rankOf : Nat → Int32) (g_sizes : Nat → Int32) (g_others : Nat → Int32) (H : Heap) (locs : List Loc) (ls : Array Slot), va_P (dC, dI) vwCl [(h0, .inr (8, px_mf rf iv)), (rf 19, .inl (c_elements, 26, .inl g_elements)), (rf 21, .inl (c_ranks, 26, .inl g_ranks)), (rf 25, .inl (c_rankOf, 106496, .inl g_rankOf)), (rf 28, .inl (c_sizes, 4096, .inl g_sizes)), (rf 35, .inl (c_others, 169, .inl g_others))] H → va_D A [(h0, .inr (8, px_mf rf iv)), (rf 19, .inl (c_elements, 26, .inl g_elements)), (rf 21, .inl (c_ranks, 26, .inl g_ranks)), (rf 25, .inl (c_rankOf, 106496, .inl g_rankOf)), (rf 28, .inl (c_sizes, 4096, .inl g_sizes)), (rf 35, .inl (c_others, 169, .inl g_others))] → va_S A s.heap H locs → lv_has ls 8 [(0, .ref h0), (1, .int x1), (2, .int x2), (3, .int x3), (4, .int x4), (5, .int x5), (6, .int x6)] → w87_L159 (w87_L106 post k106) post x1 x2 x3 x4 x5 x6 y0 iv g_elements g_ranks g_rankOf g_sizes g_others → W p l e (headSpec px_s87 ({ frames := 1, cells := 0, slots := 0, locals := 22 })).room s m ([.ref h0, .int a1x, .int a2x, .int a3x, .int a4x]).toArray below meth c H locs 0 0 Q (F0 m 159 ls [.int y0]) := by
        intro x1 x2 x3 x4 x5 x6 y0 iv g_elements g_ranks g_rankOf g_sizes g_others H locs ls hP hD hS hl hw
        unfold w87_L159 at hw
        refine lv_istore (lv' := [(6, .int y0), (0, .ref h0), (1, .int x1), (2, .int x2), (3, .int x3), (4, .int x4), (5, .int x5)]) hx hb px_d87_159 hl (by decide) rfl (fun ls hl => ?_)
        refine lv_goto (tgt := 106) hx hb px_d87_161 (by decide) ?_
        exact ih106 x1 x2 x3 x4 x5 y0 iv g_elements g_ranks g_rankOf g_sizes g_others H locs ls hP hD hS (lv_sub hl [1, 2, 3, 4, 5, 6, 0] rfl) hw
      intro x1 x2 x3 x4 x5 x6 iv g_elements g_ranks g_rankOf g_sizes g_others H locs ls hP hD hS hl hw
      unfold w87_L106 at hw
      refine lv_iload hx hb px_d87_106 (lv_at hl 6 rfl) ?_
      refine lv_if_lt (tgt := 164) hx hb px_d87_108 (by decide) (fun c108 => ?_) (fun c108 => ?_)
      · have hw := hw.1 c108
        refine lv_iconst (v := 1) hx hb px_d87_164 (by decide) ?_
        refine lv_istore (lv' := [(6, .int 1), (0, .ref h0), (1, .int x1), (2, .int x2), (3, .int x3), (4, .int x4), (5, .int x5)]) hx hb px_d87_165 hl (by decide) rfl (fun ls hl => ?_)
        refine lv_iconst (v := 0) hx hb px_d87_167 (by decide) ?_
        refine lv_istore (lv' := [(7, .int 0), (6, .int 1), (0, .ref h0), (1, .int x1), (2, .int x2), (3, .int x3), (4, .int x4), (5, .int x5)]) hx hb px_d87_168 hl (by decide) rfl (fun ls hl => ?_)
        obtain ⟨k9, hw⟩ := hw
        exact S170 k9 x1 x2 x3 x4 x5 1 0 iv g_elements g_ranks g_rankOf g_sizes g_others H locs ls hP hD hS (lv_sub hl [2, 3, 4, 5, 6, 7, 1, 0] rfl) hw
      · have hw := hw.2 c108
        refine lv_aload_n hx hb px_d87_111 rfl (lv_at hl 0 rfl) ?_
        refine va_get (D := (dC, dI)) (ci := 8) (v := .ref (rf 35)) (C := "MatroidDeskModel") (T := px_T8) (N := 53) hx hb htw px_in8 hown hK hP 0 rfl rfl 35 (by decide) (htw _ px_w518) (fun _ h9 => h9) rfl px_d87_112 ?_
        refine lv_bipush (v := 13) hx hb px_d87_115 (by decide) ?_
        refine lv_aload_n hx hb px_d87_117 rfl (lv_at hl 0 rfl) ?_
        refine va_get (D := (dC, dI)) (ci := 8) (v := .ref (rf 28)) (C := "MatroidDeskModel") (T := px_T8) (N := 53) hx hb htw px_in8 hown hK hP 0 rfl rfl 28 (by decide) (htw _ px_w513) (fun _ h9 => h9) rfl px_d87_118 ?_
        refine lv_iload hx hb px_d87_121 (lv_at hl 6 rfl) ?_
        obtain ⟨hi123, hw⟩ := hw
        refine va_iald hx hb hK hP 4 3 rfl rfl hi123 px_d87_123 ?_
        refine lv_imul hx hb px_d87_124 ?_
        refine lv_aload_n hx hb px_d87_125 rfl (lv_at hl 0 rfl) ?_
        refine lv_iload_n hx hb px_d87_126 rfl (lv_at hl 1 rfl) ?_
        refine lv_iload hx hb px_d87_127 (lv_at hl 6 rfl) ?_
        refine lv_iload hx hb px_d87_129 (lv_at hl 4 rfl) ?_
        refine lv_ior hx hb px_d87_131 ?_
        have hPc := hP.sub (ws' := [(h0, .inr (8, px_mf rf iv)), (rf 25, .inl (c_rankOf, 106496, .inl g_rankOf))]) [0, 3] rfl
        have hDc := hD.sub (ws' := [(h0, .inr (8, px_mf rf iv)), (rf 25, .inl (c_rankOf, 106496, .inl g_rankOf))]) [0, 3] (by decide) rfl
        have hKc := hK.sub (tys' := [(c_rankOf, .byte)]) [2] rfl
        have hFc := va_free (wc := [(h0, .inr (8, px_mf rf iv)), (rf 25, .inl (c_rankOf, 106496, .inl g_rankOf))]) hD hS hA [0, 3] rfl
        refine va_calli (va_runV (As := [.int x1, .int (x6 ||| x4)]) (rest := [.int (13 * (g_sizes (Int32.toNatClampNeg x6))), .ref (rf 35)]) ⟨hx, hb, hml, hown, htw⟩ (w70_met l dC dI H.size h0 rf c_rankOf x1 (x6 ||| x4) iv g_rankOf _ hw) (cwV 2 htw (px_gv px_w561 px_w553 px_w554 px_w94 px_g70) rfl rfl rfl (by decide +kernel) ⟨Nat.le_of_ble_eq_true rfl, Nat.le_of_ble_eq_true rfl⟩) ⟨fun a U g mk q => by obtain ⟨q0, q1, qP, qK, qD, qN⟩ := q; exact ⟨q0, q1, qP, va_K.moved (u := U) (U := U.calling g mk a) (Vm.Alike.refl U.vm) qK, qD, qN.same rfl⟩, va_recv hK hP (ci := 8) (q0 := 0) rfl rfl, fun U hU hW => ⟨rfl, by rw [hU], by rw [hU]; exact hPc, va_K.moved hW.alike hKc, hDc.weaken (fun _ _ _ _ => trivial), hN.warm hW⟩⟩ rfl rfl hl.1 rfl (lv_room (Nat.le_of_ble_eq_true rfl)) px_d87_132 ⟨(Nat.le_of_ble_eq_true rfl), (Nat.le_of_ble_eq_true rfl)⟩) hS (fun q _ h => hFc q h) hFc (fun r132 u t H1 locs ht hvm hw hB hz1 hk1 hS => ?_)
        obtain ⟨v2, v3⟩ := u
        obtain ⟨hP1, hK1, hD1⟩ := hB
        rw [ht] at hP1
        have hK1 := va_K.moved hvm.symm hK1
        obtain ⟨hP, hD⟩ := va_join (wr := [(rf 19, .inl (c_elements, 26, .inl g_elements)), (rf 21, .inl (c_ranks, 26, .inl g_ranks)), (rf 28, .inl (c_sizes, 4096, .inl g_sizes)), (rf 35, .inl (c_others, 169, .inl g_others))]) (w1 := [(h0, .inr (8, px_mf rf v2)), (rf 25, .inl (c_rankOf, 106496, .inl v3))]) hP hD [0, 3] [1, 2, 4, 5] rfl rfl (by decide) (by decide) hk1 hFc hP1 hD1
        generalize H1 = H at hP hS ⊢
        have hP : va_P (dC, dI) vwCl [(rf 19, .inl (c_elements, 26, .inl g_elements)), (rf 21, .inl (c_ranks, 26, .inl g_ranks)), (rf 28, .inl (c_sizes, 4096, .inl g_sizes)), (rf 35, .inl (c_others, 169, .inl g_others)), (h0, .inr (8, px_mf rf v2)), (rf 25, .inl (c_rankOf, 106496, .inl v3))] H := hP
        have hD : va_D A [(rf 19, .inl (c_elements, 26, .inl g_elements)), (rf 21, .inl (c_ranks, 26, .inl g_ranks)), (rf 28, .inl (c_sizes, 4096, .inl g_sizes)), (rf 35, .inl (c_others, 169, .inl g_others)), (h0, .inr (8, px_mf rf v2)), (rf 25, .inl (c_rankOf, 106496, .inl v3))] := hD
        have hP := hP.sub (ws' := [(h0, .inr (8, px_mf rf v2)), (rf 19, .inl (c_elements, 26, .inl g_elements)), (rf 21, .inl (c_ranks, 26, .inl g_ranks)), (rf 25, .inl (c_rankOf, 106496, .inl v3)), (rf 28, .inl (c_sizes, 4096, .inl g_sizes)), (rf 35, .inl (c_others, 169, .inl g_others))]) [4, 0, 1, 5, 2, 3] rfl
        have hD := hD.sub (ws' := [(h0, .inr (8, px_mf rf v2)), (rf 19, .inl (c_elements, 26, .inl g_elements)), (rf 21, .inl (c_ranks, 26, .inl g_ranks)), (rf 25, .inl (c_rankOf, 106496, .inl v3)), (rf 28, .inl (c_sizes, 4096, .inl g_sizes)), (rf 35, .inl (c_others, 169, .inl g_others))]) [4, 0, 1, 5, 2, 3] (by decide) rfl
        refine lv_iadd hx hb px_d87_135 ?_
        refine lv_iload hx hb px_d87_136 (lv_at hl 5 rfl) ?_
        refine lv_isub hx hb px_d87_138 ?_
        refine lv_dup2_11 hx hb px_d87_139 rfl rfl ?_
        obtain ⟨hi140, hw⟩ := hw
        refine va_iald hx hb hK hP 5 4 rfl rfl hi140 px_d87_140 ?_
        refine lv_iconst (v := 1) hx hb px_d87_141 (by decide) ?_
        refine lv_isub hx hb px_d87_142 ?_
        refine lv_topi (fun z4 ez4 => ?_)
        have hw := hw z4 ez4
        obtain ⟨hi143, hw⟩ := hw
        refine va_iast hx hb hK hP hD hS 5 4 rfl rfl hi143 px_d87_143 (fun H locs hP hD hS => ?_)
        have hP : va_P (dC, dI) vwCl [(h0, .inr (8, px_mf rf v2)), (rf 19, .inl (c_elements, 26, .inl g_elements)), (rf 21, .inl (c_ranks, 26, .inl g_ranks)), (rf 25, .inl (c_rankOf, 106496, .inl v3)), (rf 28, .inl (c_sizes, 4096, .inl g_sizes)), (rf 35, .inl (c_others, 169, .inl (upd g_others (Int32.toNatClampNeg (((13 * (g_sizes (Int32.toNatClampNeg x6))) + r132) - x5)) z4)))] H := hP
        have hD : va_D A [(h0, .inr (8, px_mf rf v2)), (rf 19, .inl (c_elements, 26, .inl g_elements)), (rf 21, .inl (c_ranks, 26, .inl g_ranks)), (rf 25, .inl (c_rankOf, 106496, .inl v3)), (rf 28, .inl (c_sizes, 4096, .inl g_sizes)), (rf 35, .inl (c_others, 169, .inl (upd g_others (Int32.toNatClampNeg (((13 * (g_sizes (Int32.toNatClampNeg x6))) + r132) - x5)) z4)))] := hD
        refine lv_iload hx hb px_d87_144 (lv_at hl 6 rfl) ?_
        refine lv_if_ne (tgt := 153) hx hb px_d87_146 (by decide) (fun c146 => ?_) (fun c146 => ?_)
        · have hw := hw.1 c146
          refine lv_iload hx hb px_d87_153 (lv_at hl 6 rfl) ?_
          refine lv_iconst (v := 1) hx hb px_d87_155 (by decide) ?_
          refine lv_isub hx hb px_d87_156 ?_
          refine lv_iload_n hx hb px_d87_157 rfl (lv_at hl 3 rfl) ?_
          refine lv_iand hx hb px_d87_158 ?_
          exact S159 x1 x2 x3 x4 x5 x6 ((x6 - 1) &&& x3) v2 g_elements g_ranks v3 g_sizes (upd g_others (Int32.toNatClampNeg (((13 * (g_sizes (Int32.toNatClampNeg x6))) + r132) - x5)) z4) H locs ls hP hD hS (lv_sub hl [0, 1, 2, 3, 4, 5, 6] rfl) hw
        · have hw := hw.2 c146
          refine lv_iconst (v := (-1)) hx hb px_d87_149 (by decide) ?_
          refine lv_goto (tgt := 159) hx hb px_d87_150 (by decide) ?_
          exact S159 x1 x2 x3 x4 x5 x6 (-1) v2 g_elements g_ranks v3 g_sizes (upd g_others (Int32.toNatClampNeg (((13 * (g_sizes (Int32.toNatClampNeg x6))) + r132) - x5)) z4) H locs ls hP hD hS (lv_sub hl [0, 1, 2, 3, 4, 5, 6] rfl) hw
  have S60 : ∀ (k60 : Nat) (x1 : Int32) (x2 : Int32) (x3 : Int32) (x4 : Int32) (x5 : Int32) (x6 : Int32) (iv : Nat → Int32) (g_elements : Nat → Int32) (g_ranks : Nat → Int32) (g_rankOf : Nat → Int32) (g_sizes : Nat → Int32) (g_others : Nat → Int32) (H : Heap) (locs : List Loc) (ls : Array Slot), va_P (dC, dI) vwCl [(h0, .inr (8, px_mf rf iv)), (rf 19, .inl (c_elements, 26, .inl g_elements)), (rf 21, .inl (c_ranks, 26, .inl g_ranks)), (rf 25, .inl (c_rankOf, 106496, .inl g_rankOf)), (rf 28, .inl (c_sizes, 4096, .inl g_sizes)), (rf 35, .inl (c_others, 169, .inl g_others))] H → va_D A [(h0, .inr (8, px_mf rf iv)), (rf 19, .inl (c_elements, 26, .inl g_elements)), (rf 21, .inl (c_ranks, 26, .inl g_ranks)), (rf 25, .inl (c_rankOf, 106496, .inl g_rankOf)), (rf 28, .inl (c_sizes, 4096, .inl g_sizes)), (rf 35, .inl (c_others, 169, .inl g_others))] → va_S A s.heap H locs → lv_has ls 8 [(0, .ref h0), (1, .int x1), (2, .int x2), (3, .int x3), (4, .int x4), (5, .int x5), (6, .int x6)] → w87_L60 post k60 x1 x2 x3 x4 x5 x6 iv g_elements g_ranks g_rankOf g_sizes g_others → W p l e (headSpec px_s87 ({ frames := 1, cells := 0, slots := 0, locals := 22 })).room s m ([.ref h0, .int a1x, .int a2x, .int a3x, .int a4x]).toArray below meth c H locs 0 0 Q (F0 m 60 ls []) := by
    intro k60
    induction k60 with
    | zero => intro x1 x2 x3 x4 x5 x6 iv g_elements g_ranks g_rankOf g_sizes g_others H locs ls hP hD hS hl hw; exact False.elim hw
    | succ k60 ih60 =>
      intro x1 x2 x3 x4 x5 x6 iv g_elements g_ranks g_rankOf g_sizes g_others H locs ls hP hD hS hl hw
      unfold w87_L60 at hw
      refine lv_iload hx hb px_d87_60 (lv_at hl 6 rfl) ?_
      refine lv_aload_n hx hb px_d87_62 rfl (lv_at hl 0 rfl) ?_
      refine lv_iload_n hx hb px_d87_63 rfl (lv_at hl 2 rfl) ?_
      have hPc := hP.sub (ws' := [(h0, .inr (8, px_mf rf iv)), (rf 19, .inl (c_elements, 26, .inl g_elements))]) [0, 1] rfl
      have hDc := hD.sub (ws' := [(h0, .inr (8, px_mf rf iv)), (rf 19, .inl (c_elements, 26, .inl g_elements))]) [0, 1] (by decide) rfl
      have hKc := hK.sub (tys' := [(c_elements, .int)]) [0] rfl
      have hFc := va_free (wc := [(h0, .inr (8, px_mf rf iv)), (rf 19, .inl (c_elements, 26, .inl g_elements))]) hD hS hA [0, 1] rfl
      refine va_calli (va_runV (As := [.int x2]) (rest := [.int x6]) ⟨hx, hb, hml, hown, htw⟩ (w71_met l dC dI H.size h0 rf c_elements x2 iv g_elements _ hw) (cwV 1 htw (px_gv px_w565 px_w556 px_w557 px_w94 px_g71) rfl rfl rfl (by decide +kernel) ⟨Nat.le_of_ble_eq_true rfl, Nat.le_of_ble_eq_true rfl⟩) ⟨fun a U g mk q => by obtain ⟨q0, q1, qP, qK, qD, qN⟩ := q; exact ⟨q0, q1, qP, va_K.moved (u := U) (U := U.calling g mk a) (Vm.Alike.refl U.vm) qK, qD, qN.same rfl⟩, va_recv hK hP (ci := 8) (q0 := 0) rfl rfl, fun U hU hW => ⟨rfl, by rw [hU], by rw [hU]; exact hPc, va_K.moved hW.alike hKc, hDc.weaken (fun _ _ _ _ => trivial), hN.warm hW⟩⟩ rfl rfl hl.1 rfl (lv_room (Nat.le_of_ble_eq_true rfl)) px_d87_64 ⟨(Nat.le_of_ble_eq_true rfl), (Nat.le_of_ble_eq_true rfl)⟩) hS (fun q _ h => hFc q h) hFc (fun r64 u t H1 locs ht hvm hw hB hz1 hk1 hS => ?_)
      obtain ⟨v5, v6⟩ := u
      obtain ⟨hP1, hK1, hD1⟩ := hB
      rw [ht] at hP1
      have hK1 := va_K.moved hvm.symm hK1
      obtain ⟨hP, hD⟩ := va_join (wr := [(rf 21, .inl (c_ranks, 26, .inl g_ranks)), (rf 25, .inl (c_rankOf, 106496, .inl g_rankOf)), (rf 28, .inl (c_sizes, 4096, .inl g_sizes)), (rf 35, .inl (c_others, 169, .inl g_others))]) (w1 := [(h0, .inr (8, px_mf rf v5)), (rf 19, .inl (c_elements, 26, .inl v6))]) hP hD [0, 1] [2, 3, 4, 5] rfl rfl (by decide) (by decide) hk1 hFc hP1 hD1
      generalize H1 = H at hP hS ⊢
      have hP : va_P (dC, dI) vwCl [(rf 21, .inl (c_ranks, 26, .inl g_ranks)), (rf 25, .inl (c_rankOf, 106496, .inl g_rankOf)), (rf 28, .inl (c_sizes, 4096, .inl g_sizes)), (rf 35, .inl (c_others, 169, .inl g_others)), (h0, .inr (8, px_mf rf v5)), (rf 19, .inl (c_elements, 26, .inl v6))] H := hP
      have hD : va_D A [(rf 21, .inl (c_ranks, 26, .inl g_ranks)), (rf 25, .inl (c_rankOf, 106496, .inl g_rankOf)), (rf 28, .inl (c_sizes, 4096, .inl g_sizes)), (rf 35, .inl (c_others, 169, .inl g_others)), (h0, .inr (8, px_mf rf v5)), (rf 19, .inl (c_elements, 26, .inl v6))] := hD
      have hP := hP.sub (ws' := [(h0, .inr (8, px_mf rf v5)), (rf 19, .inl (c_elements, 26, .inl v6)), (rf 21, .inl (c_ranks, 26, .inl g_ranks)), (rf 25, .inl (c_rankOf, 106496, .inl g_rankOf)), (rf 28, .inl (c_sizes, 4096, .inl g_sizes)), (rf 35, .inl (c_others, 169, .inl g_others))]) [4, 5, 0, 1, 2, 3] rfl
      have hD := hD.sub (ws' := [(h0, .inr (8, px_mf rf v5)), (rf 19, .inl (c_elements, 26, .inl v6)), (rf 21, .inl (c_ranks, 26, .inl g_ranks)), (rf 25, .inl (c_rankOf, 106496, .inl g_rankOf)), (rf 28, .inl (c_sizes, 4096, .inl g_sizes)), (rf 35, .inl (c_others, 169, .inl g_others))]) [4, 5, 0, 1, 2, 3] (by decide) rfl
      refine lv_icmp_gt (tgt := 103) hx hb px_d87_67 (by decide) (fun c67 => ?_) (fun c67 => ?_)
      · have hw := hw.1 c67
        refine lv_iload_n hx hb px_d87_103 rfl (lv_at hl 3 rfl) ?_
        refine lv_istore (lv' := [(6, .int x3), (0, .ref h0), (1, .int x1), (2, .int x2), (3, .int x3), (4, .int x4), (5, .int x5)]) hx hb px_d87_104 hl (by decide) rfl (fun ls hl => ?_)
        obtain ⟨k9, hw⟩ := hw
        exact S106 k9 x1 x2 x3 x4 x5 x3 v5 v6 g_ranks g_rankOf g_sizes g_others H locs ls hP hD hS (lv_sub hl [1, 2, 3, 4, 5, 6, 0] rfl) hw
      · have hw := hw.2 c67
        refine lv_aload_n hx hb px_d87_70 rfl (lv_at hl 0 rfl) ?_
        refine va_get (D := (dC, dI)) (ci := 8) (v := .ref (rf 35)) (C := "MatroidDeskModel") (T := px_T8) (N := 53) hx hb htw px_in8 hown hK hP 0 rfl rfl 35 (by decide) (htw _ px_w518) (fun _ h9 => h9) rfl px_d87_71 ?_
        refine lv_bipush (v := 13) hx hb px_d87_74 (by decide) ?_
        refine lv_aload_n hx hb px_d87_76 rfl (lv_at hl 0 rfl) ?_
        refine va_get (D := (dC, dI)) (ci := 8) (v := .ref (rf 28)) (C := "MatroidDeskModel") (T := px_T8) (N := 53) hx hb htw px_in8 hown hK hP 0 rfl rfl 28 (by decide) (htw _ px_w513) (fun _ h9 => h9) rfl px_d87_77 ?_
        refine lv_iload hx hb px_d87_80 (lv_at hl 6 rfl) ?_
        obtain ⟨hi82, hw⟩ := hw
        refine va_iald hx hb hK hP 4 3 rfl rfl hi82 px_d87_82 ?_
        refine lv_imul hx hb px_d87_83 ?_
        refine lv_aload_n hx hb px_d87_84 rfl (lv_at hl 0 rfl) ?_
        refine lv_iload_n hx hb px_d87_85 rfl (lv_at hl 2 rfl) ?_
        refine lv_iload hx hb px_d87_86 (lv_at hl 6 rfl) ?_
        have hPc := hP.sub (ws' := [(h0, .inr (8, px_mf rf v5)), (rf 25, .inl (c_rankOf, 106496, .inl g_rankOf))]) [0, 3] rfl
        have hDc := hD.sub (ws' := [(h0, .inr (8, px_mf rf v5)), (rf 25, .inl (c_rankOf, 106496, .inl g_rankOf))]) [0, 3] (by decide) rfl
        have hKc := hK.sub (tys' := [(c_rankOf, .byte)]) [2] rfl
        have hFc := va_free (wc := [(h0, .inr (8, px_mf rf v5)), (rf 25, .inl (c_rankOf, 106496, .inl g_rankOf))]) hD hS hA [0, 3] rfl
        refine va_calli (va_runV (As := [.int x2, .int x6]) (rest := [.int (13 * (g_sizes (Int32.toNatClampNeg x6))), .ref (rf 35)]) ⟨hx, hb, hml, hown, htw⟩ (w70_met l dC dI H.size h0 rf c_rankOf x2 x6 v5 g_rankOf _ hw) (cwV 2 htw (px_gv px_w561 px_w553 px_w554 px_w94 px_g70) rfl rfl rfl (by decide +kernel) ⟨Nat.le_of_ble_eq_true rfl, Nat.le_of_ble_eq_true rfl⟩) ⟨fun a U g mk q => by obtain ⟨q0, q1, qP, qK, qD, qN⟩ := q; exact ⟨q0, q1, qP, va_K.moved (u := U) (U := U.calling g mk a) (Vm.Alike.refl U.vm) qK, qD, qN.same rfl⟩, va_recv hK hP (ci := 8) (q0 := 0) rfl rfl, fun U hU hW => ⟨rfl, by rw [hU], by rw [hU]; exact hPc, va_K.moved hW.alike hKc, hDc.weaken (fun _ _ _ _ => trivial), hN.warm hW⟩⟩ rfl rfl hl.1 rfl (lv_room (Nat.le_of_ble_eq_true rfl)) px_d87_88 ⟨(Nat.le_of_ble_eq_true rfl), (Nat.le_of_ble_eq_true rfl)⟩) hS (fun q _ h => hFc q h) hFc (fun r88 u t H1 locs ht hvm hw hB hz1 hk1 hS => ?_)
        obtain ⟨v7, v8⟩ := u
        obtain ⟨hP1, hK1, hD1⟩ := hB
        rw [ht] at hP1
        have hK1 := va_K.moved hvm.symm hK1
        obtain ⟨hP, hD⟩ := va_join (wr := [(rf 19, .inl (c_elements, 26, .inl v6)), (rf 21, .inl (c_ranks, 26, .inl g_ranks)), (rf 28, .inl (c_sizes, 4096, .inl g_sizes)), (rf 35, .inl (c_others, 169, .inl g_others))]) (w1 := [(h0, .inr (8, px_mf rf v7)), (rf 25, .inl (c_rankOf, 106496, .inl v8))]) hP hD [0, 3] [1, 2, 4, 5] rfl rfl (by decide) (by decide) hk1 hFc hP1 hD1
        generalize H1 = H at hP hS ⊢
        have hP : va_P (dC, dI) vwCl [(rf 19, .inl (c_elements, 26, .inl v6)), (rf 21, .inl (c_ranks, 26, .inl g_ranks)), (rf 28, .inl (c_sizes, 4096, .inl g_sizes)), (rf 35, .inl (c_others, 169, .inl g_others)), (h0, .inr (8, px_mf rf v7)), (rf 25, .inl (c_rankOf, 106496, .inl v8))] H := hP
        have hD : va_D A [(rf 19, .inl (c_elements, 26, .inl v6)), (rf 21, .inl (c_ranks, 26, .inl g_ranks)), (rf 28, .inl (c_sizes, 4096, .inl g_sizes)), (rf 35, .inl (c_others, 169, .inl g_others)), (h0, .inr (8, px_mf rf v7)), (rf 25, .inl (c_rankOf, 106496, .inl v8))] := hD
        have hP := hP.sub (ws' := [(h0, .inr (8, px_mf rf v7)), (rf 19, .inl (c_elements, 26, .inl v6)), (rf 21, .inl (c_ranks, 26, .inl g_ranks)), (rf 25, .inl (c_rankOf, 106496, .inl v8)), (rf 28, .inl (c_sizes, 4096, .inl g_sizes)), (rf 35, .inl (c_others, 169, .inl g_others))]) [4, 0, 1, 5, 2, 3] rfl
        have hD := hD.sub (ws' := [(h0, .inr (8, px_mf rf v7)), (rf 19, .inl (c_elements, 26, .inl v6)), (rf 21, .inl (c_ranks, 26, .inl g_ranks)), (rf 25, .inl (c_rankOf, 106496, .inl v8)), (rf 28, .inl (c_sizes, 4096, .inl g_sizes)), (rf 35, .inl (c_others, 169, .inl g_others))]) [4, 0, 1, 5, 2, 3] (by decide) rfl
        refine lv_iadd hx hb px_d87_91 ?_
        refine lv_dup2_11 hx hb px_d87_92 rfl rfl ?_
        obtain ⟨hi93, hw⟩ := hw
        refine va_iald hx hb hK hP 5 4 rfl rfl hi93 px_d87_93 ?_
        refine lv_iconst (v := 1) hx hb px_d87_94 (by decide) ?_
        refine lv_iadd hx hb px_d87_95 ?_
        refine lv_topi (fun z9 ez9 => ?_)
        have hw := hw z9 ez9
        obtain ⟨hi96, hw⟩ := hw
        refine va_iast hx hb hK hP hD hS 5 4 rfl rfl hi96 px_d87_96 (fun H locs hP hD hS => ?_)
        have hP : va_P (dC, dI) vwCl [(h0, .inr (8, px_mf rf v7)), (rf 19, .inl (c_elements, 26, .inl v6)), (rf 21, .inl (c_ranks, 26, .inl g_ranks)), (rf 25, .inl (c_rankOf, 106496, .inl v8)), (rf 28, .inl (c_sizes, 4096, .inl g_sizes)), (rf 35, .inl (c_others, 169, .inl (upd g_others (Int32.toNatClampNeg ((13 * (g_sizes (Int32.toNatClampNeg x6))) + r88)) z9)))] H := hP
        have hD : va_D A [(h0, .inr (8, px_mf rf v7)), (rf 19, .inl (c_elements, 26, .inl v6)), (rf 21, .inl (c_ranks, 26, .inl g_ranks)), (rf 25, .inl (c_rankOf, 106496, .inl v8)), (rf 28, .inl (c_sizes, 4096, .inl g_sizes)), (rf 35, .inl (c_others, 169, .inl (upd g_others (Int32.toNatClampNeg ((13 * (g_sizes (Int32.toNatClampNeg x6))) + r88)) z9)))] := hD
        obtain ⟨z10, ez10⟩ : ∃ y : Int32, y = x6 + 1 := ⟨_, rfl⟩
        have hw := hw z10 ez10
        refine lv_iinc (v := z10) (lv' := [(6, .int z10), (0, .ref h0), (1, .int x1), (2, .int x2), (3, .int x3), (4, .int x4), (5, .int x5)]) hx hb px_d87_97 hl (k := 6) rfl (by rw [ez10]; rfl) (by decide) rfl (fun ls hl => ?_)
        refine lv_goto (tgt := 60) hx hb px_d87_100 (by decide) ?_
        exact ih60 x1 x2 x3 x4 x5 z10 v7 v6 g_ranks v8 g_sizes (upd g_others (Int32.toNatClampNeg ((13 * (g_sizes (Int32.toNatClampNeg x6))) + r88)) z9) H locs ls hP hD hS (lv_sub hl [1, 2, 3, 4, 5, 6, 0] rfl) hw
  have S35 : ∀ (k35 : Nat) (x1 : Int32) (x2 : Int32) (x3 : Int32) (x4 : Int32) (x5 : Int32) (x6 : Int32) (iv : Nat → Int32) (g_elements : Nat → Int32) (g_ranks : Nat → Int32) (g_rankOf : Nat → Int32) (g_sizes : Nat → Int32) (g_others : Nat → Int32) (H : Heap) (locs : List Loc) (ls : Array Slot), va_P (dC, dI) vwCl [(h0, .inr (8, px_mf rf iv)), (rf 19, .inl (c_elements, 26, .inl g_elements)), (rf 21, .inl (c_ranks, 26, .inl g_ranks)), (rf 25, .inl (c_rankOf, 106496, .inl g_rankOf)), (rf 28, .inl (c_sizes, 4096, .inl g_sizes)), (rf 35, .inl (c_others, 169, .inl g_others))] H → va_D A [(h0, .inr (8, px_mf rf iv)), (rf 19, .inl (c_elements, 26, .inl g_elements)), (rf 21, .inl (c_ranks, 26, .inl g_ranks)), (rf 25, .inl (c_rankOf, 106496, .inl g_rankOf)), (rf 28, .inl (c_sizes, 4096, .inl g_sizes)), (rf 35, .inl (c_others, 169, .inl g_others))] → va_S A s.heap H locs → lv_has ls 8 [(0, .ref h0), (1, .int x1), (2, .int x2), (3, .int x3), (4, .int x4), (5, .int x5), (6, .int x6)] → w87_L35 post k35 x1 x2 x3 x4 x5 x6 iv g_elements g_ranks g_rankOf g_sizes g_others → W p l e (headSpec px_s87 ({ frames := 1, cells := 0, slots := 0, locals := 22 })).room s m ([.ref h0, .int a1x, .int a2x, .int a3x, .int a4x]).toArray below meth c H locs 0 0 Q (F0 m 35 ls []) := by
    intro k35
    induction k35 with
    | zero => intro x1 x2 x3 x4 x5 x6 iv g_elements g_ranks g_rankOf g_sizes g_others H locs ls hP hD hS hl hw; exact False.elim hw
    | succ k35 ih35 =>
      intro x1 x2 x3 x4 x5 x6 iv g_elements g_ranks g_rankOf g_sizes g_others H locs ls hP hD hS hl hw
      unfold w87_L35 at hw
      refine lv_iload hx hb px_d87_35 (lv_at hl 6 rfl) ?_
      refine lv_sipush (v := 169) hx hb px_d87_37 (by decide) ?_
      refine lv_icmp_ge (tgt := 57) hx hb px_d87_40 (by decide) (fun c40 => ?_) (fun c40 => ?_)
      · have hw := hw.1 c40
        refine lv_iconst (v := 0) hx hb px_d87_57 (by decide) ?_
        refine lv_istore (lv' := [(6, .int 0), (0, .ref h0), (1, .int x1), (2, .int x2), (3, .int x3), (4, .int x4), (5, .int x5)]) hx hb px_d87_58 hl (by decide) rfl (fun ls hl => ?_)
        obtain ⟨k9, hw⟩ := hw
        exact S60 k9 x1 x2 x3 x4 x5 0 iv g_elements g_ranks g_rankOf g_sizes g_others H locs ls hP hD hS (lv_sub hl [1, 2, 3, 4, 5, 6, 0] rfl) hw
      · have hw := hw.2 c40
        refine lv_aload_n hx hb px_d87_43 rfl (lv_at hl 0 rfl) ?_
        refine va_get (D := (dC, dI)) (ci := 8) (v := .ref (rf 35)) (C := "MatroidDeskModel") (T := px_T8) (N := 53) hx hb htw px_in8 hown hK hP 0 rfl rfl 35 (by decide) (htw _ px_w518) (fun _ h9 => h9) rfl px_d87_44 ?_
        refine lv_iload hx hb px_d87_47 (lv_at hl 6 rfl) ?_
        refine lv_iconst (v := 0) hx hb px_d87_49 (by decide) ?_
        obtain ⟨hi50, hw⟩ := hw
        refine va_iast hx hb hK hP hD hS 5 4 rfl rfl hi50 px_d87_50 (fun H locs hP hD hS => ?_)
        have hP : va_P (dC, dI) vwCl [(h0, .inr (8, px_mf rf iv)), (rf 19, .inl (c_elements, 26, .inl g_elements)), (rf 21, .inl (c_ranks, 26, .inl g_ranks)), (rf 25, .inl (c_rankOf, 106496, .inl g_rankOf)), (rf 28, .inl (c_sizes, 4096, .inl g_sizes)), (rf 35, .inl (c_others, 169, .inl (upd g_others (Int32.toNatClampNeg x6) 0)))] H := hP
        have hD : va_D A [(h0, .inr (8, px_mf rf iv)), (rf 19, .inl (c_elements, 26, .inl g_elements)), (rf 21, .inl (c_ranks, 26, .inl g_ranks)), (rf 25, .inl (c_rankOf, 106496, .inl g_rankOf)), (rf 28, .inl (c_sizes, 4096, .inl g_sizes)), (rf 35, .inl (c_others, 169, .inl (upd g_others (Int32.toNatClampNeg x6) 0)))] := hD
        obtain ⟨z11, ez11⟩ : ∃ y : Int32, y = x6 + 1 := ⟨_, rfl⟩
        have hw := hw z11 ez11
        refine lv_iinc (v := z11) (lv' := [(6, .int z11), (0, .ref h0), (1, .int x1), (2, .int x2), (3, .int x3), (4, .int x4), (5, .int x5)]) hx hb px_d87_51 hl (k := 6) rfl (by rw [ez11]; rfl) (by decide) rfl (fun ls hl => ?_)
        refine lv_goto (tgt := 35) hx hb px_d87_54 (by decide) ?_
        exact ih35 x1 x2 x3 x4 x5 z11 iv g_elements g_ranks g_rankOf g_sizes (upd g_others (Int32.toNatClampNeg x6) 0) H locs ls hP hD hS (lv_sub hl [1, 2, 3, 4, 5, 6, 0] rfl) hw
  unfold w87_wp at hw
  have hS0 := hS
  obtain ⟨H, hH9⟩ : ∃ z, z = s.heap := ⟨_, rfl⟩
  have hP : va_P (dC, dI) vwCl [(h0, .inr (8, px_mf rf iv)), (rf 19, .inl (c_elements, 26, .inl g_elements)), (rf 21, .inl (c_ranks, 26, .inl g_ranks)), (rf 25, .inl (c_rankOf, 106496, .inl g_rankOf)), (rf 28, .inl (c_sizes, 4096, .inl g_sizes)), (rf 35, .inl (c_others, 169, .inl g_others))] H := by rw [hH9]; exact hP
  obtain ⟨locs, hlo9⟩ : ∃ z : List Loc, z = [] := ⟨_, rfl⟩
  have hS : va_S A s.heap H locs := by rw [hH9, hlo9]; exact hS
  suffices hG : W p l e (headSpec px_s87 ({ frames := 1, cells := 0, slots := 0, locals := 22 })).room s m ([.ref h0, .int a1x, .int a2x, .int a3x, .int a4x]).toArray below meth c H locs 0 0 Q (F0 m 0 ls []) by rw [hH9, hlo9] at hG; exact hG
  refine lv_aload_n hx hb px_d87_0 rfl (lv_at hl 0 rfl) ?_
  refine lv_iload_n hx hb px_d87_1 rfl (lv_at hl 1 rfl) ?_
  refine lv_iload hx hb px_d87_2 (lv_at hl 4 rfl) ?_
  have hPc := hP.sub (ws' := [(h0, .inr (8, px_mf rf iv)), (rf 25, .inl (c_rankOf, 106496, .inl g_rankOf))]) [0, 3] rfl
  have hDc := hD.sub (ws' := [(h0, .inr (8, px_mf rf iv)), (rf 25, .inl (c_rankOf, 106496, .inl g_rankOf))]) [0, 3] (by decide) rfl
  have hKc := hK.sub (tys' := [(c_rankOf, .byte)]) [2] rfl
  have hFc := va_free (wc := [(h0, .inr (8, px_mf rf iv)), (rf 25, .inl (c_rankOf, 106496, .inl g_rankOf))]) hD hS hA [0, 3] rfl
  refine va_calli (va_runV (As := [.int a1x, .int a4x]) (rest := []) ⟨hx, hb, hml, hown, htw⟩ (w70_met l dC dI H.size h0 rf c_rankOf a1x a4x iv g_rankOf _ hw) (cwV 2 htw (px_gv px_w561 px_w553 px_w554 px_w94 px_g70) rfl rfl rfl (by decide +kernel) ⟨Nat.le_of_ble_eq_true rfl, Nat.le_of_ble_eq_true rfl⟩) ⟨fun a U g mk q => by obtain ⟨q0, q1, qP, qK, qD, qN⟩ := q; exact ⟨q0, q1, qP, va_K.moved (u := U) (U := U.calling g mk a) (Vm.Alike.refl U.vm) qK, qD, qN.same rfl⟩, va_recv hK hP (ci := 8) (q0 := 0) rfl rfl, fun U hU hW => ⟨rfl, by rw [hU], by rw [hU]; exact hPc, va_K.moved hW.alike hKc, hDc.weaken (fun _ _ _ _ => trivial), hN.warm hW⟩⟩ rfl rfl hl.1 rfl (lv_room (Nat.le_of_ble_eq_true rfl)) px_d87_4 ⟨(Nat.le_of_ble_eq_true rfl), (Nat.le_of_ble_eq_true rfl)⟩) hS (fun q _ h => hFc q h) hFc (fun r4 u t H1 locs ht hvm hw hB hz1 hk1 hS => ?_)
  obtain ⟨v12, v13⟩ := u
  obtain ⟨hP1, hK1, hD1⟩ := hB
  rw [ht] at hP1
  have hK1 := va_K.moved hvm.symm hK1
  obtain ⟨hP, hD⟩ := va_join (wr := [(rf 19, .inl (c_elements, 26, .inl g_elements)), (rf 21, .inl (c_ranks, 26, .inl g_ranks)), (rf 28, .inl (c_sizes, 4096, .inl g_sizes)), (rf 35, .inl (c_others, 169, .inl g_others))]) (w1 := [(h0, .inr (8, px_mf rf v12)), (rf 25, .inl (c_rankOf, 106496, .inl v13))]) hP hD [0, 3] [1, 2, 4, 5] rfl rfl (by decide) (by decide) hk1 hFc hP1 hD1
  generalize H1 = H at hP hS ⊢
  have hP : va_P (dC, dI) vwCl [(rf 19, .inl (c_elements, 26, .inl g_elements)), (rf 21, .inl (c_ranks, 26, .inl g_ranks)), (rf 28, .inl (c_sizes, 4096, .inl g_sizes)), (rf 35, .inl (c_others, 169, .inl g_others)), (h0, .inr (8, px_mf rf v12)), (rf 25, .inl (c_rankOf, 106496, .inl v13))] H := hP
  have hD : va_D A [(rf 19, .inl (c_elements, 26, .inl g_elements)), (rf 21, .inl (c_ranks, 26, .inl g_ranks)), (rf 28, .inl (c_sizes, 4096, .inl g_sizes)), (rf 35, .inl (c_others, 169, .inl g_others)), (h0, .inr (8, px_mf rf v12)), (rf 25, .inl (c_rankOf, 106496, .inl v13))] := hD
  have hP := hP.sub (ws' := [(h0, .inr (8, px_mf rf v12)), (rf 19, .inl (c_elements, 26, .inl g_elements)), (rf 21, .inl (c_ranks, 26, .inl g_ranks)), (rf 25, .inl (c_rankOf, 106496, .inl v13)), (rf 28, .inl (c_sizes, 4096, .inl g_sizes)), (rf 35, .inl (c_others, 169, .inl g_others))]) [4, 0, 1, 5, 2, 3] rfl
  have hD := hD.sub (ws' := [(h0, .inr (8, px_mf rf v12)), (rf 19, .inl (c_elements, 26, .inl g_elements)), (rf 21, .inl (c_ranks, 26, .inl g_ranks)), (rf 25, .inl (c_rankOf, 106496, .inl v13)), (rf 28, .inl (c_sizes, 4096, .inl g_sizes)), (rf 35, .inl (c_others, 169, .inl g_others))]) [4, 0, 1, 5, 2, 3] (by decide) rfl
  refine lv_istore (lv' := [(5, .int r4), (0, .ref h0), (1, .int a1x), (2, .int a2x), (3, .int a3x), (4, .int a4x)]) hx hb px_d87_7 hl (by decide) rfl (fun ls hl => ?_)
  refine lv_aload_n hx hb px_d87_9 rfl (lv_at hl 1 rfl) ?_
  refine lv_iload_n hx hb px_d87_10 rfl (lv_at hl 2 rfl) ?_
  refine lv_iload_n hx hb px_d87_11 rfl (lv_at hl 4 rfl) ?_
  refine lv_iload hx hb px_d87_12 (lv_at hl 5 rfl) ?_
  refine lv_ior hx hb px_d87_14 ?_
  have hPc := hP.sub (ws' := [(h0, .inr (8, px_mf rf v12)), (rf 25, .inl (c_rankOf, 106496, .inl v13))]) [0, 3] rfl
  have hDc := hD.sub (ws' := [(h0, .inr (8, px_mf rf v12)), (rf 25, .inl (c_rankOf, 106496, .inl v13))]) [0, 3] (by decide) rfl
  have hKc := hK.sub (tys' := [(c_rankOf, .byte)]) [2] rfl
  have hFc := va_free (wc := [(h0, .inr (8, px_mf rf v12)), (rf 25, .inl (c_rankOf, 106496, .inl v13))]) hD hS hA [0, 3] rfl
  refine va_calli (va_runV (As := [.int a1x, .int (a3x ||| a4x)]) (rest := []) ⟨hx, hb, hml, hown, htw⟩ (w70_met l dC dI H.size h0 rf c_rankOf a1x (a3x ||| a4x) v12 v13 _ hw) (cwV 2 htw (px_gv px_w561 px_w553 px_w554 px_w94 px_g70) rfl rfl rfl (by decide +kernel) ⟨Nat.le_of_ble_eq_true rfl, Nat.le_of_ble_eq_true rfl⟩) ⟨fun a U g mk q => by obtain ⟨q0, q1, qP, qK, qD, qN⟩ := q; exact ⟨q0, q1, qP, va_K.moved (u := U) (U := U.calling g mk a) (Vm.Alike.refl U.vm) qK, qD, qN.same rfl⟩, va_recv hK hP (ci := 8) (q0 := 0) rfl rfl, fun U hU hW => ⟨rfl, by rw [hU], by rw [hU]; exact hPc, va_K.moved hW.alike hKc, hDc.weaken (fun _ _ _ _ => trivial), hN.warm hW⟩⟩ rfl rfl hl.1 rfl (lv_room (Nat.le_of_ble_eq_true rfl)) px_d87_15 ⟨(Nat.le_of_ble_eq_true rfl), (Nat.le_of_ble_eq_true rfl)⟩) hS (fun q _ h => hFc q h) hFc (fun r15 u t H1 locs ht hvm hw hB hz1 hk1 hS => ?_)
  obtain ⟨v14, v15⟩ := u
  obtain ⟨hP1, hK1, hD1⟩ := hB
  rw [ht] at hP1
  have hK1 := va_K.moved hvm.symm hK1
  obtain ⟨hP, hD⟩ := va_join (wr := [(rf 19, .inl (c_elements, 26, .inl g_elements)), (rf 21, .inl (c_ranks, 26, .inl g_ranks)), (rf 28, .inl (c_sizes, 4096, .inl g_sizes)), (rf 35, .inl (c_others, 169, .inl g_others))]) (w1 := [(h0, .inr (8, px_mf rf v14)), (rf 25, .inl (c_rankOf, 106496, .inl v15))]) hP hD [0, 3] [1, 2, 4, 5] rfl rfl (by decide) (by decide) hk1 hFc hP1 hD1
  generalize H1 = H at hP hS ⊢
  have hP : va_P (dC, dI) vwCl [(rf 19, .inl (c_elements, 26, .inl g_elements)), (rf 21, .inl (c_ranks, 26, .inl g_ranks)), (rf 28, .inl (c_sizes, 4096, .inl g_sizes)), (rf 35, .inl (c_others, 169, .inl g_others)), (h0, .inr (8, px_mf rf v14)), (rf 25, .inl (c_rankOf, 106496, .inl v15))] H := hP
  have hD : va_D A [(rf 19, .inl (c_elements, 26, .inl g_elements)), (rf 21, .inl (c_ranks, 26, .inl g_ranks)), (rf 28, .inl (c_sizes, 4096, .inl g_sizes)), (rf 35, .inl (c_others, 169, .inl g_others)), (h0, .inr (8, px_mf rf v14)), (rf 25, .inl (c_rankOf, 106496, .inl v15))] := hD
  have hP := hP.sub (ws' := [(h0, .inr (8, px_mf rf v14)), (rf 19, .inl (c_elements, 26, .inl g_elements)), (rf 21, .inl (c_ranks, 26, .inl g_ranks)), (rf 25, .inl (c_rankOf, 106496, .inl v15)), (rf 28, .inl (c_sizes, 4096, .inl g_sizes)), (rf 35, .inl (c_others, 169, .inl g_others))]) [4, 0, 1, 5, 2, 3] rfl
  have hD := hD.sub (ws' := [(h0, .inr (8, px_mf rf v14)), (rf 19, .inl (c_elements, 26, .inl g_elements)), (rf 21, .inl (c_ranks, 26, .inl g_ranks)), (rf 25, .inl (c_rankOf, 106496, .inl v15)), (rf 28, .inl (c_sizes, 4096, .inl g_sizes)), (rf 35, .inl (c_others, 169, .inl g_others))]) [4, 0, 1, 5, 2, 3] (by decide) rfl
  refine lv_iload hx hb px_d87_18 (lv_at hl 0 rfl) ?_
  refine lv_isub hx hb px_d87_20 ?_
  refine lv_aload_n hx hb px_d87_21 rfl (lv_at hl 1 rfl) ?_
  refine va_get (D := (dC, dI)) (ci := 8) (v := .ref (rf 21)) (C := "MatroidDeskModel") (T := px_T8) (N := 53) hx hb htw px_in8 hown hK hP 0 rfl rfl 21 (by decide) (htw _ px_w504) (fun _ h9 => h9) rfl px_d87_22 ?_
  refine lv_iload_n hx hb px_d87_25 rfl (lv_at hl 3 rfl) ?_
  obtain ⟨hi26, hw⟩ := hw
  refine va_iald hx hb hK hP 2 1 rfl rfl hi26 px_d87_26 ?_
  refine lv_icmp_eq (tgt := 32) hx hb px_d87_27 (by decide) (fun c27 => ?_) (fun c27 => ?_)
  · have hw := hw.1 c27
    refine lv_iconst (v := 0) hx hb px_d87_32 (by decide) ?_
    refine lv_istore (lv' := [(6, .int 0), (5, .int r4), (0, .ref h0), (1, .int a1x), (2, .int a2x), (3, .int a3x), (4, .int a4x)]) hx hb px_d87_33 hl (by decide) rfl (fun ls hl => ?_)
    obtain ⟨k9, hw⟩ := hw
    exact S35 k9 a1x a2x a3x a4x r4 0 v14 g_elements g_ranks v15 g_sizes g_others H locs ls hP hD hS (lv_sub hl [2, 3, 4, 5, 6, 1, 0] rfl) hw
  · have hw := hw.2 c27
    refine lv_iconst (v := 0) hx hb px_d87_30 (by decide) ?_
    obtain ⟨hz9, hw⟩ := hw
    rw [← hQ]
    exact W.zret (v := 0) hx hb hr hz9 (fun t ht hW => ⟨⟨0, (v14, g_elements, g_ranks, v15, g_sizes, g_others), rfl, hw, by rw [ht]; exact hP, va_K.moved hW.alike hK, hD⟩, hS.F ht⟩) hS.2.2 px_d87_31

