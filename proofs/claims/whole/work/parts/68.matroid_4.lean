/-! MatroidDesk$Matroid.negatives(I)I -/
def w293_L129 (K32 : Int32 → Int32 → Int32 → Int32 → Int32 → Int32 → Nat → Nat → Int32 → (Nat → Int32) → (Nat → Int32) → (Nat → px_MR) → Nat → Nat → Prop) (a0x : Nat) (cm : Nat) (np : Nat) (ns : Nat) (pa : Nat → Nat) (sa : Nat → Nat) (pp : Nat → px_PR) (ss : Nat → px_SR) (mc : Nat) (ms : Nat) (post : Int32 → Nat → Nat → Int32 → (Nat → Int32) → (Nat → Int32) → (Nat → px_MR) → Prop) (x1 : Int32) (x2 : Int32) (x3 : Int32) (x4 : Int32) (x5 : Int32) (x6 : Int32) (x7 : Int32) (q_o : Nat) (l_o : Nat) (o_reached : Int32) (g_o : Nat → Int32) (g_t : Nat → Int32) (mm : Nat → px_MR) (kc : Nat) (ks : Nat) : Prop := ∀ z1 : Int32, z1 = x6 + 1 → K32 x1 x2 x3 x4 x5 z1 q_o l_o o_reached g_o g_t mm kc ks
def w293_L126 (K32 : Int32 → Int32 → Int32 → Int32 → Int32 → Int32 → Nat → Nat → Int32 → (Nat → Int32) → (Nat → Int32) → (Nat → px_MR) → Nat → Nat → Prop) (a0x : Nat) (cm : Nat) (np : Nat) (ns : Nat) (pa : Nat → Nat) (sa : Nat → Nat) (pp : Nat → px_PR) (ss : Nat → px_SR) (mc : Nat) (ms : Nat) (post : Int32 → Nat → Nat → Int32 → (Nat → Int32) → (Nat → Int32) → (Nat → px_MR) → Prop) (x1 : Int32) (x2 : Int32) (x3 : Int32) (x4 : Int32) (x5 : Int32) (x6 : Int32) (x7 : Int32) (x8 : Int32) (x9 : Int32) (y0 : Int32) (y1 : Int32) (q_o : Nat) (l_o : Nat) (o_reached : Int32) (g_o : Nat → Int32) (g_t : Nat → Int32) (mm : Nat → px_MR) (kc : Nat) (ks : Nat) : Prop := ∀ z2 : Int32, z2 = y1 ||| y0 → w293_L129 K32 a0x cm np ns pa sa pp ss mc ms post x1 x2 x3 x4 z2 x6 x7 q_o l_o o_reached g_o g_t mm kc ks
def w293_L111 (K32 : Int32 → Int32 → Int32 → Int32 → Int32 → Int32 → Nat → Nat → Int32 → (Nat → Int32) → (Nat → Int32) → (Nat → px_MR) → Nat → Nat → Prop) (a0x : Nat) (cm : Nat) (np : Nat) (ns : Nat) (pa : Nat → Nat) (sa : Nat → Nat) (pp : Nat → px_PR) (ss : Nat → px_SR) (mc : Nat) (ms : Nat) (post : Int32 → Nat → Nat → Int32 → (Nat → Int32) → (Nat → Int32) → (Nat → px_MR) → Prop) (x1 : Int32) (x2 : Int32) (x3 : Int32) (x4 : Int32) (x5 : Int32) (x6 : Int32) (x7 : Int32) (x8 : Int32) (y0 : Int32) (q_o : Nat) (l_o : Nat) (o_reached : Int32) (g_o : Nat → Int32) (g_t : Nat → Int32) (mm : Nat → px_MR) (kc : Nat) (ks : Nat) : Prop := (y0 = 0 → w293_L126 K32 a0x cm np ns pa sa pp ss mc ms post x1 x2 x3 x4 x5 x6 x7 x8 y0 0 x5 q_o l_o o_reached g_o g_t mm kc ks) ∧ (¬ y0 = 0 → w293_L126 K32 a0x cm np ns pa sa pp ss mc ms post x1 x2 x3 x4 x5 x6 x7 x8 y0 x7 x5 q_o l_o o_reached g_o g_t mm kc ks)
def w293_L32 (a0x : Nat) (cm : Nat) (np : Nat) (ns : Nat) (pa : Nat → Nat) (sa : Nat → Nat) (pp : Nat → px_PR) (ss : Nat → px_SR) (mc : Nat) (ms : Nat) (post : Int32 → Nat → Nat → Int32 → (Nat → Int32) → (Nat → Int32) → (Nat → px_MR) → Prop) : Nat → Int32 → Int32 → Int32 → Int32 → Int32 → Int32 → Nat → Nat → Int32 → (Nat → Int32) → (Nat → Int32) → (Nat → px_MR) → Nat → Nat → Prop
  | 0 => fun _ _ _ _ _ _ _ _ _ _ _ _ _ _ => False
  | k + 1 => fun x1 x2 x3 x4 x5 x6 q_o l_o o_reached g_o g_t mm kc ks => a0x < cm ∧ ((((mm a0x).2.1 13) ≤ x6 → post x5 q_o l_o o_reached g_o g_t mm) ∧ (¬ ((mm a0x).2.1 13) ≤ x6 → ∀ z3 : Int32, z3 = x3 &&& ((1 : Int32) <<< (x6 &&& 31)) → (z3 = 0 → w293_L129 (w293_L32 a0x cm np ns pa sa pp ss mc ms post k) a0x cm np ns pa sa pp ss mc ms post x1 x2 x3 x4 x5 x6 z3 q_o l_o o_reached g_o g_t mm kc ks) ∧ (¬ z3 = 0 → a0x < cm ∧ (a0x < cm ∧ (vp_in x4 ((mm a0x).2.2.1 6) ∧ (a0x < cm ∧ (a0x < cm ∧ (vp_in ((x4 ^^^ z3) ^^^ x2) ((mm a0x).2.2.1 6) ∧ (∀ z4 : Int32, z4 = (((mm a0x).2.2.2.1 6) (Int32.toNatClampNeg x4)) * (((mm a0x).2.2.2.1 6) (Int32.toNatClampNeg ((x4 ^^^ z3) ^^^ x2))) → (w294_wp (fun r82  => (r82 = 0 → (z4 ≤ 0 → w293_L111 (w293_L32 a0x cm np ns pa sa pp ss mc ms post k) a0x cm np ns pa sa pp ss mc ms post x1 x2 x3 x4 x5 x6 z3 z4 0 q_o l_o o_reached g_o g_t mm kc ks) ∧ (¬ z4 ≤ 0 → w293_L111 (w293_L32 a0x cm np ns pa sa pp ss mc ms post k) a0x cm np ns pa sa pp ss mc ms post x1 x2 x3 x4 x5 x6 z3 z4 1 q_o l_o o_reached g_o g_t mm kc ks)) ∧ (¬ r82 = 0 → (0 ≤ z4 → w293_L111 (w293_L32 a0x cm np ns pa sa pp ss mc ms post k) a0x cm np ns pa sa pp ss mc ms post x1 x2 x3 x4 x5 x6 z3 z4 0 q_o l_o o_reached g_o g_t mm kc ks) ∧ (¬ 0 ≤ z4 → w293_L111 (w293_L32 a0x cm np ns pa sa pp ss mc ms post k) a0x cm np ns pa sa pp ss mc ms post x1 x2 x3 x4 x5 x6 z3 z4 1 q_o l_o o_reached g_o g_t mm kc ks))) x4 (z3 ||| x2)))))))))))
def w293_wp (a0x : Nat) (cm : Nat) (np : Nat) (ns : Nat) (pa : Nat → Nat) (sa : Nat → Nat) (pp : Nat → px_PR) (ss : Nat → px_SR) (mc : Nat) (ms : Nat) (post : Int32 → Nat → Nat → Int32 → (Nat → Int32) → (Nat → Int32) → (Nat → px_MR) → Prop) (a1x : Int32) (q_o : Nat) (l_o : Nat) (o_reached : Int32) (g_o : Nat → Int32) (g_t : Nat → Int32) (mm : Nat → px_MR) : Prop := ∀ z6 : Int32, z6 = a1x &&& (-a1x) → ∀ z7 : Int32, z7 = a1x ^^^ z6 → a0x < cm ∧ (w249_wp a0x cm np ns pa sa pp ss (fun r13 v8 v9 v10 v11 v12 v13 => ∃ m20_21 s20_21 : Nat, 0 + m20_21 ≤ mc ∧ 0 + s20_21 ≤ ms ∧ a0x < cm ∧ (w261_wp a0x cm np ns pa sa pp ss m20_21 s20_21 (fun r20 v15 v16 v17 v18 v19 v20 => ∀ z23 : Int32, z23 = z7 ||| r20 → ∃ j32, w293_L32 a0x cm np ns pa sa pp ss mc ms post j32 a1x z6 z7 z23 0 0 v15 v16 v17 v18 v19 v20 (0 + m20_21) (0 + s20_21)) z7 (r13 &&& (z7 ^^^ (-1))) v8 v9 v10 v11 v12 v13)) q_o l_o o_reached g_o g_t mm)
set_option maxHeartbeats 8000000 in
set_option maxRecDepth 100000 in
theorem w293_met (l : Launch) (dC : Nat → ClassId) (dI : Nat → Nat → Nat) (sz : Nat) (ho : Nat) (q_t : Nat) (a0x : Nat) (cc : px_CC) (cm : Nat) (np : Nat) (ns : Nat) (hm : Nat → Nat) (pa : Nat → Nat) (sa : Nat → Nat) (pp : Nat → px_PR) (ss : Nat → px_SR) (mc : Nat) (ms : Nat) (a1x : Int32) (q_o : Nat) (l_o : Nat) (o_reached : Int32) (g_o : Nat → Int32) (g_t : Nat → Int32) (mm : Nat → px_MR) (post : Int32 → Nat → Nat → Int32 → (Nat → Int32) → (Nat → Int32) → (Nat → px_MR) → Prop) (hw : w293_wp a0x cm np ns pa sa pp ss mc ms post a1x q_o l_o o_reached g_o g_t mm) : Met l px_y293 px_s293 ({ frames := 4, cells := mc, slots := ms, locals := 90 }) (va_Pc [.ref (hm a0x), .int a1x] (fun U => U.heap.size = sz ∧ va_P (dC, dI) vwCl (([(ho, .inr (1, [.ref q_o, .ref q_t, .int o_reached])), (q_o, .inl (cc.2.1, l_o, .inl g_o)), (q_t, .inl (cc.2.1, 182, .inl g_t))] : va_W) ++ px_cp cc ho cm np ns hm pa sa mm pp ss) U.heap ∧ va_K (dC, dI) vwCl [(cc.2.1, .int), (cc.2.2.2.1, .byte), (cc.2.2.2.2, .long), (cc.1, .object "MatroidDesk$Part"), (cc.2.2.1, (.array .int))] U ∧ va_D (fun _ => True) (([(ho, .inr (1, [.ref q_o, .ref q_t, .int o_reached])), (q_o, .inl (cc.2.1, l_o, .inl g_o)), (q_t, .inl (cc.2.1, 182, .inl g_t))] : va_W) ++ px_cp cc ho cm np ns hm pa sa mm pp ss) ∧ px_N U)) (va_Qi (fun (r : Int32) (u : Nat × Nat × Int32 × (Nat → Int32) × (Nat → Int32) × (Nat → px_MR)) => post r u.1 u.2.1 u.2.2.1 u.2.2.2.1 u.2.2.2.2.1 u.2.2.2.2.2) (fun (u : Nat × Nat × Int32 × (Nat → Int32) × (Nat → Int32) × (Nat → px_MR)) (t : State) => va_P (dC, dI) vwCl (([(ho, .inr (1, [.ref u.1, .ref q_t, .int u.2.2.1])), (u.1, .inl (cc.2.1, u.2.1, .inl u.2.2.2.1)), (q_t, .inl (cc.2.1, 182, .inl u.2.2.2.2.1))] : va_W) ++ px_cp cc ho cm np ns hm pa sa u.2.2.2.2.2 pp ss) t.heap ∧ va_K (dC, dI) vwCl [(cc.2.1, .int), (cc.2.2.2.1, .byte), (cc.2.2.2.2, .long), (cc.1, .object "MatroidDesk$Part"), (cc.2.2.1, (.array .int))] t ∧ va_D (va_A (([(ho, .inr (1, [.ref q_o, .ref q_t, .int o_reached])), (q_o, .inl (cc.2.1, l_o, .inl g_o)), (q_t, .inl (cc.2.1, 182, .inl g_t))] : va_W) ++ px_cp cc ho cm np ns hm pa sa mm pp ss) sz) (([(ho, .inr (1, [.ref u.1, .ref q_t, .int u.2.2.1])), (u.1, .inl (cc.2.1, u.2.1, .inl u.2.2.2.1)), (q_t, .inl (cc.2.1, 182, .inl u.2.2.2.2.1))] : va_W) ++ px_cp cc ho cm np ns hm pa sa u.2.2.2.2.2 pp ss)) (va_A (([(ho, .inr (1, [.ref q_o, .ref q_t, .int o_reached])), (q_o, .inl (cc.2.1, l_o, .inl g_o)), (q_t, .inl (cc.2.1, 182, .inl g_t))] : va_W) ++ px_cp cc ho cm np ns hm pa sa mm pp ss) sz)) mc ms (va_A (([(ho, .inr (1, [.ref q_o, .ref q_t, .int o_reached])), (q_o, .inl (cc.2.1, l_o, .inl g_o)), (q_t, .inl (cc.2.1, 182, .inl g_t))] : va_W) ++ px_cp cc ho cm np ns hm pa sa mm pp ss) sz) := by
  refine Met.ofW (cc := prog_3_method_17_code) (maxL := 10) (ret := (some .int)) (by decide) rfl ?_
  intro p e s m args below meth c s₁ B hml hv
  obtain ⟨rfl, hsz, hP, hK, hD0, hN⟩ := hv
  have hx := B.exec
  have hb := B.bytes
  have hr := B.returns
  have htw : ∀ w ∈ px_all, w.before _ s = true := fun w h => atoms_spec (ws := px_s293) B.pre w (List.mem_cons_of_mem _ h)
  have hown : s.vm.findClass "MatroidDesk$Matroid" = some m.cls := findClass_of_methodNamed B.named
  have hlocks := B.notSynchronized
  subst hsz
  have hD := hD0.self (sz := s.heap.size)
  generalize hAe : va_A (([(ho, .inr (1, [.ref q_o, .ref q_t, .int o_reached])), (q_o, .inl (cc.2.1, l_o, .inl g_o)), (q_t, .inl (cc.2.1, 182, .inl g_t))] : va_W) ++ px_cp cc ho cm np ns hm pa sa mm pp ss) s.heap.size = A at hD ⊢
  have hA : ∀ q : Nat, s.heap.size ≤ q → A q := fun q h => by rw [← hAe]; exact Or.inr h
  have hS : va_S A s.heap s.heap [] := va_S.rf
  have hP : va_P (dC, dI) vwCl (([(ho, .inr (1, [.ref q_o, .ref q_t, .int o_reached])), (q_o, .inl (cc.2.1, l_o, .inl g_o)), (q_t, .inl (cc.2.1, 182, .inl g_t))] : va_W) ++ px_cp cc ho cm np ns hm pa sa mm pp ss) s.heap := hP
  have hl := lv_entry ([.ref (hm a0x), .int a1x]) (n := 10) (Nat.le_of_ble_eq_true rfl)
  rw [lg_entry_eq]
  generalize (lg_sl ([.ref (hm a0x), .int a1x]) ++ List.replicate (10 - (lg_sl ([.ref (hm a0x), .int a1x])).length) Slot.unset).toArray = ls at hl ⊢
  have hl : lv_has ls 10 [(0, .ref (hm a0x)), (1, .int a1x)] := hl
  generalize hQ : MQ _ _ _ _ _ _ _ = Q
  have S32 : ∀ (k32 : Nat) (x1 : Int32) (x2 : Int32) (x3 : Int32) (x4 : Int32) (x5 : Int32) (x6 : Int32) (q_o : Nat) (l_o : Nat) (o_reached : Int32) (g_o : Nat → Int32) (g_t : Nat → Int32) (mm : Nat → px_MR) (kc : Nat) (ks : Nat) (H : Heap) (locs : List Loc) (ls : Array Slot), kc ≤ mc → ks ≤ ms → va_P (dC, dI) vwCl (([(ho, .inr (1, [.ref q_o, .ref q_t, .int o_reached])), (q_o, .inl (cc.2.1, l_o, .inl g_o)), (q_t, .inl (cc.2.1, 182, .inl g_t))] : va_W) ++ px_cp cc ho cm np ns hm pa sa mm pp ss) H → va_D A (([(ho, .inr (1, [.ref q_o, .ref q_t, .int o_reached])), (q_o, .inl (cc.2.1, l_o, .inl g_o)), (q_t, .inl (cc.2.1, 182, .inl g_t))] : va_W) ++ px_cp cc ho cm np ns hm pa sa mm pp ss) → va_S A s.heap H locs → lv_has ls 10 [(0, .ref (hm a0x)), (1, .int x1), (2, .int x2), (3, .int x3), (4, .int x4), (5, .int x5), (6, .int x6)] → w293_L32 a0x cm np ns pa sa pp ss mc ms post k32 x1 x2 x3 x4 x5 x6 q_o l_o o_reached g_o g_t mm kc ks → W p l e (headSpec px_s293 ({ frames := 4, cells := mc, slots := ms, locals := 90 })).room s m ([.ref (hm a0x), .int a1x]).toArray below meth c H locs kc ks Q (F0 m 32 ls []) := by
    intro k32
    induction k32 with
    | zero => intro x1 x2 x3 x4 x5 x6 q_o l_o o_reached g_o g_t mm kc ks H locs ls hkc hks hP hD hS hl hw; exact False.elim hw
    | succ k32 ih32 =>
      have S129 : ∀ (x1 : Int32) (x2 : Int32) (x3 : Int32) (x4 : Int32) (x5 : Int32) (x6 : Int32) (x7 : Int32) (q_o : Nat) (l_o : Nat) (o_reached : Int32) (g_o : Nat → Int32) (g_t : Nat → Int32) (mm : Nat → px_MR) (kc : Nat) (ks : Nat) (H : Heap) (locs : List Loc) (ls : Array Slot), kc ≤ mc → ks ≤ ms → va_P (dC, dI) vwCl (([(ho, .inr (1, [.ref q_o, .ref q_t, .int o_reached])), (q_o, .inl (cc.2.1, l_o, .inl g_o)), (q_t, .inl (cc.2.1, 182, .inl g_t))] : va_W) ++ px_cp cc ho cm np ns hm pa sa mm pp ss) H → va_D A (([(ho, .inr (1, [.ref q_o, .ref q_t, .int o_reached])), (q_o, .inl (cc.2.1, l_o, .inl g_o)), (q_t, .inl (cc.2.1, 182, .inl g_t))] : va_W) ++ px_cp cc ho cm np ns hm pa sa mm pp ss) → va_S A s.heap H locs → lv_has ls 10 [(0, .ref (hm a0x)), (1, .int x1), (2, .int x2), (3, .int x3), (4, .int x4), (5, .int x5), (6, .int x6), (7, .int x7)] → w293_L129 (w293_L32 a0x cm np ns pa sa pp ss mc ms post k32) a0x cm np ns pa sa pp ss mc ms post x1 x2 x3 x4 x5 x6 x7 q_o l_o o_reached g_o g_t mm kc ks → W p l e (headSpec px_s293 ({ frames := 4, cells := mc, slots := ms, locals := 90 })).room s m ([.ref (hm a0x), .int a1x]).toArray below meth c H locs kc ks Q (F0 m 129 ls []) := by
        intro x1 x2 x3 x4 x5 x6 x7 q_o l_o o_reached g_o g_t mm kc ks H locs ls hkc hks hP hD hS hl hw
        unfold w293_L129 at hw
        obtain ⟨z1, ez1⟩ : ∃ y : Int32, y = x6 + 1 := ⟨_, rfl⟩
        have hw := hw z1 ez1
        refine lv_iinc (v := z1) (lv' := [(6, .int z1), (0, .ref (hm a0x)), (1, .int x1), (2, .int x2), (3, .int x3), (4, .int x4), (5, .int x5), (7, .int x7)]) hx hb px_d293_129 hl (k := 6) rfl (by rw [ez1]; rfl) (by decide) rfl (fun ls hl => ?_)
        refine lv_goto (tgt := 32) hx hb px_d293_132 (by decide) ?_
        exact ih32 x1 x2 x3 x4 x5 z1 q_o l_o o_reached g_o g_t mm kc ks H locs ls hkc hks hP hD hS (lv_sub hl [1, 2, 3, 4, 5, 6, 0] rfl) hw
      have S126 : ∀ (x1 : Int32) (x2 : Int32) (x3 : Int32) (x4 : Int32) (x5 : Int32) (x6 : Int32) (x7 : Int32) (x8 : Int32) (x9 : Int32) (y0 : Int32) (y1 : Int32) (q_o : Nat) (l_o : Nat) (o_reached : Int32) (g_o : Nat → Int32) (g_t : Nat → Int32) (mm : Nat → px_MR) (kc : Nat) (ks : Nat) (H : Heap) (locs : List Loc) (ls : Array Slot), kc ≤ mc → ks ≤ ms → va_P (dC, dI) vwCl (([(ho, .inr (1, [.ref q_o, .ref q_t, .int o_reached])), (q_o, .inl (cc.2.1, l_o, .inl g_o)), (q_t, .inl (cc.2.1, 182, .inl g_t))] : va_W) ++ px_cp cc ho cm np ns hm pa sa mm pp ss) H → va_D A (([(ho, .inr (1, [.ref q_o, .ref q_t, .int o_reached])), (q_o, .inl (cc.2.1, l_o, .inl g_o)), (q_t, .inl (cc.2.1, 182, .inl g_t))] : va_W) ++ px_cp cc ho cm np ns hm pa sa mm pp ss) → va_S A s.heap H locs → lv_has ls 10 [(0, .ref (hm a0x)), (1, .int x1), (2, .int x2), (3, .int x3), (4, .int x4), (5, .int x5), (6, .int x6), (7, .int x7), (8, .int x8), (9, .int x9)] → w293_L126 (w293_L32 a0x cm np ns pa sa pp ss mc ms post k32) a0x cm np ns pa sa pp ss mc ms post x1 x2 x3 x4 x5 x6 x7 x8 x9 y0 y1 q_o l_o o_reached g_o g_t mm kc ks → W p l e (headSpec px_s293 ({ frames := 4, cells := mc, slots := ms, locals := 90 })).room s m ([.ref (hm a0x), .int a1x]).toArray below meth c H locs kc ks Q (F0 m 126 ls [.int y0, .int y1]) := by
        intro x1 x2 x3 x4 x5 x6 x7 x8 x9 y0 y1 q_o l_o o_reached g_o g_t mm kc ks H locs ls hkc hks hP hD hS hl hw
        unfold w293_L126 at hw
        refine lv_ior hx hb px_d293_126 ?_
        refine lv_topi (fun z2 ez2 => ?_)
        have hw := hw z2 ez2
        refine lv_istore (lv' := [(5, .int z2), (0, .ref (hm a0x)), (1, .int x1), (2, .int x2), (3, .int x3), (4, .int x4), (6, .int x6), (7, .int x7), (8, .int x8), (9, .int x9)]) hx hb px_d293_127 hl (by decide) rfl (fun ls hl => ?_)
        exact S129 x1 x2 x3 x4 z2 x6 x7 q_o l_o o_reached g_o g_t mm kc ks H locs ls hkc hks hP hD hS (lv_sub hl [1, 2, 3, 4, 5, 0, 6, 7] rfl) hw
      have S111 : ∀ (x1 : Int32) (x2 : Int32) (x3 : Int32) (x4 : Int32) (x5 : Int32) (x6 : Int32) (x7 : Int32) (x8 : Int32) (y0 : Int32) (q_o : Nat) (l_o : Nat) (o_reached : Int32) (g_o : Nat → Int32) (g_t : Nat → Int32) (mm : Nat → px_MR) (kc : Nat) (ks : Nat) (H : Heap) (locs : List Loc) (ls : Array Slot), kc ≤ mc → ks ≤ ms → va_P (dC, dI) vwCl (([(ho, .inr (1, [.ref q_o, .ref q_t, .int o_reached])), (q_o, .inl (cc.2.1, l_o, .inl g_o)), (q_t, .inl (cc.2.1, 182, .inl g_t))] : va_W) ++ px_cp cc ho cm np ns hm pa sa mm pp ss) H → va_D A (([(ho, .inr (1, [.ref q_o, .ref q_t, .int o_reached])), (q_o, .inl (cc.2.1, l_o, .inl g_o)), (q_t, .inl (cc.2.1, 182, .inl g_t))] : va_W) ++ px_cp cc ho cm np ns hm pa sa mm pp ss) → va_S A s.heap H locs → lv_has ls 10 [(0, .ref (hm a0x)), (1, .int x1), (2, .int x2), (3, .int x3), (4, .int x4), (5, .int x5), (6, .int x6), (7, .int x7), (8, .int x8)] → w293_L111 (w293_L32 a0x cm np ns pa sa pp ss mc ms post k32) a0x cm np ns pa sa pp ss mc ms post x1 x2 x3 x4 x5 x6 x7 x8 y0 q_o l_o o_reached g_o g_t mm kc ks → W p l e (headSpec px_s293 ({ frames := 4, cells := mc, slots := ms, locals := 90 })).room s m ([.ref (hm a0x), .int a1x]).toArray below meth c H locs kc ks Q (F0 m 111 ls [.int y0]) := by
        intro x1 x2 x3 x4 x5 x6 x7 x8 y0 q_o l_o o_reached g_o g_t mm kc ks H locs ls hkc hks hP hD hS hl hw
        unfold w293_L111 at hw
        refine lv_istore (lv' := [(9, .int y0), (0, .ref (hm a0x)), (1, .int x1), (2, .int x2), (3, .int x3), (4, .int x4), (5, .int x5), (6, .int x6), (7, .int x7), (8, .int x8)]) hx hb px_d293_111 hl (by decide) rfl (fun ls hl => ?_)
        refine lv_iload hx hb px_d293_113 (lv_at hl 6 rfl) ?_
        refine lv_iload hx hb px_d293_115 (lv_at hl 0 rfl) ?_
        refine lv_if_eq (tgt := 125) hx hb px_d293_117 (by decide) (fun c117 => ?_) (fun c117 => ?_)
        · have hw := hw.1 c117
          refine lv_iconst (v := 0) hx hb px_d293_125 (by decide) ?_
          exact S126 x1 x2 x3 x4 x5 x6 x7 x8 y0 0 x5 q_o l_o o_reached g_o g_t mm kc ks H locs ls hkc hks hP hD hS (lv_sub hl [1, 2, 3, 4, 5, 6, 7, 8, 9, 0] rfl) hw
        · have hw := hw.2 c117
          refine lv_iload hx hb px_d293_120 (lv_at hl 8 rfl) ?_
          refine lv_goto (tgt := 126) hx hb px_d293_122 (by decide) ?_
          exact S126 x1 x2 x3 x4 x5 x6 x7 x8 y0 x7 x5 q_o l_o o_reached g_o g_t mm kc ks H locs ls hkc hks hP hD hS (lv_sub hl [1, 2, 3, 4, 5, 6, 7, 8, 9, 0] rfl) hw
      intro x1 x2 x3 x4 x5 x6 q_o l_o o_reached g_o g_t mm kc ks H locs ls hkc hks hP hD hS hl hw
      unfold w293_L32 at hw
      refine lv_iload hx hb px_d293_32 (lv_at hl 6 rfl) ?_
      refine lv_aload_n hx hb px_d293_34 rfl (lv_at hl 0 rfl) ?_
      obtain ⟨hp35, hw⟩ := hw
      refine va_get (D := (dC, dI)) (ci := 10) (v := .int ((mm a0x).2.1 13)) (C := "MatroidDesk$Matroid") (T := px_T10) (N := 15) hx hb htw px_in10 hown hK hP (3 + (13 * a0x + 0)) (px_cg0 rfl hp35) rfl 13 (by decide) (htw _ px_w1264) (fun _ h9 => h9) rfl px_d293_35 ?_
      refine lv_icmp_ge (tgt := 135) hx hb px_d293_38 (by decide) (fun c38 => ?_) (fun c38 => ?_)
      · have hw := hw.1 c38
        refine lv_iload hx hb px_d293_135 (lv_at hl 5 rfl) ?_
        refine W.widen (k := mc) (n := ms) hkc hks ?_
        rw [← hQ]
        exact W.iret (v := x5) hx hb hr (fun t ht hW => ⟨⟨x5, (q_o, l_o, o_reached, g_o, g_t, mm), rfl, hw, by rw [ht]; exact hP, va_K.moved hW.alike hK, hD⟩, hS.F ht⟩) hS.2.2 px_d293_137
      · have hw := hw.2 c38
        refine lv_iload_n hx hb px_d293_41 rfl (lv_at hl 3 rfl) ?_
        refine lv_iconst (v := 1) hx hb px_d293_42 (by decide) ?_
        refine lv_iload hx hb px_d293_43 (lv_at hl 6 rfl) ?_
        refine lv_ishl hx hb px_d293_45 ?_
        refine lv_iand hx hb px_d293_46 ?_
        refine lv_topi (fun z3 ez3 => ?_)
        have hw := hw z3 ez3
        refine lv_istore (lv' := [(7, .int z3), (0, .ref (hm a0x)), (1, .int x1), (2, .int x2), (3, .int x3), (4, .int x4), (5, .int x5), (6, .int x6)]) hx hb px_d293_47 hl (by decide) rfl (fun ls hl => ?_)
        refine lv_iload hx hb px_d293_49 (lv_at hl 0 rfl) ?_
        refine lv_if_eq (tgt := 129) hx hb px_d293_51 (by decide) (fun c51 => ?_) (fun c51 => ?_)
        · have hw := hw.1 c51
          exact S129 x1 x2 x3 x4 x5 x6 z3 q_o l_o o_reached g_o g_t mm kc ks H locs ls hkc hks hP hD hS (lv_sub hl [1, 2, 3, 4, 5, 6, 7, 0] rfl) hw
        · have hw := hw.2 c51
          refine lv_aload_n hx hb px_d293_54 rfl (lv_at hl 1 rfl) ?_
          obtain ⟨hp55, hw⟩ := hw
          refine va_get (D := (dC, dI)) (ci := 10) (v := .ref ((mm a0x).1 6)) (C := "MatroidDesk$Matroid") (T := px_T10) (N := 15) hx hb htw px_in10 hown hK hP (3 + (13 * a0x + 0)) (px_cg0 rfl hp55) rfl 6 (by decide) (htw _ px_w1005) (fun _ h9 => h9) rfl px_d293_55 ?_
          refine lv_iload hx hb px_d293_58 (lv_at hl 5 rfl) ?_
          obtain ⟨hp60, hw⟩ := hw
          obtain ⟨hi60, hw⟩ := hw
          refine va_bald hx hb hK hP (3 + (13 * a0x + 6)) 1 (px_cg6 rfl hp60) rfl hi60 px_d293_60 ?_
          refine lv_aload_n hx hb px_d293_61 rfl (lv_at hl 1 rfl) ?_
          obtain ⟨hp62, hw⟩ := hw
          refine va_get (D := (dC, dI)) (ci := 10) (v := .ref ((mm a0x).1 6)) (C := "MatroidDesk$Matroid") (T := px_T10) (N := 15) hx hb htw px_in10 hown hK hP (3 + (13 * a0x + 0)) (px_cg0 rfl hp62) rfl 6 (by decide) (htw _ px_w1005) (fun _ h9 => h9) rfl px_d293_62 ?_
          refine lv_iload hx hb px_d293_65 (lv_at hl 5 rfl) ?_
          refine lv_iload hx hb px_d293_67 (lv_at hl 0 rfl) ?_
          refine lv_ixor hx hb px_d293_69 ?_
          refine lv_iload_n hx hb px_d293_70 rfl (lv_at hl 3 rfl) ?_
          refine lv_ixor hx hb px_d293_71 ?_
          obtain ⟨hp72, hw⟩ := hw
          obtain ⟨hi72, hw⟩ := hw
          refine va_bald hx hb hK hP (3 + (13 * a0x + 6)) 1 (px_cg6 rfl hp72) rfl hi72 px_d293_72 ?_
          refine lv_imul hx hb px_d293_73 ?_
          refine lv_topi (fun z4 ez4 => ?_)
          have hw := hw z4 ez4
          refine lv_istore (lv' := [(8, .int z4), (7, .int z3), (0, .ref (hm a0x)), (1, .int x1), (2, .int x2), (3, .int x3), (4, .int x4), (5, .int x5), (6, .int x6)]) hx hb px_d293_74 hl (by decide) rfl (fun ls hl => ?_)
          refine lv_iload hx hb px_d293_76 (lv_at hl 6 rfl) ?_
          refine lv_iload hx hb px_d293_78 (lv_at hl 1 rfl) ?_
          refine lv_iload_n hx hb px_d293_80 rfl (lv_at hl 4 rfl) ?_
          refine lv_ior hx hb px_d293_81 ?_
          have hPc := hP.sub (ws' := []) [] rfl
          have hDc := hD.sub (ws' := []) [] (by decide) rfl
          have hFc := va_free (wc := []) hD hS hA [] rfl
          have hKc := hK.sub (tys' := []) [] rfl
          refine va_calli (va_runSN (As := [.int x4, .int (z3 ||| x2)]) (rest := []) ⟨hx, hb, hml, hown, htw⟩ (w294_met l dC dI H.size x4 (z3 ||| x2) _ hw) ⟨(va_cnB 2 htw px_g294 rfl rfl rfl (hN.2.1 ("MatroidDesk$Matroid", 144, px_y294, "MatroidDesk") px_mm2) (htw _ px_w6) (by decide +kernel) ⟨Nat.le_of_ble_eq_true rfl, Nat.le_of_ble_eq_true rfl⟩), (htw _ px_w1477), trivial⟩ ⟨fun a U g mk q => by obtain ⟨q0, q1, qP, qK, qD, qN⟩ := q; exact ⟨q0, q1, qP, va_K.moved (u := U) (U := U.calling g mk a) (Vm.Alike.refl U.vm) qK, qD, qN.same rfl⟩, fun U hU hW => ⟨rfl, by rw [hU], by rw [hU]; exact hPc, va_K.moved hW.alike hKc, hDc.weaken (fun _ _ _ _ => trivial), hN.warm hW⟩⟩ rfl rfl hl.1 rfl (lv_room (Nat.le_of_ble_eq_true rfl)) px_d293_82 ⟨hkc, hks⟩) hS (fun q _ h => hFc q h) hFc (fun r82 u t H1 locs ht hvm hw hB hz1 hk1 hS => ?_)
          obtain ⟨hP1, hK1, hD1⟩ := hB
          rw [ht] at hP1
          obtain ⟨hP, hD⟩ := va_joinQ (wr := [(ho, .inr (1, [.ref q_o, .ref q_t, .int o_reached])), (q_o, .inl (cc.2.1, l_o, .inl g_o)), (q_t, .inl (cc.2.1, 182, .inl g_t))]) (w1 := []) hP hD [] [0, 1, 2] rfl rfl (by decide) (by decide) hk1 hFc hP1 hD1
          generalize H1 = H at hP hS ⊢
          have hP : va_P (dC, dI) vwCl (([(ho, .inr (1, [.ref q_o, .ref q_t, .int o_reached])), (q_o, .inl (cc.2.1, l_o, .inl g_o)), (q_t, .inl (cc.2.1, 182, .inl g_t))] : va_W) ++ px_cp cc ho cm np ns hm pa sa mm pp ss) H := hP
          have hD : va_D A (([(ho, .inr (1, [.ref q_o, .ref q_t, .int o_reached])), (q_o, .inl (cc.2.1, l_o, .inl g_o)), (q_t, .inl (cc.2.1, 182, .inl g_t))] : va_W) ++ px_cp cc ho cm np ns hm pa sa mm pp ss) := hD
          refine lv_if_eq (tgt := 101) hx hb px_d293_85 (by decide) (fun c85 => ?_) (fun c85 => ?_)
          · have hw := hw.1 c85
            refine lv_iload hx hb px_d293_101 (lv_at hl 0 rfl) ?_
            refine lv_if_le (tgt := 110) hx hb px_d293_103 (by decide) (fun c103 => ?_) (fun c103 => ?_)
            · have hw := hw.1 c103
              refine lv_iconst (v := 0) hx hb px_d293_110 (by decide) ?_
              exact S111 x1 x2 x3 x4 x5 x6 z3 z4 0 q_o l_o o_reached g_o g_t mm kc ks H locs ls hkc hks hP hD hS (lv_sub hl [2, 3, 4, 5, 6, 7, 8, 1, 0] rfl) hw
            · have hw := hw.2 c103
              refine lv_iconst (v := 1) hx hb px_d293_106 (by decide) ?_
              refine lv_goto (tgt := 111) hx hb px_d293_107 (by decide) ?_
              exact S111 x1 x2 x3 x4 x5 x6 z3 z4 1 q_o l_o o_reached g_o g_t mm kc ks H locs ls hkc hks hP hD hS (lv_sub hl [2, 3, 4, 5, 6, 7, 8, 1, 0] rfl) hw
          · have hw := hw.2 c85
            refine lv_iload hx hb px_d293_88 (lv_at hl 0 rfl) ?_
            refine lv_if_ge (tgt := 97) hx hb px_d293_90 (by decide) (fun c90 => ?_) (fun c90 => ?_)
            · have hw := hw.1 c90
              refine lv_iconst (v := 0) hx hb px_d293_97 (by decide) ?_
              refine lv_goto (tgt := 111) hx hb px_d293_98 (by decide) ?_
              exact S111 x1 x2 x3 x4 x5 x6 z3 z4 0 q_o l_o o_reached g_o g_t mm kc ks H locs ls hkc hks hP hD hS (lv_sub hl [2, 3, 4, 5, 6, 7, 8, 1, 0] rfl) hw
            · have hw := hw.2 c90
              refine lv_iconst (v := 1) hx hb px_d293_93 (by decide) ?_
              refine lv_goto (tgt := 111) hx hb px_d293_94 (by decide) ?_
              exact S111 x1 x2 x3 x4 x5 x6 z3 z4 1 q_o l_o o_reached g_o g_t mm kc ks H locs ls hkc hks hP hD hS (lv_sub hl [2, 3, 4, 5, 6, 7, 8, 1, 0] rfl) hw
  unfold w293_wp at hw
  have hS0 := hS
  obtain ⟨H, hH9⟩ : ∃ z, z = s.heap := ⟨_, rfl⟩
  have hP : va_P (dC, dI) vwCl (([(ho, .inr (1, [.ref q_o, .ref q_t, .int o_reached])), (q_o, .inl (cc.2.1, l_o, .inl g_o)), (q_t, .inl (cc.2.1, 182, .inl g_t))] : va_W) ++ px_cp cc ho cm np ns hm pa sa mm pp ss) H := by rw [hH9]; exact hP
  obtain ⟨locs, hlo9⟩ : ∃ z : List Loc, z = [] := ⟨_, rfl⟩
  have hS : va_S A s.heap H locs := by rw [hH9, hlo9]; exact hS
  suffices hG : W p l e (headSpec px_s293 ({ frames := 4, cells := mc, slots := ms, locals := 90 })).room s m ([.ref (hm a0x), .int a1x]).toArray below meth c H locs 0 0 Q (F0 m 0 ls []) by rw [hH9, hlo9] at hG; exact hG
  refine lv_iload_n hx hb px_d293_0 rfl (lv_at hl 1 rfl) ?_
  refine lv_iload_n hx hb px_d293_1 rfl (lv_at hl 1 rfl) ?_
  refine lv_ineg hx hb px_d293_2 ?_
  refine lv_iand hx hb px_d293_3 ?_
  refine lv_topi (fun z6 ez6 => ?_)
  have hw := hw z6 ez6
  refine lv_istore_n (lv' := [(2, .int z6), (0, .ref (hm a0x)), (1, .int a1x)]) hx hb px_d293_4 rfl hl (by decide) rfl (fun ls hl => ?_)
  refine lv_iload_n hx hb px_d293_5 rfl (lv_at hl 2 rfl) ?_
  refine lv_iload_n hx hb px_d293_6 rfl (lv_at hl 0 rfl) ?_
  refine lv_ixor hx hb px_d293_7 ?_
  refine lv_topi (fun z7 ez7 => ?_)
  have hw := hw z7 ez7
  refine lv_istore_n (lv' := [(3, .int z7), (2, .int z6), (0, .ref (hm a0x)), (1, .int a1x)]) hx hb px_d293_8 rfl hl (by decide) rfl (fun ls hl => ?_)
  refine lv_iload_n hx hb px_d293_9 rfl (lv_at hl 0 rfl) ?_
  refine lv_aload_n hx hb px_d293_10 rfl (lv_at hl 2 rfl) ?_
  refine lv_iload_n hx hb px_d293_11 rfl (lv_at hl 0 rfl) ?_
  refine lv_aload_n hx hb px_d293_12 rfl (lv_at hl 2 rfl) ?_
  obtain ⟨hp13, hw⟩ := hw
  have hPc := hP.part (cx := [(ho, .inr (1, [.ref q_o, .ref q_t, .int o_reached])), (q_o, .inl (cc.2.1, l_o, .inl g_o)), (q_t, .inl (cc.2.1, 182, .inl g_t))]) [0, 1, 2] rfl
  have hDc := hD.part (cx := [(ho, .inr (1, [.ref q_o, .ref q_t, .int o_reached])), (q_o, .inl (cc.2.1, l_o, .inl g_o)), (q_t, .inl (cc.2.1, 182, .inl g_t))]) [0, 1, 2] (by decide) rfl
  have hFc := va_freeP (cx := [(ho, .inr (1, [.ref q_o, .ref q_t, .int o_reached])), (q_o, .inl (cc.2.1, l_o, .inl g_o)), (q_t, .inl (cc.2.1, 182, .inl g_t))]) hD hS hA [0, 1, 2] rfl
  have hKc := hK.sub (tys' := [(cc.2.1, .int), (cc.2.2.2.1, .byte), (cc.2.2.2.2, .long), (cc.1, .object "MatroidDesk$Part"), (cc.2.2.1, (.array .int))]) [0, 1, 2, 3, 4] rfl
  refine va_calli (va_runV (As := []) (rest := [.int z7, .ref (hm a0x), .int z7]) ⟨hx, hb, hml, hown, htw⟩ (w249_met l dC dI H.size ho q_t a0x cc cm np ns hm pa sa pp ss q_o l_o o_reached g_o g_t mm _ hw) (cwV 0 htw (px_gv px_w1265 px_w1287 px_w1288 px_w154 px_g249) rfl rfl rfl (by decide +kernel) ⟨Nat.le_of_ble_eq_true rfl, Nat.le_of_ble_eq_true rfl⟩) ⟨fun a U g mk q => by obtain ⟨q0, q1, qP, qK, qD, qN⟩ := q; exact ⟨q0, q1, qP, va_K.moved (u := U) (U := U.calling g mk a) (Vm.Alike.refl U.vm) qK, qD, qN.same rfl⟩, va_recv hK hP (ci := 10) (q0 := (3 + (13 * a0x + 0))) rfl (px_cg0 rfl hp13), fun U hU hW => ⟨rfl, by rw [hU], by rw [hU]; exact hPc, va_K.moved hW.alike hKc, hDc.weaken (fun _ _ _ _ => trivial), hN.warm hW⟩⟩ rfl rfl hl.1 rfl (lv_room (Nat.le_of_ble_eq_true rfl)) px_d293_13 ⟨(Nat.zero_le mc), (Nat.zero_le ms)⟩) hS (fun q _ h => hFc q h) hFc (fun r13 u t H1 locs ht hvm hw hB hz1 hk1 hS => ?_)
  obtain ⟨v8, v9, v10, v11, v12, v13⟩ := u
  obtain ⟨hP1, hK1, hD1⟩ := hB
  rw [ht] at hP1
  obtain ⟨hP, hD⟩ := va_joinP (wr := []) (rx := [(ho, .inr (1, [.ref v8, .ref q_t, .int v10])), (v8, .inl (cc.2.1, v9, .inl v11)), (q_t, .inl (cc.2.1, 182, .inl v12))]) hP hD [0, 1, 2] [] rfl rfl (by decide) (by decide) hk1 hFc hP1 hD1
  generalize H1 = H at hP hS ⊢
  have hP : va_P (dC, dI) vwCl (([(ho, .inr (1, [.ref v8, .ref q_t, .int v10])), (v8, .inl (cc.2.1, v9, .inl v11)), (q_t, .inl (cc.2.1, 182, .inl v12))] : va_W) ++ px_cp cc ho cm np ns hm pa sa v13 pp ss) H := hP
  have hD : va_D A (([(ho, .inr (1, [.ref v8, .ref q_t, .int v10])), (v8, .inl (cc.2.1, v9, .inl v11)), (q_t, .inl (cc.2.1, 182, .inl v12))] : va_W) ++ px_cp cc ho cm np ns hm pa sa v13 pp ss) := hD
  refine lv_iload_n hx hb px_d293_16 rfl (lv_at hl 0 rfl) ?_
  refine lv_iconst (v := (-1)) hx hb px_d293_17 (by decide) ?_
  refine lv_ixor hx hb px_d293_18 ?_
  refine lv_iand hx hb px_d293_19 ?_
  obtain ⟨m20_21, s20_21, hm20_21, hs20_21, hw⟩ := hw
  obtain ⟨hp20, hw⟩ := hw
  have hPc := hP.part (cx := [(ho, .inr (1, [.ref v8, .ref q_t, .int v10])), (v8, .inl (cc.2.1, v9, .inl v11)), (q_t, .inl (cc.2.1, 182, .inl v12))]) [0, 1, 2] rfl
  have hDc := hD.part (cx := [(ho, .inr (1, [.ref v8, .ref q_t, .int v10])), (v8, .inl (cc.2.1, v9, .inl v11)), (q_t, .inl (cc.2.1, 182, .inl v12))]) [0, 1, 2] (by decide) rfl
  have hFc := va_freeP (cx := [(ho, .inr (1, [.ref v8, .ref q_t, .int v10])), (v8, .inl (cc.2.1, v9, .inl v11)), (q_t, .inl (cc.2.1, 182, .inl v12))]) hD hS hA [0, 1, 2] rfl
  have hKc := hK.sub (tys' := [(cc.2.1, .int), (cc.2.2.2.1, .byte), (cc.2.2.2.2, .long), (cc.1, .object "MatroidDesk$Part"), (cc.2.2.1, (.array .int))]) [0, 1, 2, 3, 4] rfl
  refine va_calli (va_runV (As := [.int z7, .int (r13 &&& (z7 ^^^ (-1)))]) (rest := [.int z7]) ⟨hx, hb, hml, hown, htw⟩ (w261_met l dC dI H.size ho q_t a0x cc cm np ns hm pa sa pp ss m20_21 s20_21 z7 (r13 &&& (z7 ^^^ (-1))) v8 v9 v10 v11 v12 v13 _ hw) (cwV 2 htw (px_gv px_w1446 px_w1333 px_w1334 px_w154 px_g261) rfl rfl rfl (by decide +kernel) ⟨Nat.le_of_ble_eq_true rfl, Nat.le_of_ble_eq_true rfl⟩) ⟨fun a U g mk q => by obtain ⟨q0, q1, qP, qK, qD, qN⟩ := q; exact ⟨q0, q1, qP, va_K.moved (u := U) (U := U.calling g mk a) (Vm.Alike.refl U.vm) qK, qD, qN.same rfl⟩, va_recv hK hP (ci := 10) (q0 := (3 + (13 * a0x + 0))) rfl (px_cg0 rfl hp20), fun U hU hW => ⟨rfl, by rw [hU], by rw [hU]; exact hPc, va_K.moved hW.alike hKc, hDc.weaken (fun _ _ _ _ => trivial), hN.warm hW⟩⟩ rfl rfl hl.1 rfl (lv_room (Nat.le_of_ble_eq_true rfl)) px_d293_20 ⟨hm20_21, hs20_21⟩) hS (fun q _ h => hFc q h) hFc (fun r20 u t H1 locs ht hvm hw hB hz1 hk1 hS => ?_)
  obtain ⟨v15, v16, v17, v18, v19, v20⟩ := u
  obtain ⟨hP1, hK1, hD1⟩ := hB
  rw [ht] at hP1
  obtain ⟨hP, hD⟩ := va_joinP (wr := []) (rx := [(ho, .inr (1, [.ref v15, .ref q_t, .int v17])), (v15, .inl (cc.2.1, v16, .inl v18)), (q_t, .inl (cc.2.1, 182, .inl v19))]) hP hD [0, 1, 2] [] rfl rfl (by decide) (by decide) hk1 hFc hP1 hD1
  generalize H1 = H at hP hS ⊢
  have hP : va_P (dC, dI) vwCl (([(ho, .inr (1, [.ref v15, .ref q_t, .int v17])), (v15, .inl (cc.2.1, v16, .inl v18)), (q_t, .inl (cc.2.1, 182, .inl v19))] : va_W) ++ px_cp cc ho cm np ns hm pa sa v20 pp ss) H := hP
  have hD : va_D A (([(ho, .inr (1, [.ref v15, .ref q_t, .int v17])), (v15, .inl (cc.2.1, v16, .inl v18)), (q_t, .inl (cc.2.1, 182, .inl v19))] : va_W) ++ px_cp cc ho cm np ns hm pa sa v20 pp ss) := hD
  refine lv_ior hx hb px_d293_23 ?_
  refine lv_topi (fun z23 ez23 => ?_)
  have hw := hw z23 ez23
  refine lv_istore (lv' := [(4, .int z23), (3, .int z7), (2, .int z6), (0, .ref (hm a0x)), (1, .int a1x)]) hx hb px_d293_24 hl (by decide) rfl (fun ls hl => ?_)
  refine lv_iconst (v := 0) hx hb px_d293_26 (by decide) ?_
  refine lv_istore (lv' := [(5, .int 0), (4, .int z23), (3, .int z7), (2, .int z6), (0, .ref (hm a0x)), (1, .int a1x)]) hx hb px_d293_27 hl (by decide) rfl (fun ls hl => ?_)
  refine lv_iconst (v := 0) hx hb px_d293_29 (by decide) ?_
  refine lv_istore (lv' := [(6, .int 0), (5, .int 0), (4, .int z23), (3, .int z7), (2, .int z6), (0, .ref (hm a0x)), (1, .int a1x)]) hx hb px_d293_30 hl (by decide) rfl (fun ls hl => ?_)
  obtain ⟨k9, hw⟩ := hw
  exact S32 k9 a1x z6 z7 z23 0 0 v15 v16 v17 v18 v19 v20 (0 + m20_21) (0 + s20_21) H locs ls hm20_21 hs20_21 hP hD hS (lv_sub hl [5, 6, 4, 3, 2, 1, 0] rfl) hw

/-! MatroidDesk$Matroid.turnFirstUp()V -/
def w251_L111 (K71 : Int32 → Int32 → Int32 → Nat → Nat → Int32 → (Nat → Int32) → (Nat → Int32) → (Nat → px_MR) → Prop) (a0x : Nat) (cm : Nat) (np : Nat) (ns : Nat) (pa : Nat → Nat) (sa : Nat → Nat) (pp : Nat → px_PR) (ss : Nat → px_SR) (post : Nat → Nat → Int32 → (Nat → Int32) → (Nat → Int32) → (Nat → px_MR) → Prop) (x1 : Int32) (x2 : Int32) (x3 : Int32) (y0 : Int32) (y1 : Int32) (q_o : Nat) (l_o : Nat) (o_reached : Int32) (g_o : Nat → Int32) (g_t : Nat → Int32) (mm : Nat → px_MR) : Prop := ∀ z1 : Int32, z1 = y0.toInt8.toInt32 → a0x < cm ∧ (vp_in y1 ((mm a0x).2.2.1 6) ∧ (∀ mm2 : Nat → px_MR, mm2 = va_up mm a0x ((mm a0x).1, (mm a0x).2.1, (mm a0x).2.2.1, va_up (mm a0x).2.2.2.1 6 (upd ((mm a0x).2.2.2.1 6) (Int32.toNatClampNeg y1) (vp_nar .byte z1)), (mm a0x).2.2.2.2) → (∀ z3 : Int32, z3 = x3 + 1 → K71 x1 x2 z3 q_o l_o o_reached g_o g_t mm2)))
def w251_L71 (a0x : Nat) (cm : Nat) (np : Nat) (ns : Nat) (pa : Nat → Nat) (sa : Nat → Nat) (pp : Nat → px_PR) (ss : Nat → px_SR) (post : Nat → Nat → Int32 → (Nat → Int32) → (Nat → Int32) → (Nat → px_MR) → Prop) : Nat → Int32 → Int32 → Int32 → Nat → Nat → Int32 → (Nat → Int32) → (Nat → Int32) → (Nat → px_MR) → Prop
  | 0 => fun _ _ _ _ _ _ _ _ _ => False
  | k + 1 => fun x1 x2 x3 q_o l_o o_reached g_o g_t mm => a0x < cm ∧ (w249_wp a0x cm np ns pa sa pp ss (fun r73 v4 v5 v6 v7 v8 v9 => (r73 < x3 → post v4 v5 v6 v7 v8 v9) ∧ (¬ r73 < x3 → a0x < cm ∧ (a0x < cm ∧ ((¬ ((v9 a0x).2.1 12) = 0 → a0x < cm ∧ (a0x < cm ∧ (vp_in x3 ((v9 a0x).2.2.1 6) ∧ ((w252_wp (fun r108  => w251_L111 (w251_L71 a0x cm np ns pa sa pp ss post k) a0x cm np ns pa sa pp ss post x1 x2 x3 r108 x3 v4 v5 v6 v7 v8 v9) (((v9 a0x).2.2.2.1 6) (Int32.toNatClampNeg x3))))))) ∧ (((v9 a0x).2.1 12) = 0 → a0x < cm ∧ (a0x < cm ∧ (vp_in x3 ((v9 a0x).2.2.1 6) ∧ (w251_L111 (w251_L71 a0x cm np ns pa sa pp ss post k) a0x cm np ns pa sa pp ss post x1 x2 x3 (x2 * (((v9 a0x).2.2.2.1 6) (Int32.toNatClampNeg x3))) x3 v4 v5 v6 v7 v8 v9)))))))) q_o l_o o_reached g_o g_t mm)
def w251_L69 (a0x : Nat) (cm : Nat) (np : Nat) (ns : Nat) (pa : Nat → Nat) (sa : Nat → Nat) (pp : Nat → px_PR) (ss : Nat → px_SR) (post : Nat → Nat → Int32 → (Nat → Int32) → (Nat → Int32) → (Nat → px_MR) → Prop) (x1 : Int32) (x2 : Int32) (x3 : Int32) (q_o : Nat) (l_o : Nat) (o_reached : Int32) (g_o : Nat → Int32) (g_t : Nat → Int32) (mm : Nat → px_MR) : Prop := ∃ j71, w251_L71 a0x cm np ns pa sa pp ss post j71 x1 x2 0 q_o l_o o_reached g_o g_t mm
def w251_L36 (a0x : Nat) (cm : Nat) (np : Nat) (ns : Nat) (pa : Nat → Nat) (sa : Nat → Nat) (pp : Nat → px_PR) (ss : Nat → px_SR) (post : Nat → Nat → Int32 → (Nat → Int32) → (Nat → Int32) → (Nat → px_MR) → Prop) : Nat → Int32 → Int32 → Int32 → Nat → Nat → Int32 → (Nat → Int32) → (Nat → Int32) → (Nat → px_MR) → Prop
  | 0 => fun _ _ _ _ _ _ _ _ _ => False
  | k + 1 => fun x1 x2 x3 q_o l_o o_reached g_o g_t mm => (x1 ≤ x3 → w251_L69 a0x cm np ns pa sa pp ss post x1 x2 x3 q_o l_o o_reached g_o g_t mm) ∧ (¬ x1 ≤ x3 → (¬ x2 = 0 → w251_L69 a0x cm np ns pa sa pp ss post x1 x2 x3 q_o l_o o_reached g_o g_t mm) ∧ (x2 = 0 → a0x < cm ∧ (a0x < cm ∧ (a0x < cm ∧ ((w240_wp (fun r58 v12 v13 v14 v15 v16 => a0x < cm ∧ (vp_in r58 ((mm a0x).2.2.1 6) ∧ (∀ z18 : Int32, z18 = ((mm a0x).2.2.2.1 6) (Int32.toNatClampNeg r58) → ∀ z19 : Int32, z19 = x3 + 1 → (w251_L36 a0x cm np ns pa sa pp ss post k) x1 z18 z19 v12 v13 v14 v15 v16 mm))) ((mm a0x).2.1 13) x3 q_o l_o o_reached g_o g_t))))))
def w251_wp (a0x : Nat) (cm : Nat) (np : Nat) (ns : Nat) (pa : Nat → Nat) (sa : Nat → Nat) (pp : Nat → px_PR) (ss : Nat → px_SR) (post : Nat → Nat → Int32 → (Nat → Int32) → (Nat → Int32) → (Nat → px_MR) → Prop) (q_o : Nat) (l_o : Nat) (o_reached : Int32) (g_o : Nat → Int32) (g_t : Nat → Int32) (mm : Nat → px_MR) : Prop := a0x < cm ∧ (a0x < cm ∧ (a0x < cm ∧ ((w239_wp (fun r14 v20 v21 v22 v23 v24 => a0x < cm ∧ (a0x < cm ∧ (a0x < cm ∧ ((w239_wp (fun r32 v26 v27 v28 v29 v30 => ∃ j36, w251_L36 a0x cm np ns pa sa pp ss post j36 r14 0 r32 v26 v27 v28 v29 v30 mm) ((mm a0x).2.1 13) ((mm a0x).2.1 14) v20 v21 v22 v23 v24))))) ((mm a0x).2.1 13) (((mm a0x).2.1 14) + 1) q_o l_o o_reached g_o g_t))))
set_option maxHeartbeats 8000000 in
set_option maxRecDepth 100000 in
theorem w251_met (l : Launch) (dC : Nat → ClassId) (dI : Nat → Nat → Nat) (sz : Nat) (ho : Nat) (q_t : Nat) (a0x : Nat) (cc : px_CC) (cm : Nat) (np : Nat) (ns : Nat) (hm : Nat → Nat) (pa : Nat → Nat) (sa : Nat → Nat) (pp : Nat → px_PR) (ss : Nat → px_SR) (q_o : Nat) (l_o : Nat) (o_reached : Int32) (g_o : Nat → Int32) (g_t : Nat → Int32) (mm : Nat → px_MR) (post : Nat → Nat → Int32 → (Nat → Int32) → (Nat → Int32) → (Nat → px_MR) → Prop) (hw : w251_wp a0x cm np ns pa sa pp ss post q_o l_o o_reached g_o g_t mm) : Met l px_y251 px_s251 ({ frames := 1, cells := 0, slots := 0, locals := 22 }) (va_Pc [.ref (hm a0x)] (fun U => U.heap.size = sz ∧ va_P (dC, dI) vwCl (([(ho, .inr (1, [.ref q_o, .ref q_t, .int o_reached])), (q_o, .inl (cc.2.1, l_o, .inl g_o)), (q_t, .inl (cc.2.1, 182, .inl g_t))] : va_W) ++ px_cp cc ho cm np ns hm pa sa mm pp ss) U.heap ∧ va_K (dC, dI) vwCl [(cc.2.1, .int), (cc.2.2.2.1, .byte), (cc.2.2.2.2, .long), (cc.1, .object "MatroidDesk$Part"), (cc.2.2.1, (.array .int))] U ∧ va_D (fun _ => True) (([(ho, .inr (1, [.ref q_o, .ref q_t, .int o_reached])), (q_o, .inl (cc.2.1, l_o, .inl g_o)), (q_t, .inl (cc.2.1, 182, .inl g_t))] : va_W) ++ px_cp cc ho cm np ns hm pa sa mm pp ss) ∧ px_N U)) (va_Qv (fun (u : Nat × Nat × Int32 × (Nat → Int32) × (Nat → Int32) × (Nat → px_MR)) => post u.1 u.2.1 u.2.2.1 u.2.2.2.1 u.2.2.2.2.1 u.2.2.2.2.2) (fun (u : Nat × Nat × Int32 × (Nat → Int32) × (Nat → Int32) × (Nat → px_MR)) (t : State) => va_P (dC, dI) vwCl (([(ho, .inr (1, [.ref u.1, .ref q_t, .int u.2.2.1])), (u.1, .inl (cc.2.1, u.2.1, .inl u.2.2.2.1)), (q_t, .inl (cc.2.1, 182, .inl u.2.2.2.2.1))] : va_W) ++ px_cp cc ho cm np ns hm pa sa u.2.2.2.2.2 pp ss) t.heap ∧ va_K (dC, dI) vwCl [(cc.2.1, .int), (cc.2.2.2.1, .byte), (cc.2.2.2.2, .long), (cc.1, .object "MatroidDesk$Part"), (cc.2.2.1, (.array .int))] t ∧ va_D (va_A (([(ho, .inr (1, [.ref q_o, .ref q_t, .int o_reached])), (q_o, .inl (cc.2.1, l_o, .inl g_o)), (q_t, .inl (cc.2.1, 182, .inl g_t))] : va_W) ++ px_cp cc ho cm np ns hm pa sa mm pp ss) sz) (([(ho, .inr (1, [.ref u.1, .ref q_t, .int u.2.2.1])), (u.1, .inl (cc.2.1, u.2.1, .inl u.2.2.2.1)), (q_t, .inl (cc.2.1, 182, .inl u.2.2.2.2.1))] : va_W) ++ px_cp cc ho cm np ns hm pa sa u.2.2.2.2.2 pp ss)) (va_A (([(ho, .inr (1, [.ref q_o, .ref q_t, .int o_reached])), (q_o, .inl (cc.2.1, l_o, .inl g_o)), (q_t, .inl (cc.2.1, 182, .inl g_t))] : va_W) ++ px_cp cc ho cm np ns hm pa sa mm pp ss) sz)) 0 0 (va_A (([(ho, .inr (1, [.ref q_o, .ref q_t, .int o_reached])), (q_o, .inl (cc.2.1, l_o, .inl g_o)), (q_t, .inl (cc.2.1, 182, .inl g_t))] : va_W) ++ px_cp cc ho cm np ns hm pa sa mm pp ss) sz) := by
  refine Met.ofW (cc := prog_3_method_23_code) (maxL := 4) (ret := none) (by decide) rfl ?_
  intro p e s m args below meth c s₁ B hml hv
  obtain ⟨rfl, hsz, hP, hK, hD0, hN⟩ := hv
  have hx := B.exec
  have hb := B.bytes
  have hr := B.returns
  have htw : ∀ w ∈ px_all, w.before _ s = true := fun w h => atoms_spec (ws := px_s251) B.pre w (List.mem_cons_of_mem _ h)
  have hown : s.vm.findClass "MatroidDesk$Matroid" = some m.cls := findClass_of_methodNamed B.named
  have hlocks := B.notSynchronized
  subst hsz
  have hD := hD0.self (sz := s.heap.size)
  generalize hAe : va_A (([(ho, .inr (1, [.ref q_o, .ref q_t, .int o_reached])), (q_o, .inl (cc.2.1, l_o, .inl g_o)), (q_t, .inl (cc.2.1, 182, .inl g_t))] : va_W) ++ px_cp cc ho cm np ns hm pa sa mm pp ss) s.heap.size = A at hD ⊢
  have hA : ∀ q : Nat, s.heap.size ≤ q → A q := fun q h => by rw [← hAe]; exact Or.inr h
  have hS : va_S A s.heap s.heap [] := va_S.rf
  have hP : va_P (dC, dI) vwCl (([(ho, .inr (1, [.ref q_o, .ref q_t, .int o_reached])), (q_o, .inl (cc.2.1, l_o, .inl g_o)), (q_t, .inl (cc.2.1, 182, .inl g_t))] : va_W) ++ px_cp cc ho cm np ns hm pa sa mm pp ss) s.heap := hP
  have hl := lv_entry ([.ref (hm a0x)]) (n := 4) (Nat.le_of_ble_eq_true rfl)
  rw [lg_entry_eq]
  generalize (lg_sl ([.ref (hm a0x)]) ++ List.replicate (4 - (lg_sl ([.ref (hm a0x)])).length) Slot.unset).toArray = ls at hl ⊢
  have hl : lv_has ls 4 [(0, .ref (hm a0x))] := hl
  generalize hQ : MQ _ _ _ _ _ _ _ = Q
  have S71 : ∀ (k71 : Nat) (x1 : Int32) (x2 : Int32) (x3 : Int32) (q_o : Nat) (l_o : Nat) (o_reached : Int32) (g_o : Nat → Int32) (g_t : Nat → Int32) (mm : Nat → px_MR) (H : Heap) (locs : List Loc) (ls : Array Slot), va_P (dC, dI) vwCl (([(ho, .inr (1, [.ref q_o, .ref q_t, .int o_reached])), (q_o, .inl (cc.2.1, l_o, .inl g_o)), (q_t, .inl (cc.2.1, 182, .inl g_t))] : va_W) ++ px_cp cc ho cm np ns hm pa sa mm pp ss) H → va_D A (([(ho, .inr (1, [.ref q_o, .ref q_t, .int o_reached])), (q_o, .inl (cc.2.1, l_o, .inl g_o)), (q_t, .inl (cc.2.1, 182, .inl g_t))] : va_W) ++ px_cp cc ho cm np ns hm pa sa mm pp ss) → va_S A s.heap H locs → lv_has ls 4 [(0, .ref (hm a0x)), (1, .int x1), (2, .int x2), (3, .int x3)] → w251_L71 a0x cm np ns pa sa pp ss post k71 x1 x2 x3 q_o l_o o_reached g_o g_t mm → W p l e (headSpec px_s251 ({ frames := 1, cells := 0, slots := 0, locals := 22 })).room s m ([.ref (hm a0x)]).toArray below meth c H locs 0 0 Q (F0 m 71 ls []) := by
    intro k71
    induction k71 with
    | zero => intro x1 x2 x3 q_o l_o o_reached g_o g_t mm H locs ls hP hD hS hl hw; exact False.elim hw
    | succ k71 ih71 =>
      have S111 : ∀ (x1 : Int32) (x2 : Int32) (x3 : Int32) (y0 : Int32) (y1 : Int32) (q_o : Nat) (l_o : Nat) (o_reached : Int32) (g_o : Nat → Int32) (g_t : Nat → Int32) (mm : Nat → px_MR) (H : Heap) (locs : List Loc) (ls : Array Slot), va_P (dC, dI) vwCl (([(ho, .inr (1, [.ref q_o, .ref q_t, .int o_reached])), (q_o, .inl (cc.2.1, l_o, .inl g_o)), (q_t, .inl (cc.2.1, 182, .inl g_t))] : va_W) ++ px_cp cc ho cm np ns hm pa sa mm pp ss) H → va_D A (([(ho, .inr (1, [.ref q_o, .ref q_t, .int o_reached])), (q_o, .inl (cc.2.1, l_o, .inl g_o)), (q_t, .inl (cc.2.1, 182, .inl g_t))] : va_W) ++ px_cp cc ho cm np ns hm pa sa mm pp ss) → va_S A s.heap H locs → lv_has ls 4 [(0, .ref (hm a0x)), (1, .int x1), (2, .int x2), (3, .int x3)] → w251_L111 (w251_L71 a0x cm np ns pa sa pp ss post k71) a0x cm np ns pa sa pp ss post x1 x2 x3 y0 y1 q_o l_o o_reached g_o g_t mm → W p l e (headSpec px_s251 ({ frames := 1, cells := 0, slots := 0, locals := 22 })).room s m ([.ref (hm a0x)]).toArray below meth c H locs 0 0 Q (F0 m 111 ls [.int y0, .int y1, .ref ((mm a0x).1 6)]) := by
        intro x1 x2 x3 y0 y1 q_o l_o o_reached g_o g_t mm H locs ls hP hD hS hl hw
        unfold w251_L111 at hw
        refine lv_i2b (v := y0.toInt8.toInt32) hx hb px_d251_111 rfl ?_
        refine lv_topi (fun z1 ez1 => ?_)
        have hw := hw z1 ez1
        obtain ⟨hp112, hw⟩ := hw
        obtain ⟨hi112, hw⟩ := hw
        obtain ⟨mm2, emm2⟩ : ∃ z : Nat → px_MR, z = va_up mm a0x ((mm a0x).1, (mm a0x).2.1, (mm a0x).2.2.1, va_up (mm a0x).2.2.2.1 6 (upd ((mm a0x).2.2.2.1 6) (Int32.toNatClampNeg y1) (vp_nar .byte z1)), (mm a0x).2.2.2.2) := ⟨_, rfl⟩
        refine va_bast hx hb hK hP hD hS (3 + (13 * a0x + 6)) 1 (px_cg6 rfl hp112) rfl hi112 px_d251_112 (fun H locs hP hD hS => ?_)
        have hP : va_P (dC, dI) vwCl (([(ho, .inr (1, [.ref q_o, .ref q_t, .int o_reached])), (q_o, .inl (cc.2.1, l_o, .inl g_o)), (q_t, .inl (cc.2.1, 182, .inl g_t))] : va_W) ++ px_cp cc ho cm np ns hm pa sa mm2 pp ss) H := px_csP rfl hp112 (by decide) rfl (px_hr6 _ _ _) emm2 hP
        have hD : va_D A (([(ho, .inr (1, [.ref q_o, .ref q_t, .int o_reached])), (q_o, .inl (cc.2.1, l_o, .inl g_o)), (q_t, .inl (cc.2.1, 182, .inl g_t))] : va_W) ++ px_cp cc ho cm np ns hm pa sa mm2 pp ss) := px_csD rfl hp112 (by decide) rfl (px_hr6 _ _ _) emm2 hD
        have hw := hw mm2 emm2
        obtain ⟨z3, ez3⟩ : ∃ y : Int32, y = x3 + 1 := ⟨_, rfl⟩
        have hw := hw z3 ez3
        refine lv_iinc (v := z3) (lv' := [(3, .int z3), (0, .ref (hm a0x)), (1, .int x1), (2, .int x2)]) hx hb px_d251_113 hl (k := 3) rfl (by rw [ez3]; rfl) (by decide) rfl (fun ls hl => ?_)
        refine lv_goto (tgt := 71) hx hb px_d251_116 (by decide) ?_
        exact ih71 x1 x2 z3 q_o l_o o_reached g_o g_t mm2 H locs ls hP hD hS (lv_sub hl [1, 2, 3, 0] rfl) hw
      intro x1 x2 x3 q_o l_o o_reached g_o g_t mm H locs ls hP hD hS hl hw
      unfold w251_L71 at hw
      refine lv_iload_n hx hb px_d251_71 rfl (lv_at hl 3 rfl) ?_
      refine lv_aload_n hx hb px_d251_72 rfl (lv_at hl 0 rfl) ?_
      obtain ⟨hp73, hw⟩ := hw
      have hPc := hP.part (cx := [(ho, .inr (1, [.ref q_o, .ref q_t, .int o_reached])), (q_o, .inl (cc.2.1, l_o, .inl g_o)), (q_t, .inl (cc.2.1, 182, .inl g_t))]) [0, 1, 2] rfl
      have hDc := hD.part (cx := [(ho, .inr (1, [.ref q_o, .ref q_t, .int o_reached])), (q_o, .inl (cc.2.1, l_o, .inl g_o)), (q_t, .inl (cc.2.1, 182, .inl g_t))]) [0, 1, 2] (by decide) rfl
      have hFc := va_freeP (cx := [(ho, .inr (1, [.ref q_o, .ref q_t, .int o_reached])), (q_o, .inl (cc.2.1, l_o, .inl g_o)), (q_t, .inl (cc.2.1, 182, .inl g_t))]) hD hS hA [0, 1, 2] rfl
      have hKc := hK.sub (tys' := [(cc.2.1, .int), (cc.2.2.2.1, .byte), (cc.2.2.2.2, .long), (cc.1, .object "MatroidDesk$Part"), (cc.2.2.1, (.array .int))]) [0, 1, 2, 3, 4] rfl
      refine va_calli (va_runV (As := []) (rest := [.int x3]) ⟨hx, hb, hml, hown, htw⟩ (w249_met l dC dI H.size ho q_t a0x cc cm np ns hm pa sa pp ss q_o l_o o_reached g_o g_t mm _ hw) (cwV 0 htw (px_gv px_w1265 px_w1287 px_w1288 px_w154 px_g249) rfl rfl rfl (by decide +kernel) ⟨Nat.le_of_ble_eq_true rfl, Nat.le_of_ble_eq_true rfl⟩) ⟨fun a U g mk q => by obtain ⟨q0, q1, qP, qK, qD, qN⟩ := q; exact ⟨q0, q1, qP, va_K.moved (u := U) (U := U.calling g mk a) (Vm.Alike.refl U.vm) qK, qD, qN.same rfl⟩, va_recv hK hP (ci := 10) (q0 := (3 + (13 * a0x + 0))) rfl (px_cg0 rfl hp73), fun U hU hW => ⟨rfl, by rw [hU], by rw [hU]; exact hPc, va_K.moved hW.alike hKc, hDc.weaken (fun _ _ _ _ => trivial), hN.warm hW⟩⟩ rfl rfl hl.1 rfl (lv_room (Nat.le_of_ble_eq_true rfl)) px_d251_73 ⟨(Nat.le_of_ble_eq_true rfl), (Nat.le_of_ble_eq_true rfl)⟩) hS (fun q _ h => hFc q h) hFc (fun r73 u t H1 locs ht hvm hw hB hz1 hk1 hS => ?_)
      obtain ⟨v4, v5, v6, v7, v8, v9⟩ := u
      obtain ⟨hP1, hK1, hD1⟩ := hB
      rw [ht] at hP1
      obtain ⟨hP, hD⟩ := va_joinP (wr := []) (rx := [(ho, .inr (1, [.ref v4, .ref q_t, .int v6])), (v4, .inl (cc.2.1, v5, .inl v7)), (q_t, .inl (cc.2.1, 182, .inl v8))]) hP hD [0, 1, 2] [] rfl rfl (by decide) (by decide) hk1 hFc hP1 hD1
      generalize H1 = H at hP hS ⊢
      have hP : va_P (dC, dI) vwCl (([(ho, .inr (1, [.ref v4, .ref q_t, .int v6])), (v4, .inl (cc.2.1, v5, .inl v7)), (q_t, .inl (cc.2.1, 182, .inl v8))] : va_W) ++ px_cp cc ho cm np ns hm pa sa v9 pp ss) H := hP
      have hD : va_D A (([(ho, .inr (1, [.ref v4, .ref q_t, .int v6])), (v4, .inl (cc.2.1, v5, .inl v7)), (q_t, .inl (cc.2.1, 182, .inl v8))] : va_W) ++ px_cp cc ho cm np ns hm pa sa v9 pp ss) := hD
      refine lv_icmp_gt (tgt := 119) hx hb px_d251_76 (by decide) (fun c76 => ?_) (fun c76 => ?_)
      · have hw := hw.1 c76
        rw [← hQ]
        exact W.vret hx hb hr (fun t ht hW => ⟨⟨(v4, v5, v6, v7, v8, v9), rfl, hw, by rw [ht]; exact hP, va_K.moved hW.alike hK, hD⟩, hS.F ht⟩) hS.2.2 px_d251_119
      · have hw := hw.2 c76
        refine lv_aload_n hx hb px_d251_79 rfl (lv_at hl 0 rfl) ?_
        obtain ⟨hp80, hw⟩ := hw
        refine va_get (D := (dC, dI)) (ci := 10) (v := .ref ((v9 a0x).1 6)) (C := "MatroidDesk$Matroid") (T := px_T10) (N := 15) hx hb htw px_in10 hown hK hP (3 + (13 * a0x + 0)) (px_cg0 rfl hp80) rfl 6 (by decide) (htw _ px_w1005) (fun _ h9 => h9) rfl px_d251_80 ?_
        refine lv_iload_n hx hb px_d251_83 rfl (lv_at hl 3 rfl) ?_
        refine lv_aload_n hx hb px_d251_84 rfl (lv_at hl 0 rfl) ?_
        obtain ⟨hp85, hw⟩ := hw
        refine va_get (D := (dC, dI)) (ci := 10) (v := .int ((v9 a0x).2.1 12)) (C := "MatroidDesk$Matroid") (T := px_T10) (N := 15) hx hb htw px_in10 hown hK hP (3 + (13 * a0x + 0)) (px_cg0 rfl hp85) rfl 12 (by decide) (htw _ px_w1273) (fun _ h9 => h9) rfl px_d251_85 ?_
        refine lv_if_ne (tgt := 102) hx hb px_d251_88 (by decide) (fun c88 => ?_) (fun c88 => ?_)
        · have hw := hw.1 c88
          refine lv_aload_n hx hb px_d251_102 rfl (lv_at hl 0 rfl) ?_
          obtain ⟨hp103, hw⟩ := hw
          refine va_get (D := (dC, dI)) (ci := 10) (v := .ref ((v9 a0x).1 6)) (C := "MatroidDesk$Matroid") (T := px_T10) (N := 15) hx hb htw px_in10 hown hK hP (3 + (13 * a0x + 0)) (px_cg0 rfl hp103) rfl 6 (by decide) (htw _ px_w1005) (fun _ h9 => h9) rfl px_d251_103 ?_
          refine lv_iload_n hx hb px_d251_106 rfl (lv_at hl 3 rfl) ?_
          obtain ⟨hp107, hw⟩ := hw
          obtain ⟨hi107, hw⟩ := hw
          refine va_bald hx hb hK hP (3 + (13 * a0x + 6)) 1 (px_cg6 rfl hp107) rfl hi107 px_d251_107 ?_
          have hPc := hP.sub (ws' := []) [] rfl
          have hDc := hD.sub (ws' := []) [] (by decide) rfl
          have hFc := va_free (wc := []) hD hS hA [] rfl
          have hKc := hK.sub (tys' := []) [] rfl
          refine va_calli (va_runS (As := [.int (((v9 a0x).2.2.2.1 6) (Int32.toNatClampNeg x3))]) (rest := [.int x3, .ref ((v9 a0x).1 6)]) ⟨hx, hb, hml, hown, htw⟩ (w252_met l dC dI H.size (((v9 a0x).2.2.2.1 6) (Int32.toNatClampNeg x3)) _ hw) (va_cwS 1 htw (px_gs2 px_w1296 px_w1298 px_w1753 px_g252) rfl rfl rfl (by decide +kernel) ⟨Nat.le_of_ble_eq_true rfl, Nat.le_of_ble_eq_true rfl⟩) ⟨fun a U g mk q => by obtain ⟨q0, q1, qP, qK, qD, qN⟩ := q; exact ⟨q0, q1, qP, va_K.moved (u := U) (U := U.calling g mk a) (Vm.Alike.refl U.vm) qK, qD, qN.same rfl⟩, fun U hU hW => ⟨rfl, by rw [hU], by rw [hU]; exact hPc, va_K.moved hW.alike hKc, hDc.weaken (fun _ _ _ _ => trivial), hN.warm hW⟩⟩ rfl rfl hl.1 rfl (lv_room (Nat.le_of_ble_eq_true rfl)) px_d251_108 ⟨(Nat.le_of_ble_eq_true rfl), (Nat.le_of_ble_eq_true rfl)⟩) hS (fun q _ h => hFc q h) hFc (fun r108 u t H1 locs ht hvm hw hB hz1 hk1 hS => ?_)
          obtain ⟨hP1, hK1, hD1⟩ := hB
          rw [ht] at hP1
          obtain ⟨hP, hD⟩ := va_joinQ (wr := [(ho, .inr (1, [.ref v4, .ref q_t, .int v6])), (v4, .inl (cc.2.1, v5, .inl v7)), (q_t, .inl (cc.2.1, 182, .inl v8))]) (w1 := []) hP hD [] [0, 1, 2] rfl rfl (by decide) (by decide) hk1 hFc hP1 hD1
          generalize H1 = H at hP hS ⊢
          have hP : va_P (dC, dI) vwCl (([(ho, .inr (1, [.ref v4, .ref q_t, .int v6])), (v4, .inl (cc.2.1, v5, .inl v7)), (q_t, .inl (cc.2.1, 182, .inl v8))] : va_W) ++ px_cp cc ho cm np ns hm pa sa v9 pp ss) H := hP
          have hD : va_D A (([(ho, .inr (1, [.ref v4, .ref q_t, .int v6])), (v4, .inl (cc.2.1, v5, .inl v7)), (q_t, .inl (cc.2.1, 182, .inl v8))] : va_W) ++ px_cp cc ho cm np ns hm pa sa v9 pp ss) := hD
          exact S111 x1 x2 x3 r108 x3 v4 v5 v6 v7 v8 v9 H locs ls hP hD hS (lv_sub hl [0, 1, 2, 3] rfl) hw
        · have hw := hw.2 c88
          refine lv_iload_n hx hb px_d251_91 rfl (lv_at hl 2 rfl) ?_
          refine lv_aload_n hx hb px_d251_92 rfl (lv_at hl 0 rfl) ?_
          obtain ⟨hp93, hw⟩ := hw
          refine va_get (D := (dC, dI)) (ci := 10) (v := .ref ((v9 a0x).1 6)) (C := "MatroidDesk$Matroid") (T := px_T10) (N := 15) hx hb htw px_in10 hown hK hP (3 + (13 * a0x + 0)) (px_cg0 rfl hp93) rfl 6 (by decide) (htw _ px_w1005) (fun _ h9 => h9) rfl px_d251_93 ?_
          refine lv_iload_n hx hb px_d251_96 rfl (lv_at hl 3 rfl) ?_
          obtain ⟨hp97, hw⟩ := hw
          obtain ⟨hi97, hw⟩ := hw
          refine va_bald hx hb hK hP (3 + (13 * a0x + 6)) 1 (px_cg6 rfl hp97) rfl hi97 px_d251_97 ?_
          refine lv_imul hx hb px_d251_98 ?_
          refine lv_goto (tgt := 111) hx hb px_d251_99 (by decide) ?_
          exact S111 x1 x2 x3 (x2 * (((v9 a0x).2.2.2.1 6) (Int32.toNatClampNeg x3))) x3 v4 v5 v6 v7 v8 v9 H locs ls hP hD hS (lv_sub hl [0, 1, 2, 3] rfl) hw
  have S69 : ∀ (x1 : Int32) (x2 : Int32) (x3 : Int32) (q_o : Nat) (l_o : Nat) (o_reached : Int32) (g_o : Nat → Int32) (g_t : Nat → Int32) (mm : Nat → px_MR) (H : Heap) (locs : List Loc) (ls : Array Slot), va_P (dC, dI) vwCl (([(ho, .inr (1, [.ref q_o, .ref q_t, .int o_reached])), (q_o, .inl (cc.2.1, l_o, .inl g_o)), (q_t, .inl (cc.2.1, 182, .inl g_t))] : va_W) ++ px_cp cc ho cm np ns hm pa sa mm pp ss) H → va_D A (([(ho, .inr (1, [.ref q_o, .ref q_t, .int o_reached])), (q_o, .inl (cc.2.1, l_o, .inl g_o)), (q_t, .inl (cc.2.1, 182, .inl g_t))] : va_W) ++ px_cp cc ho cm np ns hm pa sa mm pp ss) → va_S A s.heap H locs → lv_has ls 4 [(0, .ref (hm a0x)), (1, .int x1), (2, .int x2), (3, .int x3)] → w251_L69 a0x cm np ns pa sa pp ss post x1 x2 x3 q_o l_o o_reached g_o g_t mm → W p l e (headSpec px_s251 ({ frames := 1, cells := 0, slots := 0, locals := 22 })).room s m ([.ref (hm a0x)]).toArray below meth c H locs 0 0 Q (F0 m 69 ls []) := by
    intro x1 x2 x3 q_o l_o o_reached g_o g_t mm H locs ls hP hD hS hl hw
    unfold w251_L69 at hw
    refine lv_iconst (v := 0) hx hb px_d251_69 (by decide) ?_
    refine lv_istore_n (lv' := [(3, .int 0), (0, .ref (hm a0x)), (1, .int x1), (2, .int x2)]) hx hb px_d251_70 rfl hl (by decide) rfl (fun ls hl => ?_)
    obtain ⟨k9, hw⟩ := hw
    exact S71 k9 x1 x2 0 q_o l_o o_reached g_o g_t mm H locs ls hP hD hS (lv_sub hl [1, 2, 3, 0] rfl) hw
  have S36 : ∀ (k36 : Nat) (x1 : Int32) (x2 : Int32) (x3 : Int32) (q_o : Nat) (l_o : Nat) (o_reached : Int32) (g_o : Nat → Int32) (g_t : Nat → Int32) (mm : Nat → px_MR) (H : Heap) (locs : List Loc) (ls : Array Slot), va_P (dC, dI) vwCl (([(ho, .inr (1, [.ref q_o, .ref q_t, .int o_reached])), (q_o, .inl (cc.2.1, l_o, .inl g_o)), (q_t, .inl (cc.2.1, 182, .inl g_t))] : va_W) ++ px_cp cc ho cm np ns hm pa sa mm pp ss) H → va_D A (([(ho, .inr (1, [.ref q_o, .ref q_t, .int o_reached])), (q_o, .inl (cc.2.1, l_o, .inl g_o)), (q_t, .inl (cc.2.1, 182, .inl g_t))] : va_W) ++ px_cp cc ho cm np ns hm pa sa mm pp ss) → va_S A s.heap H locs → lv_has ls 4 [(0, .ref (hm a0x)), (1, .int x1), (2, .int x2), (3, .int x3)] → w251_L36 a0x cm np ns pa sa pp ss post k36 x1 x2 x3 q_o l_o o_reached g_o g_t mm → W p l e (headSpec px_s251 ({ frames := 1, cells := 0, slots := 0, locals := 22 })).room s m ([.ref (hm a0x)]).toArray below meth c H locs 0 0 Q (F0 m 36 ls []) := by
    intro k36
    induction k36 with
    | zero => intro x1 x2 x3 q_o l_o o_reached g_o g_t mm H locs ls hP hD hS hl hw; exact False.elim hw
    | succ k36 ih36 =>
      intro x1 x2 x3 q_o l_o o_reached g_o g_t mm H locs ls hP hD hS hl hw
      unfold w251_L36 at hw
      refine lv_iload_n hx hb px_d251_36 rfl (lv_at hl 3 rfl) ?_
      refine lv_iload_n hx hb px_d251_37 rfl (lv_at hl 1 rfl) ?_
      refine lv_icmp_ge (tgt := 69) hx hb px_d251_38 (by decide) (fun c38 => ?_) (fun c38 => ?_)
      · have hw := hw.1 c38
        exact S69 x1 x2 x3 q_o l_o o_reached g_o g_t mm H locs ls hP hD hS (lv_sub hl [0, 1, 2, 3] rfl) hw
      · have hw := hw.2 c38
        refine lv_iload_n hx hb px_d251_41 rfl (lv_at hl 2 rfl) ?_
        refine lv_if_ne (tgt := 69) hx hb px_d251_42 (by decide) (fun c42 => ?_) (fun c42 => ?_)
        · have hw := hw.1 c42
          exact S69 x1 x2 x3 q_o l_o o_reached g_o g_t mm H locs ls hP hD hS (lv_sub hl [0, 1, 2, 3] rfl) hw
        · have hw := hw.2 c42
          refine lv_aload_n hx hb px_d251_45 rfl (lv_at hl 0 rfl) ?_
          obtain ⟨hp46, hw⟩ := hw
          refine va_get (D := (dC, dI)) (ci := 10) (v := .ref ((mm a0x).1 6)) (C := "MatroidDesk$Matroid") (T := px_T10) (N := 15) hx hb htw px_in10 hown hK hP (3 + (13 * a0x + 0)) (px_cg0 rfl hp46) rfl 6 (by decide) (htw _ px_w1005) (fun _ h9 => h9) rfl px_d251_46 ?_
          refine lv_aload_n hx hb px_d251_49 rfl (lv_at hl 0 rfl) ?_
          obtain ⟨hp50, hw⟩ := hw
          refine va_get (D := (dC, dI)) (ci := 10) (v := .ref ho) (C := "MatroidDesk$Matroid") (T := px_T10) (N := 15) hx hb htw px_in10 hown hK hP (3 + (13 * a0x + 0)) (px_cg0 rfl hp50) rfl 0 (by decide) (htw _ px_w998) (fun _ h9 => h9) rfl px_d251_50 ?_
          refine lv_aload_n hx hb px_d251_53 rfl (lv_at hl 0 rfl) ?_
          obtain ⟨hp54, hw⟩ := hw
          refine va_get (D := (dC, dI)) (ci := 10) (v := .int ((mm a0x).2.1 13)) (C := "MatroidDesk$Matroid") (T := px_T10) (N := 15) hx hb htw px_in10 hown hK hP (3 + (13 * a0x + 0)) (px_cg0 rfl hp54) rfl 13 (by decide) (htw _ px_w1264) (fun _ h9 => h9) rfl px_d251_54 ?_
          refine lv_iload_n hx hb px_d251_57 rfl (lv_at hl 3 rfl) ?_
          have hPc := hP.sub (ws' := [(ho, .inr (1, [.ref q_o, .ref q_t, .int o_reached])), (q_o, .inl (cc.2.1, l_o, .inl g_o)), (q_t, .inl (cc.2.1, 182, .inl g_t))]) [0, 1, 2] rfl
          have hDc := hD.sub (ws' := [(ho, .inr (1, [.ref q_o, .ref q_t, .int o_reached])), (q_o, .inl (cc.2.1, l_o, .inl g_o)), (q_t, .inl (cc.2.1, 182, .inl g_t))]) [0, 1, 2] (by decide) rfl
          have hFc := va_free (wc := [(ho, .inr (1, [.ref q_o, .ref q_t, .int o_reached])), (q_o, .inl (cc.2.1, l_o, .inl g_o)), (q_t, .inl (cc.2.1, 182, .inl g_t))]) hD hS hA [0, 1, 2] rfl
          have hKc := hK.sub (tys' := [(cc.2.1, .int)]) [0] rfl
          refine va_calli (va_runV (As := [.int ((mm a0x).2.1 13), .int x3]) (rest := [.ref ((mm a0x).1 6)]) ⟨hx, hb, hml, hown, htw⟩ (w240_met l dC dI H.size ho q_t cc.2.1 ((mm a0x).2.1 13) x3 q_o l_o o_reached g_o g_t _ hw) (cwV 2 htw (px_gv px_w1295 px_w1240 px_w1241 px_w22 px_g240) rfl rfl rfl (by decide +kernel) ⟨Nat.le_of_ble_eq_true rfl, Nat.le_of_ble_eq_true rfl⟩) ⟨fun a U g mk q => by obtain ⟨q0, q1, qP, qK, qD, qN⟩ := q; exact ⟨q0, q1, qP, va_K.moved (u := U) (U := U.calling g mk a) (Vm.Alike.refl U.vm) qK, qD, qN.same rfl⟩, va_recv hK hP (ci := 1) (q0 := 0) rfl rfl, fun U hU hW => ⟨rfl, by rw [hU], by rw [hU]; exact hPc, va_K.moved hW.alike hKc, hDc.weaken (fun _ _ _ _ => trivial), hN.warm hW⟩⟩ rfl rfl hl.1 rfl (lv_room (Nat.le_of_ble_eq_true rfl)) px_d251_58 ⟨(Nat.le_of_ble_eq_true rfl), (Nat.le_of_ble_eq_true rfl)⟩) hS (fun q _ h => hFc q h) hFc (fun r58 u t H1 locs ht hvm hw hB hz1 hk1 hS => ?_)
          obtain ⟨v12, v13, v14, v15, v16⟩ := u
          obtain ⟨hP1, hK1, hD1⟩ := hB
          rw [ht] at hP1
          obtain ⟨hP, hD⟩ := va_joinQ (wr := []) (w1 := [(ho, .inr (1, [.ref v12, .ref q_t, .int v14])), (v12, .inl (cc.2.1, v13, .inl v15)), (q_t, .inl (cc.2.1, 182, .inl v16))]) hP hD [0, 1, 2] [] rfl rfl (by decide) (by decide) hk1 hFc hP1 hD1
          generalize H1 = H at hP hS ⊢
          have hP : va_P (dC, dI) vwCl (([(ho, .inr (1, [.ref v12, .ref q_t, .int v14])), (v12, .inl (cc.2.1, v13, .inl v15)), (q_t, .inl (cc.2.1, 182, .inl v16))] : va_W) ++ px_cp cc ho cm np ns hm pa sa mm pp ss) H := hP
          have hD : va_D A (([(ho, .inr (1, [.ref v12, .ref q_t, .int v14])), (v12, .inl (cc.2.1, v13, .inl v15)), (q_t, .inl (cc.2.1, 182, .inl v16))] : va_W) ++ px_cp cc ho cm np ns hm pa sa mm pp ss) := hD
          obtain ⟨hp61, hw⟩ := hw
          obtain ⟨hi61, hw⟩ := hw
          refine va_bald hx hb hK hP (3 + (13 * a0x + 6)) 1 (px_cg6 rfl hp61) rfl hi61 px_d251_61 ?_
          refine lv_topi (fun z18 ez18 => ?_)
          have hw := hw z18 ez18
          refine lv_istore_n (lv' := [(2, .int z18), (0, .ref (hm a0x)), (1, .int x1), (3, .int x3)]) hx hb px_d251_62 rfl hl (by decide) rfl (fun ls hl => ?_)
          obtain ⟨z19, ez19⟩ : ∃ y : Int32, y = x3 + 1 := ⟨_, rfl⟩
          have hw := hw z19 ez19
          refine lv_iinc (v := z19) (lv' := [(3, .int z19), (2, .int z18), (0, .ref (hm a0x)), (1, .int x1)]) hx hb px_d251_63 hl (k := 3) rfl (by rw [ez19]; rfl) (by decide) rfl (fun ls hl => ?_)
          refine lv_goto (tgt := 36) hx hb px_d251_66 (by decide) ?_
          exact ih36 x1 z18 z19 v12 v13 v14 v15 v16 mm H locs ls hP hD hS (lv_sub hl [2, 3, 1, 0] rfl) hw
  unfold w251_wp at hw
  have hS0 := hS
  obtain ⟨H, hH9⟩ : ∃ z, z = s.heap := ⟨_, rfl⟩
  have hP : va_P (dC, dI) vwCl (([(ho, .inr (1, [.ref q_o, .ref q_t, .int o_reached])), (q_o, .inl (cc.2.1, l_o, .inl g_o)), (q_t, .inl (cc.2.1, 182, .inl g_t))] : va_W) ++ px_cp cc ho cm np ns hm pa sa mm pp ss) H := by rw [hH9]; exact hP
  obtain ⟨locs, hlo9⟩ : ∃ z : List Loc, z = [] := ⟨_, rfl⟩
  have hS : va_S A s.heap H locs := by rw [hH9, hlo9]; exact hS
  suffices hG : W p l e (headSpec px_s251 ({ frames := 1, cells := 0, slots := 0, locals := 22 })).room s m ([.ref (hm a0x)]).toArray below meth c H locs 0 0 Q (F0 m 0 ls []) by rw [hH9, hlo9] at hG; exact hG
  refine lv_aload_n hx hb px_d251_0 rfl (lv_at hl 0 rfl) ?_
  obtain ⟨hp1, hw⟩ := hw
  refine va_get (D := (dC, dI)) (ci := 10) (v := .ref ho) (C := "MatroidDesk$Matroid") (T := px_T10) (N := 15) hx hb htw px_in10 hown hK hP (3 + (13 * a0x + 0)) (px_cg0 rfl hp1) rfl 0 (by decide) (htw _ px_w998) (fun _ h9 => h9) rfl px_d251_1 ?_
  refine lv_aload_n hx hb px_d251_4 rfl (lv_at hl 0 rfl) ?_
  obtain ⟨hp5, hw⟩ := hw
  refine va_get (D := (dC, dI)) (ci := 10) (v := .int ((mm a0x).2.1 13)) (C := "MatroidDesk$Matroid") (T := px_T10) (N := 15) hx hb htw px_in10 hown hK hP (3 + (13 * a0x + 0)) (px_cg0 rfl hp5) rfl 13 (by decide) (htw _ px_w1264) (fun _ h9 => h9) rfl px_d251_5 ?_
  refine lv_aload_n hx hb px_d251_8 rfl (lv_at hl 0 rfl) ?_
  obtain ⟨hp9, hw⟩ := hw
  refine va_get (D := (dC, dI)) (ci := 10) (v := .int ((mm a0x).2.1 14)) (C := "MatroidDesk$Matroid") (T := px_T10) (N := 15) hx hb htw px_in10 hown hK hP (3 + (13 * a0x + 0)) (px_cg0 rfl hp9) rfl 14 (by decide) (htw _ px_w1267) (fun _ h9 => h9) rfl px_d251_9 ?_
  refine lv_iconst (v := 1) hx hb px_d251_12 (by decide) ?_
  refine lv_iadd hx hb px_d251_13 ?_
  have hPc := hP.sub (ws' := [(ho, .inr (1, [.ref q_o, .ref q_t, .int o_reached])), (q_o, .inl (cc.2.1, l_o, .inl g_o)), (q_t, .inl (cc.2.1, 182, .inl g_t))]) [0, 1, 2] rfl
  have hDc := hD.sub (ws' := [(ho, .inr (1, [.ref q_o, .ref q_t, .int o_reached])), (q_o, .inl (cc.2.1, l_o, .inl g_o)), (q_t, .inl (cc.2.1, 182, .inl g_t))]) [0, 1, 2] (by decide) rfl
  have hFc := va_free (wc := [(ho, .inr (1, [.ref q_o, .ref q_t, .int o_reached])), (q_o, .inl (cc.2.1, l_o, .inl g_o)), (q_t, .inl (cc.2.1, 182, .inl g_t))]) hD hS hA [0, 1, 2] rfl
  have hKc := hK.sub (tys' := [(cc.2.1, .int)]) [0] rfl
  refine va_calli (va_runV (As := [.int ((mm a0x).2.1 13), .int (((mm a0x).2.1 14) + 1)]) (rest := []) ⟨hx, hb, hml, hown, htw⟩ (w239_met l dC dI H.size ho q_t cc.2.1 ((mm a0x).2.1 13) (((mm a0x).2.1 14) + 1) q_o l_o o_reached g_o g_t _ hw) (cwV 2 htw (px_gv px_w1294 px_w1237 px_w1238 px_w22 px_g239) rfl rfl rfl (by decide +kernel) ⟨Nat.le_of_ble_eq_true rfl, Nat.le_of_ble_eq_true rfl⟩) ⟨fun a U g mk q => by obtain ⟨q0, q1, qP, qK, qD, qN⟩ := q; exact ⟨q0, q1, qP, va_K.moved (u := U) (U := U.calling g mk a) (Vm.Alike.refl U.vm) qK, qD, qN.same rfl⟩, va_recv hK hP (ci := 1) (q0 := 0) rfl rfl, fun U hU hW => ⟨rfl, by rw [hU], by rw [hU]; exact hPc, va_K.moved hW.alike hKc, hDc.weaken (fun _ _ _ _ => trivial), hN.warm hW⟩⟩ rfl rfl hl.1 rfl (lv_room (Nat.le_of_ble_eq_true rfl)) px_d251_14 ⟨(Nat.le_of_ble_eq_true rfl), (Nat.le_of_ble_eq_true rfl)⟩) hS (fun q _ h => hFc q h) hFc (fun r14 u t H1 locs ht hvm hw hB hz1 hk1 hS => ?_)
  obtain ⟨v20, v21, v22, v23, v24⟩ := u
  obtain ⟨hP1, hK1, hD1⟩ := hB
  rw [ht] at hP1
  obtain ⟨hP, hD⟩ := va_joinQ (wr := []) (w1 := [(ho, .inr (1, [.ref v20, .ref q_t, .int v22])), (v20, .inl (cc.2.1, v21, .inl v23)), (q_t, .inl (cc.2.1, 182, .inl v24))]) hP hD [0, 1, 2] [] rfl rfl (by decide) (by decide) hk1 hFc hP1 hD1
  generalize H1 = H at hP hS ⊢
  have hP : va_P (dC, dI) vwCl (([(ho, .inr (1, [.ref v20, .ref q_t, .int v22])), (v20, .inl (cc.2.1, v21, .inl v23)), (q_t, .inl (cc.2.1, 182, .inl v24))] : va_W) ++ px_cp cc ho cm np ns hm pa sa mm pp ss) H := hP
  have hD : va_D A (([(ho, .inr (1, [.ref v20, .ref q_t, .int v22])), (v20, .inl (cc.2.1, v21, .inl v23)), (q_t, .inl (cc.2.1, 182, .inl v24))] : va_W) ++ px_cp cc ho cm np ns hm pa sa mm pp ss) := hD
  refine lv_istore_n (lv' := [(1, .int r14), (0, .ref (hm a0x))]) hx hb px_d251_17 rfl hl (by decide) rfl (fun ls hl => ?_)
  refine lv_iconst (v := 0) hx hb px_d251_18 (by decide) ?_
  refine lv_istore_n (lv' := [(2, .int 0), (1, .int r14), (0, .ref (hm a0x))]) hx hb px_d251_19 rfl hl (by decide) rfl (fun ls hl => ?_)
  refine lv_aload_n hx hb px_d251_20 rfl (lv_at hl 2 rfl) ?_
  obtain ⟨hp21, hw⟩ := hw
  refine va_get (D := (dC, dI)) (ci := 10) (v := .ref ho) (C := "MatroidDesk$Matroid") (T := px_T10) (N := 15) hx hb htw px_in10 hown hK hP (3 + (13 * a0x + 0)) (px_cg0 rfl hp21) rfl 0 (by decide) (htw _ px_w998) (fun _ h9 => h9) rfl px_d251_21 ?_
  refine lv_aload_n hx hb px_d251_24 rfl (lv_at hl 2 rfl) ?_
  obtain ⟨hp25, hw⟩ := hw
  refine va_get (D := (dC, dI)) (ci := 10) (v := .int ((mm a0x).2.1 13)) (C := "MatroidDesk$Matroid") (T := px_T10) (N := 15) hx hb htw px_in10 hown hK hP (3 + (13 * a0x + 0)) (px_cg0 rfl hp25) rfl 13 (by decide) (htw _ px_w1264) (fun _ h9 => h9) rfl px_d251_25 ?_
  refine lv_aload_n hx hb px_d251_28 rfl (lv_at hl 2 rfl) ?_
  obtain ⟨hp29, hw⟩ := hw
  refine va_get (D := (dC, dI)) (ci := 10) (v := .int ((mm a0x).2.1 14)) (C := "MatroidDesk$Matroid") (T := px_T10) (N := 15) hx hb htw px_in10 hown hK hP (3 + (13 * a0x + 0)) (px_cg0 rfl hp29) rfl 14 (by decide) (htw _ px_w1267) (fun _ h9 => h9) rfl px_d251_29 ?_
  have hPc := hP.sub (ws' := [(ho, .inr (1, [.ref v20, .ref q_t, .int v22])), (v20, .inl (cc.2.1, v21, .inl v23)), (q_t, .inl (cc.2.1, 182, .inl v24))]) [0, 1, 2] rfl
  have hDc := hD.sub (ws' := [(ho, .inr (1, [.ref v20, .ref q_t, .int v22])), (v20, .inl (cc.2.1, v21, .inl v23)), (q_t, .inl (cc.2.1, 182, .inl v24))]) [0, 1, 2] (by decide) rfl
  have hFc := va_free (wc := [(ho, .inr (1, [.ref v20, .ref q_t, .int v22])), (v20, .inl (cc.2.1, v21, .inl v23)), (q_t, .inl (cc.2.1, 182, .inl v24))]) hD hS hA [0, 1, 2] rfl
  have hKc := hK.sub (tys' := [(cc.2.1, .int)]) [0] rfl
  refine va_calli (va_runV (As := [.int ((mm a0x).2.1 13), .int ((mm a0x).2.1 14)]) (rest := []) ⟨hx, hb, hml, hown, htw⟩ (w239_met l dC dI H.size ho q_t cc.2.1 ((mm a0x).2.1 13) ((mm a0x).2.1 14) v20 v21 v22 v23 v24 _ hw) (cwV 2 htw (px_gv px_w1294 px_w1237 px_w1238 px_w22 px_g239) rfl rfl rfl (by decide +kernel) ⟨Nat.le_of_ble_eq_true rfl, Nat.le_of_ble_eq_true rfl⟩) ⟨fun a U g mk q => by obtain ⟨q0, q1, qP, qK, qD, qN⟩ := q; exact ⟨q0, q1, qP, va_K.moved (u := U) (U := U.calling g mk a) (Vm.Alike.refl U.vm) qK, qD, qN.same rfl⟩, va_recv hK hP (ci := 1) (q0 := 0) rfl rfl, fun U hU hW => ⟨rfl, by rw [hU], by rw [hU]; exact hPc, va_K.moved hW.alike hKc, hDc.weaken (fun _ _ _ _ => trivial), hN.warm hW⟩⟩ rfl rfl hl.1 rfl (lv_room (Nat.le_of_ble_eq_true rfl)) px_d251_32 ⟨(Nat.le_of_ble_eq_true rfl), (Nat.le_of_ble_eq_true rfl)⟩) hS (fun q _ h => hFc q h) hFc (fun r32 u t H1 locs ht hvm hw hB hz1 hk1 hS => ?_)
  obtain ⟨v26, v27, v28, v29, v30⟩ := u
  obtain ⟨hP1, hK1, hD1⟩ := hB
  rw [ht] at hP1
  obtain ⟨hP, hD⟩ := va_joinQ (wr := []) (w1 := [(ho, .inr (1, [.ref v26, .ref q_t, .int v28])), (v26, .inl (cc.2.1, v27, .inl v29)), (q_t, .inl (cc.2.1, 182, .inl v30))]) hP hD [0, 1, 2] [] rfl rfl (by decide) (by decide) hk1 hFc hP1 hD1
  generalize H1 = H at hP hS ⊢
  have hP : va_P (dC, dI) vwCl (([(ho, .inr (1, [.ref v26, .ref q_t, .int v28])), (v26, .inl (cc.2.1, v27, .inl v29)), (q_t, .inl (cc.2.1, 182, .inl v30))] : va_W) ++ px_cp cc ho cm np ns hm pa sa mm pp ss) H := hP
  have hD : va_D A (([(ho, .inr (1, [.ref v26, .ref q_t, .int v28])), (v26, .inl (cc.2.1, v27, .inl v29)), (q_t, .inl (cc.2.1, 182, .inl v30))] : va_W) ++ px_cp cc ho cm np ns hm pa sa mm pp ss) := hD
  refine lv_istore_n (lv' := [(3, .int r32), (2, .int 0), (1, .int r14), (0, .ref (hm a0x))]) hx hb px_d251_35 rfl hl (by decide) rfl (fun ls hl => ?_)
  obtain ⟨k9, hw⟩ := hw
  exact S36 k9 r14 0 r32 v26 v27 v28 v29 v30 mm H locs ls hP hD hS (lv_sub hl [3, 2, 1, 0] rfl) hw

/-! MatroidDesk$Matroid.begin(III)V -/
def w246_L62 (a0x : Nat) (cm : Nat) (np : Nat) (ns : Nat) (pa : Nat → Nat) (sa : Nat → Nat) (pp : Nat → px_PR) (ss : Nat → px_SR) (mc : Nat) (ms : Nat) (post : Nat → Nat → Int32 → (Nat → Int32) → (Nat → Int32) → (Nat → px_MR) → Prop) (x1 : Int32) (x2 : Int32) (x3 : Int32) (q_o : Nat) (l_o : Nat) (o_reached : Int32) (g_o : Nat → Int32) (g_t : Nat → Int32) (mm : Nat → px_MR) (kc : Nat) (ks : Nat) : Prop := a0x < cm ∧ (a0x < cm ∧ (w247_wp 12 (fun v1 => ∀ mm2 : Nat → px_MR, mm2 = va_up mm a0x ((mm a0x).1, (mm a0x).2.1, (mm a0x).2.2.1, va_up (mm a0x).2.2.2.1 3 v1, (mm a0x).2.2.2.2) → (a0x < cm ∧ (a0x < cm ∧ (w247_wp 4 (fun v4 => ∀ mm5 : Nat → px_MR, mm5 = va_up mm2 a0x ((mm2 a0x).1, (mm2 a0x).2.1, (mm2 a0x).2.2.1, va_up (mm2 a0x).2.2.2.1 5 v4, (mm2 a0x).2.2.2.2) → (post q_o l_o o_reached g_o g_t mm5)) (-1) ((mm2 a0x).2.2.2.1 5))))) 0 ((mm a0x).2.2.2.1 3)))
def w246_wp (a0x : Nat) (cm : Nat) (np : Nat) (ns : Nat) (pa : Nat → Nat) (sa : Nat → Nat) (pp : Nat → px_PR) (ss : Nat → px_SR) (mc : Nat) (ms : Nat) (post : Nat → Nat → Int32 → (Nat → Int32) → (Nat → Int32) → (Nat → px_MR) → Prop) (a1x : Int32) (a2x : Int32) (a3x : Int32) (q_o : Nat) (l_o : Nat) (o_reached : Int32) (g_o : Nat → Int32) (g_t : Nat → Int32) (mm : Nat → px_MR) : Prop := a0x < cm ∧ ((∀ mm7 : Nat → px_MR, mm7 = va_up mm a0x ((mm a0x).1, va_up (mm a0x).2.1 12 a1x, (mm a0x).2.2) → (a0x < cm ∧ ((∀ mm8 : Nat → px_MR, mm8 = va_up mm7 a0x ((mm7 a0x).1, va_up (mm7 a0x).2.1 13 a2x, (mm7 a0x).2.2) → (a0x < cm ∧ ((∀ mm9 : Nat → px_MR, mm9 = va_up mm8 a0x ((mm8 a0x).1, va_up (mm8 a0x).2.1 14 a3x, (mm8 a0x).2.2) → (a0x < cm ∧ ((∀ mm10 : Nat → px_MR, mm10 = va_up mm9 a0x ((mm9 a0x).1, va_up (mm9 a0x).2.1 9 0, (mm9 a0x).2.2) → (a0x < cm ∧ ((∀ mm11 : Nat → px_MR, mm11 = va_up mm10 a0x ((mm10 a0x).1, va_up (mm10 a0x).2.1 10 0, (mm10 a0x).2.2) → (a0x < cm ∧ (a0x < cm ∧ (∃ m33_17 s33_17 : Nat, 0 + m33_17 ≤ mc ∧ 0 + s33_17 ≤ ms ∧ (w181_wp m33_17 s33_17 (fun v12 v13 v14 v15 v16 => a0x < cm ∧ (a0x < cm ∧ (a0x < cm ∧ ((((1 : Int32) <<< (((mm11 a0x).2.1 13) &&& 31)) ≤ (nI ((mm11 a0x).2.2.1 6)) → w246_L62 a0x cm np ns pa sa pp ss mc ms post a1x a2x a3x v12 v13 v14 v15 v16 mm11 (0 + m33_17) (0 + s33_17)) ∧ (¬ ((1 : Int32) <<< (((mm11 a0x).2.1 13) &&& 31)) ≤ (nI ((mm11 a0x).2.2.1 6)) → a0x < cm ∧ (¬ ((1 : Int32) <<< (((mm11 a0x).2.1 13) &&& 31)) < 0 ∧ (Int32.toNatClampNeg ((1 : Int32) <<< (((mm11 a0x).2.1 13) &&& 31))) * 1 ≤ 536870912 ∧ 0 + m33_17 + 1 ≤ mc ∧ 0 + s33_17 + (Int32.toNatClampNeg ((1 : Int32) <<< (((mm11 a0x).2.1 13) &&& 31))) ≤ ms ∧ (∀ q57_19 : Nat, (a0x < cm ∧ ((∀ mm20 : Nat → px_MR, mm20 = va_up mm11 a0x (va_up (mm11 a0x).1 6 q57_19, (mm11 a0x).2.1, va_up (mm11 a0x).2.2.1 6 (Int32.toNatClampNeg ((1 : Int32) <<< (((mm11 a0x).2.1 13) &&& 31))), va_up (mm11 a0x).2.2.2.1 6 (fun _ => 0), (mm11 a0x).2.2.2.2) → (w246_L62 a0x cm np ns pa sa pp ss mc ms post a1x a2x a3x v12 v13 v14 v15 v16 mm20 (0 + m33_17 + 1) (0 + s33_17 + (Int32.toNatClampNeg ((1 : Int32) <<< (((mm11 a0x).2.1 13) &&& 31))))))))))))))) ((mm11 a0x).2.1 13) q_o l_o o_reached g_o g_t))))))))))))))))))
set_option maxHeartbeats 8000000 in
set_option maxRecDepth 100000 in
theorem w246_met (l : Launch) (dC : Nat → ClassId) (dI : Nat → Nat → Nat) (sz : Nat) (ho : Nat) (q_t : Nat) (a0x : Nat) (cc : px_CC) (cm : Nat) (np : Nat) (ns : Nat) (hm : Nat → Nat) (pa : Nat → Nat) (sa : Nat → Nat) (pp : Nat → px_PR) (ss : Nat → px_SR) (mc : Nat) (ms : Nat) (a1x : Int32) (a2x : Int32) (a3x : Int32) (q_o : Nat) (l_o : Nat) (o_reached : Int32) (g_o : Nat → Int32) (g_t : Nat → Int32) (mm : Nat → px_MR) (post : Nat → Nat → Int32 → (Nat → Int32) → (Nat → Int32) → (Nat → px_MR) → Prop) (hw : w246_wp a0x cm np ns pa sa pp ss mc ms post a1x a2x a3x q_o l_o o_reached g_o g_t mm) : Met l px_y246 px_s246 ({ frames := 3, cells := mc, slots := ms, locals := 70 }) (va_Pc [.ref (hm a0x), .int a1x, .int a2x, .int a3x] (fun U => U.heap.size = sz ∧ va_P (dC, dI) vwCl (([(ho, .inr (1, [.ref q_o, .ref q_t, .int o_reached])), (q_o, .inl (cc.2.1, l_o, .inl g_o)), (q_t, .inl (cc.2.1, 182, .inl g_t))] : va_W) ++ px_cp cc ho cm np ns hm pa sa mm pp ss) U.heap ∧ va_K (dC, dI) vwCl [(cc.2.1, .int), (cc.2.2.2.1, .byte), (cc.2.2.2.2, .long), (cc.1, .object "MatroidDesk$Part"), (cc.2.2.1, (.array .int))] U ∧ va_D (fun _ => True) (([(ho, .inr (1, [.ref q_o, .ref q_t, .int o_reached])), (q_o, .inl (cc.2.1, l_o, .inl g_o)), (q_t, .inl (cc.2.1, 182, .inl g_t))] : va_W) ++ px_cp cc ho cm np ns hm pa sa mm pp ss) ∧ px_N U)) (va_Qv (fun (u : Nat × Nat × Int32 × (Nat → Int32) × (Nat → Int32) × (Nat → px_MR)) => post u.1 u.2.1 u.2.2.1 u.2.2.2.1 u.2.2.2.2.1 u.2.2.2.2.2) (fun (u : Nat × Nat × Int32 × (Nat → Int32) × (Nat → Int32) × (Nat → px_MR)) (t : State) => va_P (dC, dI) vwCl (([(ho, .inr (1, [.ref u.1, .ref q_t, .int u.2.2.1])), (u.1, .inl (cc.2.1, u.2.1, .inl u.2.2.2.1)), (q_t, .inl (cc.2.1, 182, .inl u.2.2.2.2.1))] : va_W) ++ px_cp cc ho cm np ns hm pa sa u.2.2.2.2.2 pp ss) t.heap ∧ va_K (dC, dI) vwCl [(cc.2.1, .int), (cc.2.2.2.1, .byte), (cc.2.2.2.2, .long), (cc.1, .object "MatroidDesk$Part"), (cc.2.2.1, (.array .int))] t ∧ va_D (va_A (([(ho, .inr (1, [.ref q_o, .ref q_t, .int o_reached])), (q_o, .inl (cc.2.1, l_o, .inl g_o)), (q_t, .inl (cc.2.1, 182, .inl g_t))] : va_W) ++ px_cp cc ho cm np ns hm pa sa mm pp ss) sz) (([(ho, .inr (1, [.ref u.1, .ref q_t, .int u.2.2.1])), (u.1, .inl (cc.2.1, u.2.1, .inl u.2.2.2.1)), (q_t, .inl (cc.2.1, 182, .inl u.2.2.2.2.1))] : va_W) ++ px_cp cc ho cm np ns hm pa sa u.2.2.2.2.2 pp ss)) (va_A (([(ho, .inr (1, [.ref q_o, .ref q_t, .int o_reached])), (q_o, .inl (cc.2.1, l_o, .inl g_o)), (q_t, .inl (cc.2.1, 182, .inl g_t))] : va_W) ++ px_cp cc ho cm np ns hm pa sa mm pp ss) sz)) mc ms (va_A (([(ho, .inr (1, [.ref q_o, .ref q_t, .int o_reached])), (q_o, .inl (cc.2.1, l_o, .inl g_o)), (q_t, .inl (cc.2.1, 182, .inl g_t))] : va_W) ++ px_cp cc ho cm np ns hm pa sa mm pp ss) sz) := by
  refine Met.ofW (cc := prog_3_method_19_code) (maxL := 4) (ret := none) (by decide) rfl ?_
  intro p e s m args below meth c s₁ B hml hv
  obtain ⟨rfl, hsz, hP, hK, hD0, hN⟩ := hv
  have hx := B.exec
  have hb := B.bytes
  have hr := B.returns
  have htw : ∀ w ∈ px_all, w.before _ s = true := fun w h => atoms_spec (ws := px_s246) B.pre w (List.mem_cons_of_mem _ h)
  have hown : s.vm.findClass "MatroidDesk$Matroid" = some m.cls := findClass_of_methodNamed B.named
  have hlocks := B.notSynchronized
  subst hsz
  have hD := hD0.self (sz := s.heap.size)
  generalize hAe : va_A (([(ho, .inr (1, [.ref q_o, .ref q_t, .int o_reached])), (q_o, .inl (cc.2.1, l_o, .inl g_o)), (q_t, .inl (cc.2.1, 182, .inl g_t))] : va_W) ++ px_cp cc ho cm np ns hm pa sa mm pp ss) s.heap.size = A at hD ⊢
  have hA : ∀ q : Nat, s.heap.size ≤ q → A q := fun q h => by rw [← hAe]; exact Or.inr h
  have hS : va_S A s.heap s.heap [] := va_S.rf
  have hP : va_P (dC, dI) vwCl (([(ho, .inr (1, [.ref q_o, .ref q_t, .int o_reached])), (q_o, .inl (cc.2.1, l_o, .inl g_o)), (q_t, .inl (cc.2.1, 182, .inl g_t))] : va_W) ++ px_cp cc ho cm np ns hm pa sa mm pp ss) s.heap := hP
  have hl := lv_entry ([.ref (hm a0x), .int a1x, .int a2x, .int a3x]) (n := 4) (Nat.le_of_ble_eq_true rfl)
  rw [lg_entry_eq]
  generalize (lg_sl ([.ref (hm a0x), .int a1x, .int a2x, .int a3x]) ++ List.replicate (4 - (lg_sl ([.ref (hm a0x), .int a1x, .int a2x, .int a3x])).length) Slot.unset).toArray = ls at hl ⊢
  have hl : lv_has ls 4 [(0, .ref (hm a0x)), (1, .int a1x), (2, .int a2x), (3, .int a3x)] := hl
  generalize hQ : MQ _ _ _ _ _ _ _ = Q
  have S62 : ∀ (x1 : Int32) (x2 : Int32) (x3 : Int32) (q_o : Nat) (l_o : Nat) (o_reached : Int32) (g_o : Nat → Int32) (g_t : Nat → Int32) (mm : Nat → px_MR) (kc : Nat) (ks : Nat) (H : Heap) (locs : List Loc) (ls : Array Slot), kc ≤ mc → ks ≤ ms → va_P (dC, dI) vwCl (([(ho, .inr (1, [.ref q_o, .ref q_t, .int o_reached])), (q_o, .inl (cc.2.1, l_o, .inl g_o)), (q_t, .inl (cc.2.1, 182, .inl g_t))] : va_W) ++ px_cp cc ho cm np ns hm pa sa mm pp ss) H → va_D A (([(ho, .inr (1, [.ref q_o, .ref q_t, .int o_reached])), (q_o, .inl (cc.2.1, l_o, .inl g_o)), (q_t, .inl (cc.2.1, 182, .inl g_t))] : va_W) ++ px_cp cc ho cm np ns hm pa sa mm pp ss) → va_S A s.heap H locs → lv_has ls 4 [(0, .ref (hm a0x)), (1, .int x1), (2, .int x2), (3, .int x3)] → w246_L62 a0x cm np ns pa sa pp ss mc ms post x1 x2 x3 q_o l_o o_reached g_o g_t mm kc ks → W p l e (headSpec px_s246 ({ frames := 3, cells := mc, slots := ms, locals := 70 })).room s m ([.ref (hm a0x), .int a1x, .int a2x, .int a3x]).toArray below meth c H locs kc ks Q (F0 m 62 ls []) := by
    intro x1 x2 x3 q_o l_o o_reached g_o g_t mm kc ks H locs ls hkc hks hP hD hS hl hw
    unfold w246_L62 at hw
    refine lv_aload_n hx hb px_d246_62 rfl (lv_at hl 0 rfl) ?_
    obtain ⟨hp63, hw⟩ := hw
    refine va_get (D := (dC, dI)) (ci := 10) (v := .ref ((mm a0x).1 3)) (C := "MatroidDesk$Matroid") (T := px_T10) (N := 15) hx hb htw px_in10 hown hK hP (3 + (13 * a0x + 0)) (px_cg0 rfl hp63) rfl 3 (by decide) (htw _ px_w1002) (fun _ h9 => h9) rfl px_d246_63 ?_
    refine lv_iconst (v := 0) hx hb px_d246_66 (by decide) ?_
    obtain ⟨hp67, hw⟩ := hw
    have hPc : va_P (dC, dI) vwCl [((mm a0x).1 3, .inl (cc.2.1, 12, .inl ((mm a0x).2.2.2.1 3)))] H := px_cutP hP (k := 3 + (13 * a0x + 3)) (px_cg3 rfl hp67)
    have hDc : va_D A [((mm a0x).1 3, .inl (cc.2.1, 12, .inl ((mm a0x).2.2.2.1 3)))] := px_cutD hD (k := 3 + (13 * a0x + 3)) (px_cg3 rfl hp67)
    have hFc : ∀ q, va_A [((mm a0x).1 3, .inl (cc.2.1, 12, .inl ((mm a0x).2.2.2.1 3)))] H.size q → A q := px_cutF hD hS hA (k := 3 + (13 * a0x + 3)) (px_cg3 rfl hp67)
    have hKc := hK.sub (tys' := [(cc.2.1, .int)]) [0] rfl
    refine va_callv (va_runS (As := [.ref ((mm a0x).1 3), .int 0]) (rest := []) ⟨hx, hb, hml, hown, htw⟩ (w247_met l dC dI H.size ((mm a0x).1 3) 12 cc.2.1 0 ((mm a0x).2.2.2.1 3) _ hw) (va_cwS 2 htw (px_gs2 px_w1277 px_w1279 px_w1752 px_g247) rfl rfl rfl (by decide +kernel) ⟨Nat.le_of_ble_eq_true rfl, Nat.le_of_ble_eq_true rfl⟩) ⟨fun a U g mk q => by obtain ⟨q0, q1, qP, qK, qD, qN⟩ := q; exact ⟨q0, q1, qP, va_K.moved (u := U) (U := U.calling g mk a) (Vm.Alike.refl U.vm) qK, qD, qN.same rfl⟩, fun U hU hW => ⟨rfl, by rw [hU], by rw [hU]; exact hPc, va_K.moved hW.alike hKc, hDc.weaken (fun _ _ _ _ => trivial), hN.warm hW⟩⟩ rfl rfl hl.1 rfl (lv_room (Nat.le_of_ble_eq_true rfl)) px_d246_67 ⟨hkc, hks⟩) hS (fun q _ h => hFc q h) hFc (fun u t H1 locs ht hvm hw hB hz1 hk1 hS => ?_)
    obtain ⟨v1, rfl⟩ : ∃ z, z = u := ⟨_, rfl⟩
    obtain ⟨hP1, hK1, hD1⟩ := hB
    rw [ht] at hP1
    obtain ⟨hP, hD⟩ := px_cutJ hP hD (k := 3 + (13 * a0x + 3)) (px_cg3 rfl hp67) hk1 hP1 rfl
    obtain ⟨mm2, emm2⟩ : ∃ z : Nat → px_MR, z = va_up mm a0x ((mm a0x).1, (mm a0x).2.1, (mm a0x).2.2.1, va_up (mm a0x).2.2.2.1 3 v1, (mm a0x).2.2.2.2) := ⟨_, rfl⟩
    have hP : va_P (dC, dI) vwCl (([(ho, .inr (1, [.ref q_o, .ref q_t, .int o_reached])), (q_o, .inl (cc.2.1, l_o, .inl g_o)), (q_t, .inl (cc.2.1, 182, .inl g_t))] : va_W) ++ px_cp cc ho cm np ns hm pa sa mm2 pp ss) H1 := px_csP rfl hp67 (by decide) rfl (px_hr3 _ _ _) emm2 hP
    have hD : va_D A (([(ho, .inr (1, [.ref q_o, .ref q_t, .int o_reached])), (q_o, .inl (cc.2.1, l_o, .inl g_o)), (q_t, .inl (cc.2.1, 182, .inl g_t))] : va_W) ++ px_cp cc ho cm np ns hm pa sa mm2 pp ss) := px_csD rfl hp67 (by decide) rfl (px_hr3 _ _ _) emm2 hD
    have hw := hw mm2 emm2
    generalize H1 = H at hP hS ⊢
    have hP : va_P (dC, dI) vwCl (([(ho, .inr (1, [.ref q_o, .ref q_t, .int o_reached])), (q_o, .inl (cc.2.1, l_o, .inl g_o)), (q_t, .inl (cc.2.1, 182, .inl g_t))] : va_W) ++ px_cp cc ho cm np ns hm pa sa mm2 pp ss) H := hP
    have hD : va_D A (([(ho, .inr (1, [.ref q_o, .ref q_t, .int o_reached])), (q_o, .inl (cc.2.1, l_o, .inl g_o)), (q_t, .inl (cc.2.1, 182, .inl g_t))] : va_W) ++ px_cp cc ho cm np ns hm pa sa mm2 pp ss) := hD
    refine lv_aload_n hx hb px_d246_70 rfl (lv_at hl 0 rfl) ?_
    obtain ⟨hp71, hw⟩ := hw
    refine va_get (D := (dC, dI)) (ci := 10) (v := .ref ((mm2 a0x).1 5)) (C := "MatroidDesk$Matroid") (T := px_T10) (N := 15) hx hb htw px_in10 hown hK hP (3 + (13 * a0x + 0)) (px_cg0 rfl hp71) rfl 5 (by decide) (htw _ px_w1004) (fun _ h9 => h9) rfl px_d246_71 ?_
    refine lv_iconst (v := (-1)) hx hb px_d246_74 (by decide) ?_
    obtain ⟨hp75, hw⟩ := hw
    have hPc : va_P (dC, dI) vwCl [((mm2 a0x).1 5, .inl (cc.2.1, 4, .inl ((mm2 a0x).2.2.2.1 5)))] H := px_cutP hP (k := 3 + (13 * a0x + 5)) (px_cg5 rfl hp75)
    have hDc : va_D A [((mm2 a0x).1 5, .inl (cc.2.1, 4, .inl ((mm2 a0x).2.2.2.1 5)))] := px_cutD hD (k := 3 + (13 * a0x + 5)) (px_cg5 rfl hp75)
    have hFc : ∀ q, va_A [((mm2 a0x).1 5, .inl (cc.2.1, 4, .inl ((mm2 a0x).2.2.2.1 5)))] H.size q → A q := px_cutF hD hS hA (k := 3 + (13 * a0x + 5)) (px_cg5 rfl hp75)
    have hKc := hK.sub (tys' := [(cc.2.1, .int)]) [0] rfl
    refine va_callv (va_runS (As := [.ref ((mm2 a0x).1 5), .int (-1)]) (rest := []) ⟨hx, hb, hml, hown, htw⟩ (w247_met l dC dI H.size ((mm2 a0x).1 5) 4 cc.2.1 (-1) ((mm2 a0x).2.2.2.1 5) _ hw) (va_cwS 2 htw (px_gs2 px_w1277 px_w1279 px_w1752 px_g247) rfl rfl rfl (by decide +kernel) ⟨Nat.le_of_ble_eq_true rfl, Nat.le_of_ble_eq_true rfl⟩) ⟨fun a U g mk q => by obtain ⟨q0, q1, qP, qK, qD, qN⟩ := q; exact ⟨q0, q1, qP, va_K.moved (u := U) (U := U.calling g mk a) (Vm.Alike.refl U.vm) qK, qD, qN.same rfl⟩, fun U hU hW => ⟨rfl, by rw [hU], by rw [hU]; exact hPc, va_K.moved hW.alike hKc, hDc.weaken (fun _ _ _ _ => trivial), hN.warm hW⟩⟩ rfl rfl hl.1 rfl (lv_room (Nat.le_of_ble_eq_true rfl)) px_d246_75 ⟨hkc, hks⟩) hS (fun q _ h => hFc q h) hFc (fun u t H1 locs ht hvm hw hB hz1 hk1 hS => ?_)
    obtain ⟨v4, rfl⟩ : ∃ z, z = u := ⟨_, rfl⟩
    obtain ⟨hP1, hK1, hD1⟩ := hB
    rw [ht] at hP1
    obtain ⟨hP, hD⟩ := px_cutJ hP hD (k := 3 + (13 * a0x + 5)) (px_cg5 rfl hp75) hk1 hP1 rfl
    obtain ⟨mm5, emm5⟩ : ∃ z : Nat → px_MR, z = va_up mm2 a0x ((mm2 a0x).1, (mm2 a0x).2.1, (mm2 a0x).2.2.1, va_up (mm2 a0x).2.2.2.1 5 v4, (mm2 a0x).2.2.2.2) := ⟨_, rfl⟩
    have hP : va_P (dC, dI) vwCl (([(ho, .inr (1, [.ref q_o, .ref q_t, .int o_reached])), (q_o, .inl (cc.2.1, l_o, .inl g_o)), (q_t, .inl (cc.2.1, 182, .inl g_t))] : va_W) ++ px_cp cc ho cm np ns hm pa sa mm5 pp ss) H1 := px_csP rfl hp75 (by decide) rfl (px_hr5 _ _ _) emm5 hP
    have hD : va_D A (([(ho, .inr (1, [.ref q_o, .ref q_t, .int o_reached])), (q_o, .inl (cc.2.1, l_o, .inl g_o)), (q_t, .inl (cc.2.1, 182, .inl g_t))] : va_W) ++ px_cp cc ho cm np ns hm pa sa mm5 pp ss) := px_csD rfl hp75 (by decide) rfl (px_hr5 _ _ _) emm5 hD
    have hw := hw mm5 emm5
    generalize H1 = H at hP hS ⊢
    have hP : va_P (dC, dI) vwCl (([(ho, .inr (1, [.ref q_o, .ref q_t, .int o_reached])), (q_o, .inl (cc.2.1, l_o, .inl g_o)), (q_t, .inl (cc.2.1, 182, .inl g_t))] : va_W) ++ px_cp cc ho cm np ns hm pa sa mm5 pp ss) H := hP
    have hD : va_D A (([(ho, .inr (1, [.ref q_o, .ref q_t, .int o_reached])), (q_o, .inl (cc.2.1, l_o, .inl g_o)), (q_t, .inl (cc.2.1, 182, .inl g_t))] : va_W) ++ px_cp cc ho cm np ns hm pa sa mm5 pp ss) := hD
    refine W.widen (k := mc) (n := ms) hkc hks ?_
    rw [← hQ]
    exact W.vret hx hb hr (fun t ht hW => ⟨⟨(q_o, l_o, o_reached, g_o, g_t, mm5), rfl, hw, by rw [ht]; exact hP, va_K.moved hW.alike hK, hD⟩, hS.F ht⟩) hS.2.2 px_d246_78
  unfold w246_wp at hw
  have hS0 := hS
  obtain ⟨H, hH9⟩ : ∃ z, z = s.heap := ⟨_, rfl⟩
  have hP : va_P (dC, dI) vwCl (([(ho, .inr (1, [.ref q_o, .ref q_t, .int o_reached])), (q_o, .inl (cc.2.1, l_o, .inl g_o)), (q_t, .inl (cc.2.1, 182, .inl g_t))] : va_W) ++ px_cp cc ho cm np ns hm pa sa mm pp ss) H := by rw [hH9]; exact hP
  obtain ⟨locs, hlo9⟩ : ∃ z : List Loc, z = [] := ⟨_, rfl⟩
  have hS : va_S A s.heap H locs := by rw [hH9, hlo9]; exact hS
  suffices hG : W p l e (headSpec px_s246 ({ frames := 3, cells := mc, slots := ms, locals := 70 })).room s m ([.ref (hm a0x), .int a1x, .int a2x, .int a3x]).toArray below meth c H locs 0 0 Q (F0 m 0 ls []) by rw [hH9, hlo9] at hG; exact hG
  refine lv_aload_n hx hb px_d246_0 rfl (lv_at hl 0 rfl) ?_
  refine lv_iload_n hx hb px_d246_1 rfl (lv_at hl 1 rfl) ?_
  obtain ⟨hp2, hw⟩ := hw
  obtain ⟨mm7, emm7⟩ : ∃ z : Nat → px_MR, z = va_up mm a0x ((mm a0x).1, va_up (mm a0x).2.1 12 a1x, (mm a0x).2.2) := ⟨_, rfl⟩
  refine va_put (D := (dC, dI)) (ci := 10) (v := .int a1x) (ty := .int) (C := "MatroidDesk$Matroid") (T := px_T10) (N := 15) hx hb htw px_in10 px_ty10 px_tyok10 px_nm10 hown hK hP hD hS (3 + (13 * a0x + 0)) (px_cg0 rfl hp2) rfl 12 (by decide) (htw _ px_w1273) (fun _ h9 => h9) rfl (by decide +kernel) rfl rfl (Nat.le_of_ble_eq_true rfl) px_d246_2 (fun H locs hP hD hS => ?_)
  have hP : va_P (dC, dI) vwCl (([(ho, .inr (1, [.ref q_o, .ref q_t, .int o_reached])), (q_o, .inl (cc.2.1, l_o, .inl g_o)), (q_t, .inl (cc.2.1, 182, .inl g_t))] : va_W) ++ px_cp cc ho cm np ns hm pa sa mm7 pp ss) H := px_csP rfl hp2 (by decide) rfl (px_hrI _ _ _) emm7 hP
  have hD : va_D A (([(ho, .inr (1, [.ref q_o, .ref q_t, .int o_reached])), (q_o, .inl (cc.2.1, l_o, .inl g_o)), (q_t, .inl (cc.2.1, 182, .inl g_t))] : va_W) ++ px_cp cc ho cm np ns hm pa sa mm7 pp ss) := px_csD rfl hp2 (by decide) rfl (px_hrI _ _ _) emm7 hD
  have hw := hw mm7 emm7
  refine lv_aload_n hx hb px_d246_5 rfl (lv_at hl 0 rfl) ?_
  refine lv_iload_n hx hb px_d246_6 rfl (lv_at hl 2 rfl) ?_
  obtain ⟨hp7, hw⟩ := hw
  obtain ⟨mm8, emm8⟩ : ∃ z : Nat → px_MR, z = va_up mm7 a0x ((mm7 a0x).1, va_up (mm7 a0x).2.1 13 a2x, (mm7 a0x).2.2) := ⟨_, rfl⟩
  refine va_put (D := (dC, dI)) (ci := 10) (v := .int a2x) (ty := .int) (C := "MatroidDesk$Matroid") (T := px_T10) (N := 15) hx hb htw px_in10 px_ty10 px_tyok10 px_nm10 hown hK hP hD hS (3 + (13 * a0x + 0)) (px_cg0 rfl hp7) rfl 13 (by decide) (htw _ px_w1264) (fun _ h9 => h9) rfl (by decide +kernel) rfl rfl (Nat.le_of_ble_eq_true rfl) px_d246_7 (fun H locs hP hD hS => ?_)
  have hP : va_P (dC, dI) vwCl (([(ho, .inr (1, [.ref q_o, .ref q_t, .int o_reached])), (q_o, .inl (cc.2.1, l_o, .inl g_o)), (q_t, .inl (cc.2.1, 182, .inl g_t))] : va_W) ++ px_cp cc ho cm np ns hm pa sa mm8 pp ss) H := px_csP rfl hp7 (by decide) rfl (px_hrI _ _ _) emm8 hP
  have hD : va_D A (([(ho, .inr (1, [.ref q_o, .ref q_t, .int o_reached])), (q_o, .inl (cc.2.1, l_o, .inl g_o)), (q_t, .inl (cc.2.1, 182, .inl g_t))] : va_W) ++ px_cp cc ho cm np ns hm pa sa mm8 pp ss) := px_csD rfl hp7 (by decide) rfl (px_hrI _ _ _) emm8 hD
  have hw := hw mm8 emm8
  refine lv_aload_n hx hb px_d246_10 rfl (lv_at hl 0 rfl) ?_
  refine lv_iload_n hx hb px_d246_11 rfl (lv_at hl 3 rfl) ?_
  obtain ⟨hp12, hw⟩ := hw
  obtain ⟨mm9, emm9⟩ : ∃ z : Nat → px_MR, z = va_up mm8 a0x ((mm8 a0x).1, va_up (mm8 a0x).2.1 14 a3x, (mm8 a0x).2.2) := ⟨_, rfl⟩
  refine va_put (D := (dC, dI)) (ci := 10) (v := .int a3x) (ty := .int) (C := "MatroidDesk$Matroid") (T := px_T10) (N := 15) hx hb htw px_in10 px_ty10 px_tyok10 px_nm10 hown hK hP hD hS (3 + (13 * a0x + 0)) (px_cg0 rfl hp12) rfl 14 (by decide) (htw _ px_w1267) (fun _ h9 => h9) rfl (by decide +kernel) rfl rfl (Nat.le_of_ble_eq_true rfl) px_d246_12 (fun H locs hP hD hS => ?_)
  have hP : va_P (dC, dI) vwCl (([(ho, .inr (1, [.ref q_o, .ref q_t, .int o_reached])), (q_o, .inl (cc.2.1, l_o, .inl g_o)), (q_t, .inl (cc.2.1, 182, .inl g_t))] : va_W) ++ px_cp cc ho cm np ns hm pa sa mm9 pp ss) H := px_csP rfl hp12 (by decide) rfl (px_hrI _ _ _) emm9 hP
  have hD : va_D A (([(ho, .inr (1, [.ref q_o, .ref q_t, .int o_reached])), (q_o, .inl (cc.2.1, l_o, .inl g_o)), (q_t, .inl (cc.2.1, 182, .inl g_t))] : va_W) ++ px_cp cc ho cm np ns hm pa sa mm9 pp ss) := px_csD rfl hp12 (by decide) rfl (px_hrI _ _ _) emm9 hD
  have hw := hw mm9 emm9
  refine lv_aload_n hx hb px_d246_15 rfl (lv_at hl 0 rfl) ?_
  refine lv_iconst (v := 0) hx hb px_d246_16 (by decide) ?_
  obtain ⟨hp17, hw⟩ := hw
  obtain ⟨mm10, emm10⟩ : ∃ z : Nat → px_MR, z = va_up mm9 a0x ((mm9 a0x).1, va_up (mm9 a0x).2.1 9 0, (mm9 a0x).2.2) := ⟨_, rfl⟩
  refine va_put (D := (dC, dI)) (ci := 10) (v := .int 0) (ty := .boolean) (C := "MatroidDesk$Matroid") (T := px_T10) (N := 15) hx hb htw px_in10 px_ty10 px_tyok10 px_nm10 hown hK hP hD hS (3 + (13 * a0x + 0)) (px_cg0 rfl hp17) rfl 9 (by decide) (htw _ px_w1274) (fun _ h9 => h9) rfl (by decide +kernel) (by decide +kernel) (by decide +kernel) (Nat.le_of_ble_eq_true rfl) px_d246_17 (fun H locs hP hD hS => ?_)
  have hP : va_P (dC, dI) vwCl (([(ho, .inr (1, [.ref q_o, .ref q_t, .int o_reached])), (q_o, .inl (cc.2.1, l_o, .inl g_o)), (q_t, .inl (cc.2.1, 182, .inl g_t))] : va_W) ++ px_cp cc ho cm np ns hm pa sa mm10 pp ss) H := px_csP rfl hp17 (by decide) rfl (px_hrI _ _ _) emm10 hP
  have hD : va_D A (([(ho, .inr (1, [.ref q_o, .ref q_t, .int o_reached])), (q_o, .inl (cc.2.1, l_o, .inl g_o)), (q_t, .inl (cc.2.1, 182, .inl g_t))] : va_W) ++ px_cp cc ho cm np ns hm pa sa mm10 pp ss) := px_csD rfl hp17 (by decide) rfl (px_hrI _ _ _) emm10 hD
  have hw := hw mm10 emm10
  refine lv_aload_n hx hb px_d246_20 rfl (lv_at hl 0 rfl) ?_
  refine lv_iconst (v := 0) hx hb px_d246_21 (by decide) ?_
  obtain ⟨hp22, hw⟩ := hw
  obtain ⟨mm11, emm11⟩ : ∃ z : Nat → px_MR, z = va_up mm10 a0x ((mm10 a0x).1, va_up (mm10 a0x).2.1 10 0, (mm10 a0x).2.2) := ⟨_, rfl⟩
  refine va_put (D := (dC, dI)) (ci := 10) (v := .int 0) (ty := .boolean) (C := "MatroidDesk$Matroid") (T := px_T10) (N := 15) hx hb htw px_in10 px_ty10 px_tyok10 px_nm10 hown hK hP hD hS (3 + (13 * a0x + 0)) (px_cg0 rfl hp22) rfl 10 (by decide) (htw _ px_w1275) (fun _ h9 => h9) rfl (by decide +kernel) (by decide +kernel) (by decide +kernel) (Nat.le_of_ble_eq_true rfl) px_d246_22 (fun H locs hP hD hS => ?_)
  have hP : va_P (dC, dI) vwCl (([(ho, .inr (1, [.ref q_o, .ref q_t, .int o_reached])), (q_o, .inl (cc.2.1, l_o, .inl g_o)), (q_t, .inl (cc.2.1, 182, .inl g_t))] : va_W) ++ px_cp cc ho cm np ns hm pa sa mm11 pp ss) H := px_csP rfl hp22 (by decide) rfl (px_hrI _ _ _) emm11 hP
  have hD : va_D A (([(ho, .inr (1, [.ref q_o, .ref q_t, .int o_reached])), (q_o, .inl (cc.2.1, l_o, .inl g_o)), (q_t, .inl (cc.2.1, 182, .inl g_t))] : va_W) ++ px_cp cc ho cm np ns hm pa sa mm11 pp ss) := px_csD rfl hp22 (by decide) rfl (px_hrI _ _ _) emm11 hD
  have hw := hw mm11 emm11
  refine lv_aload_n hx hb px_d246_25 rfl (lv_at hl 0 rfl) ?_
  obtain ⟨hp26, hw⟩ := hw
  refine va_get (D := (dC, dI)) (ci := 10) (v := .ref ho) (C := "MatroidDesk$Matroid") (T := px_T10) (N := 15) hx hb htw px_in10 hown hK hP (3 + (13 * a0x + 0)) (px_cg0 rfl hp26) rfl 0 (by decide) (htw _ px_w998) (fun _ h9 => h9) rfl px_d246_26 ?_
  refine lv_aload_n hx hb px_d246_29 rfl (lv_at hl 0 rfl) ?_
  obtain ⟨hp30, hw⟩ := hw
  refine va_get (D := (dC, dI)) (ci := 10) (v := .int ((mm11 a0x).2.1 13)) (C := "MatroidDesk$Matroid") (T := px_T10) (N := 15) hx hb htw px_in10 hown hK hP (3 + (13 * a0x + 0)) (px_cg0 rfl hp30) rfl 13 (by decide) (htw _ px_w1264) (fun _ h9 => h9) rfl px_d246_30 ?_
  obtain ⟨m33_17, s33_17, hm33_17, hs33_17, hw⟩ := hw
  have hPc := hP.sub (ws' := [(ho, .inr (1, [.ref q_o, .ref q_t, .int o_reached])), (q_o, .inl (cc.2.1, l_o, .inl g_o)), (q_t, .inl (cc.2.1, 182, .inl g_t))]) [0, 1, 2] rfl
  have hDc := hD.sub (ws' := [(ho, .inr (1, [.ref q_o, .ref q_t, .int o_reached])), (q_o, .inl (cc.2.1, l_o, .inl g_o)), (q_t, .inl (cc.2.1, 182, .inl g_t))]) [0, 1, 2] (by decide) rfl
  have hFc := va_free (wc := [(ho, .inr (1, [.ref q_o, .ref q_t, .int o_reached])), (q_o, .inl (cc.2.1, l_o, .inl g_o)), (q_t, .inl (cc.2.1, 182, .inl g_t))]) hD hS hA [0, 1, 2] rfl
  have hKc := hK.sub (tys' := [(cc.2.1, .int)]) [0] rfl
  refine va_callv (va_runV (As := [.int ((mm11 a0x).2.1 13)]) (rest := []) ⟨hx, hb, hml, hown, htw⟩ (w181_met l dC dI H.size ho q_t cc.2.1 m33_17 s33_17 ((mm11 a0x).2.1 13) q_o l_o o_reached g_o g_t _ hw) (cwV 1 htw (px_gv px_w1276 px_w1034 px_w1035 px_w22 px_g181) rfl rfl rfl (by decide +kernel) ⟨Nat.le_of_ble_eq_true rfl, Nat.le_of_ble_eq_true rfl⟩) ⟨fun a U g mk q => by obtain ⟨q0, q1, qP, qK, qD, qN⟩ := q; exact ⟨q0, q1, qP, va_K.moved (u := U) (U := U.calling g mk a) (Vm.Alike.refl U.vm) qK, qD, qN.same rfl⟩, va_recv hK hP (ci := 1) (q0 := 0) rfl rfl, fun U hU hW => ⟨rfl, by rw [hU], by rw [hU]; exact hPc, va_K.moved hW.alike hKc, hDc.weaken (fun _ _ _ _ => trivial), hN.warm hW⟩⟩ rfl rfl hl.1 rfl (lv_room (Nat.le_of_ble_eq_true rfl)) px_d246_33 ⟨hm33_17, hs33_17⟩) hS (fun q _ h => hFc q h) hFc (fun u t H1 locs ht hvm hw hB hz1 hk1 hS => ?_)
  obtain ⟨v12, v13, v14, v15, v16⟩ := u
  obtain ⟨hP1, hK1, hD1⟩ := hB
  rw [ht] at hP1
  obtain ⟨hP, hD⟩ := va_joinQ (wr := []) (w1 := [(ho, .inr (1, [.ref v12, .ref q_t, .int v14])), (v12, .inl (cc.2.1, v13, .inl v15)), (q_t, .inl (cc.2.1, 182, .inl v16))]) hP hD [0, 1, 2] [] rfl rfl (by decide) (by decide) hk1 hFc hP1 hD1
  generalize H1 = H at hP hS ⊢
  have hP : va_P (dC, dI) vwCl (([(ho, .inr (1, [.ref v12, .ref q_t, .int v14])), (v12, .inl (cc.2.1, v13, .inl v15)), (q_t, .inl (cc.2.1, 182, .inl v16))] : va_W) ++ px_cp cc ho cm np ns hm pa sa mm11 pp ss) H := hP
  have hD : va_D A (([(ho, .inr (1, [.ref v12, .ref q_t, .int v14])), (v12, .inl (cc.2.1, v13, .inl v15)), (q_t, .inl (cc.2.1, 182, .inl v16))] : va_W) ++ px_cp cc ho cm np ns hm pa sa mm11 pp ss) := hD
  refine lv_aload_n hx hb px_d246_36 rfl (lv_at hl 0 rfl) ?_
  obtain ⟨hp37, hw⟩ := hw
  refine va_get (D := (dC, dI)) (ci := 10) (v := .ref ((mm11 a0x).1 6)) (C := "MatroidDesk$Matroid") (T := px_T10) (N := 15) hx hb htw px_in10 hown hK hP (3 + (13 * a0x + 0)) (px_cg0 rfl hp37) rfl 6 (by decide) (htw _ px_w1005) (fun _ h9 => h9) rfl px_d246_37 ?_
  obtain ⟨hp40, hw⟩ := hw
  refine va_alen (v := nI ((mm11 a0x).2.2.1 6)) hx hb hK hP (3 + (13 * a0x + 6)) 1 (px_cg6 rfl hp40) rfl rfl px_d246_40 ?_
  refine lv_iconst (v := 1) hx hb px_d246_41 (by decide) ?_
  refine lv_aload_n hx hb px_d246_42 rfl (lv_at hl 0 rfl) ?_
  obtain ⟨hp43, hw⟩ := hw
  refine va_get (D := (dC, dI)) (ci := 10) (v := .int ((mm11 a0x).2.1 13)) (C := "MatroidDesk$Matroid") (T := px_T10) (N := 15) hx hb htw px_in10 hown hK hP (3 + (13 * a0x + 0)) (px_cg0 rfl hp43) rfl 13 (by decide) (htw _ px_w1264) (fun _ h9 => h9) rfl px_d246_43 ?_
  refine lv_ishl hx hb px_d246_46 ?_
  refine lv_icmp_ge (tgt := 62) hx hb px_d246_47 (by decide) (fun c47 => ?_) (fun c47 => ?_)
  · have hw := hw.1 c47
    exact S62 a1x a2x a3x v12 v13 v14 v15 v16 mm11 (0 + m33_17) (0 + s33_17) H locs ls hm33_17 hs33_17 hP hD hS (lv_sub hl [0, 1, 2, 3] rfl) hw
  · have hw := hw.2 c47
    refine lv_aload_n hx hb px_d246_50 rfl (lv_at hl 0 rfl) ?_
    refine lv_iconst (v := 1) hx hb px_d246_51 (by decide) ?_
    refine lv_aload_n hx hb px_d246_52 rfl (lv_at hl 0 rfl) ?_
    obtain ⟨hp53, hw⟩ := hw
    refine va_get (D := (dC, dI)) (ci := 10) (v := .int ((mm11 a0x).2.1 13)) (C := "MatroidDesk$Matroid") (T := px_T10) (N := 15) hx hb htw px_in10 hown hK hP (3 + (13 * a0x + 0)) (px_cg0 rfl hp53) rfl 13 (by decide) (htw _ px_w1264) (fun _ h9 => h9) rfl px_d246_53 ?_
    refine lv_ishl hx hb px_d246_56 ?_
    obtain ⟨hn57_19, hb57_19, hc57_19, hs57_19, hw⟩ := hw
    refine va_newa (atype := .byte) (ty := .byte) (n := (1 : Int32) <<< (((mm11 a0x).2.1 13) &&& 31)) (N' := Int32.toNatClampNeg ((1 : Int32) <<< (((mm11 a0x).2.1 13) &&& 31))) (a0 := (Int32.toNatClampNeg ((1 : Int32) <<< (((mm11 a0x).2.1 13) &&& 31)), .inl (fun _ => 0))) hx hb (htw _ px_w3) rfl hK hP hD hS hA (fun _ => rfl) hn57_19 rfl hb57_19 hc57_19 hs57_19 px_d246_57 (fun q57_19 cA9 H hK9 hP hD hS => ?_)
    have e9 := px_cAeq hK9 hK 1 rfl
    rw [e9] at hP hD
    have hw := hw q57_19
    have hP := hP.swap
    have hD := hD.swap
    have hP : va_P (dC, dI) vwCl (([(ho, .inr (1, [.ref v12, .ref q_t, .int v14])), (v12, .inl (cc.2.1, v13, .inl v15)), (q_t, .inl (cc.2.1, 182, .inl v16)), (q57_19, .inl (cc.2.2.2.1, Int32.toNatClampNeg ((1 : Int32) <<< (((mm11 a0x).2.1 13) &&& 31)), .inl (fun _ => 0)))] : va_W) ++ px_cp cc ho cm np ns hm pa sa mm11 pp ss) H := hP
    have hD : va_D A (([(ho, .inr (1, [.ref v12, .ref q_t, .int v14])), (v12, .inl (cc.2.1, v13, .inl v15)), (q_t, .inl (cc.2.1, 182, .inl v16)), (q57_19, .inl (cc.2.2.2.1, Int32.toNatClampNeg ((1 : Int32) <<< (((mm11 a0x).2.1 13) &&& 31)), .inl (fun _ => 0)))] : va_W) ++ px_cp cc ho cm np ns hm pa sa mm11 pp ss) := hD
    obtain ⟨hp59, hw⟩ := hw
    obtain ⟨mm20, emm20⟩ : ∃ z : Nat → px_MR, z = va_up mm11 a0x (va_up (mm11 a0x).1 6 q57_19, (mm11 a0x).2.1, va_up (mm11 a0x).2.2.1 6 (Int32.toNatClampNeg ((1 : Int32) <<< (((mm11 a0x).2.1 13) &&& 31))), va_up (mm11 a0x).2.2.2.1 6 (fun _ => 0), (mm11 a0x).2.2.2.2) := ⟨_, rfl⟩
    refine va_put (D := (dC, dI)) (ci := 10) (v := .ref q57_19) (ty := (.array .byte)) (C := "MatroidDesk$Matroid") (T := px_T10) (N := 15) hx hb htw px_in10 px_ty10 px_tyok10 px_nm10 hown hK hP hD hS (4 + (13 * a0x + 0)) (px_cg0 rfl hp59) rfl 6 (by decide) (htw _ px_w1005) (fun _ h9 => h9) rfl (by decide +kernel) rfl rfl (Nat.le_of_ble_eq_true rfl) px_d246_59 (fun H locs hP hD hS => ?_)
    have hP : va_P (dC, dI) vwCl (([(ho, .inr (1, [.ref v12, .ref q_t, .int v14])), (v12, .inl (cc.2.1, v13, .inl v15)), (q_t, .inl (cc.2.1, 182, .inl v16))] : va_W) ++ px_cp cc ho cm np ns hm pa sa mm20 pp ss) H := px_mswP (X := [(ho, .inr (1, [.ref v12, .ref q_t, .int v14])), (v12, .inl (cc.2.1, v13, .inl v15)), (q_t, .inl (cc.2.1, 182, .inl v16))]) rfl hp59 (by decide) (by decide) (by decide) rfl rfl (px_hs6 _ _ _ _ _) emm20 hP
    have hD : va_D A (([(ho, .inr (1, [.ref v12, .ref q_t, .int v14])), (v12, .inl (cc.2.1, v13, .inl v15)), (q_t, .inl (cc.2.1, 182, .inl v16))] : va_W) ++ px_cp cc ho cm np ns hm pa sa mm20 pp ss) := px_mswD (X := [(ho, .inr (1, [.ref v12, .ref q_t, .int v14])), (v12, .inl (cc.2.1, v13, .inl v15)), (q_t, .inl (cc.2.1, 182, .inl v16))]) rfl hp59 (by decide) (by decide) (by decide) rfl rfl (px_hs6 _ _ _ _ _) emm20 hD
    have hw := hw mm20 emm20
    exact S62 a1x a2x a3x v12 v13 v14 v15 v16 mm20 (0 + m33_17 + 1) (0 + s33_17 + (Int32.toNatClampNeg ((1 : Int32) <<< (((mm11 a0x).2.1 13) &&& 31)))) H locs ls hc57_19 hs57_19 hP hD hS (lv_sub hl [0, 1, 2, 3] rfl) hw

