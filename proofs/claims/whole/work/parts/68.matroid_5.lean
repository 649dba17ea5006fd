/-! MatroidDesk$Matroid.workOutList(I)V -/
def w273_L85 (K12 : Int32 → Int32 → Int32 → Int32 → Nat → Nat → Int32 → (Nat → Int32) → (Nat → Int32) → (Nat → px_MR) → Nat → Nat → Prop) (a0x : Nat) (cm : Nat) (np : Nat) (ns : Nat) (pa : Nat → Nat) (sa : Nat → Nat) (pp : Nat → px_PR) (ss : Nat → px_SR) (mc : Nat) (ms : Nat) (post : Nat → Nat → Int32 → (Nat → Int32) → (Nat → Int32) → (Nat → px_MR) → Prop) (x1 : Int32) (x2 : Int32) (x3 : Int32) (x4 : Int32) (x5 : Int32) (q_o : Nat) (l_o : Nat) (o_reached : Int32) (g_o : Nat → Int32) (g_t : Nat → Int32) (mm : Nat → px_MR) (kc : Nat) (ks : Nat) : Prop := ∀ z1 : Int32, z1 = x4 + 1 → K12 x1 x2 x3 z1 q_o l_o o_reached g_o g_t mm kc ks
def w273_L72 (K12 : Int32 → Int32 → Int32 → Int32 → Nat → Nat → Int32 → (Nat → Int32) → (Nat → Int32) → (Nat → px_MR) → Nat → Nat → Prop) (a0x : Nat) (cm : Nat) (np : Nat) (ns : Nat) (pa : Nat → Nat) (sa : Nat → Nat) (pp : Nat → px_PR) (ss : Nat → px_SR) (mc : Nat) (ms : Nat) (post : Nat → Nat → Int32 → (Nat → Int32) → (Nat → Int32) → (Nat → px_MR) → Prop) (x1 : Int32) (x2 : Int32) (x3 : Int32) (x4 : Int32) (x5 : Int32) (q_o : Nat) (l_o : Nat) (o_reached : Int32) (g_o : Nat → Int32) (g_t : Nat → Int32) (mm : Nat → px_MR) (kc : Nat) (ks : Nat) : Prop := a0x < cm ∧ (a0x < cm ∧ (vp_in x1 4 ∧ (a0x < cm ∧ (vp_in x3 ((mm a0x).2.2.1 (20 + (Int32.toNatClampNeg x1))) ∧ (Int32.toNatClampNeg x1) < 4 ∧ (∀ mm2 : Nat → px_MR, mm2 = va_up mm a0x ((mm a0x).1, (mm a0x).2.1, (mm a0x).2.2.1, va_up (mm a0x).2.2.2.1 (20 + (Int32.toNatClampNeg x1)) (upd ((mm a0x).2.2.2.1 (20 + (Int32.toNatClampNeg x1))) (Int32.toNatClampNeg x3) x5), (mm a0x).2.2.2.2) → (∀ z3 : Int32, z3 = x3 + 1 → w273_L85 K12 a0x cm np ns pa sa pp ss mc ms post x1 x2 z3 x4 x5 q_o l_o o_reached g_o g_t mm2 kc ks))))))
def w273_L12 (a0x : Nat) (cm : Nat) (np : Nat) (ns : Nat) (pa : Nat → Nat) (sa : Nat → Nat) (pp : Nat → px_PR) (ss : Nat → px_SR) (mc : Nat) (ms : Nat) (post : Nat → Nat → Int32 → (Nat → Int32) → (Nat → Int32) → (Nat → px_MR) → Prop) : Nat → Int32 → Int32 → Int32 → Int32 → Nat → Nat → Int32 → (Nat → Int32) → (Nat → Int32) → (Nat → px_MR) → Nat → Nat → Prop
  | 0 => fun _ _ _ _ _ _ _ _ _ _ _ _ => False
  | k + 1 => fun x1 x2 x3 x4 q_o l_o o_reached g_o g_t mm kc ks => (x2 ≤ x4 → a0x < cm ∧ (a0x < cm ∧ (vp_in x1 (4) ∧ (∀ mm4 : Nat → px_MR, mm4 = va_up mm a0x ((mm a0x).1, (mm a0x).2.1, (mm a0x).2.2.1, va_up (mm a0x).2.2.2.1 5 (upd ((mm a0x).2.2.2.1 5) (Int32.toNatClampNeg x1) x3), (mm a0x).2.2.2.2) → (post q_o l_o o_reached g_o g_t mm4))))) ∧ (¬ x2 ≤ x4 → a0x < cm ∧ (a0x < cm ∧ ((w240_wp (fun r28 v5 v6 v7 v8 v9 => a0x < cm ∧ (w274_wp a0x cm np ns pa sa pp ss (fun r37 v11 v12 v13 v14 v15 v16 => (r37 = 0 → w273_L85 (w273_L12 a0x cm np ns pa sa pp ss mc ms post k) a0x cm np ns pa sa pp ss mc ms post x1 x2 x3 x4 r28 v11 v12 v13 v14 v15 v16 kc ks) ∧ (¬ r37 = 0 → a0x < cm ∧ (a0x < cm ∧ (vp_in x1 4 ∧ (a0x < cm ∧ (Int32.toNatClampNeg x1) < 4 ∧ ((¬ x3 = (nI ((v16 a0x).2.2.1 (20 + (Int32.toNatClampNeg x1)))) → w273_L72 (w273_L12 a0x cm np ns pa sa pp ss mc ms post k) a0x cm np ns pa sa pp ss mc ms post x1 x2 x3 x4 r28 v11 v12 v13 v14 v15 v16 kc ks) ∧ (x3 = (nI ((v16 a0x).2.2.1 (20 + (Int32.toNatClampNeg x1)))) → a0x < cm ∧ (a0x < cm ∧ (a0x < cm ∧ (vp_in x1 4 ∧ (a0x < cm ∧ (Int32.toNatClampNeg x1) < 4 ∧ ∃ m68_20 s68_20 : Nat, kc + m68_20 ≤ mc ∧ ks + s68_20 ≤ ms ∧ (w182_wp ((v16 a0x).2.2.1 (20 + (Int32.toNatClampNeg x1))) m68_20 s68_20 (fun nq68_19 nn68_19 nf68_19 v18 => ∀ mm21 : Nat → px_MR, mm21 = va_up v16 a0x ((v16 a0x).1, (v16 a0x).2.1, (v16 a0x).2.2.1, va_up (v16 a0x).2.2.2.1 (20 + (Int32.toNatClampNeg x1)) v18, (v16 a0x).2.2.2.2) → ((v16 a0x).1 4 = (mm21 a0x).1 4 ∧ a0x < cm ∧ (vp_in x1 4 ∧ (∀ mm23 : Nat → px_MR, mm23 = va_up mm21 a0x (va_up (mm21 a0x).1 (20 + (Int32.toNatClampNeg x1)) nq68_19, (mm21 a0x).2.1, va_up (mm21 a0x).2.2.1 (20 + (Int32.toNatClampNeg x1)) nn68_19, va_up (mm21 a0x).2.2.2.1 (20 + (Int32.toNatClampNeg x1)) nf68_19, (mm21 a0x).2.2.2.2) → (w273_L72 (w273_L12 a0x cm np ns pa sa pp ss mc ms post k) a0x cm np ns pa sa pp ss mc ms post x1 x2 x3 x4 r28 v11 v12 v13 v14 v15 mm23 (kc + m68_20) (ks + s68_20)))))) (4 * x3) ((v16 a0x).2.2.2.1 (20 + (Int32.toNatClampNeg x1))))))))))))))) x1 r28 v5 v6 v7 v8 v9 mm)) ((mm a0x).2.1 13) x4 q_o l_o o_reached g_o g_t))))
def w273_wp (a0x : Nat) (cm : Nat) (np : Nat) (ns : Nat) (pa : Nat → Nat) (sa : Nat → Nat) (pp : Nat → px_PR) (ss : Nat → px_SR) (mc : Nat) (ms : Nat) (post : Nat → Nat → Int32 → (Nat → Int32) → (Nat → Int32) → (Nat → px_MR) → Prop) (a1x : Int32) (q_o : Nat) (l_o : Nat) (o_reached : Int32) (g_o : Nat → Int32) (g_t : Nat → Int32) (mm : Nat → px_MR) : Prop := a0x < cm ∧ (∀ z24 : Int32, z24 = (1 : Int32) <<< (((mm a0x).2.1 13) &&& 31) → ∃ j12, w273_L12 a0x cm np ns pa sa pp ss mc ms post j12 a1x z24 0 0 q_o l_o o_reached g_o g_t mm 0 0)
set_option maxHeartbeats 8000000 in
set_option maxRecDepth 100000 in
theorem w273_met (l : Launch) (dC : Nat → ClassId) (dI : Nat → Nat → Nat) (sz : Nat) (ho : Nat) (q_t : Nat) (a0x : Nat) (cc : px_CC) (cm : Nat) (np : Nat) (ns : Nat) (hm : Nat → Nat) (pa : Nat → Nat) (sa : Nat → Nat) (pp : Nat → px_PR) (ss : Nat → px_SR) (mc : Nat) (ms : Nat) (a1x : Int32) (q_o : Nat) (l_o : Nat) (o_reached : Int32) (g_o : Nat → Int32) (g_t : Nat → Int32) (mm : Nat → px_MR) (post : Nat → Nat → Int32 → (Nat → Int32) → (Nat → Int32) → (Nat → px_MR) → Prop) (hw : w273_wp a0x cm np ns pa sa pp ss mc ms post a1x q_o l_o o_reached g_o g_t mm) : Met l px_y273 px_s273 ({ frames := 3, cells := mc, slots := ms, locals := 67 }) (va_Pc [.ref (hm a0x), .int a1x] (fun U => U.heap.size = sz ∧ va_P (dC, dI) vwCl (([(ho, .inr (1, [.ref q_o, .ref q_t, .int o_reached])), (q_o, .inl (cc.2.1, l_o, .inl g_o)), (q_t, .inl (cc.2.1, 182, .inl g_t))] : va_W) ++ px_cp cc ho cm np ns hm pa sa mm pp ss) U.heap ∧ va_K (dC, dI) vwCl [(cc.2.1, .int), (cc.2.2.2.1, .byte), (cc.2.2.2.2, .long), (cc.1, .object "MatroidDesk$Part"), (cc.2.2.1, (.array .int))] U ∧ va_D (fun _ => True) (([(ho, .inr (1, [.ref q_o, .ref q_t, .int o_reached])), (q_o, .inl (cc.2.1, l_o, .inl g_o)), (q_t, .inl (cc.2.1, 182, .inl g_t))] : va_W) ++ px_cp cc ho cm np ns hm pa sa mm pp ss) ∧ px_N U ∧ px_AI U)) (va_Qv (fun (u : Nat × Nat × Int32 × (Nat → Int32) × (Nat → Int32) × (Nat → px_MR)) => post u.1 u.2.1 u.2.2.1 u.2.2.2.1 u.2.2.2.2.1 u.2.2.2.2.2) (fun (u : Nat × Nat × Int32 × (Nat → Int32) × (Nat → Int32) × (Nat → px_MR)) (t : State) => va_P (dC, dI) vwCl (([(ho, .inr (1, [.ref u.1, .ref q_t, .int u.2.2.1])), (u.1, .inl (cc.2.1, u.2.1, .inl u.2.2.2.1)), (q_t, .inl (cc.2.1, 182, .inl u.2.2.2.2.1))] : va_W) ++ px_cp cc ho cm np ns hm pa sa u.2.2.2.2.2 pp ss) t.heap ∧ va_K (dC, dI) vwCl [(cc.2.1, .int), (cc.2.2.2.1, .byte), (cc.2.2.2.2, .long), (cc.1, .object "MatroidDesk$Part"), (cc.2.2.1, (.array .int))] t ∧ va_D (va_A (([(ho, .inr (1, [.ref q_o, .ref q_t, .int o_reached])), (q_o, .inl (cc.2.1, l_o, .inl g_o)), (q_t, .inl (cc.2.1, 182, .inl g_t))] : va_W) ++ px_cp cc ho cm np ns hm pa sa mm pp ss) sz) (([(ho, .inr (1, [.ref u.1, .ref q_t, .int u.2.2.1])), (u.1, .inl (cc.2.1, u.2.1, .inl u.2.2.2.1)), (q_t, .inl (cc.2.1, 182, .inl u.2.2.2.2.1))] : va_W) ++ px_cp cc ho cm np ns hm pa sa u.2.2.2.2.2 pp ss)) (va_A (([(ho, .inr (1, [.ref q_o, .ref q_t, .int o_reached])), (q_o, .inl (cc.2.1, l_o, .inl g_o)), (q_t, .inl (cc.2.1, 182, .inl g_t))] : va_W) ++ px_cp cc ho cm np ns hm pa sa mm pp ss) sz)) mc ms (va_A (([(ho, .inr (1, [.ref q_o, .ref q_t, .int o_reached])), (q_o, .inl (cc.2.1, l_o, .inl g_o)), (q_t, .inl (cc.2.1, 182, .inl g_t))] : va_W) ++ px_cp cc ho cm np ns hm pa sa mm pp ss) sz) := by
  refine Met.ofW (cc := prog_3_method_25_code) (maxL := 6) (ret := none) (by decide) rfl ?_
  intro p e s m args below meth c s₁ B hml hv
  obtain ⟨rfl, hsz, hP, hK, hD0, hN, hE0⟩ := hv
  have hx := B.exec
  have hb := B.bytes
  have hr := B.returns
  have htw : ∀ w ∈ px_all, w.before _ s = true := fun w h => atoms_spec (ws := px_s273) B.pre w (List.mem_cons_of_mem _ h)
  have hown : s.vm.findClass "MatroidDesk$Matroid" = some m.cls := findClass_of_methodNamed B.named
  have hlocks := B.notSynchronized
  subst hsz
  have hD := hD0.self (sz := s.heap.size)
  generalize hAe : va_A (([(ho, .inr (1, [.ref q_o, .ref q_t, .int o_reached])), (q_o, .inl (cc.2.1, l_o, .inl g_o)), (q_t, .inl (cc.2.1, 182, .inl g_t))] : va_W) ++ px_cp cc ho cm np ns hm pa sa mm pp ss) s.heap.size = A at hD ⊢
  have hA : ∀ q : Nat, s.heap.size ≤ q → A q := fun q h => by rw [← hAe]; exact Or.inr h
  have hS : va_S A s.heap s.heap [] := va_S.rf
  have hP : va_P (dC, dI) vwCl (([(ho, .inr (1, [.ref q_o, .ref q_t, .int o_reached])), (q_o, .inl (cc.2.1, l_o, .inl g_o)), (q_t, .inl (cc.2.1, 182, .inl g_t))] : va_W) ++ px_cp cc ho cm np ns hm pa sa mm pp ss) s.heap := hP
  have hl := lv_entry ([.ref (hm a0x), .int a1x]) (n := 6) (Nat.le_of_ble_eq_true rfl)
  rw [lg_entry_eq]
  generalize (lg_sl ([.ref (hm a0x), .int a1x]) ++ List.replicate (6 - (lg_sl ([.ref (hm a0x), .int a1x])).length) Slot.unset).toArray = ls at hl ⊢
  have hl : lv_has ls 6 [(0, .ref (hm a0x)), (1, .int a1x)] := hl
  generalize hQ : MQ _ _ _ _ _ _ _ = Q
  have S12 : ∀ (k12 : Nat) (x1 : Int32) (x2 : Int32) (x3 : Int32) (x4 : Int32) (q_o : Nat) (l_o : Nat) (o_reached : Int32) (g_o : Nat → Int32) (g_t : Nat → Int32) (mm : Nat → px_MR) (kc : Nat) (ks : Nat) (H : Heap) (locs : List Loc) (ls : Array Slot), kc ≤ mc → ks ≤ ms → va_P (dC, dI) vwCl (([(ho, .inr (1, [.ref q_o, .ref q_t, .int o_reached])), (q_o, .inl (cc.2.1, l_o, .inl g_o)), (q_t, .inl (cc.2.1, 182, .inl g_t))] : va_W) ++ px_cp cc ho cm np ns hm pa sa mm pp ss) H → va_D A (([(ho, .inr (1, [.ref q_o, .ref q_t, .int o_reached])), (q_o, .inl (cc.2.1, l_o, .inl g_o)), (q_t, .inl (cc.2.1, 182, .inl g_t))] : va_W) ++ px_cp cc ho cm np ns hm pa sa mm pp ss) → va_S A s.heap H locs → lv_has ls 6 [(0, .ref (hm a0x)), (1, .int x1), (2, .int x2), (3, .int x3), (4, .int x4)] → w273_L12 a0x cm np ns pa sa pp ss mc ms post k12 x1 x2 x3 x4 q_o l_o o_reached g_o g_t mm kc ks → W p l e (headSpec px_s273 ({ frames := 3, cells := mc, slots := ms, locals := 67 })).room s m ([.ref (hm a0x), .int a1x]).toArray below meth c H locs kc ks Q (F0 m 12 ls []) := by
    intro k12
    induction k12 with
    | zero => intro x1 x2 x3 x4 q_o l_o o_reached g_o g_t mm kc ks H locs ls hkc hks hP hD hS hl hw; exact False.elim hw
    | succ k12 ih12 =>
      have S85 : ∀ (x1 : Int32) (x2 : Int32) (x3 : Int32) (x4 : Int32) (x5 : Int32) (q_o : Nat) (l_o : Nat) (o_reached : Int32) (g_o : Nat → Int32) (g_t : Nat → Int32) (mm : Nat → px_MR) (kc : Nat) (ks : Nat) (H : Heap) (locs : List Loc) (ls : Array Slot), kc ≤ mc → ks ≤ ms → va_P (dC, dI) vwCl (([(ho, .inr (1, [.ref q_o, .ref q_t, .int o_reached])), (q_o, .inl (cc.2.1, l_o, .inl g_o)), (q_t, .inl (cc.2.1, 182, .inl g_t))] : va_W) ++ px_cp cc ho cm np ns hm pa sa mm pp ss) H → va_D A (([(ho, .inr (1, [.ref q_o, .ref q_t, .int o_reached])), (q_o, .inl (cc.2.1, l_o, .inl g_o)), (q_t, .inl (cc.2.1, 182, .inl g_t))] : va_W) ++ px_cp cc ho cm np ns hm pa sa mm pp ss) → va_S A s.heap H locs → lv_has ls 6 [(0, .ref (hm a0x)), (1, .int x1), (2, .int x2), (3, .int x3), (4, .int x4), (5, .int x5)] → w273_L85 (w273_L12 a0x cm np ns pa sa pp ss mc ms post k12) a0x cm np ns pa sa pp ss mc ms post x1 x2 x3 x4 x5 q_o l_o o_reached g_o g_t mm kc ks → W p l e (headSpec px_s273 ({ frames := 3, cells := mc, slots := ms, locals := 67 })).room s m ([.ref (hm a0x), .int a1x]).toArray below meth c H locs kc ks Q (F0 m 85 ls []) := by
        intro x1 x2 x3 x4 x5 q_o l_o o_reached g_o g_t mm kc ks H locs ls hkc hks hP hD hS hl hw
        unfold w273_L85 at hw
        obtain ⟨z1, ez1⟩ : ∃ y : Int32, y = x4 + 1 := ⟨_, rfl⟩
        have hw := hw z1 ez1
        refine lv_iinc (v := z1) (lv' := [(4, .int z1), (0, .ref (hm a0x)), (1, .int x1), (2, .int x2), (3, .int x3), (5, .int x5)]) hx hb px_d273_85 hl (k := 4) rfl (by rw [ez1]; rfl) (by decide) rfl (fun ls hl => ?_)
        refine lv_goto (tgt := 12) hx hb px_d273_88 (by decide) ?_
        exact ih12 x1 x2 x3 z1 q_o l_o o_reached g_o g_t mm kc ks H locs ls hkc hks hP hD hS (lv_sub hl [1, 2, 3, 4, 0] rfl) hw
      have S72 : ∀ (x1 : Int32) (x2 : Int32) (x3 : Int32) (x4 : Int32) (x5 : Int32) (q_o : Nat) (l_o : Nat) (o_reached : Int32) (g_o : Nat → Int32) (g_t : Nat → Int32) (mm : Nat → px_MR) (kc : Nat) (ks : Nat) (H : Heap) (locs : List Loc) (ls : Array Slot), kc ≤ mc → ks ≤ ms → va_P (dC, dI) vwCl (([(ho, .inr (1, [.ref q_o, .ref q_t, .int o_reached])), (q_o, .inl (cc.2.1, l_o, .inl g_o)), (q_t, .inl (cc.2.1, 182, .inl g_t))] : va_W) ++ px_cp cc ho cm np ns hm pa sa mm pp ss) H → va_D A (([(ho, .inr (1, [.ref q_o, .ref q_t, .int o_reached])), (q_o, .inl (cc.2.1, l_o, .inl g_o)), (q_t, .inl (cc.2.1, 182, .inl g_t))] : va_W) ++ px_cp cc ho cm np ns hm pa sa mm pp ss) → va_S A s.heap H locs → lv_has ls 6 [(0, .ref (hm a0x)), (1, .int x1), (2, .int x2), (3, .int x3), (4, .int x4), (5, .int x5)] → w273_L72 (w273_L12 a0x cm np ns pa sa pp ss mc ms post k12) a0x cm np ns pa sa pp ss mc ms post x1 x2 x3 x4 x5 q_o l_o o_reached g_o g_t mm kc ks → W p l e (headSpec px_s273 ({ frames := 3, cells := mc, slots := ms, locals := 67 })).room s m ([.ref (hm a0x), .int a1x]).toArray below meth c H locs kc ks Q (F0 m 72 ls []) := by
        intro x1 x2 x3 x4 x5 q_o l_o o_reached g_o g_t mm kc ks H locs ls hkc hks hP hD hS hl hw
        unfold w273_L72 at hw
        refine lv_aload_n hx hb px_d273_72 rfl (lv_at hl 0 rfl) ?_
        obtain ⟨hp73, hw⟩ := hw
        refine va_get (D := (dC, dI)) (ci := 10) (v := .ref ((mm a0x).1 4)) (C := "MatroidDesk$Matroid") (T := px_T10) (N := 15) hx hb htw px_in10 hown hK hP (3 + (13 * a0x + 0)) (px_cg0 rfl hp73) rfl 4 (by decide) (htw _ px_w1003) (fun _ h9 => h9) rfl px_d273_73 ?_
        refine lv_iload_n hx hb px_d273_76 rfl (lv_at hl 1 rfl) ?_
        obtain ⟨hp77, hw⟩ := hw
        obtain ⟨hi77, hw⟩ := hw
        refine px_aldA hx hb hK hP (3 + (13 * a0x + 4)) 4 (px_cg4 rfl hp77) rfl rfl hi77 px_d273_77 ?_
        refine W.eq (g2 := F0 m 78 ls (.ref ((mm a0x).1 (20 + (Int32.toNatClampNeg x1))) :: [])) rfl ?_
        refine lv_iload_n hx hb px_d273_78 rfl (lv_at hl 3 rfl) ?_
        refine lv_iload hx hb px_d273_79 (lv_at hl 5 rfl) ?_
        obtain ⟨hp81, hw⟩ := hw
        obtain ⟨hi81, hw⟩ := hw
        obtain ⟨hj81, hw⟩ := hw
        obtain ⟨mm2, emm2⟩ : ∃ z : Nat → px_MR, z = va_up mm a0x ((mm a0x).1, (mm a0x).2.1, (mm a0x).2.2.1, va_up (mm a0x).2.2.2.1 (20 + (Int32.toNatClampNeg x1)) (upd ((mm a0x).2.2.2.1 (20 + (Int32.toNatClampNeg x1))) (Int32.toNatClampNeg x3) x5), (mm a0x).2.2.2.2) := ⟨_, rfl⟩
        refine va_iast hx hb hK hP hD hS (3 + (13 * a0x + (9 + (Int32.toNatClampNeg x1)))) 0 (px_cl rfl hp81 hj81) rfl hi81 px_d273_81 (fun H locs hP hD hS => ?_)
        have hP : va_P (dC, dI) vwCl (([(ho, .inr (1, [.ref q_o, .ref q_t, .int o_reached])), (q_o, .inl (cc.2.1, l_o, .inl g_o)), (q_t, .inl (cc.2.1, 182, .inl g_t))] : va_W) ++ px_cp cc ho cm np ns hm pa sa mm2 pp ss) H := px_csP rfl hp81 (show 9 + (Int32.toNatClampNeg x1) < 13 by omega) (px_hcL _ _ _ hj81) (px_hrL _ _ _ hj81) emm2 hP
        have hD : va_D A (([(ho, .inr (1, [.ref q_o, .ref q_t, .int o_reached])), (q_o, .inl (cc.2.1, l_o, .inl g_o)), (q_t, .inl (cc.2.1, 182, .inl g_t))] : va_W) ++ px_cp cc ho cm np ns hm pa sa mm2 pp ss) := px_csD rfl hp81 (show 9 + (Int32.toNatClampNeg x1) < 13 by omega) (px_hcL _ _ _ hj81) (px_hrL _ _ _ hj81) emm2 hD
        have hw := hw mm2 emm2
        obtain ⟨z3, ez3⟩ : ∃ y : Int32, y = x3 + 1 := ⟨_, rfl⟩
        have hw := hw z3 ez3
        refine lv_iinc (v := z3) (lv' := [(3, .int z3), (0, .ref (hm a0x)), (1, .int x1), (2, .int x2), (4, .int x4), (5, .int x5)]) hx hb px_d273_82 hl (k := 3) rfl (by rw [ez3]; rfl) (by decide) rfl (fun ls hl => ?_)
        exact S85 x1 x2 z3 x4 x5 q_o l_o o_reached g_o g_t mm2 kc ks H locs ls hkc hks hP hD hS (lv_sub hl [1, 2, 3, 0, 4, 5] rfl) hw
      intro x1 x2 x3 x4 q_o l_o o_reached g_o g_t mm kc ks H locs ls hkc hks hP hD hS hl hw
      unfold w273_L12 at hw
      refine lv_iload hx hb px_d273_12 (lv_at hl 4 rfl) ?_
      refine lv_iload_n hx hb px_d273_14 rfl (lv_at hl 2 rfl) ?_
      refine lv_icmp_ge (tgt := 91) hx hb px_d273_15 (by decide) (fun c15 => ?_) (fun c15 => ?_)
      · have hw := hw.1 c15
        refine lv_aload_n hx hb px_d273_91 rfl (lv_at hl 0 rfl) ?_
        obtain ⟨hp92, hw⟩ := hw
        refine va_get (D := (dC, dI)) (ci := 10) (v := .ref ((mm a0x).1 5)) (C := "MatroidDesk$Matroid") (T := px_T10) (N := 15) hx hb htw px_in10 hown hK hP (3 + (13 * a0x + 0)) (px_cg0 rfl hp92) rfl 5 (by decide) (htw _ px_w1004) (fun _ h9 => h9) rfl px_d273_92 ?_
        refine lv_iload_n hx hb px_d273_95 rfl (lv_at hl 1 rfl) ?_
        refine lv_iload_n hx hb px_d273_96 rfl (lv_at hl 3 rfl) ?_
        obtain ⟨hp97, hw⟩ := hw
        obtain ⟨hi97, hw⟩ := hw
        obtain ⟨mm4, emm4⟩ : ∃ z : Nat → px_MR, z = va_up mm a0x ((mm a0x).1, (mm a0x).2.1, (mm a0x).2.2.1, va_up (mm a0x).2.2.2.1 5 (upd ((mm a0x).2.2.2.1 5) (Int32.toNatClampNeg x1) x3), (mm a0x).2.2.2.2) := ⟨_, rfl⟩
        refine va_iast hx hb hK hP hD hS (3 + (13 * a0x + 5)) 0 (px_cg5 rfl hp97) rfl hi97 px_d273_97 (fun H locs hP hD hS => ?_)
        have hP : va_P (dC, dI) vwCl (([(ho, .inr (1, [.ref q_o, .ref q_t, .int o_reached])), (q_o, .inl (cc.2.1, l_o, .inl g_o)), (q_t, .inl (cc.2.1, 182, .inl g_t))] : va_W) ++ px_cp cc ho cm np ns hm pa sa mm4 pp ss) H := px_csP rfl hp97 (by decide) rfl (px_hr5 _ _ _) emm4 hP
        have hD : va_D A (([(ho, .inr (1, [.ref q_o, .ref q_t, .int o_reached])), (q_o, .inl (cc.2.1, l_o, .inl g_o)), (q_t, .inl (cc.2.1, 182, .inl g_t))] : va_W) ++ px_cp cc ho cm np ns hm pa sa mm4 pp ss) := px_csD rfl hp97 (by decide) rfl (px_hr5 _ _ _) emm4 hD
        have hw := hw mm4 emm4
        refine W.widen (k := mc) (n := ms) hkc hks ?_
        rw [← hQ]
        exact W.vret hx hb hr (fun t ht hW => ⟨⟨(q_o, l_o, o_reached, g_o, g_t, mm4), rfl, hw, by rw [ht]; exact hP, va_K.moved hW.alike hK, hD⟩, hS.F ht⟩) hS.2.2 px_d273_98
      · have hw := hw.2 c15
        refine lv_aload_n hx hb px_d273_18 rfl (lv_at hl 0 rfl) ?_
        obtain ⟨hp19, hw⟩ := hw
        refine va_get (D := (dC, dI)) (ci := 10) (v := .ref ho) (C := "MatroidDesk$Matroid") (T := px_T10) (N := 15) hx hb htw px_in10 hown hK hP (3 + (13 * a0x + 0)) (px_cg0 rfl hp19) rfl 0 (by decide) (htw _ px_w998) (fun _ h9 => h9) rfl px_d273_19 ?_
        refine lv_aload_n hx hb px_d273_22 rfl (lv_at hl 0 rfl) ?_
        obtain ⟨hp23, hw⟩ := hw
        refine va_get (D := (dC, dI)) (ci := 10) (v := .int ((mm a0x).2.1 13)) (C := "MatroidDesk$Matroid") (T := px_T10) (N := 15) hx hb htw px_in10 hown hK hP (3 + (13 * a0x + 0)) (px_cg0 rfl hp23) rfl 13 (by decide) (htw _ px_w1264) (fun _ h9 => h9) rfl px_d273_23 ?_
        refine lv_iload hx hb px_d273_26 (lv_at hl 4 rfl) ?_
        have hPc := hP.sub (ws' := [(ho, .inr (1, [.ref q_o, .ref q_t, .int o_reached])), (q_o, .inl (cc.2.1, l_o, .inl g_o)), (q_t, .inl (cc.2.1, 182, .inl g_t))]) [0, 1, 2] rfl
        have hDc := hD.sub (ws' := [(ho, .inr (1, [.ref q_o, .ref q_t, .int o_reached])), (q_o, .inl (cc.2.1, l_o, .inl g_o)), (q_t, .inl (cc.2.1, 182, .inl g_t))]) [0, 1, 2] (by decide) rfl
        have hFc := va_free (wc := [(ho, .inr (1, [.ref q_o, .ref q_t, .int o_reached])), (q_o, .inl (cc.2.1, l_o, .inl g_o)), (q_t, .inl (cc.2.1, 182, .inl g_t))]) hD hS hA [0, 1, 2] rfl
        have hKc := hK.sub (tys' := [(cc.2.1, .int)]) [0] rfl
        refine va_calli (va_runV (As := [.int ((mm a0x).2.1 13), .int x4]) (rest := []) ⟨hx, hb, hml, hown, htw⟩ (w240_met l dC dI H.size ho q_t cc.2.1 ((mm a0x).2.1 13) x4 q_o l_o o_reached g_o g_t _ hw) (cwV 2 htw (px_gv px_w1295 px_w1240 px_w1241 px_w22 px_g240) rfl rfl rfl (by decide +kernel) ⟨Nat.le_of_ble_eq_true rfl, Nat.le_of_ble_eq_true rfl⟩) ⟨fun a U g mk q => by obtain ⟨q0, q1, qP, qK, qD, qN⟩ := q; exact ⟨q0, q1, qP, va_K.moved (u := U) (U := U.calling g mk a) (Vm.Alike.refl U.vm) qK, qD, qN.same rfl⟩, va_recv hK hP (ci := 1) (q0 := 0) rfl rfl, fun U hU hW => ⟨rfl, by rw [hU], by rw [hU]; exact hPc, va_K.moved hW.alike hKc, hDc.weaken (fun _ _ _ _ => trivial), hN.warm hW⟩⟩ rfl rfl hl.1 rfl (lv_room (Nat.le_of_ble_eq_true rfl)) px_d273_28 ⟨hkc, hks⟩) hS (fun q _ h => hFc q h) hFc (fun r28 u t H1 locs ht hvm hw hB hz1 hk1 hS => ?_)
        obtain ⟨v5, v6, v7, v8, v9⟩ := u
        obtain ⟨hP1, hK1, hD1⟩ := hB
        rw [ht] at hP1
        obtain ⟨hP, hD⟩ := va_joinQ (wr := []) (w1 := [(ho, .inr (1, [.ref v5, .ref q_t, .int v7])), (v5, .inl (cc.2.1, v6, .inl v8)), (q_t, .inl (cc.2.1, 182, .inl v9))]) hP hD [0, 1, 2] [] rfl rfl (by decide) (by decide) hk1 hFc hP1 hD1
        generalize H1 = H at hP hS ⊢
        have hP : va_P (dC, dI) vwCl (([(ho, .inr (1, [.ref v5, .ref q_t, .int v7])), (v5, .inl (cc.2.1, v6, .inl v8)), (q_t, .inl (cc.2.1, 182, .inl v9))] : va_W) ++ px_cp cc ho cm np ns hm pa sa mm pp ss) H := hP
        have hD : va_D A (([(ho, .inr (1, [.ref v5, .ref q_t, .int v7])), (v5, .inl (cc.2.1, v6, .inl v8)), (q_t, .inl (cc.2.1, 182, .inl v9))] : va_W) ++ px_cp cc ho cm np ns hm pa sa mm pp ss) := hD
        refine lv_istore (lv' := [(5, .int r28), (0, .ref (hm a0x)), (1, .int x1), (2, .int x2), (3, .int x3), (4, .int x4)]) hx hb px_d273_31 hl (by decide) rfl (fun ls hl => ?_)
        refine lv_aload_n hx hb px_d273_33 rfl (lv_at hl 1 rfl) ?_
        refine lv_iload_n hx hb px_d273_34 rfl (lv_at hl 2 rfl) ?_
        refine lv_iload hx hb px_d273_35 (lv_at hl 0 rfl) ?_
        obtain ⟨hp37, hw⟩ := hw
        have hPc := hP.part (cx := [(ho, .inr (1, [.ref v5, .ref q_t, .int v7])), (v5, .inl (cc.2.1, v6, .inl v8)), (q_t, .inl (cc.2.1, 182, .inl v9))]) [0, 1, 2] rfl
        have hDc := hD.part (cx := [(ho, .inr (1, [.ref v5, .ref q_t, .int v7])), (v5, .inl (cc.2.1, v6, .inl v8)), (q_t, .inl (cc.2.1, 182, .inl v9))]) [0, 1, 2] (by decide) rfl
        have hFc := va_freeP (cx := [(ho, .inr (1, [.ref v5, .ref q_t, .int v7])), (v5, .inl (cc.2.1, v6, .inl v8)), (q_t, .inl (cc.2.1, 182, .inl v9))]) hD hS hA [0, 1, 2] rfl
        have hKc := hK.sub (tys' := [(cc.2.1, .int), (cc.2.2.2.1, .byte), (cc.2.2.2.2, .long), (cc.1, .object "MatroidDesk$Part"), (cc.2.2.1, (.array .int))]) [0, 1, 2, 3, 4] rfl
        refine va_calli (va_runV (As := [.int x1, .int r28]) (rest := []) ⟨hx, hb, hml, hown, htw⟩ (w274_met l dC dI H.size ho q_t a0x cc cm np ns hm pa sa pp ss x1 r28 v5 v6 v7 v8 v9 mm _ hw) (cwV 2 htw (px_gv px_w1393 px_w1396 px_w1397 px_w154 px_g274) rfl rfl rfl (by decide +kernel) ⟨Nat.le_of_ble_eq_true rfl, Nat.le_of_ble_eq_true rfl⟩) ⟨fun a U g mk q => by obtain ⟨q0, q1, qP, qK, qD, qN⟩ := q; exact ⟨q0, q1, qP, va_K.moved (u := U) (U := U.calling g mk a) (Vm.Alike.refl U.vm) qK, qD, qN.same rfl⟩, va_recv hK hP (ci := 10) (q0 := (3 + (13 * a0x + 0))) rfl (px_cg0 rfl hp37), fun U hU hW => ⟨rfl, by rw [hU], by rw [hU]; exact hPc, va_K.moved hW.alike hKc, hDc.weaken (fun _ _ _ _ => trivial), hN.warm hW⟩⟩ rfl rfl hl.1 rfl (lv_room (Nat.le_of_ble_eq_true rfl)) px_d273_37 ⟨hkc, hks⟩) hS (fun q _ h => hFc q h) hFc (fun r37 u t H1 locs ht hvm hw hB hz1 hk1 hS => ?_)
        obtain ⟨v11, v12, v13, v14, v15, v16⟩ := u
        obtain ⟨hP1, hK1, hD1⟩ := hB
        rw [ht] at hP1
        obtain ⟨hP, hD⟩ := va_joinP (wr := []) (rx := [(ho, .inr (1, [.ref v11, .ref q_t, .int v13])), (v11, .inl (cc.2.1, v12, .inl v14)), (q_t, .inl (cc.2.1, 182, .inl v15))]) hP hD [0, 1, 2] [] rfl rfl (by decide) (by decide) hk1 hFc hP1 hD1
        generalize H1 = H at hP hS ⊢
        have hP : va_P (dC, dI) vwCl (([(ho, .inr (1, [.ref v11, .ref q_t, .int v13])), (v11, .inl (cc.2.1, v12, .inl v14)), (q_t, .inl (cc.2.1, 182, .inl v15))] : va_W) ++ px_cp cc ho cm np ns hm pa sa v16 pp ss) H := hP
        have hD : va_D A (([(ho, .inr (1, [.ref v11, .ref q_t, .int v13])), (v11, .inl (cc.2.1, v12, .inl v14)), (q_t, .inl (cc.2.1, 182, .inl v15))] : va_W) ++ px_cp cc ho cm np ns hm pa sa v16 pp ss) := hD
        refine lv_if_eq (tgt := 85) hx hb px_d273_40 (by decide) (fun c40 => ?_) (fun c40 => ?_)
        · have hw := hw.1 c40
          exact S85 x1 x2 x3 x4 r28 v11 v12 v13 v14 v15 v16 kc ks H locs ls hkc hks hP hD hS (lv_sub hl [1, 2, 3, 4, 5, 0] rfl) hw
        · have hw := hw.2 c40
          refine lv_iload_n hx hb px_d273_43 rfl (lv_at hl 4 rfl) ?_
          refine lv_aload_n hx hb px_d273_44 rfl (lv_at hl 1 rfl) ?_
          obtain ⟨hp45, hw⟩ := hw
          refine va_get (D := (dC, dI)) (ci := 10) (v := .ref ((v16 a0x).1 4)) (C := "MatroidDesk$Matroid") (T := px_T10) (N := 15) hx hb htw px_in10 hown hK hP (3 + (13 * a0x + 0)) (px_cg0 rfl hp45) rfl 4 (by decide) (htw _ px_w1003) (fun _ h9 => h9) rfl px_d273_45 ?_
          refine lv_iload_n hx hb px_d273_48 rfl (lv_at hl 2 rfl) ?_
          obtain ⟨hp49, hw⟩ := hw
          obtain ⟨hi49, hw⟩ := hw
          refine px_aldA hx hb hK hP (3 + (13 * a0x + 4)) 4 (px_cg4 rfl hp49) rfl rfl hi49 px_d273_49 ?_
          refine W.eq (g2 := F0 m 50 ls (.ref ((v16 a0x).1 (20 + (Int32.toNatClampNeg x1))) :: [.int x3])) rfl ?_
          obtain ⟨hp50, hw⟩ := hw
          obtain ⟨hj50, hw⟩ := hw
          refine va_alen (v := nI ((v16 a0x).2.2.1 (20 + (Int32.toNatClampNeg x1)))) hx hb hK hP (3 + (13 * a0x + (9 + (Int32.toNatClampNeg x1)))) 0 (px_cl rfl hp50 hj50) rfl rfl px_d273_50 ?_
          refine lv_icmp_ne (tgt := 72) hx hb px_d273_51 (by decide) (fun c51 => ?_) (fun c51 => ?_)
          · have hw := hw.1 c51
            exact S72 x1 x2 x3 x4 r28 v11 v12 v13 v14 v15 v16 kc ks H locs ls hkc hks hP hD hS (lv_sub hl [1, 2, 3, 4, 5, 0] rfl) hw
          · have hw := hw.2 c51
            refine lv_aload_n hx hb px_d273_54 rfl (lv_at hl 1 rfl) ?_
            obtain ⟨hp55, hw⟩ := hw
            refine va_get (D := (dC, dI)) (ci := 10) (v := .ref ((v16 a0x).1 4)) (C := "MatroidDesk$Matroid") (T := px_T10) (N := 15) hx hb htw px_in10 hown hK hP (3 + (13 * a0x + 0)) (px_cg0 rfl hp55) rfl 4 (by decide) (htw _ px_w1003) (fun _ h9 => h9) rfl px_d273_55 ?_
            refine lv_iload_n hx hb px_d273_58 rfl (lv_at hl 2 rfl) ?_
            refine lv_aload_n hx hb px_d273_59 rfl (lv_at hl 1 rfl) ?_
            obtain ⟨hp60, hw⟩ := hw
            refine va_get (D := (dC, dI)) (ci := 10) (v := .ref ((v16 a0x).1 4)) (C := "MatroidDesk$Matroid") (T := px_T10) (N := 15) hx hb htw px_in10 hown hK hP (3 + (13 * a0x + 0)) (px_cg0 rfl hp60) rfl 4 (by decide) (htw _ px_w1003) (fun _ h9 => h9) rfl px_d273_60 ?_
            refine lv_iload_n hx hb px_d273_63 rfl (lv_at hl 2 rfl) ?_
            obtain ⟨hp64, hw⟩ := hw
            obtain ⟨hi64, hw⟩ := hw
            refine px_aldA hx hb hK hP (3 + (13 * a0x + 4)) 4 (px_cg4 rfl hp64) rfl rfl hi64 px_d273_64 ?_
            refine W.eq (g2 := F0 m 65 ls (.ref ((v16 a0x).1 (20 + (Int32.toNatClampNeg x1))) :: [.int x1, .ref ((v16 a0x).1 4)])) rfl ?_
            refine lv_iconst (v := 4) hx hb px_d273_65 (by decide) ?_
            refine lv_iload_n hx hb px_d273_66 rfl (lv_at hl 4 rfl) ?_
            refine lv_imul hx hb px_d273_67 ?_
            obtain ⟨hp68, hw⟩ := hw
            obtain ⟨hj68, hw⟩ := hw
            obtain ⟨m68_20, s68_20, hm68_20, hs68_20, hw⟩ := hw
            have hPc : va_P (dC, dI) vwCl [((v16 a0x).1 (20 + (Int32.toNatClampNeg x1)), .inl (cc.2.1, ((v16 a0x).2.2.1 (20 + (Int32.toNatClampNeg x1))), .inl ((v16 a0x).2.2.2.1 (20 + (Int32.toNatClampNeg x1)))))] H := px_cutP hP (k := 3 + (13 * a0x + (9 + (Int32.toNatClampNeg x1)))) (px_cl rfl hp68 hj68)
            have hDc : va_D A [((v16 a0x).1 (20 + (Int32.toNatClampNeg x1)), .inl (cc.2.1, ((v16 a0x).2.2.1 (20 + (Int32.toNatClampNeg x1))), .inl ((v16 a0x).2.2.2.1 (20 + (Int32.toNatClampNeg x1)))))] := px_cutD hD (k := 3 + (13 * a0x + (9 + (Int32.toNatClampNeg x1)))) (px_cl rfl hp68 hj68)
            have hFc : ∀ q, va_A [((v16 a0x).1 (20 + (Int32.toNatClampNeg x1)), .inl (cc.2.1, ((v16 a0x).2.2.1 (20 + (Int32.toNatClampNeg x1))), .inl ((v16 a0x).2.2.2.1 (20 + (Int32.toNatClampNeg x1)))))] H.size q → A q := px_cutF hD hS hA (k := 3 + (13 * a0x + (9 + (Int32.toNatClampNeg x1)))) (px_cl rfl hp68 hj68)
            have hKc := hK.sub (tys' := [(cc.2.1, .int)]) [0] rfl
            refine va_callq (va_runS (As := [.ref ((v16 a0x).1 (20 + (Int32.toNatClampNeg x1))), .int (4 * x3)]) (rest := [.int x1, .ref ((v16 a0x).1 4)]) ⟨hx, hb, hml, hown, htw⟩ (w182_met l dC dI H.size ((v16 a0x).1 (20 + (Int32.toNatClampNeg x1))) ((v16 a0x).2.2.1 (20 + (Int32.toNatClampNeg x1))) cc.2.1 m68_20 s68_20 (4 * x3) ((v16 a0x).2.2.2.1 (20 + (Int32.toNatClampNeg x1))) _ hw) (va_cwS 2 htw (px_gs2 px_w1394 px_w1039 px_w1752 px_g182) rfl rfl rfl (by decide +kernel) ⟨Nat.le_of_ble_eq_true rfl, Nat.le_of_ble_eq_true rfl⟩) ⟨fun a U g mk q => by obtain ⟨q0, q1, qP, qK, qD, qN⟩ := q; exact ⟨q0, q1, qP, va_K.moved (u := U) (U := U.calling g mk a) (Vm.Alike.refl U.vm) qK, qD, qN.same rfl⟩, fun U hU hW => ⟨rfl, by rw [hU], by rw [hU]; exact hPc, va_K.moved hW.alike hKc, hDc.weaken (fun _ _ _ _ => trivial), hN.warm hW⟩⟩ rfl rfl hl.1 rfl (lv_room (Nat.le_of_ble_eq_true rfl)) px_d273_68 ⟨hm68_20, hs68_20⟩) hS (fun q _ h => hFc q h) hFc (fun r9 u t H1 locs ht hvm hw hB hz1 hk1 hS => ?_)
            obtain ⟨nq68_19, nn68_19, nf68_19, v18⟩ := u
            obtain ⟨hr9, hw⟩ := hw
            subst hr9
            obtain ⟨hP1, hK1, hD1⟩ := hB
            rw [ht] at hP1
            obtain ⟨hP, hD⟩ := px_cutJ2 hP hD (k := 3 + (13 * a0x + (9 + (Int32.toNatClampNeg x1)))) (px_cl rfl hp68 hj68) hk1 hFc hP1 hD1 rfl
            obtain ⟨mm21, emm21⟩ : ∃ z : Nat → px_MR, z = va_up v16 a0x ((v16 a0x).1, (v16 a0x).2.1, (v16 a0x).2.2.1, va_up (v16 a0x).2.2.2.1 (20 + (Int32.toNatClampNeg x1)) v18, (v16 a0x).2.2.2.2) := ⟨_, rfl⟩
            have hP : va_P (dC, dI) vwCl ((([(ho, .inr (1, [.ref v11, .ref q_t, .int v13])), (v11, .inl (cc.2.1, v12, .inl v14)), (q_t, .inl (cc.2.1, 182, .inl v15))] : va_W) ++ px_cp cc ho cm np ns hm pa sa mm21 pp ss) ++ [(nq68_19, .inl (cc.2.1, nn68_19, .inl nf68_19))]) H1 := by rw [emm21, ← px_cs (n := 3) rfl hp68 (show 9 + (Int32.toNatClampNeg x1) < 13 by omega) (px_hcL _ _ _ hj68) (px_hrL _ _ _ hj68)]; exact hP
            have hD : va_D A ((([(ho, .inr (1, [.ref v11, .ref q_t, .int v13])), (v11, .inl (cc.2.1, v12, .inl v14)), (q_t, .inl (cc.2.1, 182, .inl v15))] : va_W) ++ px_cp cc ho cm np ns hm pa sa mm21 pp ss) ++ [(nq68_19, .inl (cc.2.1, nn68_19, .inl nf68_19))]) := by rw [emm21, ← px_cs (n := 3) rfl hp68 (show 9 + (Int32.toNatClampNeg x1) < 13 by omega) (px_hcL _ _ _ hj68) (px_hrL _ _ _ hj68)]; exact hD
            have hP := hP.swap
            have hD := hD.swap
            have hP : va_P (dC, dI) vwCl (([(ho, .inr (1, [.ref v11, .ref q_t, .int v13])), (v11, .inl (cc.2.1, v12, .inl v14)), (q_t, .inl (cc.2.1, 182, .inl v15)), (nq68_19, .inl (cc.2.1, nn68_19, .inl nf68_19))] : va_W) ++ px_cp cc ho cm np ns hm pa sa mm21 pp ss) H1 := hP
            have hD : va_D A (([(ho, .inr (1, [.ref v11, .ref q_t, .int v13])), (v11, .inl (cc.2.1, v12, .inl v14)), (q_t, .inl (cc.2.1, 182, .inl v15)), (nq68_19, .inl (cc.2.1, nn68_19, .inl nf68_19))] : va_W) ++ px_cp cc ho cm np ns hm pa sa mm21 pp ss) := hD
            have hw := hw mm21 emm21
            generalize H1 = H at hP hS ⊢
            have hP : va_P (dC, dI) vwCl (([(ho, .inr (1, [.ref v11, .ref q_t, .int v13])), (v11, .inl (cc.2.1, v12, .inl v14)), (q_t, .inl (cc.2.1, 182, .inl v15)), (nq68_19, .inl (cc.2.1, nn68_19, .inl nf68_19))] : va_W) ++ px_cp cc ho cm np ns hm pa sa mm21 pp ss) H := hP
            have hD : va_D A (([(ho, .inr (1, [.ref v11, .ref q_t, .int v13])), (v11, .inl (cc.2.1, v12, .inl v14)), (q_t, .inl (cc.2.1, 182, .inl v15)), (nq68_19, .inl (cc.2.1, nn68_19, .inl nf68_19))] : va_W) ++ px_cp cc ho cm np ns hm pa sa mm21 pp ss) := hD
            refine W.eq (g2 := F0 m 71 ls (.ref nq68_19 :: [.int x1, .ref ((v16 a0x).1 4)])) rfl ?_
            obtain ⟨hf71, hw⟩ := hw
            rw [hf71]
            obtain ⟨hp71, hw⟩ := hw
            obtain ⟨hi71, hw⟩ := hw
            have hj71 : (Int32.toNatClampNeg x1) < 4 := Nat.not_le.mp (fun z => hi71 (Or.inr z))
            obtain ⟨mm23, emm23⟩ : ∃ z : Nat → px_MR, z = va_up mm21 a0x (va_up (mm21 a0x).1 (20 + (Int32.toNatClampNeg x1)) nq68_19, (mm21 a0x).2.1, va_up (mm21 a0x).2.2.1 (20 + (Int32.toNatClampNeg x1)) nn68_19, va_up (mm21 a0x).2.2.2.1 (20 + (Int32.toNatClampNeg x1)) nf68_19, (mm21 a0x).2.2.2.2) := ⟨_, rfl⟩
            refine px_astA hx hb hE0 hK hP hD hS (4 + (13 * a0x + 4)) 4 3 0 (px_cg4 rfl hp71) rfl rfl rfl hi71 px_d273_71 (fun H locs hP hD hS => ?_)
            have hP : va_P (dC, dI) vwCl (([(ho, .inr (1, [.ref v11, .ref q_t, .int v13])), (v11, .inl (cc.2.1, v12, .inl v14)), (q_t, .inl (cc.2.1, 182, .inl v15))] : va_W) ++ px_cp cc ho cm np ns hm pa sa mm23 pp ss) H := px_mswP (X := [(ho, .inr (1, [.ref v11, .ref q_t, .int v13])), (v11, .inl (cc.2.1, v12, .inl v14)), (q_t, .inl (cc.2.1, 182, .inl v15))]) (j0 := 4) (j1 := 9 + (Int32.toNatClampNeg x1)) rfl hp71 (by decide) (by omega) (by omega) (px_hcL4 _ _ _ _ _ _ hj71) (px_hcL9 _ _ _ _ _ _ hj71) (px_hsL _ _ _ _ _ _ hj71) emm23 hP
            have hD : va_D A (([(ho, .inr (1, [.ref v11, .ref q_t, .int v13])), (v11, .inl (cc.2.1, v12, .inl v14)), (q_t, .inl (cc.2.1, 182, .inl v15))] : va_W) ++ px_cp cc ho cm np ns hm pa sa mm23 pp ss) := px_mswD (X := [(ho, .inr (1, [.ref v11, .ref q_t, .int v13])), (v11, .inl (cc.2.1, v12, .inl v14)), (q_t, .inl (cc.2.1, 182, .inl v15))]) (j0 := 4) (j1 := 9 + (Int32.toNatClampNeg x1)) rfl hp71 (by decide) (by omega) (by omega) (px_hcL4 _ _ _ _ _ _ hj71) (px_hcL9 _ _ _ _ _ _ hj71) (px_hsL _ _ _ _ _ _ hj71) emm23 hD
            have hw := hw mm23 emm23
            exact S72 x1 x2 x3 x4 r28 v11 v12 v13 v14 v15 mm23 (kc + m68_20) (ks + s68_20) H locs ls hm68_20 hs68_20 hP hD hS (lv_sub hl [1, 2, 3, 4, 5, 0] rfl) hw
  unfold w273_wp at hw
  have hS0 := hS
  obtain ⟨H, hH9⟩ : ∃ z, z = s.heap := ⟨_, rfl⟩
  have hP : va_P (dC, dI) vwCl (([(ho, .inr (1, [.ref q_o, .ref q_t, .int o_reached])), (q_o, .inl (cc.2.1, l_o, .inl g_o)), (q_t, .inl (cc.2.1, 182, .inl g_t))] : va_W) ++ px_cp cc ho cm np ns hm pa sa mm pp ss) H := by rw [hH9]; exact hP
  obtain ⟨locs, hlo9⟩ : ∃ z : List Loc, z = [] := ⟨_, rfl⟩
  have hS : va_S A s.heap H locs := by rw [hH9, hlo9]; exact hS
  suffices hG : W p l e (headSpec px_s273 ({ frames := 3, cells := mc, slots := ms, locals := 67 })).room s m ([.ref (hm a0x), .int a1x]).toArray below meth c H locs 0 0 Q (F0 m 0 ls []) by rw [hH9, hlo9] at hG; exact hG
  refine lv_iconst (v := 1) hx hb px_d273_0 (by decide) ?_
  refine lv_aload_n hx hb px_d273_1 rfl (lv_at hl 0 rfl) ?_
  obtain ⟨hp2, hw⟩ := hw
  refine va_get (D := (dC, dI)) (ci := 10) (v := .int ((mm a0x).2.1 13)) (C := "MatroidDesk$Matroid") (T := px_T10) (N := 15) hx hb htw px_in10 hown hK hP (3 + (13 * a0x + 0)) (px_cg0 rfl hp2) rfl 13 (by decide) (htw _ px_w1264) (fun _ h9 => h9) rfl px_d273_2 ?_
  refine lv_ishl hx hb px_d273_5 ?_
  refine lv_topi (fun z24 ez24 => ?_)
  have hw := hw z24 ez24
  refine lv_istore_n (lv' := [(2, .int z24), (0, .ref (hm a0x)), (1, .int a1x)]) hx hb px_d273_6 rfl hl (by decide) rfl (fun ls hl => ?_)
  refine lv_iconst (v := 0) hx hb px_d273_7 (by decide) ?_
  refine lv_istore_n (lv' := [(3, .int 0), (2, .int z24), (0, .ref (hm a0x)), (1, .int a1x)]) hx hb px_d273_8 rfl hl (by decide) rfl (fun ls hl => ?_)
  refine lv_iconst (v := 0) hx hb px_d273_9 (by decide) ?_
  refine lv_istore (lv' := [(4, .int 0), (3, .int 0), (2, .int z24), (0, .ref (hm a0x)), (1, .int a1x)]) hx hb px_d273_10 hl (by decide) rfl (fun ls hl => ?_)
  obtain ⟨k9, hw⟩ := hw
  exact S12 k9 a1x z24 0 0 q_o l_o o_reached g_o g_t mm 0 0 H locs ls (Nat.zero_le mc) (Nat.zero_le ms) hP hD hS (lv_sub hl [3, 4, 2, 1, 0] rfl) hw

/-! MatroidDesk$Matroid.howMany(I)I -/
def w272_L21 (a0x : Nat) (cm : Nat) (np : Nat) (ns : Nat) (pa : Nat → Nat) (sa : Nat → Nat) (pp : Nat → px_PR) (ss : Nat → px_SR) (mc : Nat) (ms : Nat) (post : Int32 → Nat → Nat → Int32 → (Nat → Int32) → (Nat → Int32) → (Nat → px_MR) → Prop) (x1 : Int32) (q_o : Nat) (l_o : Nat) (o_reached : Int32) (g_o : Nat → Int32) (g_t : Nat → Int32) (mm : Nat → px_MR) (kc : Nat) (ks : Nat) : Prop := a0x < cm ∧ (a0x < cm ∧ (vp_in x1 (4) ∧ (post (((mm a0x).2.2.2.1 5) (Int32.toNatClampNeg x1)) q_o l_o o_reached g_o g_t mm)))
def w272_wp (a0x : Nat) (cm : Nat) (np : Nat) (ns : Nat) (pa : Nat → Nat) (sa : Nat → Nat) (pp : Nat → px_PR) (ss : Nat → px_SR) (mc : Nat) (ms : Nat) (post : Int32 → Nat → Nat → Int32 → (Nat → Int32) → (Nat → Int32) → (Nat → px_MR) → Prop) (a1x : Int32) (q_o : Nat) (l_o : Nat) (o_reached : Int32) (g_o : Nat → Int32) (g_t : Nat → Int32) (mm : Nat → px_MR) : Prop := a0x < cm ∧ (a0x < cm ∧ (vp_in a1x (4) ∧ ((¬ (((mm a0x).2.2.2.1 5) (Int32.toNatClampNeg a1x)) = (-1) → w272_L21 a0x cm np ns pa sa pp ss mc ms post a1x q_o l_o o_reached g_o g_t mm 0 0) ∧ ((((mm a0x).2.2.2.1 5) (Int32.toNatClampNeg a1x)) = (-1) → ∃ m12_7 s12_7 : Nat, 0 + m12_7 ≤ mc ∧ 0 + s12_7 ≤ ms ∧ a0x < cm ∧ (w262_wp a0x cm np ns pa sa pp ss m12_7 s12_7 (fun r12 v1 v2 v3 v4 v5 v6 => ∃ m18_15 s18_15 : Nat, 0 + m12_7 + m18_15 ≤ mc ∧ 0 + s12_7 + s18_15 ≤ ms ∧ a0x < cm ∧ (w273_wp a0x cm np ns pa sa pp ss m18_15 s18_15 (fun v9 v10 v11 v12 v13 v14 => w272_L21 a0x cm np ns pa sa pp ss mc ms post a1x v9 v10 v11 v12 v13 v14 (0 + m12_7 + m18_15) (0 + s12_7 + s18_15)) a1x v1 v2 v3 v4 v5 v6)) 0 q_o l_o o_reached g_o g_t mm)))))
set_option maxHeartbeats 8000000 in
set_option maxRecDepth 100000 in
theorem w272_met (l : Launch) (dC : Nat → ClassId) (dI : Nat → Nat → Nat) (sz : Nat) (ho : Nat) (q_t : Nat) (a0x : Nat) (cc : px_CC) (cm : Nat) (np : Nat) (ns : Nat) (hm : Nat → Nat) (pa : Nat → Nat) (sa : Nat → Nat) (pp : Nat → px_PR) (ss : Nat → px_SR) (mc : Nat) (ms : Nat) (a1x : Int32) (q_o : Nat) (l_o : Nat) (o_reached : Int32) (g_o : Nat → Int32) (g_t : Nat → Int32) (mm : Nat → px_MR) (post : Int32 → Nat → Nat → Int32 → (Nat → Int32) → (Nat → Int32) → (Nat → px_MR) → Prop) (hw : w272_wp a0x cm np ns pa sa pp ss mc ms post a1x q_o l_o o_reached g_o g_t mm) : Met l px_y272 px_s272 ({ frames := 4, cells := mc, slots := ms, locals := 92 }) (va_Pc [.ref (hm a0x), .int a1x] (fun U => U.heap.size = sz ∧ va_P (dC, dI) vwCl (([(ho, .inr (1, [.ref q_o, .ref q_t, .int o_reached])), (q_o, .inl (cc.2.1, l_o, .inl g_o)), (q_t, .inl (cc.2.1, 182, .inl g_t))] : va_W) ++ px_cp cc ho cm np ns hm pa sa mm pp ss) U.heap ∧ va_K (dC, dI) vwCl [(cc.2.1, .int), (cc.2.2.2.1, .byte), (cc.2.2.2.2, .long), (cc.1, .object "MatroidDesk$Part"), (cc.2.2.1, (.array .int))] U ∧ va_D (fun _ => True) (([(ho, .inr (1, [.ref q_o, .ref q_t, .int o_reached])), (q_o, .inl (cc.2.1, l_o, .inl g_o)), (q_t, .inl (cc.2.1, 182, .inl g_t))] : va_W) ++ px_cp cc ho cm np ns hm pa sa mm pp ss) ∧ px_N U ∧ px_AI U)) (va_Qi (fun (r : Int32) (u : Nat × Nat × Int32 × (Nat → Int32) × (Nat → Int32) × (Nat → px_MR)) => post r u.1 u.2.1 u.2.2.1 u.2.2.2.1 u.2.2.2.2.1 u.2.2.2.2.2) (fun (u : Nat × Nat × Int32 × (Nat → Int32) × (Nat → Int32) × (Nat → px_MR)) (t : State) => va_P (dC, dI) vwCl (([(ho, .inr (1, [.ref u.1, .ref q_t, .int u.2.2.1])), (u.1, .inl (cc.2.1, u.2.1, .inl u.2.2.2.1)), (q_t, .inl (cc.2.1, 182, .inl u.2.2.2.2.1))] : va_W) ++ px_cp cc ho cm np ns hm pa sa u.2.2.2.2.2 pp ss) t.heap ∧ va_K (dC, dI) vwCl [(cc.2.1, .int), (cc.2.2.2.1, .byte), (cc.2.2.2.2, .long), (cc.1, .object "MatroidDesk$Part"), (cc.2.2.1, (.array .int))] t ∧ va_D (va_A (([(ho, .inr (1, [.ref q_o, .ref q_t, .int o_reached])), (q_o, .inl (cc.2.1, l_o, .inl g_o)), (q_t, .inl (cc.2.1, 182, .inl g_t))] : va_W) ++ px_cp cc ho cm np ns hm pa sa mm pp ss) sz) (([(ho, .inr (1, [.ref u.1, .ref q_t, .int u.2.2.1])), (u.1, .inl (cc.2.1, u.2.1, .inl u.2.2.2.1)), (q_t, .inl (cc.2.1, 182, .inl u.2.2.2.2.1))] : va_W) ++ px_cp cc ho cm np ns hm pa sa u.2.2.2.2.2 pp ss)) (va_A (([(ho, .inr (1, [.ref q_o, .ref q_t, .int o_reached])), (q_o, .inl (cc.2.1, l_o, .inl g_o)), (q_t, .inl (cc.2.1, 182, .inl g_t))] : va_W) ++ px_cp cc ho cm np ns hm pa sa mm pp ss) sz)) mc ms (va_A (([(ho, .inr (1, [.ref q_o, .ref q_t, .int o_reached])), (q_o, .inl (cc.2.1, l_o, .inl g_o)), (q_t, .inl (cc.2.1, 182, .inl g_t))] : va_W) ++ px_cp cc ho cm np ns hm pa sa mm pp ss) sz) := by
  refine Met.ofW (cc := prog_3_method_10_code) (maxL := 2) (ret := (some .int)) (by decide) rfl ?_
  intro p e s m args below meth c s₁ B hml hv
  obtain ⟨rfl, hsz, hP, hK, hD0, hN, hE0⟩ := hv
  have hx := B.exec
  have hb := B.bytes
  have hr := B.returns
  have htw : ∀ w ∈ px_all, w.before _ s = true := fun w h => atoms_spec (ws := px_s272) B.pre w (List.mem_cons_of_mem _ h)
  have hown : s.vm.findClass "MatroidDesk$Matroid" = some m.cls := findClass_of_methodNamed B.named
  have hlocks := B.notSynchronized
  subst hsz
  have hD := hD0.self (sz := s.heap.size)
  generalize hAe : va_A (([(ho, .inr (1, [.ref q_o, .ref q_t, .int o_reached])), (q_o, .inl (cc.2.1, l_o, .inl g_o)), (q_t, .inl (cc.2.1, 182, .inl g_t))] : va_W) ++ px_cp cc ho cm np ns hm pa sa mm pp ss) s.heap.size = A at hD ⊢
  have hA : ∀ q : Nat, s.heap.size ≤ q → A q := fun q h => by rw [← hAe]; exact Or.inr h
  have hS : va_S A s.heap s.heap [] := va_S.rf
  have hP : va_P (dC, dI) vwCl (([(ho, .inr (1, [.ref q_o, .ref q_t, .int o_reached])), (q_o, .inl (cc.2.1, l_o, .inl g_o)), (q_t, .inl (cc.2.1, 182, .inl g_t))] : va_W) ++ px_cp cc ho cm np ns hm pa sa mm pp ss) s.heap := hP
  have hl := lv_entry ([.ref (hm a0x), .int a1x]) (n := 2) (Nat.le_of_ble_eq_true rfl)
  rw [lg_entry_eq]
  generalize (lg_sl ([.ref (hm a0x), .int a1x]) ++ List.replicate (2 - (lg_sl ([.ref (hm a0x), .int a1x])).length) Slot.unset).toArray = ls at hl ⊢
  have hl : lv_has ls 2 [(0, .ref (hm a0x)), (1, .int a1x)] := hl
  generalize hQ : MQ _ _ _ _ _ _ _ = Q
  have S21 : ∀ (x1 : Int32) (q_o : Nat) (l_o : Nat) (o_reached : Int32) (g_o : Nat → Int32) (g_t : Nat → Int32) (mm : Nat → px_MR) (kc : Nat) (ks : Nat) (H : Heap) (locs : List Loc) (ls : Array Slot), kc ≤ mc → ks ≤ ms → va_P (dC, dI) vwCl (([(ho, .inr (1, [.ref q_o, .ref q_t, .int o_reached])), (q_o, .inl (cc.2.1, l_o, .inl g_o)), (q_t, .inl (cc.2.1, 182, .inl g_t))] : va_W) ++ px_cp cc ho cm np ns hm pa sa mm pp ss) H → va_D A (([(ho, .inr (1, [.ref q_o, .ref q_t, .int o_reached])), (q_o, .inl (cc.2.1, l_o, .inl g_o)), (q_t, .inl (cc.2.1, 182, .inl g_t))] : va_W) ++ px_cp cc ho cm np ns hm pa sa mm pp ss) → va_S A s.heap H locs → lv_has ls 2 [(0, .ref (hm a0x)), (1, .int x1)] → w272_L21 a0x cm np ns pa sa pp ss mc ms post x1 q_o l_o o_reached g_o g_t mm kc ks → W p l e (headSpec px_s272 ({ frames := 4, cells := mc, slots := ms, locals := 92 })).room s m ([.ref (hm a0x), .int a1x]).toArray below meth c H locs kc ks Q (F0 m 21 ls []) := by
    intro x1 q_o l_o o_reached g_o g_t mm kc ks H locs ls hkc hks hP hD hS hl hw
    unfold w272_L21 at hw
    refine lv_aload_n hx hb px_d272_21 rfl (lv_at hl 0 rfl) ?_
    obtain ⟨hp22, hw⟩ := hw
    refine va_get (D := (dC, dI)) (ci := 10) (v := .ref ((mm a0x).1 5)) (C := "MatroidDesk$Matroid") (T := px_T10) (N := 15) hx hb htw px_in10 hown hK hP (3 + (13 * a0x + 0)) (px_cg0 rfl hp22) rfl 5 (by decide) (htw _ px_w1004) (fun _ h9 => h9) rfl px_d272_22 ?_
    refine lv_iload_n hx hb px_d272_25 rfl (lv_at hl 1 rfl) ?_
    obtain ⟨hp26, hw⟩ := hw
    obtain ⟨hi26, hw⟩ := hw
    refine va_iald hx hb hK hP (3 + (13 * a0x + 5)) 0 (px_cg5 rfl hp26) rfl hi26 px_d272_26 ?_
    refine W.widen (k := mc) (n := ms) hkc hks ?_
    rw [← hQ]
    exact W.iret (v := ((mm a0x).2.2.2.1 5) (Int32.toNatClampNeg x1)) hx hb hr (fun t ht hW => ⟨⟨((mm a0x).2.2.2.1 5) (Int32.toNatClampNeg x1), (q_o, l_o, o_reached, g_o, g_t, mm), rfl, hw, by rw [ht]; exact hP, va_K.moved hW.alike hK, hD⟩, hS.F ht⟩) hS.2.2 px_d272_27
  unfold w272_wp at hw
  have hS0 := hS
  obtain ⟨H, hH9⟩ : ∃ z, z = s.heap := ⟨_, rfl⟩
  have hP : va_P (dC, dI) vwCl (([(ho, .inr (1, [.ref q_o, .ref q_t, .int o_reached])), (q_o, .inl (cc.2.1, l_o, .inl g_o)), (q_t, .inl (cc.2.1, 182, .inl g_t))] : va_W) ++ px_cp cc ho cm np ns hm pa sa mm pp ss) H := by rw [hH9]; exact hP
  obtain ⟨locs, hlo9⟩ : ∃ z : List Loc, z = [] := ⟨_, rfl⟩
  have hS : va_S A s.heap H locs := by rw [hH9, hlo9]; exact hS
  suffices hG : W p l e (headSpec px_s272 ({ frames := 4, cells := mc, slots := ms, locals := 92 })).room s m ([.ref (hm a0x), .int a1x]).toArray below meth c H locs 0 0 Q (F0 m 0 ls []) by rw [hH9, hlo9] at hG; exact hG
  refine lv_aload_n hx hb px_d272_0 rfl (lv_at hl 0 rfl) ?_
  obtain ⟨hp1, hw⟩ := hw
  refine va_get (D := (dC, dI)) (ci := 10) (v := .ref ((mm a0x).1 5)) (C := "MatroidDesk$Matroid") (T := px_T10) (N := 15) hx hb htw px_in10 hown hK hP (3 + (13 * a0x + 0)) (px_cg0 rfl hp1) rfl 5 (by decide) (htw _ px_w1004) (fun _ h9 => h9) rfl px_d272_1 ?_
  refine lv_iload_n hx hb px_d272_4 rfl (lv_at hl 1 rfl) ?_
  obtain ⟨hp5, hw⟩ := hw
  obtain ⟨hi5, hw⟩ := hw
  refine va_iald hx hb hK hP (3 + (13 * a0x + 5)) 0 (px_cg5 rfl hp5) rfl hi5 px_d272_5 ?_
  refine lv_iconst (v := (-1)) hx hb px_d272_6 (by decide) ?_
  refine lv_icmp_ne (tgt := 21) hx hb px_d272_7 (by decide) (fun c7 => ?_) (fun c7 => ?_)
  · have hw := hw.1 c7
    exact S21 a1x q_o l_o o_reached g_o g_t mm 0 0 H locs ls (Nat.zero_le mc) (Nat.zero_le ms) hP hD hS (lv_sub hl [0, 1] rfl) hw
  · have hw := hw.2 c7
    refine lv_aload_n hx hb px_d272_10 rfl (lv_at hl 0 rfl) ?_
    refine lv_iconst (v := 0) hx hb px_d272_11 (by decide) ?_
    obtain ⟨m12_7, s12_7, hm12_7, hs12_7, hw⟩ := hw
    obtain ⟨hp12, hw⟩ := hw
    have hPc := hP.part (cx := [(ho, .inr (1, [.ref q_o, .ref q_t, .int o_reached])), (q_o, .inl (cc.2.1, l_o, .inl g_o)), (q_t, .inl (cc.2.1, 182, .inl g_t))]) [0, 1, 2] rfl
    have hDc := hD.part (cx := [(ho, .inr (1, [.ref q_o, .ref q_t, .int o_reached])), (q_o, .inl (cc.2.1, l_o, .inl g_o)), (q_t, .inl (cc.2.1, 182, .inl g_t))]) [0, 1, 2] (by decide) rfl
    have hFc := va_freeP (cx := [(ho, .inr (1, [.ref q_o, .ref q_t, .int o_reached])), (q_o, .inl (cc.2.1, l_o, .inl g_o)), (q_t, .inl (cc.2.1, 182, .inl g_t))]) hD hS hA [0, 1, 2] rfl
    have hKc := hK.sub (tys' := [(cc.2.1, .int), (cc.2.2.2.1, .byte), (cc.2.2.2.2, .long), (cc.1, .object "MatroidDesk$Part"), (cc.2.2.1, (.array .int))]) [0, 1, 2, 3, 4] rfl
    refine va_calli (va_runV (As := [.int 0]) (rest := []) ⟨hx, hb, hml, hown, htw⟩ (w262_met l dC dI H.size ho q_t a0x cc cm np ns hm pa sa pp ss m12_7 s12_7 0 q_o l_o o_reached g_o g_t mm _ hw) (cwV 1 htw (px_gv px_w1335 px_w1337 px_w1338 px_w154 px_g262) rfl rfl rfl (by decide +kernel) ⟨Nat.le_of_ble_eq_true rfl, Nat.le_of_ble_eq_true rfl⟩) ⟨fun a U g mk q => by obtain ⟨q0, q1, qP, qK, qD, qN⟩ := q; exact ⟨q0, q1, qP, va_K.moved (u := U) (U := U.calling g mk a) (Vm.Alike.refl U.vm) qK, qD, qN.same rfl⟩, va_recv hK hP (ci := 10) (q0 := (3 + (13 * a0x + 0))) rfl (px_cg0 rfl hp12), fun U hU hW => ⟨rfl, by rw [hU], by rw [hU]; exact hPc, va_K.moved hW.alike hKc, hDc.weaken (fun _ _ _ _ => trivial), hN.warm hW⟩⟩ rfl rfl hl.1 rfl (lv_room (Nat.le_of_ble_eq_true rfl)) px_d272_12 ⟨hm12_7, hs12_7⟩) hS (fun q _ h => hFc q h) hFc (fun r12 u t H1 locs ht hvm hw hB hz1 hk1 hS => ?_)
    obtain ⟨v1, v2, v3, v4, v5, v6⟩ := u
    obtain ⟨hP1, hK1, hD1⟩ := hB
    rw [ht] at hP1
    obtain ⟨hP, hD⟩ := va_joinP (wr := []) (rx := [(ho, .inr (1, [.ref v1, .ref q_t, .int v3])), (v1, .inl (cc.2.1, v2, .inl v4)), (q_t, .inl (cc.2.1, 182, .inl v5))]) hP hD [0, 1, 2] [] rfl rfl (by decide) (by decide) hk1 hFc hP1 hD1
    generalize H1 = H at hP hS ⊢
    have hP : va_P (dC, dI) vwCl (([(ho, .inr (1, [.ref v1, .ref q_t, .int v3])), (v1, .inl (cc.2.1, v2, .inl v4)), (q_t, .inl (cc.2.1, 182, .inl v5))] : va_W) ++ px_cp cc ho cm np ns hm pa sa v6 pp ss) H := hP
    have hD : va_D A (([(ho, .inr (1, [.ref v1, .ref q_t, .int v3])), (v1, .inl (cc.2.1, v2, .inl v4)), (q_t, .inl (cc.2.1, 182, .inl v5))] : va_W) ++ px_cp cc ho cm np ns hm pa sa v6 pp ss) := hD
    refine lv_pop hx hb px_d272_15 rfl ?_
    refine lv_aload_n hx hb px_d272_16 rfl (lv_at hl 0 rfl) ?_
    refine lv_iload_n hx hb px_d272_17 rfl (lv_at hl 1 rfl) ?_
    obtain ⟨m18_15, s18_15, hm18_15, hs18_15, hw⟩ := hw
    obtain ⟨hp18, hw⟩ := hw
    have hPc := hP.part (cx := [(ho, .inr (1, [.ref v1, .ref q_t, .int v3])), (v1, .inl (cc.2.1, v2, .inl v4)), (q_t, .inl (cc.2.1, 182, .inl v5))]) [0, 1, 2] rfl
    have hDc := hD.part (cx := [(ho, .inr (1, [.ref v1, .ref q_t, .int v3])), (v1, .inl (cc.2.1, v2, .inl v4)), (q_t, .inl (cc.2.1, 182, .inl v5))]) [0, 1, 2] (by decide) rfl
    have hFc := va_freeP (cx := [(ho, .inr (1, [.ref v1, .ref q_t, .int v3])), (v1, .inl (cc.2.1, v2, .inl v4)), (q_t, .inl (cc.2.1, 182, .inl v5))]) hD hS hA [0, 1, 2] rfl
    have hKc := hK.sub (tys' := [(cc.2.1, .int), (cc.2.2.2.1, .byte), (cc.2.2.2.2, .long), (cc.1, .object "MatroidDesk$Part"), (cc.2.2.1, (.array .int))]) [0, 1, 2, 3, 4] rfl
    refine va_callv (va_runV (As := [.int a1x]) (rest := []) ⟨hx, hb, hml, hown, htw⟩ (w273_met l dC dI H.size ho q_t a0x cc cm np ns hm pa sa pp ss m18_15 s18_15 a1x v1 v2 v3 v4 v5 v6 _ hw) (cwV 1 htw (px_gv px_w1389 px_w1391 px_w1392 px_w154 px_g273) rfl rfl rfl (by decide +kernel) ⟨Nat.le_of_ble_eq_true rfl, Nat.le_of_ble_eq_true rfl⟩) ⟨fun a U g mk q => by obtain ⟨q0, q1, qP, qK, qD, qN, qE0⟩ := q; exact ⟨q0, q1, qP, va_K.moved (u := U) (U := U.calling g mk a) (Vm.Alike.refl U.vm) qK, qD, qN.same rfl, qE0.moved (U := U.calling g mk a) (Vm.Alike.refl U.vm)⟩, va_recv hK hP (ci := 10) (q0 := (3 + (13 * a0x + 0))) rfl (px_cg0 rfl hp18), fun U hU hW => ⟨rfl, by rw [hU], by rw [hU]; exact hPc, va_K.moved hW.alike hKc, hDc.weaken (fun _ _ _ _ => trivial), hN.warm hW, hE0.moved hW.alike⟩⟩ rfl rfl hl.1 rfl (lv_room (Nat.le_of_ble_eq_true rfl)) px_d272_18 ⟨hm18_15, hs18_15⟩) hS (fun q _ h => hFc q h) hFc (fun u t H1 locs ht hvm hw hB hz1 hk1 hS => ?_)
    obtain ⟨v9, v10, v11, v12, v13, v14⟩ := u
    obtain ⟨hP1, hK1, hD1⟩ := hB
    rw [ht] at hP1
    obtain ⟨hP, hD⟩ := va_joinP (wr := []) (rx := [(ho, .inr (1, [.ref v9, .ref q_t, .int v11])), (v9, .inl (cc.2.1, v10, .inl v12)), (q_t, .inl (cc.2.1, 182, .inl v13))]) hP hD [0, 1, 2] [] rfl rfl (by decide) (by decide) hk1 hFc hP1 hD1
    generalize H1 = H at hP hS ⊢
    have hP : va_P (dC, dI) vwCl (([(ho, .inr (1, [.ref v9, .ref q_t, .int v11])), (v9, .inl (cc.2.1, v10, .inl v12)), (q_t, .inl (cc.2.1, 182, .inl v13))] : va_W) ++ px_cp cc ho cm np ns hm pa sa v14 pp ss) H := hP
    have hD : va_D A (([(ho, .inr (1, [.ref v9, .ref q_t, .int v11])), (v9, .inl (cc.2.1, v10, .inl v12)), (q_t, .inl (cc.2.1, 182, .inl v13))] : va_W) ++ px_cp cc ho cm np ns hm pa sa v14 pp ss) := hD
    exact S21 a1x v9 v10 v11 v12 v13 v14 (0 + m12_7 + m18_15) (0 + s12_7 + s18_15) H locs ls hm18_15 hs18_15 hP hD hS (lv_sub hl [0, 1] rfl) hw

/-! MatroidDesk$Matroid.heldOf(LMatroidDesk$Part;II)I -/
def w260_L74 (K6 : Int32 → Int32 → Int32 → Int32 → Nat → Nat → Int32 → (Nat → Int32) → (Nat → Int32) → (Nat → px_MR) → Prop) (a0x : Nat) (cm : Nat) (np : Nat) (ns : Nat) (pa : Nat → Nat) (sa : Nat → Nat) (pp : Nat → px_PR) (ss : Nat → px_SR) (a1x : Nat) (post : Int32 → Nat → Nat → Int32 → (Nat → Int32) → (Nat → Int32) → (Nat → px_MR) → Prop) (x2 : Int32) (x3 : Int32) (x4 : Int32) (x5 : Int32) (x6 : Int32) (q_o : Nat) (l_o : Nat) (o_reached : Int32) (g_o : Nat → Int32) (g_t : Nat → Int32) (mm : Nat → px_MR) : Prop := ∀ z1 : Int32, z1 = x5 + 1 → K6 x2 x3 x4 z1 q_o l_o o_reached g_o g_t mm
def w260_L29 (K6 : Int32 → Int32 → Int32 → Int32 → Nat → Nat → Int32 → (Nat → Int32) → (Nat → Int32) → (Nat → px_MR) → Prop) (a0x : Nat) (cm : Nat) (np : Nat) (ns : Nat) (pa : Nat → Nat) (sa : Nat → Nat) (pp : Nat → px_PR) (ss : Nat → px_SR) (a1x : Nat) (post : Int32 → Nat → Nat → Int32 → (Nat → Int32) → (Nat → Int32) → (Nat → px_MR) → Prop) (x2 : Int32) (x3 : Int32) (x4 : Int32) (x5 : Int32) (y0 : Int32) (q_o : Nat) (l_o : Nat) (o_reached : Int32) (g_o : Nat → Int32) (g_t : Nat → Int32) (mm : Nat → px_MR) : Prop := a0x < cm ∧ (a0x < cm ∧ (vp_in x5 12 ∧ (((mm a0x).2.2.2.2.2 (Int32.toNatClampNeg x5) = none → w260_L74 K6 a0x cm np ns pa sa pp ss a1x post x2 x3 x4 x5 y0 q_o l_o o_reached g_o g_t mm) ∧ (∀ k38_2 : Nat, (mm a0x).2.2.2.2.2 (Int32.toNatClampNeg x5) = some k38_2 → k38_2 < np ∧ a1x < np ∧ ((k38_2 = a1x → (((x2 >>> (x5 &&& 31)) &&& 1) = 0 → w260_L74 K6 a0x cm np ns pa sa pp ss a1x post x2 x3 x4 x5 y0 q_o l_o o_reached g_o g_t mm) ∧ (¬ ((x2 >>> (x5 &&& 31)) &&& 1) = 0 → a1x < np ∧ ((y0 = ((pp a1x).2.2) → w260_L74 K6 a0x cm np ns pa sa pp ss a1x post x2 x3 x4 x5 y0 q_o l_o o_reached g_o g_t mm) ∧ (¬ y0 = ((pp a1x).2.2) → a0x < cm ∧ (a0x < cm ∧ (vp_in x5 (12) ∧ (∀ z3 : Int32, z3 = x4 ||| ((1 : Int32) <<< ((((mm a0x).2.2.2.1 2) (Int32.toNatClampNeg x5)) &&& 31)) → w260_L74 K6 a0x cm np ns pa sa pp ss a1x post x2 x3 z3 x5 y0 q_o l_o o_reached g_o g_t mm))))))) ∧ (¬ k38_2 = a1x → w260_L74 K6 a0x cm np ns pa sa pp ss a1x post x2 x3 x4 x5 y0 q_o l_o o_reached g_o g_t mm))))))
def w260_L6 (a0x : Nat) (cm : Nat) (np : Nat) (ns : Nat) (pa : Nat → Nat) (sa : Nat → Nat) (pp : Nat → px_PR) (ss : Nat → px_SR) (a1x : Nat) (post : Int32 → Nat → Nat → Int32 → (Nat → Int32) → (Nat → Int32) → (Nat → px_MR) → Prop) : Nat → Int32 → Int32 → Int32 → Int32 → Nat → Nat → Int32 → (Nat → Int32) → (Nat → Int32) → (Nat → px_MR) → Prop
  | 0 => fun _ _ _ _ _ _ _ _ _ _ => False
  | k + 1 => fun x2 x3 x4 x5 q_o l_o o_reached g_o g_t mm => a0x < cm ∧ ((((mm a0x).2.1 13) ≤ x5 → post x4 q_o l_o o_reached g_o g_t mm) ∧ (¬ ((mm a0x).2.1 13) ≤ x5 → (((x3 >>> (x5 &&& 31)) &&& 1) = 0 → w260_L29 (w260_L6 a0x cm np ns pa sa pp ss a1x post k) a0x cm np ns pa sa pp ss a1x post x2 x3 x4 x5 0 q_o l_o o_reached g_o g_t mm) ∧ (¬ ((x3 >>> (x5 &&& 31)) &&& 1) = 0 → w260_L29 (w260_L6 a0x cm np ns pa sa pp ss a1x post k) a0x cm np ns pa sa pp ss a1x post x2 x3 x4 x5 1 q_o l_o o_reached g_o g_t mm)))
def w260_wp (a0x : Nat) (cm : Nat) (np : Nat) (ns : Nat) (pa : Nat → Nat) (sa : Nat → Nat) (pp : Nat → px_PR) (ss : Nat → px_SR) (a1x : Nat) (post : Int32 → Nat → Nat → Int32 → (Nat → Int32) → (Nat → Int32) → (Nat → px_MR) → Prop) (a2x : Int32) (a3x : Int32) (q_o : Nat) (l_o : Nat) (o_reached : Int32) (g_o : Nat → Int32) (g_t : Nat → Int32) (mm : Nat → px_MR) : Prop := ∃ j6, w260_L6 a0x cm np ns pa sa pp ss a1x post j6 a2x a3x 0 0 q_o l_o o_reached g_o g_t mm
set_option maxHeartbeats 8000000 in
set_option maxRecDepth 100000 in
theorem w260_met (l : Launch) (dC : Nat → ClassId) (dI : Nat → Nat → Nat) (sz : Nat) (ho : Nat) (q_t : Nat) (a0x : Nat) (cc : px_CC) (cm : Nat) (np : Nat) (ns : Nat) (hm : Nat → Nat) (pa : Nat → Nat) (sa : Nat → Nat) (pp : Nat → px_PR) (ss : Nat → px_SR) (a1x : Nat) (a2x : Int32) (a3x : Int32) (q_o : Nat) (l_o : Nat) (o_reached : Int32) (g_o : Nat → Int32) (g_t : Nat → Int32) (mm : Nat → px_MR) (post : Int32 → Nat → Nat → Int32 → (Nat → Int32) → (Nat → Int32) → (Nat → px_MR) → Prop) (hw : w260_wp a0x cm np ns pa sa pp ss a1x post a2x a3x q_o l_o o_reached g_o g_t mm) : Met l px_y260 px_s260 ({ frames := 0, cells := 0, slots := 0, locals := 0 }) (va_Pc [.ref (hm a0x), .ref (pa a1x), .int a2x, .int a3x] (fun U => U.heap.size = sz ∧ va_P (dC, dI) vwCl (([(ho, .inr (1, [.ref q_o, .ref q_t, .int o_reached])), (q_o, .inl (cc.2.1, l_o, .inl g_o)), (q_t, .inl (cc.2.1, 182, .inl g_t))] : va_W) ++ px_cp cc ho cm np ns hm pa sa mm pp ss) U.heap ∧ va_K (dC, dI) vwCl [(cc.2.1, .int), (cc.2.2.2.1, .byte), (cc.2.2.2.2, .long), (cc.1, .object "MatroidDesk$Part"), (cc.2.2.1, (.array .int))] U ∧ va_D (fun _ => True) (([(ho, .inr (1, [.ref q_o, .ref q_t, .int o_reached])), (q_o, .inl (cc.2.1, l_o, .inl g_o)), (q_t, .inl (cc.2.1, 182, .inl g_t))] : va_W) ++ px_cp cc ho cm np ns hm pa sa mm pp ss) ∧ px_N U)) (va_Qi (fun (r : Int32) (u : Nat × Nat × Int32 × (Nat → Int32) × (Nat → Int32) × (Nat → px_MR)) => post r u.1 u.2.1 u.2.2.1 u.2.2.2.1 u.2.2.2.2.1 u.2.2.2.2.2) (fun (u : Nat × Nat × Int32 × (Nat → Int32) × (Nat → Int32) × (Nat → px_MR)) (t : State) => va_P (dC, dI) vwCl (([(ho, .inr (1, [.ref u.1, .ref q_t, .int u.2.2.1])), (u.1, .inl (cc.2.1, u.2.1, .inl u.2.2.2.1)), (q_t, .inl (cc.2.1, 182, .inl u.2.2.2.2.1))] : va_W) ++ px_cp cc ho cm np ns hm pa sa u.2.2.2.2.2 pp ss) t.heap ∧ va_K (dC, dI) vwCl [(cc.2.1, .int), (cc.2.2.2.1, .byte), (cc.2.2.2.2, .long), (cc.1, .object "MatroidDesk$Part"), (cc.2.2.1, (.array .int))] t ∧ va_D (va_A (([(ho, .inr (1, [.ref q_o, .ref q_t, .int o_reached])), (q_o, .inl (cc.2.1, l_o, .inl g_o)), (q_t, .inl (cc.2.1, 182, .inl g_t))] : va_W) ++ px_cp cc ho cm np ns hm pa sa mm pp ss) sz) (([(ho, .inr (1, [.ref u.1, .ref q_t, .int u.2.2.1])), (u.1, .inl (cc.2.1, u.2.1, .inl u.2.2.2.1)), (q_t, .inl (cc.2.1, 182, .inl u.2.2.2.2.1))] : va_W) ++ px_cp cc ho cm np ns hm pa sa u.2.2.2.2.2 pp ss)) (va_A (([(ho, .inr (1, [.ref q_o, .ref q_t, .int o_reached])), (q_o, .inl (cc.2.1, l_o, .inl g_o)), (q_t, .inl (cc.2.1, 182, .inl g_t))] : va_W) ++ px_cp cc ho cm np ns hm pa sa mm pp ss) sz)) 0 0 (va_A (([(ho, .inr (1, [.ref q_o, .ref q_t, .int o_reached])), (q_o, .inl (cc.2.1, l_o, .inl g_o)), (q_t, .inl (cc.2.1, 182, .inl g_t))] : va_W) ++ px_cp cc ho cm np ns hm pa sa mm pp ss) sz) := by
  refine Met.ofW (cc := prog_3_method_21_code) (maxL := 7) (ret := (some .int)) (by decide) rfl ?_
  intro p e s m args below meth c s₁ B hml hv
  obtain ⟨rfl, hsz, hP, hK, hD0, hN⟩ := hv
  have hx := B.exec
  have hb := B.bytes
  have hr := B.returns
  have htw : ∀ w ∈ px_all, w.before _ s = true := fun w h => atoms_spec (ws := px_s260) B.pre w (List.mem_cons_of_mem _ h)
  have hown : s.vm.findClass "MatroidDesk$Matroid" = some m.cls := findClass_of_methodNamed B.named
  have hlocks := B.notSynchronized
  subst hsz
  have hD := hD0.self (sz := s.heap.size)
  generalize hAe : va_A (([(ho, .inr (1, [.ref q_o, .ref q_t, .int o_reached])), (q_o, .inl (cc.2.1, l_o, .inl g_o)), (q_t, .inl (cc.2.1, 182, .inl g_t))] : va_W) ++ px_cp cc ho cm np ns hm pa sa mm pp ss) s.heap.size = A at hD ⊢
  have hA : ∀ q : Nat, s.heap.size ≤ q → A q := fun q h => by rw [← hAe]; exact Or.inr h
  have hS : va_S A s.heap s.heap [] := va_S.rf
  have hP : va_P (dC, dI) vwCl (([(ho, .inr (1, [.ref q_o, .ref q_t, .int o_reached])), (q_o, .inl (cc.2.1, l_o, .inl g_o)), (q_t, .inl (cc.2.1, 182, .inl g_t))] : va_W) ++ px_cp cc ho cm np ns hm pa sa mm pp ss) s.heap := hP
  have hl := lv_entry ([.ref (hm a0x), .ref (pa a1x), .int a2x, .int a3x]) (n := 7) (Nat.le_of_ble_eq_true rfl)
  rw [lg_entry_eq]
  generalize (lg_sl ([.ref (hm a0x), .ref (pa a1x), .int a2x, .int a3x]) ++ List.replicate (7 - (lg_sl ([.ref (hm a0x), .ref (pa a1x), .int a2x, .int a3x])).length) Slot.unset).toArray = ls at hl ⊢
  have hl : lv_has ls 7 [(0, .ref (hm a0x)), (1, .ref (pa a1x)), (2, .int a2x), (3, .int a3x)] := hl
  generalize hQ : MQ _ _ _ _ _ _ _ = Q
  have S6 : ∀ (k6 : Nat) (x2 : Int32) (x3 : Int32) (x4 : Int32) (x5 : Int32) (q_o : Nat) (l_o : Nat) (o_reached : Int32) (g_o : Nat → Int32) (g_t : Nat → Int32) (mm : Nat → px_MR) (H : Heap) (locs : List Loc) (ls : Array Slot), va_P (dC, dI) vwCl (([(ho, .inr (1, [.ref q_o, .ref q_t, .int o_reached])), (q_o, .inl (cc.2.1, l_o, .inl g_o)), (q_t, .inl (cc.2.1, 182, .inl g_t))] : va_W) ++ px_cp cc ho cm np ns hm pa sa mm pp ss) H → va_D A (([(ho, .inr (1, [.ref q_o, .ref q_t, .int o_reached])), (q_o, .inl (cc.2.1, l_o, .inl g_o)), (q_t, .inl (cc.2.1, 182, .inl g_t))] : va_W) ++ px_cp cc ho cm np ns hm pa sa mm pp ss) → va_S A s.heap H locs → lv_has ls 7 [(0, .ref (hm a0x)), (1, .ref (pa a1x)), (2, .int x2), (3, .int x3), (4, .int x4), (5, .int x5)] → w260_L6 a0x cm np ns pa sa pp ss a1x post k6 x2 x3 x4 x5 q_o l_o o_reached g_o g_t mm → W p l e (headSpec px_s260 ({ frames := 0, cells := 0, slots := 0, locals := 0 })).room s m ([.ref (hm a0x), .ref (pa a1x), .int a2x, .int a3x]).toArray below meth c H locs 0 0 Q (F0 m 6 ls []) := by
    intro k6
    induction k6 with
    | zero => intro x2 x3 x4 x5 q_o l_o o_reached g_o g_t mm H locs ls hP hD hS hl hw; exact False.elim hw
    | succ k6 ih6 =>
      have S74 : ∀ (x2 : Int32) (x3 : Int32) (x4 : Int32) (x5 : Int32) (x6 : Int32) (q_o : Nat) (l_o : Nat) (o_reached : Int32) (g_o : Nat → Int32) (g_t : Nat → Int32) (mm : Nat → px_MR) (H : Heap) (locs : List Loc) (ls : Array Slot), va_P (dC, dI) vwCl (([(ho, .inr (1, [.ref q_o, .ref q_t, .int o_reached])), (q_o, .inl (cc.2.1, l_o, .inl g_o)), (q_t, .inl (cc.2.1, 182, .inl g_t))] : va_W) ++ px_cp cc ho cm np ns hm pa sa mm pp ss) H → va_D A (([(ho, .inr (1, [.ref q_o, .ref q_t, .int o_reached])), (q_o, .inl (cc.2.1, l_o, .inl g_o)), (q_t, .inl (cc.2.1, 182, .inl g_t))] : va_W) ++ px_cp cc ho cm np ns hm pa sa mm pp ss) → va_S A s.heap H locs → lv_has ls 7 [(0, .ref (hm a0x)), (1, .ref (pa a1x)), (2, .int x2), (3, .int x3), (4, .int x4), (5, .int x5), (6, .int x6)] → w260_L74 (w260_L6 a0x cm np ns pa sa pp ss a1x post k6) a0x cm np ns pa sa pp ss a1x post x2 x3 x4 x5 x6 q_o l_o o_reached g_o g_t mm → W p l e (headSpec px_s260 ({ frames := 0, cells := 0, slots := 0, locals := 0 })).room s m ([.ref (hm a0x), .ref (pa a1x), .int a2x, .int a3x]).toArray below meth c H locs 0 0 Q (F0 m 74 ls []) := by
        intro x2 x3 x4 x5 x6 q_o l_o o_reached g_o g_t mm H locs ls hP hD hS hl hw
        unfold w260_L74 at hw
        obtain ⟨z1, ez1⟩ : ∃ y : Int32, y = x5 + 1 := ⟨_, rfl⟩
        have hw := hw z1 ez1
        refine lv_iinc (v := z1) (lv' := [(5, .int z1), (0, .ref (hm a0x)), (1, .ref (pa a1x)), (2, .int x2), (3, .int x3), (4, .int x4), (6, .int x6)]) hx hb px_d260_74 hl (k := 5) rfl (by rw [ez1]; rfl) (by decide) rfl (fun ls hl => ?_)
        refine lv_goto (tgt := 6) hx hb px_d260_77 (by decide) ?_
        exact ih6 x2 x3 x4 z1 q_o l_o o_reached g_o g_t mm H locs ls hP hD hS (lv_sub hl [1, 2, 3, 4, 5, 0] rfl) hw
      have S29 : ∀ (x2 : Int32) (x3 : Int32) (x4 : Int32) (x5 : Int32) (y0 : Int32) (q_o : Nat) (l_o : Nat) (o_reached : Int32) (g_o : Nat → Int32) (g_t : Nat → Int32) (mm : Nat → px_MR) (H : Heap) (locs : List Loc) (ls : Array Slot), va_P (dC, dI) vwCl (([(ho, .inr (1, [.ref q_o, .ref q_t, .int o_reached])), (q_o, .inl (cc.2.1, l_o, .inl g_o)), (q_t, .inl (cc.2.1, 182, .inl g_t))] : va_W) ++ px_cp cc ho cm np ns hm pa sa mm pp ss) H → va_D A (([(ho, .inr (1, [.ref q_o, .ref q_t, .int o_reached])), (q_o, .inl (cc.2.1, l_o, .inl g_o)), (q_t, .inl (cc.2.1, 182, .inl g_t))] : va_W) ++ px_cp cc ho cm np ns hm pa sa mm pp ss) → va_S A s.heap H locs → lv_has ls 7 [(0, .ref (hm a0x)), (1, .ref (pa a1x)), (2, .int x2), (3, .int x3), (4, .int x4), (5, .int x5)] → w260_L29 (w260_L6 a0x cm np ns pa sa pp ss a1x post k6) a0x cm np ns pa sa pp ss a1x post x2 x3 x4 x5 y0 q_o l_o o_reached g_o g_t mm → W p l e (headSpec px_s260 ({ frames := 0, cells := 0, slots := 0, locals := 0 })).room s m ([.ref (hm a0x), .ref (pa a1x), .int a2x, .int a3x]).toArray below meth c H locs 0 0 Q (F0 m 29 ls [.int y0]) := by
        intro x2 x3 x4 x5 y0 q_o l_o o_reached g_o g_t mm H locs ls hP hD hS hl hw
        unfold w260_L29 at hw
        refine lv_istore (lv' := [(6, .int y0), (0, .ref (hm a0x)), (1, .ref (pa a1x)), (2, .int x2), (3, .int x3), (4, .int x4), (5, .int x5)]) hx hb px_d260_29 hl (by decide) rfl (fun ls hl => ?_)
        refine lv_aload_n hx hb px_d260_31 rfl (lv_at hl 1 rfl) ?_
        obtain ⟨hp32, hw⟩ := hw
        refine va_get (D := (dC, dI)) (ci := 10) (v := .ref ((mm a0x).1 1)) (C := "MatroidDesk$Matroid") (T := px_T10) (N := 15) hx hb htw px_in10 hown hK hP (3 + (13 * a0x + 0)) (px_cg0 rfl hp32) rfl 1 (by decide) (htw _ px_w1000) (fun _ h9 => h9) rfl px_d260_32 ?_
        refine lv_iload hx hb px_d260_35 (lv_at hl 6 rfl) ?_
        obtain ⟨hp37, hw⟩ := hw
        obtain ⟨hi37, hw⟩ := hw
        refine va_aldq hx hb hK hP (3 + (13 * a0x + 1)) 3 (px_cg1 rfl hp37) rfl hi37 px_d260_37 ?_
        refine W.eq (g2 := F0 m 38 ls (va_rf (Option.map pa ((mm a0x).2.2.2.2.2 (Int32.toNatClampNeg x5))) :: [])) rfl ?_
        cases hz38_2 : (mm a0x).2.2.2.2.2 (Int32.toNatClampNeg x5) with
        | none =>
          have hw := hw.1 hz38_2
          refine W.eq (g2 := F0 m 38 ls (.null :: [])) rfl ?_
          refine lv_aload_n hx hb px_d260_38 rfl (lv_at hl 2 rfl) ?_
          refine lv_acmp_ne (rx := none) (ry := some (pa a1x)) (tgt := 74) hx hb px_d260_39 (by decide) (fun _ => ?_) (fun h9 => absurd h9 (by simp))
          exact S74 x2 x3 x4 x5 y0 q_o l_o o_reached g_o g_t mm H locs ls hP hD hS (lv_sub hl [1, 2, 3, 4, 5, 6, 0] rfl) hw
        | some k38_2 =>
          have hw := hw.2 k38_2 hz38_2
          refine W.eq (g2 := F0 m 38 ls (.ref (pa k38_2) :: [])) rfl ?_
          refine lv_aload_n hx hb px_d260_38 rfl (lv_at hl 2 rfl) ?_
          obtain ⟨hpp39, hw⟩ := hw
          obtain ⟨hqq39, hw⟩ := hw
          refine lv_acmp_ne (rx := some (pa k38_2)) (ry := some (pa a1x)) (tgt := 74) hx hb px_d260_39 (by decide) (fun c39 => ?_) (fun c39 => ?_)
          · have hw := hw.2 (fun z => c39 (congrArg (fun k => some (pa k)) z))
            exact S74 x2 x3 x4 x5 y0 q_o l_o o_reached g_o g_t mm H locs ls hP hD hS (lv_sub hl [1, 2, 3, 4, 5, 6, 0] rfl) hw
          · have hw := hw.1 (px_painj hD hpp39 hqq39 (Option.some.inj c39))
            refine lv_iload_n hx hb px_d260_42 rfl (lv_at hl 3 rfl) ?_
            refine lv_iload hx hb px_d260_43 (lv_at hl 6 rfl) ?_
            refine lv_ishr hx hb px_d260_45 ?_
            refine lv_iconst (v := 1) hx hb px_d260_46 (by decide) ?_
            refine lv_iand hx hb px_d260_47 ?_
            refine lv_if_eq (tgt := 74) hx hb px_d260_48 (by decide) (fun c48 => ?_) (fun c48 => ?_)
            · have hw := hw.1 c48
              exact S74 x2 x3 x4 x5 y0 q_o l_o o_reached g_o g_t mm H locs ls hP hD hS (lv_sub hl [1, 2, 3, 4, 5, 6, 0] rfl) hw
            · have hw := hw.2 c48
              refine lv_iload hx hb px_d260_51 (lv_at hl 0 rfl) ?_
              refine lv_aload_n hx hb px_d260_53 rfl (lv_at hl 2 rfl) ?_
              obtain ⟨hpp54, hw⟩ := hw
              refine va_getN (D := (dC, dI)) (ci := 11) (v := .int ((pp a1x).2.2)) (C := "MatroidDesk$Part") (T := px_T11) (N := 3) hx hb htw px_in11 hown hK hP (3 + (13 * cm + a1x)) (px_gp rfl hpp54) rfl 2 (by decide) (va_Nw.use (w := .fieldLinkNest "MatroidDesk$Matroid" 150 "MatroidDesk$Part" "turned" "Z" "MatroidDesk") rfl (hN.1 ("MatroidDesk$Matroid", 150, "MatroidDesk$Part", "turned", "Z", "MatroidDesk") px_nf24)) (fun _ h9 => h9) rfl px_d260_54 ?_
              refine lv_icmp_eq (tgt := 74) hx hb px_d260_57 (by decide) (fun c57 => ?_) (fun c57 => ?_)
              · have hw := hw.1 c57
                exact S74 x2 x3 x4 x5 y0 q_o l_o o_reached g_o g_t mm H locs ls hP hD hS (lv_sub hl [1, 2, 3, 4, 5, 6, 0] rfl) hw
              · have hw := hw.2 c57
                refine lv_iload hx hb px_d260_60 (lv_at hl 5 rfl) ?_
                refine lv_iconst (v := 1) hx hb px_d260_62 (by decide) ?_
                refine lv_aload_n hx hb px_d260_63 rfl (lv_at hl 1 rfl) ?_
                obtain ⟨hp64, hw⟩ := hw
                refine va_get (D := (dC, dI)) (ci := 10) (v := .ref ((mm a0x).1 2)) (C := "MatroidDesk$Matroid") (T := px_T10) (N := 15) hx hb htw px_in10 hown hK hP (3 + (13 * a0x + 0)) (px_cg0 rfl hp64) rfl 2 (by decide) (htw _ px_w1001) (fun _ h9 => h9) rfl px_d260_64 ?_
                refine lv_iload hx hb px_d260_67 (lv_at hl 6 rfl) ?_
                obtain ⟨hp69, hw⟩ := hw
                obtain ⟨hi69, hw⟩ := hw
                refine va_iald hx hb hK hP (3 + (13 * a0x + 2)) 0 (px_cg2 rfl hp69) rfl hi69 px_d260_69 ?_
                refine lv_ishl hx hb px_d260_70 ?_
                refine lv_ior hx hb px_d260_71 ?_
                refine lv_topi (fun z3 ez3 => ?_)
                have hw := hw z3 ez3
                refine lv_istore (lv' := [(4, .int z3), (6, .int y0), (0, .ref (hm a0x)), (1, .ref (pa a1x)), (2, .int x2), (3, .int x3), (5, .int x5)]) hx hb px_d260_72 hl (by decide) rfl (fun ls hl => ?_)
                exact S74 x2 x3 z3 x5 y0 q_o l_o o_reached g_o g_t mm H locs ls hP hD hS (lv_sub hl [2, 3, 4, 5, 0, 6, 1] rfl) hw
      intro x2 x3 x4 x5 q_o l_o o_reached g_o g_t mm H locs ls hP hD hS hl hw
      unfold w260_L6 at hw
      refine lv_iload hx hb px_d260_6 (lv_at hl 5 rfl) ?_
      refine lv_aload_n hx hb px_d260_8 rfl (lv_at hl 0 rfl) ?_
      obtain ⟨hp9, hw⟩ := hw
      refine va_get (D := (dC, dI)) (ci := 10) (v := .int ((mm a0x).2.1 13)) (C := "MatroidDesk$Matroid") (T := px_T10) (N := 15) hx hb htw px_in10 hown hK hP (3 + (13 * a0x + 0)) (px_cg0 rfl hp9) rfl 13 (by decide) (htw _ px_w1264) (fun _ h9 => h9) rfl px_d260_9 ?_
      refine lv_icmp_ge (tgt := 80) hx hb px_d260_12 (by decide) (fun c12 => ?_) (fun c12 => ?_)
      · have hw := hw.1 c12
        refine lv_iload hx hb px_d260_80 (lv_at hl 4 rfl) ?_
        rw [← hQ]
        exact W.iret (v := x4) hx hb hr (fun t ht hW => ⟨⟨x4, (q_o, l_o, o_reached, g_o, g_t, mm), rfl, hw, by rw [ht]; exact hP, va_K.moved hW.alike hK, hD⟩, hS.F ht⟩) hS.2.2 px_d260_82
      · have hw := hw.2 c12
        refine lv_iload_n hx hb px_d260_15 rfl (lv_at hl 3 rfl) ?_
        refine lv_iload hx hb px_d260_16 (lv_at hl 5 rfl) ?_
        refine lv_ishr hx hb px_d260_18 ?_
        refine lv_iconst (v := 1) hx hb px_d260_19 (by decide) ?_
        refine lv_iand hx hb px_d260_20 ?_
        refine lv_if_eq (tgt := 28) hx hb px_d260_21 (by decide) (fun c21 => ?_) (fun c21 => ?_)
        · have hw := hw.1 c21
          refine lv_iconst (v := 0) hx hb px_d260_28 (by decide) ?_
          exact S29 x2 x3 x4 x5 0 q_o l_o o_reached g_o g_t mm H locs ls hP hD hS (lv_sub hl [0, 1, 2, 3, 4, 5] rfl) hw
        · have hw := hw.2 c21
          refine lv_iconst (v := 1) hx hb px_d260_24 (by decide) ?_
          refine lv_goto (tgt := 29) hx hb px_d260_25 (by decide) ?_
          exact S29 x2 x3 x4 x5 1 q_o l_o o_reached g_o g_t mm H locs ls hP hD hS (lv_sub hl [0, 1, 2, 3, 4, 5] rfl) hw
  unfold w260_wp at hw
  have hS0 := hS
  obtain ⟨H, hH9⟩ : ∃ z, z = s.heap := ⟨_, rfl⟩
  have hP : va_P (dC, dI) vwCl (([(ho, .inr (1, [.ref q_o, .ref q_t, .int o_reached])), (q_o, .inl (cc.2.1, l_o, .inl g_o)), (q_t, .inl (cc.2.1, 182, .inl g_t))] : va_W) ++ px_cp cc ho cm np ns hm pa sa mm pp ss) H := by rw [hH9]; exact hP
  obtain ⟨locs, hlo9⟩ : ∃ z : List Loc, z = [] := ⟨_, rfl⟩
  have hS : va_S A s.heap H locs := by rw [hH9, hlo9]; exact hS
  suffices hG : W p l e (headSpec px_s260 ({ frames := 0, cells := 0, slots := 0, locals := 0 })).room s m ([.ref (hm a0x), .ref (pa a1x), .int a2x, .int a3x]).toArray below meth c H locs 0 0 Q (F0 m 0 ls []) by rw [hH9, hlo9] at hG; exact hG
  refine lv_iconst (v := 0) hx hb px_d260_0 (by decide) ?_
  refine lv_istore (lv' := [(4, .int 0), (0, .ref (hm a0x)), (1, .ref (pa a1x)), (2, .int a2x), (3, .int a3x)]) hx hb px_d260_1 hl (by decide) rfl (fun ls hl => ?_)
  refine lv_iconst (v := 0) hx hb px_d260_3 (by decide) ?_
  refine lv_istore (lv' := [(5, .int 0), (4, .int 0), (0, .ref (hm a0x)), (1, .ref (pa a1x)), (2, .int a2x), (3, .int a3x)]) hx hb px_d260_4 hl (by decide) rfl (fun ls hl => ?_)
  obtain ⟨k9, hw⟩ := hw
  exact S6 k9 a2x a3x 0 0 q_o l_o o_reached g_o g_t mm H locs ls hP hD hS (lv_sub hl [2, 3, 4, 5, 1, 0] rfl) hw

/-! MatroidDesk$Matroid.chosenColumns(LMatroidDesk$Part;I)I -/
def w313_L65 (K8 : Int32 → Int32 → Int32 → Nat → Nat → Int32 → (Nat → Int32) → (Nat → Int32) → (Nat → px_MR) → Prop) (a0x : Nat) (cm : Nat) (np : Nat) (ns : Nat) (pa : Nat → Nat) (sa : Nat → Nat) (pp : Nat → px_PR) (ss : Nat → px_SR) (a1x : Nat) (post : Int32 → Nat → Nat → Int32 → (Nat → Int32) → (Nat → Int32) → (Nat → px_MR) → Prop) (x2 : Int32) (x3 : Int32) (x4 : Int32) (x5 : Int32) (q_o : Nat) (l_o : Nat) (o_reached : Int32) (g_o : Nat → Int32) (g_t : Nat → Int32) (mm : Nat → px_MR) : Prop := ∀ z1 : Int32, z1 = x4 + 1 → K8 x2 x3 z1 q_o l_o o_reached g_o g_t mm
def w313_L31 (K8 : Int32 → Int32 → Int32 → Nat → Nat → Int32 → (Nat → Int32) → (Nat → Int32) → (Nat → px_MR) → Prop) (a0x : Nat) (cm : Nat) (np : Nat) (ns : Nat) (pa : Nat → Nat) (sa : Nat → Nat) (pp : Nat → px_PR) (ss : Nat → px_SR) (a1x : Nat) (post : Int32 → Nat → Nat → Int32 → (Nat → Int32) → (Nat → Int32) → (Nat → px_MR) → Prop) (x2 : Int32) (x3 : Int32) (x4 : Int32) (y0 : Int32) (q_o : Nat) (l_o : Nat) (o_reached : Int32) (g_o : Nat → Int32) (g_t : Nat → Int32) (mm : Nat → px_MR) : Prop := a0x < cm ∧ (a0x < cm ∧ (vp_in x4 12 ∧ (((mm a0x).2.2.2.2.2 (Int32.toNatClampNeg x4) = none → w313_L65 K8 a0x cm np ns pa sa pp ss a1x post x2 x3 x4 y0 q_o l_o o_reached g_o g_t mm) ∧ (∀ k40_2 : Nat, (mm a0x).2.2.2.2.2 (Int32.toNatClampNeg x4) = some k40_2 → k40_2 < np ∧ a1x < np ∧ ((k40_2 = a1x → a1x < np ∧ ((y0 = ((pp a1x).2.2) → w313_L65 K8 a0x cm np ns pa sa pp ss a1x post x2 x3 x4 y0 q_o l_o o_reached g_o g_t mm) ∧ (¬ y0 = ((pp a1x).2.2) → a0x < cm ∧ (a0x < cm ∧ (vp_in x4 (12) ∧ (∀ z3 : Int32, z3 = x3 ||| ((1 : Int32) <<< ((((mm a0x).2.2.2.1 2) (Int32.toNatClampNeg x4)) &&& 31)) → w313_L65 K8 a0x cm np ns pa sa pp ss a1x post x2 z3 x4 y0 q_o l_o o_reached g_o g_t mm)))))) ∧ (¬ k40_2 = a1x → w313_L65 K8 a0x cm np ns pa sa pp ss a1x post x2 x3 x4 y0 q_o l_o o_reached g_o g_t mm))))))
def w313_L8 (a0x : Nat) (cm : Nat) (np : Nat) (ns : Nat) (pa : Nat → Nat) (sa : Nat → Nat) (pp : Nat → px_PR) (ss : Nat → px_SR) (a1x : Nat) (post : Int32 → Nat → Nat → Int32 → (Nat → Int32) → (Nat → Int32) → (Nat → px_MR) → Prop) : Nat → Int32 → Int32 → Int32 → Nat → Nat → Int32 → (Nat → Int32) → (Nat → Int32) → (Nat → px_MR) → Prop
  | 0 => fun _ _ _ _ _ _ _ _ _ => False
  | k + 1 => fun x2 x3 x4 q_o l_o o_reached g_o g_t mm => a0x < cm ∧ ((((mm a0x).2.1 13) ≤ x4 → post x3 q_o l_o o_reached g_o g_t mm) ∧ (¬ ((mm a0x).2.1 13) ≤ x4 → (((x2 >>> (x4 &&& 31)) &&& 1) = 0 → w313_L31 (w313_L8 a0x cm np ns pa sa pp ss a1x post k) a0x cm np ns pa sa pp ss a1x post x2 x3 x4 0 q_o l_o o_reached g_o g_t mm) ∧ (¬ ((x2 >>> (x4 &&& 31)) &&& 1) = 0 → w313_L31 (w313_L8 a0x cm np ns pa sa pp ss a1x post k) a0x cm np ns pa sa pp ss a1x post x2 x3 x4 1 q_o l_o o_reached g_o g_t mm)))
def w313_wp (a0x : Nat) (cm : Nat) (np : Nat) (ns : Nat) (pa : Nat → Nat) (sa : Nat → Nat) (pp : Nat → px_PR) (ss : Nat → px_SR) (a1x : Nat) (post : Int32 → Nat → Nat → Int32 → (Nat → Int32) → (Nat → Int32) → (Nat → px_MR) → Prop) (a2x : Int32) (q_o : Nat) (l_o : Nat) (o_reached : Int32) (g_o : Nat → Int32) (g_t : Nat → Int32) (mm : Nat → px_MR) : Prop := a1x < np ∧ (∀ z4 : Int32, z4 = (pp a1x).2.1 → ∃ j8, w313_L8 a0x cm np ns pa sa pp ss a1x post j8 a2x z4 0 q_o l_o o_reached g_o g_t mm)
set_option maxHeartbeats 8000000 in
set_option maxRecDepth 100000 in
theorem w313_met (l : Launch) (dC : Nat → ClassId) (dI : Nat → Nat → Nat) (sz : Nat) (ho : Nat) (q_t : Nat) (a0x : Nat) (cc : px_CC) (cm : Nat) (np : Nat) (ns : Nat) (hm : Nat → Nat) (pa : Nat → Nat) (sa : Nat → Nat) (pp : Nat → px_PR) (ss : Nat → px_SR) (a1x : Nat) (a2x : Int32) (q_o : Nat) (l_o : Nat) (o_reached : Int32) (g_o : Nat → Int32) (g_t : Nat → Int32) (mm : Nat → px_MR) (post : Int32 → Nat → Nat → Int32 → (Nat → Int32) → (Nat → Int32) → (Nat → px_MR) → Prop) (hw : w313_wp a0x cm np ns pa sa pp ss a1x post a2x q_o l_o o_reached g_o g_t mm) : Met l px_y313 px_s313 ({ frames := 0, cells := 0, slots := 0, locals := 0 }) (va_Pc [.ref (hm a0x), .ref (pa a1x), .int a2x] (fun U => U.heap.size = sz ∧ va_P (dC, dI) vwCl (([(ho, .inr (1, [.ref q_o, .ref q_t, .int o_reached])), (q_o, .inl (cc.2.1, l_o, .inl g_o)), (q_t, .inl (cc.2.1, 182, .inl g_t))] : va_W) ++ px_cp cc ho cm np ns hm pa sa mm pp ss) U.heap ∧ va_K (dC, dI) vwCl [(cc.2.1, .int), (cc.2.2.2.1, .byte), (cc.2.2.2.2, .long), (cc.1, .object "MatroidDesk$Part"), (cc.2.2.1, (.array .int))] U ∧ va_D (fun _ => True) (([(ho, .inr (1, [.ref q_o, .ref q_t, .int o_reached])), (q_o, .inl (cc.2.1, l_o, .inl g_o)), (q_t, .inl (cc.2.1, 182, .inl g_t))] : va_W) ++ px_cp cc ho cm np ns hm pa sa mm pp ss) ∧ px_N U)) (va_Qi (fun (r : Int32) (u : Nat × Nat × Int32 × (Nat → Int32) × (Nat → Int32) × (Nat → px_MR)) => post r u.1 u.2.1 u.2.2.1 u.2.2.2.1 u.2.2.2.2.1 u.2.2.2.2.2) (fun (u : Nat × Nat × Int32 × (Nat → Int32) × (Nat → Int32) × (Nat → px_MR)) (t : State) => va_P (dC, dI) vwCl (([(ho, .inr (1, [.ref u.1, .ref q_t, .int u.2.2.1])), (u.1, .inl (cc.2.1, u.2.1, .inl u.2.2.2.1)), (q_t, .inl (cc.2.1, 182, .inl u.2.2.2.2.1))] : va_W) ++ px_cp cc ho cm np ns hm pa sa u.2.2.2.2.2 pp ss) t.heap ∧ va_K (dC, dI) vwCl [(cc.2.1, .int), (cc.2.2.2.1, .byte), (cc.2.2.2.2, .long), (cc.1, .object "MatroidDesk$Part"), (cc.2.2.1, (.array .int))] t ∧ va_D (va_A (([(ho, .inr (1, [.ref q_o, .ref q_t, .int o_reached])), (q_o, .inl (cc.2.1, l_o, .inl g_o)), (q_t, .inl (cc.2.1, 182, .inl g_t))] : va_W) ++ px_cp cc ho cm np ns hm pa sa mm pp ss) sz) (([(ho, .inr (1, [.ref u.1, .ref q_t, .int u.2.2.1])), (u.1, .inl (cc.2.1, u.2.1, .inl u.2.2.2.1)), (q_t, .inl (cc.2.1, 182, .inl u.2.2.2.2.1))] : va_W) ++ px_cp cc ho cm np ns hm pa sa u.2.2.2.2.2 pp ss)) (va_A (([(ho, .inr (1, [.ref q_o, .ref q_t, .int o_reached])), (q_o, .inl (cc.2.1, l_o, .inl g_o)), (q_t, .inl (cc.2.1, 182, .inl g_t))] : va_W) ++ px_cp cc ho cm np ns hm pa sa mm pp ss) sz)) 0 0 (va_A (([(ho, .inr (1, [.ref q_o, .ref q_t, .int o_reached])), (q_o, .inl (cc.2.1, l_o, .inl g_o)), (q_t, .inl (cc.2.1, 182, .inl g_t))] : va_W) ++ px_cp cc ho cm np ns hm pa sa mm pp ss) sz) := by
  refine Met.ofW (cc := prog_3_method_18_code) (maxL := 6) (ret := (some .int)) (by decide) rfl ?_
  intro p e s m args below meth c s₁ B hml hv
  obtain ⟨rfl, hsz, hP, hK, hD0, hN⟩ := hv
  have hx := B.exec
  have hb := B.bytes
  have hr := B.returns
  have htw : ∀ w ∈ px_all, w.before _ s = true := fun w h => atoms_spec (ws := px_s313) B.pre w (List.mem_cons_of_mem _ h)
  have hown : s.vm.findClass "MatroidDesk$Matroid" = some m.cls := findClass_of_methodNamed B.named
  have hlocks := B.notSynchronized
  subst hsz
  have hD := hD0.self (sz := s.heap.size)
  generalize hAe : va_A (([(ho, .inr (1, [.ref q_o, .ref q_t, .int o_reached])), (q_o, .inl (cc.2.1, l_o, .inl g_o)), (q_t, .inl (cc.2.1, 182, .inl g_t))] : va_W) ++ px_cp cc ho cm np ns hm pa sa mm pp ss) s.heap.size = A at hD ⊢
  have hA : ∀ q : Nat, s.heap.size ≤ q → A q := fun q h => by rw [← hAe]; exact Or.inr h
  have hS : va_S A s.heap s.heap [] := va_S.rf
  have hP : va_P (dC, dI) vwCl (([(ho, .inr (1, [.ref q_o, .ref q_t, .int o_reached])), (q_o, .inl (cc.2.1, l_o, .inl g_o)), (q_t, .inl (cc.2.1, 182, .inl g_t))] : va_W) ++ px_cp cc ho cm np ns hm pa sa mm pp ss) s.heap := hP
  have hl := lv_entry ([.ref (hm a0x), .ref (pa a1x), .int a2x]) (n := 6) (Nat.le_of_ble_eq_true rfl)
  rw [lg_entry_eq]
  generalize (lg_sl ([.ref (hm a0x), .ref (pa a1x), .int a2x]) ++ List.replicate (6 - (lg_sl ([.ref (hm a0x), .ref (pa a1x), .int a2x])).length) Slot.unset).toArray = ls at hl ⊢
  have hl : lv_has ls 6 [(0, .ref (hm a0x)), (1, .ref (pa a1x)), (2, .int a2x)] := hl
  generalize hQ : MQ _ _ _ _ _ _ _ = Q
  have S8 : ∀ (k8 : Nat) (x2 : Int32) (x3 : Int32) (x4 : Int32) (q_o : Nat) (l_o : Nat) (o_reached : Int32) (g_o : Nat → Int32) (g_t : Nat → Int32) (mm : Nat → px_MR) (H : Heap) (locs : List Loc) (ls : Array Slot), va_P (dC, dI) vwCl (([(ho, .inr (1, [.ref q_o, .ref q_t, .int o_reached])), (q_o, .inl (cc.2.1, l_o, .inl g_o)), (q_t, .inl (cc.2.1, 182, .inl g_t))] : va_W) ++ px_cp cc ho cm np ns hm pa sa mm pp ss) H → va_D A (([(ho, .inr (1, [.ref q_o, .ref q_t, .int o_reached])), (q_o, .inl (cc.2.1, l_o, .inl g_o)), (q_t, .inl (cc.2.1, 182, .inl g_t))] : va_W) ++ px_cp cc ho cm np ns hm pa sa mm pp ss) → va_S A s.heap H locs → lv_has ls 6 [(0, .ref (hm a0x)), (1, .ref (pa a1x)), (2, .int x2), (3, .int x3), (4, .int x4)] → w313_L8 a0x cm np ns pa sa pp ss a1x post k8 x2 x3 x4 q_o l_o o_reached g_o g_t mm → W p l e (headSpec px_s313 ({ frames := 0, cells := 0, slots := 0, locals := 0 })).room s m ([.ref (hm a0x), .ref (pa a1x), .int a2x]).toArray below meth c H locs 0 0 Q (F0 m 8 ls []) := by
    intro k8
    induction k8 with
    | zero => intro x2 x3 x4 q_o l_o o_reached g_o g_t mm H locs ls hP hD hS hl hw; exact False.elim hw
    | succ k8 ih8 =>
      have S65 : ∀ (x2 : Int32) (x3 : Int32) (x4 : Int32) (x5 : Int32) (q_o : Nat) (l_o : Nat) (o_reached : Int32) (g_o : Nat → Int32) (g_t : Nat → Int32) (mm : Nat → px_MR) (H : Heap) (locs : List Loc) (ls : Array Slot), va_P (dC, dI) vwCl (([(ho, .inr (1, [.ref q_o, .ref q_t, .int o_reached])), (q_o, .inl (cc.2.1, l_o, .inl g_o)), (q_t, .inl (cc.2.1, 182, .inl g_t))] : va_W) ++ px_cp cc ho cm np ns hm pa sa mm pp ss) H → va_D A (([(ho, .inr (1, [.ref q_o, .ref q_t, .int o_reached])), (q_o, .inl (cc.2.1, l_o, .inl g_o)), (q_t, .inl (cc.2.1, 182, .inl g_t))] : va_W) ++ px_cp cc ho cm np ns hm pa sa mm pp ss) → va_S A s.heap H locs → lv_has ls 6 [(0, .ref (hm a0x)), (1, .ref (pa a1x)), (2, .int x2), (3, .int x3), (4, .int x4), (5, .int x5)] → w313_L65 (w313_L8 a0x cm np ns pa sa pp ss a1x post k8) a0x cm np ns pa sa pp ss a1x post x2 x3 x4 x5 q_o l_o o_reached g_o g_t mm → W p l e (headSpec px_s313 ({ frames := 0, cells := 0, slots := 0, locals := 0 })).room s m ([.ref (hm a0x), .ref (pa a1x), .int a2x]).toArray below meth c H locs 0 0 Q (F0 m 65 ls []) := by
        intro x2 x3 x4 x5 q_o l_o o_reached g_o g_t mm H locs ls hP hD hS hl hw
        unfold w313_L65 at hw
        obtain ⟨z1, ez1⟩ : ∃ y : Int32, y = x4 + 1 := ⟨_, rfl⟩
        have hw := hw z1 ez1
        refine lv_iinc (v := z1) (lv' := [(4, .int z1), (0, .ref (hm a0x)), (1, .ref (pa a1x)), (2, .int x2), (3, .int x3), (5, .int x5)]) hx hb px_d313_65 hl (k := 4) rfl (by rw [ez1]; rfl) (by decide) rfl (fun ls hl => ?_)
        refine lv_goto (tgt := 8) hx hb px_d313_68 (by decide) ?_
        exact ih8 x2 x3 z1 q_o l_o o_reached g_o g_t mm H locs ls hP hD hS (lv_sub hl [1, 2, 3, 4, 0] rfl) hw
      have S31 : ∀ (x2 : Int32) (x3 : Int32) (x4 : Int32) (y0 : Int32) (q_o : Nat) (l_o : Nat) (o_reached : Int32) (g_o : Nat → Int32) (g_t : Nat → Int32) (mm : Nat → px_MR) (H : Heap) (locs : List Loc) (ls : Array Slot), va_P (dC, dI) vwCl (([(ho, .inr (1, [.ref q_o, .ref q_t, .int o_reached])), (q_o, .inl (cc.2.1, l_o, .inl g_o)), (q_t, .inl (cc.2.1, 182, .inl g_t))] : va_W) ++ px_cp cc ho cm np ns hm pa sa mm pp ss) H → va_D A (([(ho, .inr (1, [.ref q_o, .ref q_t, .int o_reached])), (q_o, .inl (cc.2.1, l_o, .inl g_o)), (q_t, .inl (cc.2.1, 182, .inl g_t))] : va_W) ++ px_cp cc ho cm np ns hm pa sa mm pp ss) → va_S A s.heap H locs → lv_has ls 6 [(0, .ref (hm a0x)), (1, .ref (pa a1x)), (2, .int x2), (3, .int x3), (4, .int x4)] → w313_L31 (w313_L8 a0x cm np ns pa sa pp ss a1x post k8) a0x cm np ns pa sa pp ss a1x post x2 x3 x4 y0 q_o l_o o_reached g_o g_t mm → W p l e (headSpec px_s313 ({ frames := 0, cells := 0, slots := 0, locals := 0 })).room s m ([.ref (hm a0x), .ref (pa a1x), .int a2x]).toArray below meth c H locs 0 0 Q (F0 m 31 ls [.int y0]) := by
        intro x2 x3 x4 y0 q_o l_o o_reached g_o g_t mm H locs ls hP hD hS hl hw
        unfold w313_L31 at hw
        refine lv_istore (lv' := [(5, .int y0), (0, .ref (hm a0x)), (1, .ref (pa a1x)), (2, .int x2), (3, .int x3), (4, .int x4)]) hx hb px_d313_31 hl (by decide) rfl (fun ls hl => ?_)
        refine lv_aload_n hx hb px_d313_33 rfl (lv_at hl 1 rfl) ?_
        obtain ⟨hp34, hw⟩ := hw
        refine va_get (D := (dC, dI)) (ci := 10) (v := .ref ((mm a0x).1 1)) (C := "MatroidDesk$Matroid") (T := px_T10) (N := 15) hx hb htw px_in10 hown hK hP (3 + (13 * a0x + 0)) (px_cg0 rfl hp34) rfl 1 (by decide) (htw _ px_w1000) (fun _ h9 => h9) rfl px_d313_34 ?_
        refine lv_iload hx hb px_d313_37 (lv_at hl 5 rfl) ?_
        obtain ⟨hp39, hw⟩ := hw
        obtain ⟨hi39, hw⟩ := hw
        refine va_aldq hx hb hK hP (3 + (13 * a0x + 1)) 3 (px_cg1 rfl hp39) rfl hi39 px_d313_39 ?_
        refine W.eq (g2 := F0 m 40 ls (va_rf (Option.map pa ((mm a0x).2.2.2.2.2 (Int32.toNatClampNeg x4))) :: [])) rfl ?_
        cases hz40_2 : (mm a0x).2.2.2.2.2 (Int32.toNatClampNeg x4) with
        | none =>
          have hw := hw.1 hz40_2
          refine W.eq (g2 := F0 m 40 ls (.null :: [])) rfl ?_
          refine lv_aload_n hx hb px_d313_40 rfl (lv_at hl 2 rfl) ?_
          refine lv_acmp_ne (rx := none) (ry := some (pa a1x)) (tgt := 65) hx hb px_d313_41 (by decide) (fun _ => ?_) (fun h9 => absurd h9 (by simp))
          exact S65 x2 x3 x4 y0 q_o l_o o_reached g_o g_t mm H locs ls hP hD hS (lv_sub hl [1, 2, 3, 4, 5, 0] rfl) hw
        | some k40_2 =>
          have hw := hw.2 k40_2 hz40_2
          refine W.eq (g2 := F0 m 40 ls (.ref (pa k40_2) :: [])) rfl ?_
          refine lv_aload_n hx hb px_d313_40 rfl (lv_at hl 2 rfl) ?_
          obtain ⟨hpp41, hw⟩ := hw
          obtain ⟨hqq41, hw⟩ := hw
          refine lv_acmp_ne (rx := some (pa k40_2)) (ry := some (pa a1x)) (tgt := 65) hx hb px_d313_41 (by decide) (fun c41 => ?_) (fun c41 => ?_)
          · have hw := hw.2 (fun z => c41 (congrArg (fun k => some (pa k)) z))
            exact S65 x2 x3 x4 y0 q_o l_o o_reached g_o g_t mm H locs ls hP hD hS (lv_sub hl [1, 2, 3, 4, 5, 0] rfl) hw
          · have hw := hw.1 (px_painj hD hpp41 hqq41 (Option.some.inj c41))
            refine lv_iload hx hb px_d313_44 (lv_at hl 0 rfl) ?_
            refine lv_aload_n hx hb px_d313_46 rfl (lv_at hl 2 rfl) ?_
            obtain ⟨hpp47, hw⟩ := hw
            refine va_getN (D := (dC, dI)) (ci := 11) (v := .int ((pp a1x).2.2)) (C := "MatroidDesk$Part") (T := px_T11) (N := 3) hx hb htw px_in11 hown hK hP (3 + (13 * cm + a1x)) (px_gp rfl hpp47) rfl 2 (by decide) (va_Nw.use (w := .fieldLinkNest "MatroidDesk$Matroid" 150 "MatroidDesk$Part" "turned" "Z" "MatroidDesk") rfl (hN.1 ("MatroidDesk$Matroid", 150, "MatroidDesk$Part", "turned", "Z", "MatroidDesk") px_nf24)) (fun _ h9 => h9) rfl px_d313_47 ?_
            refine lv_icmp_eq (tgt := 65) hx hb px_d313_50 (by decide) (fun c50 => ?_) (fun c50 => ?_)
            · have hw := hw.1 c50
              exact S65 x2 x3 x4 y0 q_o l_o o_reached g_o g_t mm H locs ls hP hD hS (lv_sub hl [1, 2, 3, 4, 5, 0] rfl) hw
            · have hw := hw.2 c50
              refine lv_iload_n hx hb px_d313_53 rfl (lv_at hl 4 rfl) ?_
              refine lv_iconst (v := 1) hx hb px_d313_54 (by decide) ?_
              refine lv_aload_n hx hb px_d313_55 rfl (lv_at hl 1 rfl) ?_
              obtain ⟨hp56, hw⟩ := hw
              refine va_get (D := (dC, dI)) (ci := 10) (v := .ref ((mm a0x).1 2)) (C := "MatroidDesk$Matroid") (T := px_T10) (N := 15) hx hb htw px_in10 hown hK hP (3 + (13 * a0x + 0)) (px_cg0 rfl hp56) rfl 2 (by decide) (htw _ px_w1001) (fun _ h9 => h9) rfl px_d313_56 ?_
              refine lv_iload hx hb px_d313_59 (lv_at hl 5 rfl) ?_
              obtain ⟨hp61, hw⟩ := hw
              obtain ⟨hi61, hw⟩ := hw
              refine va_iald hx hb hK hP (3 + (13 * a0x + 2)) 0 (px_cg2 rfl hp61) rfl hi61 px_d313_61 ?_
              refine lv_ishl hx hb px_d313_62 ?_
              refine lv_ior hx hb px_d313_63 ?_
              refine lv_topi (fun z3 ez3 => ?_)
              have hw := hw z3 ez3
              refine lv_istore_n (lv' := [(3, .int z3), (5, .int y0), (0, .ref (hm a0x)), (1, .ref (pa a1x)), (2, .int x2), (4, .int x4)]) hx hb px_d313_64 rfl hl (by decide) rfl (fun ls hl => ?_)
              exact S65 x2 z3 x4 y0 q_o l_o o_reached g_o g_t mm H locs ls hP hD hS (lv_sub hl [2, 3, 4, 0, 5, 1] rfl) hw
      intro x2 x3 x4 q_o l_o o_reached g_o g_t mm H locs ls hP hD hS hl hw
      unfold w313_L8 at hw
      refine lv_iload hx hb px_d313_8 (lv_at hl 4 rfl) ?_
      refine lv_aload_n hx hb px_d313_10 rfl (lv_at hl 0 rfl) ?_
      obtain ⟨hp11, hw⟩ := hw
      refine va_get (D := (dC, dI)) (ci := 10) (v := .int ((mm a0x).2.1 13)) (C := "MatroidDesk$Matroid") (T := px_T10) (N := 15) hx hb htw px_in10 hown hK hP (3 + (13 * a0x + 0)) (px_cg0 rfl hp11) rfl 13 (by decide) (htw _ px_w1264) (fun _ h9 => h9) rfl px_d313_11 ?_
      refine lv_icmp_ge (tgt := 71) hx hb px_d313_14 (by decide) (fun c14 => ?_) (fun c14 => ?_)
      · have hw := hw.1 c14
        refine lv_iload_n hx hb px_d313_71 rfl (lv_at hl 3 rfl) ?_
        rw [← hQ]
        exact W.iret (v := x3) hx hb hr (fun t ht hW => ⟨⟨x3, (q_o, l_o, o_reached, g_o, g_t, mm), rfl, hw, by rw [ht]; exact hP, va_K.moved hW.alike hK, hD⟩, hS.F ht⟩) hS.2.2 px_d313_72
      · have hw := hw.2 c14
        refine lv_iload_n hx hb px_d313_17 rfl (lv_at hl 2 rfl) ?_
        refine lv_iload hx hb px_d313_18 (lv_at hl 4 rfl) ?_
        refine lv_ishr hx hb px_d313_20 ?_
        refine lv_iconst (v := 1) hx hb px_d313_21 (by decide) ?_
        refine lv_iand hx hb px_d313_22 ?_
        refine lv_if_eq (tgt := 30) hx hb px_d313_23 (by decide) (fun c23 => ?_) (fun c23 => ?_)
        · have hw := hw.1 c23
          refine lv_iconst (v := 0) hx hb px_d313_30 (by decide) ?_
          exact S31 x2 x3 x4 0 q_o l_o o_reached g_o g_t mm H locs ls hP hD hS (lv_sub hl [0, 1, 2, 3, 4] rfl) hw
        · have hw := hw.2 c23
          refine lv_iconst (v := 1) hx hb px_d313_26 (by decide) ?_
          refine lv_goto (tgt := 31) hx hb px_d313_27 (by decide) ?_
          exact S31 x2 x3 x4 1 q_o l_o o_reached g_o g_t mm H locs ls hP hD hS (lv_sub hl [0, 1, 2, 3, 4] rfl) hw
  unfold w313_wp at hw
  have hS0 := hS
  obtain ⟨H, hH9⟩ : ∃ z, z = s.heap := ⟨_, rfl⟩
  have hP : va_P (dC, dI) vwCl (([(ho, .inr (1, [.ref q_o, .ref q_t, .int o_reached])), (q_o, .inl (cc.2.1, l_o, .inl g_o)), (q_t, .inl (cc.2.1, 182, .inl g_t))] : va_W) ++ px_cp cc ho cm np ns hm pa sa mm pp ss) H := by rw [hH9]; exact hP
  obtain ⟨locs, hlo9⟩ : ∃ z : List Loc, z = [] := ⟨_, rfl⟩
  have hS : va_S A s.heap H locs := by rw [hH9, hlo9]; exact hS
  suffices hG : W p l e (headSpec px_s313 ({ frames := 0, cells := 0, slots := 0, locals := 0 })).room s m ([.ref (hm a0x), .ref (pa a1x), .int a2x]).toArray below meth c H locs 0 0 Q (F0 m 0 ls []) by rw [hH9, hlo9] at hG; exact hG
  refine lv_aload_n hx hb px_d313_0 rfl (lv_at hl 1 rfl) ?_
  obtain ⟨hpp1, hw⟩ := hw
  refine va_getN (D := (dC, dI)) (ci := 11) (v := .int ((pp a1x).2.1)) (C := "MatroidDesk$Part") (T := px_T11) (N := 3) hx hb htw px_in11 hown hK hP (3 + (13 * cm + a1x)) (px_gp rfl hpp1) rfl 1 (by decide) (va_Nw.use (w := .fieldLinkNest "MatroidDesk$Matroid" 147 "MatroidDesk$Part" "held" "I" "MatroidDesk") rfl (hN.1 ("MatroidDesk$Matroid", 147, "MatroidDesk$Part", "held", "I", "MatroidDesk") px_nf23)) (fun _ h9 => h9) rfl px_d313_1 ?_
  refine lv_topi (fun z4 ez4 => ?_)
  have hw := hw z4 ez4
  refine lv_istore_n (lv' := [(3, .int z4), (0, .ref (hm a0x)), (1, .ref (pa a1x)), (2, .int a2x)]) hx hb px_d313_4 rfl hl (by decide) rfl (fun ls hl => ?_)
  refine lv_iconst (v := 0) hx hb px_d313_5 (by decide) ?_
  refine lv_istore (lv' := [(4, .int 0), (3, .int z4), (0, .ref (hm a0x)), (1, .ref (pa a1x)), (2, .int a2x)]) hx hb px_d313_6 hl (by decide) rfl (fun ls hl => ?_)
  obtain ⟨k9, hw⟩ := hw
  exact S8 k9 a2x z4 0 q_o l_o o_reached g_o g_t mm H locs ls hP hD hS (lv_sub hl [2, 3, 4, 1, 0] rfl) hw

