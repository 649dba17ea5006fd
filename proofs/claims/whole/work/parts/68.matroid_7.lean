/-! MatroidDesk$Matroid.turn(LMatroidDesk$Matroid;)V -/
def w258_L88 (K32 : Int32 → Nat → Nat → Int32 → (Nat → Int32) → (Nat → Int32) → (Nat → px_MR) → Nat → (Nat → Nat) → (Nat → px_PR) → Nat → Nat → Prop) (a0x : Nat) (cm : Nat) (ns : Nat) (sa : Nat → Nat) (ss : Nat → px_SR) (a1x : Nat) (mc : Nat) (ms : Nat) (post : Nat → Nat → Int32 → (Nat → Int32) → (Nat → Int32) → (Nat → px_MR) → Nat → (Nat → Nat) → (Nat → px_PR) → Prop) (x2 : Int32) (x3 : Int32) (x4 : Int32) (y0 : Int32) (y1 : Int32) (q_o : Nat) (l_o : Nat) (o_reached : Int32) (g_o : Nat → Int32) (g_t : Nat → Int32) (mm : Nat → px_MR) (np : Nat) (pa : Nat → Nat) (pp : Nat → px_PR) (kc : Nat) (ks : Nat) : Prop := ∀ z1 : Int32, z1 = y0.toInt8.toInt32 → a0x < cm ∧ (vp_in y1 ((mm a0x).2.2.1 6) ∧ (∀ mm2 : Nat → px_MR, mm2 = va_up mm a0x ((mm a0x).1, (mm a0x).2.1, (mm a0x).2.2.1, va_up (mm a0x).2.2.2.1 6 (upd ((mm a0x).2.2.2.1 6) (Int32.toNatClampNeg y1) (vp_nar .byte z1)), (mm a0x).2.2.2.2) → (∀ z3 : Int32, z3 = x2 + 1 → K32 z3 q_o l_o o_reached g_o g_t mm2 np pa pp kc ks)))
def w258_L70 (K32 : Int32 → Nat → Nat → Int32 → (Nat → Int32) → (Nat → Int32) → (Nat → px_MR) → Nat → (Nat → Nat) → (Nat → px_PR) → Nat → Nat → Prop) (a0x : Nat) (cm : Nat) (ns : Nat) (sa : Nat → Nat) (ss : Nat → px_SR) (a1x : Nat) (mc : Nat) (ms : Nat) (post : Nat → Nat → Int32 → (Nat → Int32) → (Nat → Int32) → (Nat → px_MR) → Nat → (Nat → Nat) → (Nat → px_PR) → Prop) (x2 : Int32) (x3 : Int32) (y0 : Int32) (q_o : Nat) (l_o : Nat) (o_reached : Int32) (g_o : Nat → Int32) (g_t : Nat → Int32) (mm : Nat → px_MR) (np : Nat) (pa : Nat → Nat) (pp : Nat → px_PR) (kc : Nat) (ks : Nat) : Prop := a0x < cm ∧ ((y0 = 0 → w258_L88 K32 a0x cm ns sa ss a1x mc ms post x2 x3 y0 x3 x2 q_o l_o o_reached g_o g_t mm np pa pp kc ks) ∧ (¬ y0 = 0 → w258_L88 K32 a0x cm ns sa ss a1x mc ms post x2 x3 y0 (-x3) x2 q_o l_o o_reached g_o g_t mm np pa pp kc ks))
def w258_L32 (a0x : Nat) (cm : Nat) (ns : Nat) (sa : Nat → Nat) (ss : Nat → px_SR) (a1x : Nat) (mc : Nat) (ms : Nat) (post : Nat → Nat → Int32 → (Nat → Int32) → (Nat → Int32) → (Nat → px_MR) → Nat → (Nat → Nat) → (Nat → px_PR) → Prop) : Nat → Int32 → Nat → Nat → Int32 → (Nat → Int32) → (Nat → Int32) → (Nat → px_MR) → Nat → (Nat → Nat) → (Nat → px_PR) → Nat → Nat → Prop
  | 0 => fun _ _ _ _ _ _ _ _ _ _ _ _ => False
  | k + 1 => fun x2 q_o l_o o_reached g_o g_t mm np pa pp kc ks => a0x < cm ∧ (w249_wp a0x cm np ns pa sa pp ss (fun r34 v4 v5 v6 v7 v8 v9 => (r34 < x2 → a0x < cm ∧ (w251_wp a0x cm np ns pa sa pp ss (fun v11 v12 v13 v14 v15 v16 => post v11 v12 v13 v14 v15 v16 np pa pp) v4 v5 v6 v7 v8 v9)) ∧ (¬ r34 < x2 → a1x < cm ∧ (a0x < cm ∧ (w249_wp a0x cm np ns pa sa pp ss (fun r45 v18 v19 v20 v21 v22 v23 => (v9 a1x).1 6 = (v23 a1x).1 6 ∧ a1x < cm ∧ (vp_in (r45 ^^^ x2) ((v23 a1x).2.2.1 6) ∧ (∀ z25 : Int32, z25 = ((v23 a1x).2.2.2.1 6) (Int32.toNatClampNeg (r45 ^^^ x2)) → (w250_wp (fun r57  => ((r57 &&& 1) = 0 → w258_L70 (w258_L32 a0x cm ns sa ss a1x mc ms post k) a0x cm ns sa ss a1x mc ms post x2 z25 0 v18 v19 v20 v21 v22 v23 np pa pp kc ks) ∧ (¬ (r57 &&& 1) = 0 → w258_L70 (w258_L32 a0x cm ns sa ss a1x mc ms post k) a0x cm ns sa ss a1x mc ms post x2 z25 1 v18 v19 v20 v21 v22 v23 np pa pp kc ks)) (x2 &&& 2730))))) v4 v5 v6 v7 v8 v9)))) q_o l_o o_reached g_o g_t mm)
def w258_wp (a0x : Nat) (cm : Nat) (ns : Nat) (sa : Nat → Nat) (ss : Nat → px_SR) (a1x : Nat) (mc : Nat) (ms : Nat) (post : Nat → Nat → Int32 → (Nat → Int32) → (Nat → Int32) → (Nat → px_MR) → Nat → (Nat → Nat) → (Nat → px_PR) → Prop) (q_o : Nat) (l_o : Nat) (o_reached : Int32) (g_o : Nat → Int32) (g_t : Nat → Int32) (mm : Nat → px_MR) (np : Nat) (pa : Nat → Nat) (pp : Nat → px_PR) : Prop := a1x < cm ∧ (a1x < cm ∧ (a1x < cm ∧ (a1x < cm ∧ (∃ m18_33 s18_33 : Nat, 0 + m18_33 ≤ mc ∧ 0 + s18_33 ≤ ms ∧ a0x < cm ∧ (w246_wp a0x cm np ns pa sa pp ss m18_33 s18_33 (fun v27 v28 v29 v30 v31 v32 => ∃ m27_44 s27_44 : Nat, 0 + m18_33 + m27_44 ≤ mc ∧ 0 + s18_33 + s27_44 ≤ ms ∧ a0x < cm ∧ (w259_wp a0x cm ns sa ss a1x m27_44 s27_44 (fun v35 v36 v37 v38 v39 v40 v41 v42 v43 => ∃ j32, w258_L32 a0x cm ns sa ss a1x mc ms post j32 0 v35 v36 v37 v38 v39 v40 v41 v42 v43 (0 + m18_33 + m27_44) (0 + s18_33 + s27_44)) 0 0 0 1 v27 v28 v29 v30 v31 v32 np pa pp)) ((mm a1x).2.1 12) ((mm a1x).2.1 13) (((mm a1x).2.1 13) - ((mm a1x).2.1 14)) q_o l_o o_reached g_o g_t mm)))))
set_option maxHeartbeats 8000000 in
set_option maxRecDepth 100000 in
theorem w258_met (l : Launch) (dC : Nat → ClassId) (dI : Nat → Nat → Nat) (sz : Nat) (ho : Nat) (q_t : Nat) (a0x : Nat) (cc : px_CC) (cm : Nat) (ns : Nat) (hm : Nat → Nat) (sa : Nat → Nat) (ss : Nat → px_SR) (a1x : Nat) (mc : Nat) (ms : Nat) (q_o : Nat) (l_o : Nat) (o_reached : Int32) (g_o : Nat → Int32) (g_t : Nat → Int32) (mm : Nat → px_MR) (np : Nat) (pa : Nat → Nat) (pp : Nat → px_PR) (post : Nat → Nat → Int32 → (Nat → Int32) → (Nat → Int32) → (Nat → px_MR) → Nat → (Nat → Nat) → (Nat → px_PR) → Prop) (hw : w258_wp a0x cm ns sa ss a1x mc ms post q_o l_o o_reached g_o g_t mm np pa pp) : Met l px_y258 px_s258 ({ frames := 4, cells := mc, slots := ms, locals := 93 }) (va_Pc [.ref (hm a0x), .ref (hm a1x)] (fun U => U.heap.size = sz ∧ va_P (dC, dI) vwCl (([(ho, .inr (1, [.ref q_o, .ref q_t, .int o_reached])), (q_o, .inl (cc.2.1, l_o, .inl g_o)), (q_t, .inl (cc.2.1, 182, .inl g_t))] : va_W) ++ px_cp cc ho cm np ns hm pa sa mm pp ss) U.heap ∧ va_K (dC, dI) vwCl [(cc.2.1, .int), (cc.2.2.2.1, .byte), (cc.2.2.2.2, .long), (cc.1, .object "MatroidDesk$Part"), (cc.2.2.1, (.array .int))] U ∧ va_D (fun _ => True) (([(ho, .inr (1, [.ref q_o, .ref q_t, .int o_reached])), (q_o, .inl (cc.2.1, l_o, .inl g_o)), (q_t, .inl (cc.2.1, 182, .inl g_t))] : va_W) ++ px_cp cc ho cm np ns hm pa sa mm pp ss) ∧ px_N U)) (va_Qv (fun (u : Nat × Nat × Int32 × (Nat → Int32) × (Nat → Int32) × (Nat → px_MR) × Nat × (Nat → Nat) × (Nat → px_PR)) => post u.1 u.2.1 u.2.2.1 u.2.2.2.1 u.2.2.2.2.1 u.2.2.2.2.2.1 u.2.2.2.2.2.2.1 u.2.2.2.2.2.2.2.1 u.2.2.2.2.2.2.2.2) (fun (u : Nat × Nat × Int32 × (Nat → Int32) × (Nat → Int32) × (Nat → px_MR) × Nat × (Nat → Nat) × (Nat → px_PR)) (t : State) => va_P (dC, dI) vwCl (([(ho, .inr (1, [.ref u.1, .ref q_t, .int u.2.2.1])), (u.1, .inl (cc.2.1, u.2.1, .inl u.2.2.2.1)), (q_t, .inl (cc.2.1, 182, .inl u.2.2.2.2.1))] : va_W) ++ px_cp cc ho cm u.2.2.2.2.2.2.1 ns hm u.2.2.2.2.2.2.2.1 sa u.2.2.2.2.2.1 u.2.2.2.2.2.2.2.2 ss) t.heap ∧ va_K (dC, dI) vwCl [(cc.2.1, .int), (cc.2.2.2.1, .byte), (cc.2.2.2.2, .long), (cc.1, .object "MatroidDesk$Part"), (cc.2.2.1, (.array .int))] t ∧ va_D (va_A (([(ho, .inr (1, [.ref q_o, .ref q_t, .int o_reached])), (q_o, .inl (cc.2.1, l_o, .inl g_o)), (q_t, .inl (cc.2.1, 182, .inl g_t))] : va_W) ++ px_cp cc ho cm np ns hm pa sa mm pp ss) sz) (([(ho, .inr (1, [.ref u.1, .ref q_t, .int u.2.2.1])), (u.1, .inl (cc.2.1, u.2.1, .inl u.2.2.2.1)), (q_t, .inl (cc.2.1, 182, .inl u.2.2.2.2.1))] : va_W) ++ px_cp cc ho cm u.2.2.2.2.2.2.1 ns hm u.2.2.2.2.2.2.2.1 sa u.2.2.2.2.2.1 u.2.2.2.2.2.2.2.2 ss)) (va_A (([(ho, .inr (1, [.ref q_o, .ref q_t, .int o_reached])), (q_o, .inl (cc.2.1, l_o, .inl g_o)), (q_t, .inl (cc.2.1, 182, .inl g_t))] : va_W) ++ px_cp cc ho cm np ns hm pa sa mm pp ss) sz)) mc ms (va_A (([(ho, .inr (1, [.ref q_o, .ref q_t, .int o_reached])), (q_o, .inl (cc.2.1, l_o, .inl g_o)), (q_t, .inl (cc.2.1, 182, .inl g_t))] : va_W) ++ px_cp cc ho cm np ns hm pa sa mm pp ss) sz) := by
  refine Met.ofW (cc := prog_3_method_3_code) (maxL := 5) (ret := none) (by decide) rfl ?_
  intro p e s m args below meth c s₁ B hml hv
  obtain ⟨rfl, hsz, hP, hK, hD0, hN⟩ := hv
  have hx := B.exec
  have hb := B.bytes
  have hr := B.returns
  have htw : ∀ w ∈ px_all, w.before _ s = true := fun w h => atoms_spec (ws := px_s258) B.pre w (List.mem_cons_of_mem _ h)
  have hown : s.vm.findClass "MatroidDesk$Matroid" = some m.cls := findClass_of_methodNamed B.named
  have hlocks := B.notSynchronized
  subst hsz
  have hD := hD0.self (sz := s.heap.size)
  generalize hAe : va_A (([(ho, .inr (1, [.ref q_o, .ref q_t, .int o_reached])), (q_o, .inl (cc.2.1, l_o, .inl g_o)), (q_t, .inl (cc.2.1, 182, .inl g_t))] : va_W) ++ px_cp cc ho cm np ns hm pa sa mm pp ss) s.heap.size = A at hD ⊢
  have hA : ∀ q : Nat, s.heap.size ≤ q → A q := fun q h => by rw [← hAe]; exact Or.inr h
  have hS : va_S A s.heap s.heap [] := va_S.rf
  have hP : va_P (dC, dI) vwCl (([(ho, .inr (1, [.ref q_o, .ref q_t, .int o_reached])), (q_o, .inl (cc.2.1, l_o, .inl g_o)), (q_t, .inl (cc.2.1, 182, .inl g_t))] : va_W) ++ px_cp cc ho cm np ns hm pa sa mm pp ss) s.heap := hP
  have hl := lv_entry ([.ref (hm a0x), .ref (hm a1x)]) (n := 5) (Nat.le_of_ble_eq_true rfl)
  rw [lg_entry_eq]
  generalize (lg_sl ([.ref (hm a0x), .ref (hm a1x)]) ++ List.replicate (5 - (lg_sl ([.ref (hm a0x), .ref (hm a1x)])).length) Slot.unset).toArray = ls at hl ⊢
  have hl : lv_has ls 5 [(0, .ref (hm a0x)), (1, .ref (hm a1x))] := hl
  generalize hQ : MQ _ _ _ _ _ _ _ = Q
  have S32 : ∀ (k32 : Nat) (x2 : Int32) (q_o : Nat) (l_o : Nat) (o_reached : Int32) (g_o : Nat → Int32) (g_t : Nat → Int32) (mm : Nat → px_MR) (np : Nat) (pa : Nat → Nat) (pp : Nat → px_PR) (kc : Nat) (ks : Nat) (H : Heap) (locs : List Loc) (ls : Array Slot), kc ≤ mc → ks ≤ ms → va_P (dC, dI) vwCl (([(ho, .inr (1, [.ref q_o, .ref q_t, .int o_reached])), (q_o, .inl (cc.2.1, l_o, .inl g_o)), (q_t, .inl (cc.2.1, 182, .inl g_t))] : va_W) ++ px_cp cc ho cm np ns hm pa sa mm pp ss) H → va_D A (([(ho, .inr (1, [.ref q_o, .ref q_t, .int o_reached])), (q_o, .inl (cc.2.1, l_o, .inl g_o)), (q_t, .inl (cc.2.1, 182, .inl g_t))] : va_W) ++ px_cp cc ho cm np ns hm pa sa mm pp ss) → va_S A s.heap H locs → lv_has ls 5 [(0, .ref (hm a0x)), (1, .ref (hm a1x)), (2, .int x2)] → w258_L32 a0x cm ns sa ss a1x mc ms post k32 x2 q_o l_o o_reached g_o g_t mm np pa pp kc ks → W p l e (headSpec px_s258 ({ frames := 4, cells := mc, slots := ms, locals := 93 })).room s m ([.ref (hm a0x), .ref (hm a1x)]).toArray below meth c H locs kc ks Q (F0 m 32 ls []) := by
    intro k32
    induction k32 with
    | zero => intro x2 q_o l_o o_reached g_o g_t mm np pa pp kc ks H locs ls hkc hks hP hD hS hl hw; exact False.elim hw
    | succ k32 ih32 =>
      have S88 : ∀ (x2 : Int32) (x3 : Int32) (x4 : Int32) (y0 : Int32) (y1 : Int32) (q_o : Nat) (l_o : Nat) (o_reached : Int32) (g_o : Nat → Int32) (g_t : Nat → Int32) (mm : Nat → px_MR) (np : Nat) (pa : Nat → Nat) (pp : Nat → px_PR) (kc : Nat) (ks : Nat) (H : Heap) (locs : List Loc) (ls : Array Slot), kc ≤ mc → ks ≤ ms → va_P (dC, dI) vwCl (([(ho, .inr (1, [.ref q_o, .ref q_t, .int o_reached])), (q_o, .inl (cc.2.1, l_o, .inl g_o)), (q_t, .inl (cc.2.1, 182, .inl g_t))] : va_W) ++ px_cp cc ho cm np ns hm pa sa mm pp ss) H → va_D A (([(ho, .inr (1, [.ref q_o, .ref q_t, .int o_reached])), (q_o, .inl (cc.2.1, l_o, .inl g_o)), (q_t, .inl (cc.2.1, 182, .inl g_t))] : va_W) ++ px_cp cc ho cm np ns hm pa sa mm pp ss) → va_S A s.heap H locs → lv_has ls 5 [(0, .ref (hm a0x)), (1, .ref (hm a1x)), (2, .int x2), (3, .int x3), (4, .int x4)] → w258_L88 (w258_L32 a0x cm ns sa ss a1x mc ms post k32) a0x cm ns sa ss a1x mc ms post x2 x3 x4 y0 y1 q_o l_o o_reached g_o g_t mm np pa pp kc ks → W p l e (headSpec px_s258 ({ frames := 4, cells := mc, slots := ms, locals := 93 })).room s m ([.ref (hm a0x), .ref (hm a1x)]).toArray below meth c H locs kc ks Q (F0 m 88 ls [.int y0, .int y1, .ref ((mm a0x).1 6)]) := by
        intro x2 x3 x4 y0 y1 q_o l_o o_reached g_o g_t mm np pa pp kc ks H locs ls hkc hks hP hD hS hl hw
        unfold w258_L88 at hw
        refine lv_i2b (v := y0.toInt8.toInt32) hx hb px_d258_88 rfl ?_
        refine lv_topi (fun z1 ez1 => ?_)
        have hw := hw z1 ez1
        obtain ⟨hp89, hw⟩ := hw
        obtain ⟨hi89, hw⟩ := hw
        obtain ⟨mm2, emm2⟩ : ∃ z : Nat → px_MR, z = va_up mm a0x ((mm a0x).1, (mm a0x).2.1, (mm a0x).2.2.1, va_up (mm a0x).2.2.2.1 6 (upd ((mm a0x).2.2.2.1 6) (Int32.toNatClampNeg y1) (vp_nar .byte z1)), (mm a0x).2.2.2.2) := ⟨_, rfl⟩
        refine va_bast hx hb hK hP hD hS (3 + (13 * a0x + 6)) 1 (px_cg6 rfl hp89) rfl hi89 px_d258_89 (fun H locs hP hD hS => ?_)
        have hP : va_P (dC, dI) vwCl (([(ho, .inr (1, [.ref q_o, .ref q_t, .int o_reached])), (q_o, .inl (cc.2.1, l_o, .inl g_o)), (q_t, .inl (cc.2.1, 182, .inl g_t))] : va_W) ++ px_cp cc ho cm np ns hm pa sa mm2 pp ss) H := px_csP rfl hp89 (by decide) rfl (px_hr6 _ _ _) emm2 hP
        have hD : va_D A (([(ho, .inr (1, [.ref q_o, .ref q_t, .int o_reached])), (q_o, .inl (cc.2.1, l_o, .inl g_o)), (q_t, .inl (cc.2.1, 182, .inl g_t))] : va_W) ++ px_cp cc ho cm np ns hm pa sa mm2 pp ss) := px_csD rfl hp89 (by decide) rfl (px_hr6 _ _ _) emm2 hD
        have hw := hw mm2 emm2
        obtain ⟨z3, ez3⟩ : ∃ y : Int32, y = x2 + 1 := ⟨_, rfl⟩
        have hw := hw z3 ez3
        refine lv_iinc (v := z3) (lv' := [(2, .int z3), (0, .ref (hm a0x)), (1, .ref (hm a1x)), (3, .int x3), (4, .int x4)]) hx hb px_d258_90 hl (k := 2) rfl (by rw [ez3]; rfl) (by decide) rfl (fun ls hl => ?_)
        refine lv_goto (tgt := 32) hx hb px_d258_93 (by decide) ?_
        exact ih32 z3 q_o l_o o_reached g_o g_t mm2 np pa pp kc ks H locs ls hkc hks hP hD hS (lv_sub hl [1, 2, 0] rfl) hw
      have S70 : ∀ (x2 : Int32) (x3 : Int32) (y0 : Int32) (q_o : Nat) (l_o : Nat) (o_reached : Int32) (g_o : Nat → Int32) (g_t : Nat → Int32) (mm : Nat → px_MR) (np : Nat) (pa : Nat → Nat) (pp : Nat → px_PR) (kc : Nat) (ks : Nat) (H : Heap) (locs : List Loc) (ls : Array Slot), kc ≤ mc → ks ≤ ms → va_P (dC, dI) vwCl (([(ho, .inr (1, [.ref q_o, .ref q_t, .int o_reached])), (q_o, .inl (cc.2.1, l_o, .inl g_o)), (q_t, .inl (cc.2.1, 182, .inl g_t))] : va_W) ++ px_cp cc ho cm np ns hm pa sa mm pp ss) H → va_D A (([(ho, .inr (1, [.ref q_o, .ref q_t, .int o_reached])), (q_o, .inl (cc.2.1, l_o, .inl g_o)), (q_t, .inl (cc.2.1, 182, .inl g_t))] : va_W) ++ px_cp cc ho cm np ns hm pa sa mm pp ss) → va_S A s.heap H locs → lv_has ls 5 [(0, .ref (hm a0x)), (1, .ref (hm a1x)), (2, .int x2), (3, .int x3)] → w258_L70 (w258_L32 a0x cm ns sa ss a1x mc ms post k32) a0x cm ns sa ss a1x mc ms post x2 x3 y0 q_o l_o o_reached g_o g_t mm np pa pp kc ks → W p l e (headSpec px_s258 ({ frames := 4, cells := mc, slots := ms, locals := 93 })).room s m ([.ref (hm a0x), .ref (hm a1x)]).toArray below meth c H locs kc ks Q (F0 m 70 ls [.int y0]) := by
        intro x2 x3 y0 q_o l_o o_reached g_o g_t mm np pa pp kc ks H locs ls hkc hks hP hD hS hl hw
        unfold w258_L70 at hw
        refine lv_istore (lv' := [(4, .int y0), (0, .ref (hm a0x)), (1, .ref (hm a1x)), (2, .int x2), (3, .int x3)]) hx hb px_d258_70 hl (by decide) rfl (fun ls hl => ?_)
        refine lv_aload_n hx hb px_d258_72 rfl (lv_at hl 1 rfl) ?_
        obtain ⟨hp73, hw⟩ := hw
        refine va_get (D := (dC, dI)) (ci := 10) (v := .ref ((mm a0x).1 6)) (C := "MatroidDesk$Matroid") (T := px_T10) (N := 15) hx hb htw px_in10 hown hK hP (3 + (13 * a0x + 0)) (px_cg0 rfl hp73) rfl 6 (by decide) (htw _ px_w1005) (fun _ h9 => h9) rfl px_d258_73 ?_
        refine lv_iload_n hx hb px_d258_76 rfl (lv_at hl 3 rfl) ?_
        refine lv_iload hx hb px_d258_77 (lv_at hl 0 rfl) ?_
        refine lv_if_eq (tgt := 87) hx hb px_d258_79 (by decide) (fun c79 => ?_) (fun c79 => ?_)
        · have hw := hw.1 c79
          refine lv_iload_n hx hb px_d258_87 rfl (lv_at hl 4 rfl) ?_
          exact S88 x2 x3 y0 x3 x2 q_o l_o o_reached g_o g_t mm np pa pp kc ks H locs ls hkc hks hP hD hS (lv_sub hl [1, 2, 3, 4, 0] rfl) hw
        · have hw := hw.2 c79
          refine lv_iload_n hx hb px_d258_82 rfl (lv_at hl 4 rfl) ?_
          refine lv_ineg hx hb px_d258_83 ?_
          refine lv_goto (tgt := 88) hx hb px_d258_84 (by decide) ?_
          exact S88 x2 x3 y0 (-x3) x2 q_o l_o o_reached g_o g_t mm np pa pp kc ks H locs ls hkc hks hP hD hS (lv_sub hl [1, 2, 3, 4, 0] rfl) hw
      intro x2 q_o l_o o_reached g_o g_t mm np pa pp kc ks H locs ls hkc hks hP hD hS hl hw
      unfold w258_L32 at hw
      refine lv_iload_n hx hb px_d258_32 rfl (lv_at hl 2 rfl) ?_
      refine lv_aload_n hx hb px_d258_33 rfl (lv_at hl 0 rfl) ?_
      obtain ⟨hp34, hw⟩ := hw
      have hPc := hP.part (cx := [(ho, .inr (1, [.ref q_o, .ref q_t, .int o_reached])), (q_o, .inl (cc.2.1, l_o, .inl g_o)), (q_t, .inl (cc.2.1, 182, .inl g_t))]) [0, 1, 2] rfl
      have hDc := hD.part (cx := [(ho, .inr (1, [.ref q_o, .ref q_t, .int o_reached])), (q_o, .inl (cc.2.1, l_o, .inl g_o)), (q_t, .inl (cc.2.1, 182, .inl g_t))]) [0, 1, 2] (by decide) rfl
      have hFc := va_freeP (cx := [(ho, .inr (1, [.ref q_o, .ref q_t, .int o_reached])), (q_o, .inl (cc.2.1, l_o, .inl g_o)), (q_t, .inl (cc.2.1, 182, .inl g_t))]) hD hS hA [0, 1, 2] rfl
      have hKc := hK.sub (tys' := [(cc.2.1, .int), (cc.2.2.2.1, .byte), (cc.2.2.2.2, .long), (cc.1, .object "MatroidDesk$Part"), (cc.2.2.1, (.array .int))]) [0, 1, 2, 3, 4] rfl
      refine va_calli (va_runV (As := []) (rest := [.int x2]) ⟨hx, hb, hml, hown, htw⟩ (w249_met l dC dI H.size ho q_t a0x cc cm np ns hm pa sa pp ss q_o l_o o_reached g_o g_t mm _ hw) (cwV 0 htw (px_gv px_w1265 px_w1287 px_w1288 px_w154 px_g249) rfl rfl rfl (by decide +kernel) ⟨Nat.le_of_ble_eq_true rfl, Nat.le_of_ble_eq_true rfl⟩) ⟨fun a U g mk q => by obtain ⟨q0, q1, qP, qK, qD, qN⟩ := q; exact ⟨q0, q1, qP, va_K.moved (u := U) (U := U.calling g mk a) (Vm.Alike.refl U.vm) qK, qD, qN.same rfl⟩, va_recv hK hP (ci := 10) (q0 := (3 + (13 * a0x + 0))) rfl (px_cg0 rfl hp34), fun U hU hW => ⟨rfl, by rw [hU], by rw [hU]; exact hPc, va_K.moved hW.alike hKc, hDc.weaken (fun _ _ _ _ => trivial), hN.warm hW⟩⟩ rfl rfl hl.1 rfl (lv_room (Nat.le_of_ble_eq_true rfl)) px_d258_34 ⟨hkc, hks⟩) hS (fun q _ h => hFc q h) hFc (fun r34 u t H1 locs ht hvm hw hB hz1 hk1 hS => ?_)
      obtain ⟨v4, v5, v6, v7, v8, v9⟩ := u
      obtain ⟨hP1, hK1, hD1⟩ := hB
      rw [ht] at hP1
      obtain ⟨hP, hD⟩ := va_joinP (wr := []) (rx := [(ho, .inr (1, [.ref v4, .ref q_t, .int v6])), (v4, .inl (cc.2.1, v5, .inl v7)), (q_t, .inl (cc.2.1, 182, .inl v8))]) hP hD [0, 1, 2] [] rfl rfl (by decide) (by decide) hk1 hFc hP1 hD1
      generalize H1 = H at hP hS ⊢
      have hP : va_P (dC, dI) vwCl (([(ho, .inr (1, [.ref v4, .ref q_t, .int v6])), (v4, .inl (cc.2.1, v5, .inl v7)), (q_t, .inl (cc.2.1, 182, .inl v8))] : va_W) ++ px_cp cc ho cm np ns hm pa sa v9 pp ss) H := hP
      have hD : va_D A (([(ho, .inr (1, [.ref v4, .ref q_t, .int v6])), (v4, .inl (cc.2.1, v5, .inl v7)), (q_t, .inl (cc.2.1, 182, .inl v8))] : va_W) ++ px_cp cc ho cm np ns hm pa sa v9 pp ss) := hD
      refine lv_icmp_gt (tgt := 96) hx hb px_d258_37 (by decide) (fun c37 => ?_) (fun c37 => ?_)
      · have hw := hw.1 c37
        refine lv_aload_n hx hb px_d258_96 rfl (lv_at hl 0 rfl) ?_
        obtain ⟨hp97, hw⟩ := hw
        have hPc := hP.part (cx := [(ho, .inr (1, [.ref v4, .ref q_t, .int v6])), (v4, .inl (cc.2.1, v5, .inl v7)), (q_t, .inl (cc.2.1, 182, .inl v8))]) [0, 1, 2] rfl
        have hDc := hD.part (cx := [(ho, .inr (1, [.ref v4, .ref q_t, .int v6])), (v4, .inl (cc.2.1, v5, .inl v7)), (q_t, .inl (cc.2.1, 182, .inl v8))]) [0, 1, 2] (by decide) rfl
        have hFc := va_freeP (cx := [(ho, .inr (1, [.ref v4, .ref q_t, .int v6])), (v4, .inl (cc.2.1, v5, .inl v7)), (q_t, .inl (cc.2.1, 182, .inl v8))]) hD hS hA [0, 1, 2] rfl
        have hKc := hK.sub (tys' := [(cc.2.1, .int), (cc.2.2.2.1, .byte), (cc.2.2.2.2, .long), (cc.1, .object "MatroidDesk$Part"), (cc.2.2.1, (.array .int))]) [0, 1, 2, 3, 4] rfl
        refine va_callv (va_runV (As := []) (rest := []) ⟨hx, hb, hml, hown, htw⟩ (w251_met l dC dI H.size ho q_t a0x cc cm np ns hm pa sa pp ss v4 v5 v6 v7 v8 v9 _ hw) (cwV 0 htw (px_gv px_w1269 px_w1292 px_w1293 px_w154 px_g251) rfl rfl rfl (by decide +kernel) ⟨Nat.le_of_ble_eq_true rfl, Nat.le_of_ble_eq_true rfl⟩) ⟨fun a U g mk q => by obtain ⟨q0, q1, qP, qK, qD, qN⟩ := q; exact ⟨q0, q1, qP, va_K.moved (u := U) (U := U.calling g mk a) (Vm.Alike.refl U.vm) qK, qD, qN.same rfl⟩, va_recv hK hP (ci := 10) (q0 := (3 + (13 * a0x + 0))) rfl (px_cg0 rfl hp97), fun U hU hW => ⟨rfl, by rw [hU], by rw [hU]; exact hPc, va_K.moved hW.alike hKc, hDc.weaken (fun _ _ _ _ => trivial), hN.warm hW⟩⟩ rfl rfl hl.1 rfl (lv_room (Nat.le_of_ble_eq_true rfl)) px_d258_97 ⟨hkc, hks⟩) hS (fun q _ h => hFc q h) hFc (fun u t H1 locs ht hvm hw hB hz1 hk1 hS => ?_)
        obtain ⟨v11, v12, v13, v14, v15, v16⟩ := u
        obtain ⟨hP1, hK1, hD1⟩ := hB
        rw [ht] at hP1
        obtain ⟨hP, hD⟩ := va_joinP (wr := []) (rx := [(ho, .inr (1, [.ref v11, .ref q_t, .int v13])), (v11, .inl (cc.2.1, v12, .inl v14)), (q_t, .inl (cc.2.1, 182, .inl v15))]) hP hD [0, 1, 2] [] rfl rfl (by decide) (by decide) hk1 hFc hP1 hD1
        generalize H1 = H at hP hS ⊢
        have hP : va_P (dC, dI) vwCl (([(ho, .inr (1, [.ref v11, .ref q_t, .int v13])), (v11, .inl (cc.2.1, v12, .inl v14)), (q_t, .inl (cc.2.1, 182, .inl v15))] : va_W) ++ px_cp cc ho cm np ns hm pa sa v16 pp ss) H := hP
        have hD : va_D A (([(ho, .inr (1, [.ref v11, .ref q_t, .int v13])), (v11, .inl (cc.2.1, v12, .inl v14)), (q_t, .inl (cc.2.1, 182, .inl v15))] : va_W) ++ px_cp cc ho cm np ns hm pa sa v16 pp ss) := hD
        refine W.widen (k := mc) (n := ms) hkc hks ?_
        rw [← hQ]
        exact W.vret hx hb hr (fun t ht hW => ⟨⟨(v11, v12, v13, v14, v15, v16, np, pa, pp), rfl, hw, by rw [ht]; exact hP, va_K.moved hW.alike hK, hD⟩, hS.F ht⟩) hS.2.2 px_d258_100
      · have hw := hw.2 c37
        refine lv_aload_n hx hb px_d258_40 rfl (lv_at hl 1 rfl) ?_
        obtain ⟨hp41, hw⟩ := hw
        refine va_get (D := (dC, dI)) (ci := 10) (v := .ref ((v9 a1x).1 6)) (C := "MatroidDesk$Matroid") (T := px_T10) (N := 15) hx hb htw px_in10 hown hK hP (3 + (13 * a1x + 0)) (px_cg0 rfl hp41) rfl 6 (by decide) (htw _ px_w1005) (fun _ h9 => h9) rfl px_d258_41 ?_
        refine lv_aload_n hx hb px_d258_44 rfl (lv_at hl 0 rfl) ?_
        obtain ⟨hp45, hw⟩ := hw
        have hPc := hP.part (cx := [(ho, .inr (1, [.ref v4, .ref q_t, .int v6])), (v4, .inl (cc.2.1, v5, .inl v7)), (q_t, .inl (cc.2.1, 182, .inl v8))]) [0, 1, 2] rfl
        have hDc := hD.part (cx := [(ho, .inr (1, [.ref v4, .ref q_t, .int v6])), (v4, .inl (cc.2.1, v5, .inl v7)), (q_t, .inl (cc.2.1, 182, .inl v8))]) [0, 1, 2] (by decide) rfl
        have hFc := va_freeP (cx := [(ho, .inr (1, [.ref v4, .ref q_t, .int v6])), (v4, .inl (cc.2.1, v5, .inl v7)), (q_t, .inl (cc.2.1, 182, .inl v8))]) hD hS hA [0, 1, 2] rfl
        have hKc := hK.sub (tys' := [(cc.2.1, .int), (cc.2.2.2.1, .byte), (cc.2.2.2.2, .long), (cc.1, .object "MatroidDesk$Part"), (cc.2.2.1, (.array .int))]) [0, 1, 2, 3, 4] rfl
        refine va_calli (va_runV (As := []) (rest := [.ref ((v9 a1x).1 6)]) ⟨hx, hb, hml, hown, htw⟩ (w249_met l dC dI H.size ho q_t a0x cc cm np ns hm pa sa pp ss v4 v5 v6 v7 v8 v9 _ hw) (cwV 0 htw (px_gv px_w1265 px_w1287 px_w1288 px_w154 px_g249) rfl rfl rfl (by decide +kernel) ⟨Nat.le_of_ble_eq_true rfl, Nat.le_of_ble_eq_true rfl⟩) ⟨fun a U g mk q => by obtain ⟨q0, q1, qP, qK, qD, qN⟩ := q; exact ⟨q0, q1, qP, va_K.moved (u := U) (U := U.calling g mk a) (Vm.Alike.refl U.vm) qK, qD, qN.same rfl⟩, va_recv hK hP (ci := 10) (q0 := (3 + (13 * a0x + 0))) rfl (px_cg0 rfl hp45), fun U hU hW => ⟨rfl, by rw [hU], by rw [hU]; exact hPc, va_K.moved hW.alike hKc, hDc.weaken (fun _ _ _ _ => trivial), hN.warm hW⟩⟩ rfl rfl hl.1 rfl (lv_room (Nat.le_of_ble_eq_true rfl)) px_d258_45 ⟨hkc, hks⟩) hS (fun q _ h => hFc q h) hFc (fun r45 u t H1 locs ht hvm hw hB hz1 hk1 hS => ?_)
        obtain ⟨v18, v19, v20, v21, v22, v23⟩ := u
        obtain ⟨hP1, hK1, hD1⟩ := hB
        rw [ht] at hP1
        obtain ⟨hP, hD⟩ := va_joinP (wr := []) (rx := [(ho, .inr (1, [.ref v18, .ref q_t, .int v20])), (v18, .inl (cc.2.1, v19, .inl v21)), (q_t, .inl (cc.2.1, 182, .inl v22))]) hP hD [0, 1, 2] [] rfl rfl (by decide) (by decide) hk1 hFc hP1 hD1
        generalize H1 = H at hP hS ⊢
        have hP : va_P (dC, dI) vwCl (([(ho, .inr (1, [.ref v18, .ref q_t, .int v20])), (v18, .inl (cc.2.1, v19, .inl v21)), (q_t, .inl (cc.2.1, 182, .inl v22))] : va_W) ++ px_cp cc ho cm np ns hm pa sa v23 pp ss) H := hP
        have hD : va_D A (([(ho, .inr (1, [.ref v18, .ref q_t, .int v20])), (v18, .inl (cc.2.1, v19, .inl v21)), (q_t, .inl (cc.2.1, 182, .inl v22))] : va_W) ++ px_cp cc ho cm np ns hm pa sa v23 pp ss) := hD
        refine lv_iload_n hx hb px_d258_48 rfl (lv_at hl 2 rfl) ?_
        refine lv_ixor hx hb px_d258_49 ?_
        obtain ⟨hf50, hw⟩ := hw
        rw [hf50]
        obtain ⟨hp50, hw⟩ := hw
        obtain ⟨hi50, hw⟩ := hw
        refine va_bald hx hb hK hP (3 + (13 * a1x + 6)) 1 (px_cg6 rfl hp50) rfl hi50 px_d258_50 ?_
        refine lv_topi (fun z25 ez25 => ?_)
        have hw := hw z25 ez25
        refine lv_istore_n (lv' := [(3, .int z25), (0, .ref (hm a0x)), (1, .ref (hm a1x)), (2, .int x2)]) hx hb px_d258_51 rfl hl (by decide) rfl (fun ls hl => ?_)
        refine lv_iload_n hx hb px_d258_52 rfl (lv_at hl 3 rfl) ?_
        refine lv_sipush (v := 2730) hx hb px_d258_53 (by decide) ?_
        refine lv_iand hx hb px_d258_56 ?_
        have hPc := hP.sub (ws' := []) [] rfl
        have hDc := hD.sub (ws' := []) [] (by decide) rfl
        have hFc := va_free (wc := []) hD hS hA [] rfl
        have hKc := hK.sub (tys' := []) [] rfl
        refine va_calli (va_runS (As := [.int (x2 &&& 2730)]) (rest := []) ⟨hx, hb, hml, hown, htw⟩ (w250_met l dC dI H.size (x2 &&& 2730) _ hw) (va_cwS 1 htw (px_gs2 px_w1266 px_w1290 px_w1764 px_g250) rfl rfl rfl (by decide +kernel) ⟨Nat.le_of_ble_eq_true rfl, Nat.le_of_ble_eq_true rfl⟩) ⟨fun a U g mk q => by obtain ⟨q0, q1, qP, qK, qD, qN⟩ := q; exact ⟨q0, q1, qP, va_K.moved (u := U) (U := U.calling g mk a) (Vm.Alike.refl U.vm) qK, qD, qN.same rfl⟩, fun U hU hW => ⟨rfl, by rw [hU], by rw [hU]; exact hPc, va_K.moved hW.alike hKc, hDc.weaken (fun _ _ _ _ => trivial), hN.warm hW⟩⟩ rfl rfl hl.1 rfl (lv_room (Nat.le_of_ble_eq_true rfl)) px_d258_57 ⟨hkc, hks⟩) hS (fun q _ h => hFc q h) hFc (fun r57 u t H1 locs ht hvm hw hB hz1 hk1 hS => ?_)
        obtain ⟨hP1, hK1, hD1⟩ := hB
        rw [ht] at hP1
        obtain ⟨hP, hD⟩ := va_joinQ (wr := [(ho, .inr (1, [.ref v18, .ref q_t, .int v20])), (v18, .inl (cc.2.1, v19, .inl v21)), (q_t, .inl (cc.2.1, 182, .inl v22))]) (w1 := []) hP hD [] [0, 1, 2] rfl rfl (by decide) (by decide) hk1 hFc hP1 hD1
        generalize H1 = H at hP hS ⊢
        have hP : va_P (dC, dI) vwCl (([(ho, .inr (1, [.ref v18, .ref q_t, .int v20])), (v18, .inl (cc.2.1, v19, .inl v21)), (q_t, .inl (cc.2.1, 182, .inl v22))] : va_W) ++ px_cp cc ho cm np ns hm pa sa v23 pp ss) H := hP
        have hD : va_D A (([(ho, .inr (1, [.ref v18, .ref q_t, .int v20])), (v18, .inl (cc.2.1, v19, .inl v21)), (q_t, .inl (cc.2.1, 182, .inl v22))] : va_W) ++ px_cp cc ho cm np ns hm pa sa v23 pp ss) := hD
        refine lv_iconst (v := 1) hx hb px_d258_60 (by decide) ?_
        refine lv_iand hx hb px_d258_61 ?_
        refine lv_if_eq (tgt := 69) hx hb px_d258_62 (by decide) (fun c62 => ?_) (fun c62 => ?_)
        · have hw := hw.1 c62
          refine lv_iconst (v := 0) hx hb px_d258_69 (by decide) ?_
          exact S70 x2 z25 0 v18 v19 v20 v21 v22 v23 np pa pp kc ks H locs ls hkc hks hP hD hS (lv_sub hl [1, 2, 3, 0] rfl) hw
        · have hw := hw.2 c62
          refine lv_iconst (v := 1) hx hb px_d258_65 (by decide) ?_
          refine lv_goto (tgt := 70) hx hb px_d258_66 (by decide) ?_
          exact S70 x2 z25 1 v18 v19 v20 v21 v22 v23 np pa pp kc ks H locs ls hkc hks hP hD hS (lv_sub hl [1, 2, 3, 0] rfl) hw
  unfold w258_wp at hw
  have hS0 := hS
  obtain ⟨H, hH9⟩ : ∃ z, z = s.heap := ⟨_, rfl⟩
  have hP : va_P (dC, dI) vwCl (([(ho, .inr (1, [.ref q_o, .ref q_t, .int o_reached])), (q_o, .inl (cc.2.1, l_o, .inl g_o)), (q_t, .inl (cc.2.1, 182, .inl g_t))] : va_W) ++ px_cp cc ho cm np ns hm pa sa mm pp ss) H := by rw [hH9]; exact hP
  obtain ⟨locs, hlo9⟩ : ∃ z : List Loc, z = [] := ⟨_, rfl⟩
  have hS : va_S A s.heap H locs := by rw [hH9, hlo9]; exact hS
  suffices hG : W p l e (headSpec px_s258 ({ frames := 4, cells := mc, slots := ms, locals := 93 })).room s m ([.ref (hm a0x), .ref (hm a1x)]).toArray below meth c H locs 0 0 Q (F0 m 0 ls []) by rw [hH9, hlo9] at hG; exact hG
  refine lv_aload_n hx hb px_d258_0 rfl (lv_at hl 0 rfl) ?_
  refine lv_aload_n hx hb px_d258_1 rfl (lv_at hl 1 rfl) ?_
  obtain ⟨hp2, hw⟩ := hw
  refine va_get (D := (dC, dI)) (ci := 10) (v := .int ((mm a1x).2.1 12)) (C := "MatroidDesk$Matroid") (T := px_T10) (N := 15) hx hb htw px_in10 hown hK hP (3 + (13 * a1x + 0)) (px_cg0 rfl hp2) rfl 12 (by decide) (htw _ px_w1273) (fun _ h9 => h9) rfl px_d258_2 ?_
  refine lv_aload_n hx hb px_d258_5 rfl (lv_at hl 1 rfl) ?_
  obtain ⟨hp6, hw⟩ := hw
  refine va_get (D := (dC, dI)) (ci := 10) (v := .int ((mm a1x).2.1 13)) (C := "MatroidDesk$Matroid") (T := px_T10) (N := 15) hx hb htw px_in10 hown hK hP (3 + (13 * a1x + 0)) (px_cg0 rfl hp6) rfl 13 (by decide) (htw _ px_w1264) (fun _ h9 => h9) rfl px_d258_6 ?_
  refine lv_aload_n hx hb px_d258_9 rfl (lv_at hl 1 rfl) ?_
  obtain ⟨hp10, hw⟩ := hw
  refine va_get (D := (dC, dI)) (ci := 10) (v := .int ((mm a1x).2.1 13)) (C := "MatroidDesk$Matroid") (T := px_T10) (N := 15) hx hb htw px_in10 hown hK hP (3 + (13 * a1x + 0)) (px_cg0 rfl hp10) rfl 13 (by decide) (htw _ px_w1264) (fun _ h9 => h9) rfl px_d258_10 ?_
  refine lv_aload_n hx hb px_d258_13 rfl (lv_at hl 1 rfl) ?_
  obtain ⟨hp14, hw⟩ := hw
  refine va_get (D := (dC, dI)) (ci := 10) (v := .int ((mm a1x).2.1 14)) (C := "MatroidDesk$Matroid") (T := px_T10) (N := 15) hx hb htw px_in10 hown hK hP (3 + (13 * a1x + 0)) (px_cg0 rfl hp14) rfl 14 (by decide) (htw _ px_w1267) (fun _ h9 => h9) rfl px_d258_14 ?_
  refine lv_isub hx hb px_d258_17 ?_
  obtain ⟨m18_33, s18_33, hm18_33, hs18_33, hw⟩ := hw
  obtain ⟨hp18, hw⟩ := hw
  have hPc := hP.part (cx := [(ho, .inr (1, [.ref q_o, .ref q_t, .int o_reached])), (q_o, .inl (cc.2.1, l_o, .inl g_o)), (q_t, .inl (cc.2.1, 182, .inl g_t))]) [0, 1, 2] rfl
  have hDc := hD.part (cx := [(ho, .inr (1, [.ref q_o, .ref q_t, .int o_reached])), (q_o, .inl (cc.2.1, l_o, .inl g_o)), (q_t, .inl (cc.2.1, 182, .inl g_t))]) [0, 1, 2] (by decide) rfl
  have hFc := va_freeP (cx := [(ho, .inr (1, [.ref q_o, .ref q_t, .int o_reached])), (q_o, .inl (cc.2.1, l_o, .inl g_o)), (q_t, .inl (cc.2.1, 182, .inl g_t))]) hD hS hA [0, 1, 2] rfl
  have hKc := hK.sub (tys' := [(cc.2.1, .int), (cc.2.2.2.1, .byte), (cc.2.2.2.2, .long), (cc.1, .object "MatroidDesk$Part"), (cc.2.2.1, (.array .int))]) [0, 1, 2, 3, 4] rfl
  refine va_callv (va_runV (As := [.int ((mm a1x).2.1 12), .int ((mm a1x).2.1 13), .int (((mm a1x).2.1 13) - ((mm a1x).2.1 14))]) (rest := []) ⟨hx, hb, hml, hown, htw⟩ (w246_met l dC dI H.size ho q_t a0x cc cm np ns hm pa sa pp ss m18_33 s18_33 ((mm a1x).2.1 12) ((mm a1x).2.1 13) (((mm a1x).2.1 13) - ((mm a1x).2.1 14)) q_o l_o o_reached g_o g_t mm _ hw) (cwV 3 htw (px_gv px_w1262 px_w1271 px_w1272 px_w154 px_g246) rfl rfl rfl (by decide +kernel) ⟨Nat.le_of_ble_eq_true rfl, Nat.le_of_ble_eq_true rfl⟩) ⟨fun a U g mk q => by obtain ⟨q0, q1, qP, qK, qD, qN⟩ := q; exact ⟨q0, q1, qP, va_K.moved (u := U) (U := U.calling g mk a) (Vm.Alike.refl U.vm) qK, qD, qN.same rfl⟩, va_recv hK hP (ci := 10) (q0 := (3 + (13 * a0x + 0))) rfl (px_cg0 rfl hp18), fun U hU hW => ⟨rfl, by rw [hU], by rw [hU]; exact hPc, va_K.moved hW.alike hKc, hDc.weaken (fun _ _ _ _ => trivial), hN.warm hW⟩⟩ rfl rfl hl.1 rfl (lv_room (Nat.le_of_ble_eq_true rfl)) px_d258_18 ⟨hm18_33, hs18_33⟩) hS (fun q _ h => hFc q h) hFc (fun u t H1 locs ht hvm hw hB hz1 hk1 hS => ?_)
  obtain ⟨v27, v28, v29, v30, v31, v32⟩ := u
  obtain ⟨hP1, hK1, hD1⟩ := hB
  rw [ht] at hP1
  obtain ⟨hP, hD⟩ := va_joinP (wr := []) (rx := [(ho, .inr (1, [.ref v27, .ref q_t, .int v29])), (v27, .inl (cc.2.1, v28, .inl v30)), (q_t, .inl (cc.2.1, 182, .inl v31))]) hP hD [0, 1, 2] [] rfl rfl (by decide) (by decide) hk1 hFc hP1 hD1
  generalize H1 = H at hP hS ⊢
  have hP : va_P (dC, dI) vwCl (([(ho, .inr (1, [.ref v27, .ref q_t, .int v29])), (v27, .inl (cc.2.1, v28, .inl v30)), (q_t, .inl (cc.2.1, 182, .inl v31))] : va_W) ++ px_cp cc ho cm np ns hm pa sa v32 pp ss) H := hP
  have hD : va_D A (([(ho, .inr (1, [.ref v27, .ref q_t, .int v29])), (v27, .inl (cc.2.1, v28, .inl v30)), (q_t, .inl (cc.2.1, 182, .inl v31))] : va_W) ++ px_cp cc ho cm np ns hm pa sa v32 pp ss) := hD
  refine lv_aload_n hx hb px_d258_21 rfl (lv_at hl 0 rfl) ?_
  refine lv_aload_n hx hb px_d258_22 rfl (lv_at hl 1 rfl) ?_
  refine lv_iconst (v := 0) hx hb px_d258_23 (by decide) ?_
  refine lv_iconst (v := 0) hx hb px_d258_24 (by decide) ?_
  refine lv_iconst (v := 0) hx hb px_d258_25 (by decide) ?_
  refine lv_iconst (v := 1) hx hb px_d258_26 (by decide) ?_
  obtain ⟨m27_44, s27_44, hm27_44, hs27_44, hw⟩ := hw
  obtain ⟨hp27, hw⟩ := hw
  have hPc := hP.part (cx := [(ho, .inr (1, [.ref v27, .ref q_t, .int v29])), (v27, .inl (cc.2.1, v28, .inl v30)), (q_t, .inl (cc.2.1, 182, .inl v31))]) [0, 1, 2] rfl
  have hDc := hD.part (cx := [(ho, .inr (1, [.ref v27, .ref q_t, .int v29])), (v27, .inl (cc.2.1, v28, .inl v30)), (q_t, .inl (cc.2.1, 182, .inl v31))]) [0, 1, 2] (by decide) rfl
  have hFc := va_freeP (cx := [(ho, .inr (1, [.ref v27, .ref q_t, .int v29])), (v27, .inl (cc.2.1, v28, .inl v30)), (q_t, .inl (cc.2.1, 182, .inl v31))]) hD hS hA [0, 1, 2] rfl
  have hKc := hK.sub (tys' := [(cc.2.1, .int), (cc.2.2.2.1, .byte), (cc.2.2.2.2, .long), (cc.1, .object "MatroidDesk$Part"), (cc.2.2.1, (.array .int))]) [0, 1, 2, 3, 4] rfl
  refine va_callv (va_runV (As := [.ref (hm a1x), .int 0, .int 0, .int 0, .int 1]) (rest := []) ⟨hx, hb, hml, hown, htw⟩ (w259_met l dC dI H.size ho q_t a0x cc cm ns hm sa ss a1x m27_44 s27_44 0 0 0 1 v27 v28 v29 v30 v31 v32 np pa pp _ hw) (cwV 5 htw (px_gv px_w1324 px_w1326 px_w1327 px_w154 px_g259) rfl rfl rfl (by decide +kernel) ⟨Nat.le_of_ble_eq_true rfl, Nat.le_of_ble_eq_true rfl⟩) ⟨fun a U g mk q => by obtain ⟨q0, q1, qP, qK, qD, qN⟩ := q; exact ⟨q0, q1, qP, va_K.moved (u := U) (U := U.calling g mk a) (Vm.Alike.refl U.vm) qK, qD, qN.same rfl⟩, va_recv hK hP (ci := 10) (q0 := (3 + (13 * a0x + 0))) rfl (px_cg0 rfl hp27), fun U hU hW => ⟨rfl, by rw [hU], by rw [hU]; exact hPc, va_K.moved hW.alike hKc, hDc.weaken (fun _ _ _ _ => trivial), hN.warm hW⟩⟩ rfl rfl hl.1 rfl (lv_room (Nat.le_of_ble_eq_true rfl)) px_d258_27 ⟨hm27_44, hs27_44⟩) hS (fun q _ h => hFc q h) hFc (fun u t H1 locs ht hvm hw hB hz1 hk1 hS => ?_)
  obtain ⟨v35, v36, v37, v38, v39, v40, v41, v42, v43⟩ := u
  obtain ⟨hP1, hK1, hD1⟩ := hB
  rw [ht] at hP1
  obtain ⟨hP, hD⟩ := va_joinP (wr := []) (rx := [(ho, .inr (1, [.ref v35, .ref q_t, .int v37])), (v35, .inl (cc.2.1, v36, .inl v38)), (q_t, .inl (cc.2.1, 182, .inl v39))]) hP hD [0, 1, 2] [] rfl rfl (by decide) (by decide) hk1 hFc hP1 hD1
  generalize H1 = H at hP hS ⊢
  have hP : va_P (dC, dI) vwCl (([(ho, .inr (1, [.ref v35, .ref q_t, .int v37])), (v35, .inl (cc.2.1, v36, .inl v38)), (q_t, .inl (cc.2.1, 182, .inl v39))] : va_W) ++ px_cp cc ho cm v41 ns hm v42 sa v40 v43 ss) H := hP
  have hD : va_D A (([(ho, .inr (1, [.ref v35, .ref q_t, .int v37])), (v35, .inl (cc.2.1, v36, .inl v38)), (q_t, .inl (cc.2.1, 182, .inl v39))] : va_W) ++ px_cp cc ho cm v41 ns hm v42 sa v40 v43 ss) := hD
  refine lv_iconst (v := 0) hx hb px_d258_30 (by decide) ?_
  refine lv_istore_n (lv' := [(2, .int 0), (0, .ref (hm a0x)), (1, .ref (hm a1x))]) hx hb px_d258_31 rfl hl (by decide) rfl (fun ls hl => ?_)
  obtain ⟨k9, hw⟩ := hw
  exact S32 k9 0 v35 v36 v37 v38 v39 v40 v41 v42 v43 (0 + m18_33 + m27_44) (0 + s18_33 + s27_44) H locs ls hm27_44 hs27_44 hP hD hS (lv_sub hl [1, 2, 0] rfl) hw

/-! MatroidDesk$Matroid.remove(LMatroidDesk$Matroid;II)V -/
def w264_L91 (K47 : Int32 → Int32 → Int32 → Int32 → Int32 → Nat → Nat → Int32 → (Nat → Int32) → (Nat → Int32) → (Nat → px_MR) → Nat → (Nat → Nat) → (Nat → px_PR) → Nat → Nat → Prop) (a0x : Nat) (cm : Nat) (ns : Nat) (sa : Nat → Nat) (ss : Nat → px_SR) (a1x : Nat) (mc : Nat) (ms : Nat) (post : Nat → Nat → Int32 → (Nat → Int32) → (Nat → Int32) → (Nat → px_MR) → Nat → (Nat → Nat) → (Nat → px_PR) → Prop) (x2 : Int32) (x3 : Int32) (x4 : Int32) (x5 : Int32) (x6 : Int32) (x7 : Int32) (y0 : Int32) (y1 : Int32) (q_o : Nat) (l_o : Nat) (o_reached : Int32) (g_o : Nat → Int32) (g_t : Nat → Int32) (mm : Nat → px_MR) (np : Nat) (pa : Nat → Nat) (pp : Nat → px_PR) (kc : Nat) (ks : Nat) : Prop := ∀ z1 : Int32, z1 = y0.toInt8.toInt32 → a0x < cm ∧ (vp_in y1 ((mm a0x).2.2.1 6) ∧ (∀ mm2 : Nat → px_MR, mm2 = va_up mm a0x ((mm a0x).1, (mm a0x).2.1, (mm a0x).2.2.1, va_up (mm a0x).2.2.2.1 6 (upd ((mm a0x).2.2.2.1 6) (Int32.toNatClampNeg y1) (vp_nar .byte z1)), (mm a0x).2.2.2.2) → (∀ z3 : Int32, z3 = (x5 - x4) &&& x4 → ∀ z4 : Int32, z4 = x6 + 1 → K47 x2 x3 x4 z3 z4 q_o l_o o_reached g_o g_t mm2 np pa pp kc ks)))
def w264_L47 (a0x : Nat) (cm : Nat) (ns : Nat) (sa : Nat → Nat) (ss : Nat → px_SR) (a1x : Nat) (mc : Nat) (ms : Nat) (post : Nat → Nat → Int32 → (Nat → Int32) → (Nat → Int32) → (Nat → px_MR) → Nat → (Nat → Nat) → (Nat → px_PR) → Prop) : Nat → Int32 → Int32 → Int32 → Int32 → Int32 → Nat → Nat → Int32 → (Nat → Int32) → (Nat → Int32) → (Nat → px_MR) → Nat → (Nat → Nat) → (Nat → px_PR) → Nat → Nat → Prop
  | 0 => fun _ _ _ _ _ _ _ _ _ _ _ _ _ _ _ _ => False
  | k + 1 => fun x2 x3 x4 x5 x6 q_o l_o o_reached g_o g_t mm np pa pp kc ks => a0x < cm ∧ (w249_wp a0x cm np ns pa sa pp ss (fun r50 v5 v6 v7 v8 v9 v10 => (r50 < x6 → a0x < cm ∧ (w251_wp a0x cm np ns pa sa pp ss (fun v12 v13 v14 v15 v16 v17 => post v12 v13 v14 v15 v16 v17 np pa pp) v5 v6 v7 v8 v9 v10)) ∧ (¬ r50 < x6 → a1x < cm ∧ (a1x < cm ∧ (vp_in (x5 ||| x3) ((v10 a1x).2.2.1 6) ∧ (∀ z19 : Int32, z19 = ((v10 a1x).2.2.2.1 6) (Int32.toNatClampNeg (x5 ||| x3)) → a0x < cm ∧ (a0x < cm ∧ (w265_wp a0x cm np ns pa sa pp ss (fun r77 v20 v21 v22 v23 v24 v25 => (r77 = 0 → (v10 a0x).1 6 = (v25 a0x).1 6 ∧ w264_L91 (w264_L47 a0x cm ns sa ss a1x mc ms post k) a0x cm ns sa ss a1x mc ms post x2 x3 x4 x5 x6 z19 z19 x6 v20 v21 v22 v23 v24 v25 np pa pp kc ks) ∧ (¬ r77 = 0 → (v10 a0x).1 6 = (v25 a0x).1 6 ∧ w264_L91 (w264_L47 a0x cm ns sa ss a1x mc ms post k) a0x cm ns sa ss a1x mc ms post x2 x3 x4 x5 x6 z19 (-z19) x6 v20 v21 v22 v23 v24 v25 np pa pp kc ks)) x5 x3 v5 v6 v7 v8 v9 v10))))))) q_o l_o o_reached g_o g_t mm)
def w264_wp (a0x : Nat) (cm : Nat) (ns : Nat) (sa : Nat → Nat) (ss : Nat → px_SR) (a1x : Nat) (mc : Nat) (ms : Nat) (post : Nat → Nat → Int32 → (Nat → Int32) → (Nat → Int32) → (Nat → px_MR) → Nat → (Nat → Nat) → (Nat → px_PR) → Prop) (a2x : Int32) (a3x : Int32) (q_o : Nat) (l_o : Nat) (o_reached : Int32) (g_o : Nat → Int32) (g_t : Nat → Int32) (mm : Nat → px_MR) (np : Nat) (pa : Nat → Nat) (pp : Nat → px_PR) : Prop := a1x < cm ∧ (w249_wp a1x cm np ns pa sa pp ss (fun r1 v27 v28 v29 v30 v31 v32 => ∀ z34 : Int32, z34 = r1 &&& (a2x ^^^ (-1)) → a1x < cm ∧ ((w250_wp (fun r17  => a1x < cm ∧ ((w250_wp (fun r25  => ∃ m29_43 s29_43 : Nat, 0 + m29_43 ≤ mc ∧ 0 + s29_43 ≤ ms ∧ a0x < cm ∧ (w246_wp a0x cm np ns pa sa pp ss m29_43 s29_43 (fun v37 v38 v39 v40 v41 v42 => ∃ m38_54 s38_54 : Nat, 0 + m29_43 + m38_54 ≤ mc ∧ 0 + s29_43 + s38_54 ≤ ms ∧ a0x < cm ∧ (w259_wp a0x cm ns sa ss a1x m38_54 s38_54 (fun v45 v46 v47 v48 v49 v50 v51 v52 v53 => ∃ j47, w264_L47 a0x cm ns sa ss a1x mc ms post j47 a2x a3x z34 0 0 v45 v46 v47 v48 v49 v50 v51 v52 v53 (0 + m29_43 + m38_54) (0 + s29_43 + s38_54)) 0 a2x a3x 0 v37 v38 v39 v40 v41 v42 np pa pp)) ((v32 a1x).2.1 12) r17 (((v32 a1x).2.1 14) - r25) v27 v28 v29 v30 v31 v32)) a3x))) z34))) q_o l_o o_reached g_o g_t mm)
set_option maxHeartbeats 8000000 in
set_option maxRecDepth 100000 in
theorem w264_met (l : Launch) (dC : Nat → ClassId) (dI : Nat → Nat → Nat) (sz : Nat) (ho : Nat) (q_t : Nat) (a0x : Nat) (cc : px_CC) (cm : Nat) (ns : Nat) (hm : Nat → Nat) (sa : Nat → Nat) (ss : Nat → px_SR) (a1x : Nat) (mc : Nat) (ms : Nat) (a2x : Int32) (a3x : Int32) (q_o : Nat) (l_o : Nat) (o_reached : Int32) (g_o : Nat → Int32) (g_t : Nat → Int32) (mm : Nat → px_MR) (np : Nat) (pa : Nat → Nat) (pp : Nat → px_PR) (post : Nat → Nat → Int32 → (Nat → Int32) → (Nat → Int32) → (Nat → px_MR) → Nat → (Nat → Nat) → (Nat → px_PR) → Prop) (hw : w264_wp a0x cm ns sa ss a1x mc ms post a2x a3x q_o l_o o_reached g_o g_t mm np pa pp) : Met l px_y264 px_s264 ({ frames := 4, cells := mc, slots := ms, locals := 93 }) (va_Pc [.ref (hm a0x), .ref (hm a1x), .int a2x, .int a3x] (fun U => U.heap.size = sz ∧ va_P (dC, dI) vwCl (([(ho, .inr (1, [.ref q_o, .ref q_t, .int o_reached])), (q_o, .inl (cc.2.1, l_o, .inl g_o)), (q_t, .inl (cc.2.1, 182, .inl g_t))] : va_W) ++ px_cp cc ho cm np ns hm pa sa mm pp ss) U.heap ∧ va_K (dC, dI) vwCl [(cc.2.1, .int), (cc.2.2.2.1, .byte), (cc.2.2.2.2, .long), (cc.1, .object "MatroidDesk$Part"), (cc.2.2.1, (.array .int))] U ∧ va_D (fun _ => True) (([(ho, .inr (1, [.ref q_o, .ref q_t, .int o_reached])), (q_o, .inl (cc.2.1, l_o, .inl g_o)), (q_t, .inl (cc.2.1, 182, .inl g_t))] : va_W) ++ px_cp cc ho cm np ns hm pa sa mm pp ss) ∧ px_N U)) (va_Qv (fun (u : Nat × Nat × Int32 × (Nat → Int32) × (Nat → Int32) × (Nat → px_MR) × Nat × (Nat → Nat) × (Nat → px_PR)) => post u.1 u.2.1 u.2.2.1 u.2.2.2.1 u.2.2.2.2.1 u.2.2.2.2.2.1 u.2.2.2.2.2.2.1 u.2.2.2.2.2.2.2.1 u.2.2.2.2.2.2.2.2) (fun (u : Nat × Nat × Int32 × (Nat → Int32) × (Nat → Int32) × (Nat → px_MR) × Nat × (Nat → Nat) × (Nat → px_PR)) (t : State) => va_P (dC, dI) vwCl (([(ho, .inr (1, [.ref u.1, .ref q_t, .int u.2.2.1])), (u.1, .inl (cc.2.1, u.2.1, .inl u.2.2.2.1)), (q_t, .inl (cc.2.1, 182, .inl u.2.2.2.2.1))] : va_W) ++ px_cp cc ho cm u.2.2.2.2.2.2.1 ns hm u.2.2.2.2.2.2.2.1 sa u.2.2.2.2.2.1 u.2.2.2.2.2.2.2.2 ss) t.heap ∧ va_K (dC, dI) vwCl [(cc.2.1, .int), (cc.2.2.2.1, .byte), (cc.2.2.2.2, .long), (cc.1, .object "MatroidDesk$Part"), (cc.2.2.1, (.array .int))] t ∧ va_D (va_A (([(ho, .inr (1, [.ref q_o, .ref q_t, .int o_reached])), (q_o, .inl (cc.2.1, l_o, .inl g_o)), (q_t, .inl (cc.2.1, 182, .inl g_t))] : va_W) ++ px_cp cc ho cm np ns hm pa sa mm pp ss) sz) (([(ho, .inr (1, [.ref u.1, .ref q_t, .int u.2.2.1])), (u.1, .inl (cc.2.1, u.2.1, .inl u.2.2.2.1)), (q_t, .inl (cc.2.1, 182, .inl u.2.2.2.2.1))] : va_W) ++ px_cp cc ho cm u.2.2.2.2.2.2.1 ns hm u.2.2.2.2.2.2.2.1 sa u.2.2.2.2.2.1 u.2.2.2.2.2.2.2.2 ss)) (va_A (([(ho, .inr (1, [.ref q_o, .ref q_t, .int o_reached])), (q_o, .inl (cc.2.1, l_o, .inl g_o)), (q_t, .inl (cc.2.1, 182, .inl g_t))] : va_W) ++ px_cp cc ho cm np ns hm pa sa mm pp ss) sz)) mc ms (va_A (([(ho, .inr (1, [.ref q_o, .ref q_t, .int o_reached])), (q_o, .inl (cc.2.1, l_o, .inl g_o)), (q_t, .inl (cc.2.1, 182, .inl g_t))] : va_W) ++ px_cp cc ho cm np ns hm pa sa mm pp ss) sz) := by
  refine Met.ofW (cc := prog_3_method_4_code) (maxL := 8) (ret := none) (by decide) rfl ?_
  intro p e s m args below meth c s₁ B hml hv
  obtain ⟨rfl, hsz, hP, hK, hD0, hN⟩ := hv
  have hx := B.exec
  have hb := B.bytes
  have hr := B.returns
  have htw : ∀ w ∈ px_all, w.before _ s = true := fun w h => atoms_spec (ws := px_s264) B.pre w (List.mem_cons_of_mem _ h)
  have hown : s.vm.findClass "MatroidDesk$Matroid" = some m.cls := findClass_of_methodNamed B.named
  have hlocks := B.notSynchronized
  subst hsz
  have hD := hD0.self (sz := s.heap.size)
  generalize hAe : va_A (([(ho, .inr (1, [.ref q_o, .ref q_t, .int o_reached])), (q_o, .inl (cc.2.1, l_o, .inl g_o)), (q_t, .inl (cc.2.1, 182, .inl g_t))] : va_W) ++ px_cp cc ho cm np ns hm pa sa mm pp ss) s.heap.size = A at hD ⊢
  have hA : ∀ q : Nat, s.heap.size ≤ q → A q := fun q h => by rw [← hAe]; exact Or.inr h
  have hS : va_S A s.heap s.heap [] := va_S.rf
  have hP : va_P (dC, dI) vwCl (([(ho, .inr (1, [.ref q_o, .ref q_t, .int o_reached])), (q_o, .inl (cc.2.1, l_o, .inl g_o)), (q_t, .inl (cc.2.1, 182, .inl g_t))] : va_W) ++ px_cp cc ho cm np ns hm pa sa mm pp ss) s.heap := hP
  have hl := lv_entry ([.ref (hm a0x), .ref (hm a1x), .int a2x, .int a3x]) (n := 8) (Nat.le_of_ble_eq_true rfl)
  rw [lg_entry_eq]
  generalize (lg_sl ([.ref (hm a0x), .ref (hm a1x), .int a2x, .int a3x]) ++ List.replicate (8 - (lg_sl ([.ref (hm a0x), .ref (hm a1x), .int a2x, .int a3x])).length) Slot.unset).toArray = ls at hl ⊢
  have hl : lv_has ls 8 [(0, .ref (hm a0x)), (1, .ref (hm a1x)), (2, .int a2x), (3, .int a3x)] := hl
  generalize hQ : MQ _ _ _ _ _ _ _ = Q
  have S47 : ∀ (k47 : Nat) (x2 : Int32) (x3 : Int32) (x4 : Int32) (x5 : Int32) (x6 : Int32) (q_o : Nat) (l_o : Nat) (o_reached : Int32) (g_o : Nat → Int32) (g_t : Nat → Int32) (mm : Nat → px_MR) (np : Nat) (pa : Nat → Nat) (pp : Nat → px_PR) (kc : Nat) (ks : Nat) (H : Heap) (locs : List Loc) (ls : Array Slot), kc ≤ mc → ks ≤ ms → va_P (dC, dI) vwCl (([(ho, .inr (1, [.ref q_o, .ref q_t, .int o_reached])), (q_o, .inl (cc.2.1, l_o, .inl g_o)), (q_t, .inl (cc.2.1, 182, .inl g_t))] : va_W) ++ px_cp cc ho cm np ns hm pa sa mm pp ss) H → va_D A (([(ho, .inr (1, [.ref q_o, .ref q_t, .int o_reached])), (q_o, .inl (cc.2.1, l_o, .inl g_o)), (q_t, .inl (cc.2.1, 182, .inl g_t))] : va_W) ++ px_cp cc ho cm np ns hm pa sa mm pp ss) → va_S A s.heap H locs → lv_has ls 8 [(0, .ref (hm a0x)), (1, .ref (hm a1x)), (2, .int x2), (3, .int x3), (4, .int x4), (5, .int x5), (6, .int x6)] → w264_L47 a0x cm ns sa ss a1x mc ms post k47 x2 x3 x4 x5 x6 q_o l_o o_reached g_o g_t mm np pa pp kc ks → W p l e (headSpec px_s264 ({ frames := 4, cells := mc, slots := ms, locals := 93 })).room s m ([.ref (hm a0x), .ref (hm a1x), .int a2x, .int a3x]).toArray below meth c H locs kc ks Q (F0 m 47 ls []) := by
    intro k47
    induction k47 with
    | zero => intro x2 x3 x4 x5 x6 q_o l_o o_reached g_o g_t mm np pa pp kc ks H locs ls hkc hks hP hD hS hl hw; exact False.elim hw
    | succ k47 ih47 =>
      have S91 : ∀ (x2 : Int32) (x3 : Int32) (x4 : Int32) (x5 : Int32) (x6 : Int32) (x7 : Int32) (y0 : Int32) (y1 : Int32) (q_o : Nat) (l_o : Nat) (o_reached : Int32) (g_o : Nat → Int32) (g_t : Nat → Int32) (mm : Nat → px_MR) (np : Nat) (pa : Nat → Nat) (pp : Nat → px_PR) (kc : Nat) (ks : Nat) (H : Heap) (locs : List Loc) (ls : Array Slot), kc ≤ mc → ks ≤ ms → va_P (dC, dI) vwCl (([(ho, .inr (1, [.ref q_o, .ref q_t, .int o_reached])), (q_o, .inl (cc.2.1, l_o, .inl g_o)), (q_t, .inl (cc.2.1, 182, .inl g_t))] : va_W) ++ px_cp cc ho cm np ns hm pa sa mm pp ss) H → va_D A (([(ho, .inr (1, [.ref q_o, .ref q_t, .int o_reached])), (q_o, .inl (cc.2.1, l_o, .inl g_o)), (q_t, .inl (cc.2.1, 182, .inl g_t))] : va_W) ++ px_cp cc ho cm np ns hm pa sa mm pp ss) → va_S A s.heap H locs → lv_has ls 8 [(0, .ref (hm a0x)), (1, .ref (hm a1x)), (2, .int x2), (3, .int x3), (4, .int x4), (5, .int x5), (6, .int x6), (7, .int x7)] → w264_L91 (w264_L47 a0x cm ns sa ss a1x mc ms post k47) a0x cm ns sa ss a1x mc ms post x2 x3 x4 x5 x6 x7 y0 y1 q_o l_o o_reached g_o g_t mm np pa pp kc ks → W p l e (headSpec px_s264 ({ frames := 4, cells := mc, slots := ms, locals := 93 })).room s m ([.ref (hm a0x), .ref (hm a1x), .int a2x, .int a3x]).toArray below meth c H locs kc ks Q (F0 m 91 ls [.int y0, .int y1, .ref ((mm a0x).1 6)]) := by
        intro x2 x3 x4 x5 x6 x7 y0 y1 q_o l_o o_reached g_o g_t mm np pa pp kc ks H locs ls hkc hks hP hD hS hl hw
        unfold w264_L91 at hw
        refine lv_i2b (v := y0.toInt8.toInt32) hx hb px_d264_91 rfl ?_
        refine lv_topi (fun z1 ez1 => ?_)
        have hw := hw z1 ez1
        obtain ⟨hp92, hw⟩ := hw
        obtain ⟨hi92, hw⟩ := hw
        obtain ⟨mm2, emm2⟩ : ∃ z : Nat → px_MR, z = va_up mm a0x ((mm a0x).1, (mm a0x).2.1, (mm a0x).2.2.1, va_up (mm a0x).2.2.2.1 6 (upd ((mm a0x).2.2.2.1 6) (Int32.toNatClampNeg y1) (vp_nar .byte z1)), (mm a0x).2.2.2.2) := ⟨_, rfl⟩
        refine va_bast hx hb hK hP hD hS (3 + (13 * a0x + 6)) 1 (px_cg6 rfl hp92) rfl hi92 px_d264_92 (fun H locs hP hD hS => ?_)
        have hP : va_P (dC, dI) vwCl (([(ho, .inr (1, [.ref q_o, .ref q_t, .int o_reached])), (q_o, .inl (cc.2.1, l_o, .inl g_o)), (q_t, .inl (cc.2.1, 182, .inl g_t))] : va_W) ++ px_cp cc ho cm np ns hm pa sa mm2 pp ss) H := px_csP rfl hp92 (by decide) rfl (px_hr6 _ _ _) emm2 hP
        have hD : va_D A (([(ho, .inr (1, [.ref q_o, .ref q_t, .int o_reached])), (q_o, .inl (cc.2.1, l_o, .inl g_o)), (q_t, .inl (cc.2.1, 182, .inl g_t))] : va_W) ++ px_cp cc ho cm np ns hm pa sa mm2 pp ss) := px_csD rfl hp92 (by decide) rfl (px_hr6 _ _ _) emm2 hD
        have hw := hw mm2 emm2
        refine lv_iload hx hb px_d264_93 (lv_at hl 5 rfl) ?_
        refine lv_iload hx hb px_d264_95 (lv_at hl 4 rfl) ?_
        refine lv_isub hx hb px_d264_97 ?_
        refine lv_iload hx hb px_d264_98 (lv_at hl 4 rfl) ?_
        refine lv_iand hx hb px_d264_100 ?_
        refine lv_topi (fun z3 ez3 => ?_)
        have hw := hw z3 ez3
        refine lv_istore (lv' := [(5, .int z3), (0, .ref (hm a0x)), (1, .ref (hm a1x)), (2, .int x2), (3, .int x3), (4, .int x4), (6, .int x6), (7, .int x7)]) hx hb px_d264_101 hl (by decide) rfl (fun ls hl => ?_)
        obtain ⟨z4, ez4⟩ : ∃ y : Int32, y = x6 + 1 := ⟨_, rfl⟩
        have hw := hw z4 ez4
        refine lv_iinc (v := z4) (lv' := [(6, .int z4), (5, .int z3), (0, .ref (hm a0x)), (1, .ref (hm a1x)), (2, .int x2), (3, .int x3), (4, .int x4), (7, .int x7)]) hx hb px_d264_103 hl (k := 6) rfl (by rw [ez4]; rfl) (by decide) rfl (fun ls hl => ?_)
        refine lv_goto (tgt := 47) hx hb px_d264_106 (by decide) ?_
        exact ih47 x2 x3 x4 z3 z4 q_o l_o o_reached g_o g_t mm2 np pa pp kc ks H locs ls hkc hks hP hD hS (lv_sub hl [2, 3, 4, 5, 6, 1, 0] rfl) hw
      intro x2 x3 x4 x5 x6 q_o l_o o_reached g_o g_t mm np pa pp kc ks H locs ls hkc hks hP hD hS hl hw
      unfold w264_L47 at hw
      refine lv_iload hx hb px_d264_47 (lv_at hl 6 rfl) ?_
      refine lv_aload_n hx hb px_d264_49 rfl (lv_at hl 0 rfl) ?_
      obtain ⟨hp50, hw⟩ := hw
      have hPc := hP.part (cx := [(ho, .inr (1, [.ref q_o, .ref q_t, .int o_reached])), (q_o, .inl (cc.2.1, l_o, .inl g_o)), (q_t, .inl (cc.2.1, 182, .inl g_t))]) [0, 1, 2] rfl
      have hDc := hD.part (cx := [(ho, .inr (1, [.ref q_o, .ref q_t, .int o_reached])), (q_o, .inl (cc.2.1, l_o, .inl g_o)), (q_t, .inl (cc.2.1, 182, .inl g_t))]) [0, 1, 2] (by decide) rfl
      have hFc := va_freeP (cx := [(ho, .inr (1, [.ref q_o, .ref q_t, .int o_reached])), (q_o, .inl (cc.2.1, l_o, .inl g_o)), (q_t, .inl (cc.2.1, 182, .inl g_t))]) hD hS hA [0, 1, 2] rfl
      have hKc := hK.sub (tys' := [(cc.2.1, .int), (cc.2.2.2.1, .byte), (cc.2.2.2.2, .long), (cc.1, .object "MatroidDesk$Part"), (cc.2.2.1, (.array .int))]) [0, 1, 2, 3, 4] rfl
      refine va_calli (va_runV (As := []) (rest := [.int x6]) ⟨hx, hb, hml, hown, htw⟩ (w249_met l dC dI H.size ho q_t a0x cc cm np ns hm pa sa pp ss q_o l_o o_reached g_o g_t mm _ hw) (cwV 0 htw (px_gv px_w1265 px_w1287 px_w1288 px_w154 px_g249) rfl rfl rfl (by decide +kernel) ⟨Nat.le_of_ble_eq_true rfl, Nat.le_of_ble_eq_true rfl⟩) ⟨fun a U g mk q => by obtain ⟨q0, q1, qP, qK, qD, qN⟩ := q; exact ⟨q0, q1, qP, va_K.moved (u := U) (U := U.calling g mk a) (Vm.Alike.refl U.vm) qK, qD, qN.same rfl⟩, va_recv hK hP (ci := 10) (q0 := (3 + (13 * a0x + 0))) rfl (px_cg0 rfl hp50), fun U hU hW => ⟨rfl, by rw [hU], by rw [hU]; exact hPc, va_K.moved hW.alike hKc, hDc.weaken (fun _ _ _ _ => trivial), hN.warm hW⟩⟩ rfl rfl hl.1 rfl (lv_room (Nat.le_of_ble_eq_true rfl)) px_d264_50 ⟨hkc, hks⟩) hS (fun q _ h => hFc q h) hFc (fun r50 u t H1 locs ht hvm hw hB hz1 hk1 hS => ?_)
      obtain ⟨v5, v6, v7, v8, v9, v10⟩ := u
      obtain ⟨hP1, hK1, hD1⟩ := hB
      rw [ht] at hP1
      obtain ⟨hP, hD⟩ := va_joinP (wr := []) (rx := [(ho, .inr (1, [.ref v5, .ref q_t, .int v7])), (v5, .inl (cc.2.1, v6, .inl v8)), (q_t, .inl (cc.2.1, 182, .inl v9))]) hP hD [0, 1, 2] [] rfl rfl (by decide) (by decide) hk1 hFc hP1 hD1
      generalize H1 = H at hP hS ⊢
      have hP : va_P (dC, dI) vwCl (([(ho, .inr (1, [.ref v5, .ref q_t, .int v7])), (v5, .inl (cc.2.1, v6, .inl v8)), (q_t, .inl (cc.2.1, 182, .inl v9))] : va_W) ++ px_cp cc ho cm np ns hm pa sa v10 pp ss) H := hP
      have hD : va_D A (([(ho, .inr (1, [.ref v5, .ref q_t, .int v7])), (v5, .inl (cc.2.1, v6, .inl v8)), (q_t, .inl (cc.2.1, 182, .inl v9))] : va_W) ++ px_cp cc ho cm np ns hm pa sa v10 pp ss) := hD
      refine lv_icmp_gt (tgt := 109) hx hb px_d264_53 (by decide) (fun c53 => ?_) (fun c53 => ?_)
      · have hw := hw.1 c53
        refine lv_aload_n hx hb px_d264_109 rfl (lv_at hl 0 rfl) ?_
        obtain ⟨hp110, hw⟩ := hw
        have hPc := hP.part (cx := [(ho, .inr (1, [.ref v5, .ref q_t, .int v7])), (v5, .inl (cc.2.1, v6, .inl v8)), (q_t, .inl (cc.2.1, 182, .inl v9))]) [0, 1, 2] rfl
        have hDc := hD.part (cx := [(ho, .inr (1, [.ref v5, .ref q_t, .int v7])), (v5, .inl (cc.2.1, v6, .inl v8)), (q_t, .inl (cc.2.1, 182, .inl v9))]) [0, 1, 2] (by decide) rfl
        have hFc := va_freeP (cx := [(ho, .inr (1, [.ref v5, .ref q_t, .int v7])), (v5, .inl (cc.2.1, v6, .inl v8)), (q_t, .inl (cc.2.1, 182, .inl v9))]) hD hS hA [0, 1, 2] rfl
        have hKc := hK.sub (tys' := [(cc.2.1, .int), (cc.2.2.2.1, .byte), (cc.2.2.2.2, .long), (cc.1, .object "MatroidDesk$Part"), (cc.2.2.1, (.array .int))]) [0, 1, 2, 3, 4] rfl
        refine va_callv (va_runV (As := []) (rest := []) ⟨hx, hb, hml, hown, htw⟩ (w251_met l dC dI H.size ho q_t a0x cc cm np ns hm pa sa pp ss v5 v6 v7 v8 v9 v10 _ hw) (cwV 0 htw (px_gv px_w1269 px_w1292 px_w1293 px_w154 px_g251) rfl rfl rfl (by decide +kernel) ⟨Nat.le_of_ble_eq_true rfl, Nat.le_of_ble_eq_true rfl⟩) ⟨fun a U g mk q => by obtain ⟨q0, q1, qP, qK, qD, qN⟩ := q; exact ⟨q0, q1, qP, va_K.moved (u := U) (U := U.calling g mk a) (Vm.Alike.refl U.vm) qK, qD, qN.same rfl⟩, va_recv hK hP (ci := 10) (q0 := (3 + (13 * a0x + 0))) rfl (px_cg0 rfl hp110), fun U hU hW => ⟨rfl, by rw [hU], by rw [hU]; exact hPc, va_K.moved hW.alike hKc, hDc.weaken (fun _ _ _ _ => trivial), hN.warm hW⟩⟩ rfl rfl hl.1 rfl (lv_room (Nat.le_of_ble_eq_true rfl)) px_d264_110 ⟨hkc, hks⟩) hS (fun q _ h => hFc q h) hFc (fun u t H1 locs ht hvm hw hB hz1 hk1 hS => ?_)
        obtain ⟨v12, v13, v14, v15, v16, v17⟩ := u
        obtain ⟨hP1, hK1, hD1⟩ := hB
        rw [ht] at hP1
        obtain ⟨hP, hD⟩ := va_joinP (wr := []) (rx := [(ho, .inr (1, [.ref v12, .ref q_t, .int v14])), (v12, .inl (cc.2.1, v13, .inl v15)), (q_t, .inl (cc.2.1, 182, .inl v16))]) hP hD [0, 1, 2] [] rfl rfl (by decide) (by decide) hk1 hFc hP1 hD1
        generalize H1 = H at hP hS ⊢
        have hP : va_P (dC, dI) vwCl (([(ho, .inr (1, [.ref v12, .ref q_t, .int v14])), (v12, .inl (cc.2.1, v13, .inl v15)), (q_t, .inl (cc.2.1, 182, .inl v16))] : va_W) ++ px_cp cc ho cm np ns hm pa sa v17 pp ss) H := hP
        have hD : va_D A (([(ho, .inr (1, [.ref v12, .ref q_t, .int v14])), (v12, .inl (cc.2.1, v13, .inl v15)), (q_t, .inl (cc.2.1, 182, .inl v16))] : va_W) ++ px_cp cc ho cm np ns hm pa sa v17 pp ss) := hD
        refine W.widen (k := mc) (n := ms) hkc hks ?_
        rw [← hQ]
        exact W.vret hx hb hr (fun t ht hW => ⟨⟨(v12, v13, v14, v15, v16, v17, np, pa, pp), rfl, hw, by rw [ht]; exact hP, va_K.moved hW.alike hK, hD⟩, hS.F ht⟩) hS.2.2 px_d264_113
      · have hw := hw.2 c53
        refine lv_aload_n hx hb px_d264_56 rfl (lv_at hl 1 rfl) ?_
        obtain ⟨hp57, hw⟩ := hw
        refine va_get (D := (dC, dI)) (ci := 10) (v := .ref ((v10 a1x).1 6)) (C := "MatroidDesk$Matroid") (T := px_T10) (N := 15) hx hb htw px_in10 hown hK hP (3 + (13 * a1x + 0)) (px_cg0 rfl hp57) rfl 6 (by decide) (htw _ px_w1005) (fun _ h9 => h9) rfl px_d264_57 ?_
        refine lv_iload hx hb px_d264_60 (lv_at hl 5 rfl) ?_
        refine lv_iload_n hx hb px_d264_62 rfl (lv_at hl 3 rfl) ?_
        refine lv_ior hx hb px_d264_63 ?_
        obtain ⟨hp64, hw⟩ := hw
        obtain ⟨hi64, hw⟩ := hw
        refine va_bald hx hb hK hP (3 + (13 * a1x + 6)) 1 (px_cg6 rfl hp64) rfl hi64 px_d264_64 ?_
        refine lv_topi (fun z19 ez19 => ?_)
        have hw := hw z19 ez19
        refine lv_istore (lv' := [(7, .int z19), (0, .ref (hm a0x)), (1, .ref (hm a1x)), (2, .int x2), (3, .int x3), (4, .int x4), (5, .int x5), (6, .int x6)]) hx hb px_d264_65 hl (by decide) rfl (fun ls hl => ?_)
        refine lv_aload_n hx hb px_d264_67 rfl (lv_at hl 1 rfl) ?_
        obtain ⟨hp68, hw⟩ := hw
        refine va_get (D := (dC, dI)) (ci := 10) (v := .ref ((v10 a0x).1 6)) (C := "MatroidDesk$Matroid") (T := px_T10) (N := 15) hx hb htw px_in10 hown hK hP (3 + (13 * a0x + 0)) (px_cg0 rfl hp68) rfl 6 (by decide) (htw _ px_w1005) (fun _ h9 => h9) rfl px_d264_68 ?_
        refine lv_iload hx hb px_d264_71 (lv_at hl 7 rfl) ?_
        refine lv_aload_n hx hb px_d264_73 rfl (lv_at hl 1 rfl) ?_
        refine lv_iload hx hb px_d264_74 (lv_at hl 6 rfl) ?_
        refine lv_iload_n hx hb px_d264_76 rfl (lv_at hl 4 rfl) ?_
        obtain ⟨hp77, hw⟩ := hw
        have hPc := hP.part (cx := [(ho, .inr (1, [.ref v5, .ref q_t, .int v7])), (v5, .inl (cc.2.1, v6, .inl v8)), (q_t, .inl (cc.2.1, 182, .inl v9))]) [0, 1, 2] rfl
        have hDc := hD.part (cx := [(ho, .inr (1, [.ref v5, .ref q_t, .int v7])), (v5, .inl (cc.2.1, v6, .inl v8)), (q_t, .inl (cc.2.1, 182, .inl v9))]) [0, 1, 2] (by decide) rfl
        have hFc := va_freeP (cx := [(ho, .inr (1, [.ref v5, .ref q_t, .int v7])), (v5, .inl (cc.2.1, v6, .inl v8)), (q_t, .inl (cc.2.1, 182, .inl v9))]) hD hS hA [0, 1, 2] rfl
        have hKc := hK.sub (tys' := [(cc.2.1, .int), (cc.2.2.2.1, .byte), (cc.2.2.2.2, .long), (cc.1, .object "MatroidDesk$Part"), (cc.2.2.1, (.array .int))]) [0, 1, 2, 3, 4] rfl
        refine va_calli (va_runV (As := [.int x5, .int x3]) (rest := [.int x6, .ref ((v10 a0x).1 6)]) ⟨hx, hb, hml, hown, htw⟩ (w265_met l dC dI H.size ho q_t a0x cc cm np ns hm pa sa pp ss x5 x3 v5 v6 v7 v8 v9 v10 _ hw) (cwV 2 htw (px_gv px_w1347 px_w1349 px_w1350 px_w154 px_g265) rfl rfl rfl (by decide +kernel) ⟨Nat.le_of_ble_eq_true rfl, Nat.le_of_ble_eq_true rfl⟩) ⟨fun a U g mk q => by obtain ⟨q0, q1, qP, qK, qD, qN⟩ := q; exact ⟨q0, q1, qP, va_K.moved (u := U) (U := U.calling g mk a) (Vm.Alike.refl U.vm) qK, qD, qN.same rfl⟩, va_recv hK hP (ci := 10) (q0 := (3 + (13 * a0x + 0))) rfl (px_cg0 rfl hp77), fun U hU hW => ⟨rfl, by rw [hU], by rw [hU]; exact hPc, va_K.moved hW.alike hKc, hDc.weaken (fun _ _ _ _ => trivial), hN.warm hW⟩⟩ rfl rfl hl.1 rfl (lv_room (Nat.le_of_ble_eq_true rfl)) px_d264_77 ⟨hkc, hks⟩) hS (fun q _ h => hFc q h) hFc (fun r77 u t H1 locs ht hvm hw hB hz1 hk1 hS => ?_)
        obtain ⟨v20, v21, v22, v23, v24, v25⟩ := u
        obtain ⟨hP1, hK1, hD1⟩ := hB
        rw [ht] at hP1
        obtain ⟨hP, hD⟩ := va_joinP (wr := []) (rx := [(ho, .inr (1, [.ref v20, .ref q_t, .int v22])), (v20, .inl (cc.2.1, v21, .inl v23)), (q_t, .inl (cc.2.1, 182, .inl v24))]) hP hD [0, 1, 2] [] rfl rfl (by decide) (by decide) hk1 hFc hP1 hD1
        generalize H1 = H at hP hS ⊢
        have hP : va_P (dC, dI) vwCl (([(ho, .inr (1, [.ref v20, .ref q_t, .int v22])), (v20, .inl (cc.2.1, v21, .inl v23)), (q_t, .inl (cc.2.1, 182, .inl v24))] : va_W) ++ px_cp cc ho cm np ns hm pa sa v25 pp ss) H := hP
        have hD : va_D A (([(ho, .inr (1, [.ref v20, .ref q_t, .int v22])), (v20, .inl (cc.2.1, v21, .inl v23)), (q_t, .inl (cc.2.1, 182, .inl v24))] : va_W) ++ px_cp cc ho cm np ns hm pa sa v25 pp ss) := hD
        refine lv_if_eq (tgt := 89) hx hb px_d264_80 (by decide) (fun c80 => ?_) (fun c80 => ?_)
        · have hw := hw.1 c80
          refine lv_iload hx hb px_d264_89 (lv_at hl 0 rfl) ?_
          obtain ⟨hg2, hw⟩ := hw
          have hg2 : (v10 a0x).1 6 = (v25 a0x).1 6 := hg2
          rw [hg2]
          exact S91 x2 x3 x4 x5 x6 z19 z19 x6 v20 v21 v22 v23 v24 v25 np pa pp kc ks H locs ls hkc hks hP hD hS (lv_sub hl [1, 2, 3, 4, 5, 6, 7, 0] rfl) hw
        · have hw := hw.2 c80
          refine lv_iload hx hb px_d264_83 (lv_at hl 0 rfl) ?_
          refine lv_ineg hx hb px_d264_85 ?_
          refine lv_goto (tgt := 91) hx hb px_d264_86 (by decide) ?_
          obtain ⟨hg2, hw⟩ := hw
          have hg2 : (v10 a0x).1 6 = (v25 a0x).1 6 := hg2
          rw [hg2]
          exact S91 x2 x3 x4 x5 x6 z19 (-z19) x6 v20 v21 v22 v23 v24 v25 np pa pp kc ks H locs ls hkc hks hP hD hS (lv_sub hl [1, 2, 3, 4, 5, 6, 7, 0] rfl) hw
  unfold w264_wp at hw
  have hS0 := hS
  obtain ⟨H, hH9⟩ : ∃ z, z = s.heap := ⟨_, rfl⟩
  have hP : va_P (dC, dI) vwCl (([(ho, .inr (1, [.ref q_o, .ref q_t, .int o_reached])), (q_o, .inl (cc.2.1, l_o, .inl g_o)), (q_t, .inl (cc.2.1, 182, .inl g_t))] : va_W) ++ px_cp cc ho cm np ns hm pa sa mm pp ss) H := by rw [hH9]; exact hP
  obtain ⟨locs, hlo9⟩ : ∃ z : List Loc, z = [] := ⟨_, rfl⟩
  have hS : va_S A s.heap H locs := by rw [hH9, hlo9]; exact hS
  suffices hG : W p l e (headSpec px_s264 ({ frames := 4, cells := mc, slots := ms, locals := 93 })).room s m ([.ref (hm a0x), .ref (hm a1x), .int a2x, .int a3x]).toArray below meth c H locs 0 0 Q (F0 m 0 ls []) by rw [hH9, hlo9] at hG; exact hG
  refine lv_aload_n hx hb px_d264_0 rfl (lv_at hl 1 rfl) ?_
  obtain ⟨hp1, hw⟩ := hw
  have hPc := hP.part (cx := [(ho, .inr (1, [.ref q_o, .ref q_t, .int o_reached])), (q_o, .inl (cc.2.1, l_o, .inl g_o)), (q_t, .inl (cc.2.1, 182, .inl g_t))]) [0, 1, 2] rfl
  have hDc := hD.part (cx := [(ho, .inr (1, [.ref q_o, .ref q_t, .int o_reached])), (q_o, .inl (cc.2.1, l_o, .inl g_o)), (q_t, .inl (cc.2.1, 182, .inl g_t))]) [0, 1, 2] (by decide) rfl
  have hFc := va_freeP (cx := [(ho, .inr (1, [.ref q_o, .ref q_t, .int o_reached])), (q_o, .inl (cc.2.1, l_o, .inl g_o)), (q_t, .inl (cc.2.1, 182, .inl g_t))]) hD hS hA [0, 1, 2] rfl
  have hKc := hK.sub (tys' := [(cc.2.1, .int), (cc.2.2.2.1, .byte), (cc.2.2.2.2, .long), (cc.1, .object "MatroidDesk$Part"), (cc.2.2.1, (.array .int))]) [0, 1, 2, 3, 4] rfl
  refine va_calli (va_runV (As := []) (rest := []) ⟨hx, hb, hml, hown, htw⟩ (w249_met l dC dI H.size ho q_t a1x cc cm np ns hm pa sa pp ss q_o l_o o_reached g_o g_t mm _ hw) (cwV 0 htw (px_gv px_w1265 px_w1287 px_w1288 px_w154 px_g249) rfl rfl rfl (by decide +kernel) ⟨Nat.le_of_ble_eq_true rfl, Nat.le_of_ble_eq_true rfl⟩) ⟨fun a U g mk q => by obtain ⟨q0, q1, qP, qK, qD, qN⟩ := q; exact ⟨q0, q1, qP, va_K.moved (u := U) (U := U.calling g mk a) (Vm.Alike.refl U.vm) qK, qD, qN.same rfl⟩, va_recv hK hP (ci := 10) (q0 := (3 + (13 * a1x + 0))) rfl (px_cg0 rfl hp1), fun U hU hW => ⟨rfl, by rw [hU], by rw [hU]; exact hPc, va_K.moved hW.alike hKc, hDc.weaken (fun _ _ _ _ => trivial), hN.warm hW⟩⟩ rfl rfl hl.1 rfl (lv_room (Nat.le_of_ble_eq_true rfl)) px_d264_1 ⟨(Nat.zero_le mc), (Nat.zero_le ms)⟩) hS (fun q _ h => hFc q h) hFc (fun r1 u t H1 locs ht hvm hw hB hz1 hk1 hS => ?_)
  obtain ⟨v27, v28, v29, v30, v31, v32⟩ := u
  obtain ⟨hP1, hK1, hD1⟩ := hB
  rw [ht] at hP1
  obtain ⟨hP, hD⟩ := va_joinP (wr := []) (rx := [(ho, .inr (1, [.ref v27, .ref q_t, .int v29])), (v27, .inl (cc.2.1, v28, .inl v30)), (q_t, .inl (cc.2.1, 182, .inl v31))]) hP hD [0, 1, 2] [] rfl rfl (by decide) (by decide) hk1 hFc hP1 hD1
  generalize H1 = H at hP hS ⊢
  have hP : va_P (dC, dI) vwCl (([(ho, .inr (1, [.ref v27, .ref q_t, .int v29])), (v27, .inl (cc.2.1, v28, .inl v30)), (q_t, .inl (cc.2.1, 182, .inl v31))] : va_W) ++ px_cp cc ho cm np ns hm pa sa v32 pp ss) H := hP
  have hD : va_D A (([(ho, .inr (1, [.ref v27, .ref q_t, .int v29])), (v27, .inl (cc.2.1, v28, .inl v30)), (q_t, .inl (cc.2.1, 182, .inl v31))] : va_W) ++ px_cp cc ho cm np ns hm pa sa v32 pp ss) := hD
  refine lv_iload_n hx hb px_d264_4 rfl (lv_at hl 2 rfl) ?_
  refine lv_iconst (v := (-1)) hx hb px_d264_5 (by decide) ?_
  refine lv_ixor hx hb px_d264_6 ?_
  refine lv_iand hx hb px_d264_7 ?_
  refine lv_topi (fun z34 ez34 => ?_)
  have hw := hw z34 ez34
  refine lv_istore (lv' := [(4, .int z34), (0, .ref (hm a0x)), (1, .ref (hm a1x)), (2, .int a2x), (3, .int a3x)]) hx hb px_d264_8 hl (by decide) rfl (fun ls hl => ?_)
  refine lv_aload_n hx hb px_d264_10 rfl (lv_at hl 1 rfl) ?_
  refine lv_aload_n hx hb px_d264_11 rfl (lv_at hl 2 rfl) ?_
  obtain ⟨hp12, hw⟩ := hw
  refine va_get (D := (dC, dI)) (ci := 10) (v := .int ((v32 a1x).2.1 12)) (C := "MatroidDesk$Matroid") (T := px_T10) (N := 15) hx hb htw px_in10 hown hK hP (3 + (13 * a1x + 0)) (px_cg0 rfl hp12) rfl 12 (by decide) (htw _ px_w1273) (fun _ h9 => h9) rfl px_d264_12 ?_
  refine lv_iload hx hb px_d264_15 (lv_at hl 0 rfl) ?_
  have hPc := hP.sub (ws' := []) [] rfl
  have hDc := hD.sub (ws' := []) [] (by decide) rfl
  have hFc := va_free (wc := []) hD hS hA [] rfl
  have hKc := hK.sub (tys' := []) [] rfl
  refine va_calli (va_runS (As := [.int z34]) (rest := [.int ((v32 a1x).2.1 12), .ref (hm a0x)]) ⟨hx, hb, hml, hown, htw⟩ (w250_met l dC dI H.size z34 _ hw) (va_cwS 1 htw (px_gs2 px_w1266 px_w1290 px_w1764 px_g250) rfl rfl rfl (by decide +kernel) ⟨Nat.le_of_ble_eq_true rfl, Nat.le_of_ble_eq_true rfl⟩) ⟨fun a U g mk q => by obtain ⟨q0, q1, qP, qK, qD, qN⟩ := q; exact ⟨q0, q1, qP, va_K.moved (u := U) (U := U.calling g mk a) (Vm.Alike.refl U.vm) qK, qD, qN.same rfl⟩, fun U hU hW => ⟨rfl, by rw [hU], by rw [hU]; exact hPc, va_K.moved hW.alike hKc, hDc.weaken (fun _ _ _ _ => trivial), hN.warm hW⟩⟩ rfl rfl hl.1 rfl (lv_room (Nat.le_of_ble_eq_true rfl)) px_d264_17 ⟨(Nat.zero_le mc), (Nat.zero_le ms)⟩) hS (fun q _ h => hFc q h) hFc (fun r17 u t H1 locs ht hvm hw hB hz1 hk1 hS => ?_)
  obtain ⟨hP1, hK1, hD1⟩ := hB
  rw [ht] at hP1
  obtain ⟨hP, hD⟩ := va_joinQ (wr := [(ho, .inr (1, [.ref v27, .ref q_t, .int v29])), (v27, .inl (cc.2.1, v28, .inl v30)), (q_t, .inl (cc.2.1, 182, .inl v31))]) (w1 := []) hP hD [] [0, 1, 2] rfl rfl (by decide) (by decide) hk1 hFc hP1 hD1
  generalize H1 = H at hP hS ⊢
  have hP : va_P (dC, dI) vwCl (([(ho, .inr (1, [.ref v27, .ref q_t, .int v29])), (v27, .inl (cc.2.1, v28, .inl v30)), (q_t, .inl (cc.2.1, 182, .inl v31))] : va_W) ++ px_cp cc ho cm np ns hm pa sa v32 pp ss) H := hP
  have hD : va_D A (([(ho, .inr (1, [.ref v27, .ref q_t, .int v29])), (v27, .inl (cc.2.1, v28, .inl v30)), (q_t, .inl (cc.2.1, 182, .inl v31))] : va_W) ++ px_cp cc ho cm np ns hm pa sa v32 pp ss) := hD
  refine lv_aload_n hx hb px_d264_20 rfl (lv_at hl 2 rfl) ?_
  obtain ⟨hp21, hw⟩ := hw
  refine va_get (D := (dC, dI)) (ci := 10) (v := .int ((v32 a1x).2.1 14)) (C := "MatroidDesk$Matroid") (T := px_T10) (N := 15) hx hb htw px_in10 hown hK hP (3 + (13 * a1x + 0)) (px_cg0 rfl hp21) rfl 14 (by decide) (htw _ px_w1267) (fun _ h9 => h9) rfl px_d264_21 ?_
  refine lv_iload_n hx hb px_d264_24 rfl (lv_at hl 4 rfl) ?_
  have hPc := hP.sub (ws' := []) [] rfl
  have hDc := hD.sub (ws' := []) [] (by decide) rfl
  have hFc := va_free (wc := []) hD hS hA [] rfl
  have hKc := hK.sub (tys' := []) [] rfl
  refine va_calli (va_runS (As := [.int a3x]) (rest := [.int ((v32 a1x).2.1 14), .int r17, .int ((v32 a1x).2.1 12), .ref (hm a0x)]) ⟨hx, hb, hml, hown, htw⟩ (w250_met l dC dI H.size a3x _ hw) (va_cwS 1 htw (px_gs2 px_w1266 px_w1290 px_w1764 px_g250) rfl rfl rfl (by decide +kernel) ⟨Nat.le_of_ble_eq_true rfl, Nat.le_of_ble_eq_true rfl⟩) ⟨fun a U g mk q => by obtain ⟨q0, q1, qP, qK, qD, qN⟩ := q; exact ⟨q0, q1, qP, va_K.moved (u := U) (U := U.calling g mk a) (Vm.Alike.refl U.vm) qK, qD, qN.same rfl⟩, fun U hU hW => ⟨rfl, by rw [hU], by rw [hU]; exact hPc, va_K.moved hW.alike hKc, hDc.weaken (fun _ _ _ _ => trivial), hN.warm hW⟩⟩ rfl rfl hl.1 rfl (lv_room (Nat.le_of_ble_eq_true rfl)) px_d264_25 ⟨(Nat.zero_le mc), (Nat.zero_le ms)⟩) hS (fun q _ h => hFc q h) hFc (fun r25 u t H1 locs ht hvm hw hB hz1 hk1 hS => ?_)
  obtain ⟨hP1, hK1, hD1⟩ := hB
  rw [ht] at hP1
  obtain ⟨hP, hD⟩ := va_joinQ (wr := [(ho, .inr (1, [.ref v27, .ref q_t, .int v29])), (v27, .inl (cc.2.1, v28, .inl v30)), (q_t, .inl (cc.2.1, 182, .inl v31))]) (w1 := []) hP hD [] [0, 1, 2] rfl rfl (by decide) (by decide) hk1 hFc hP1 hD1
  generalize H1 = H at hP hS ⊢
  have hP : va_P (dC, dI) vwCl (([(ho, .inr (1, [.ref v27, .ref q_t, .int v29])), (v27, .inl (cc.2.1, v28, .inl v30)), (q_t, .inl (cc.2.1, 182, .inl v31))] : va_W) ++ px_cp cc ho cm np ns hm pa sa v32 pp ss) H := hP
  have hD : va_D A (([(ho, .inr (1, [.ref v27, .ref q_t, .int v29])), (v27, .inl (cc.2.1, v28, .inl v30)), (q_t, .inl (cc.2.1, 182, .inl v31))] : va_W) ++ px_cp cc ho cm np ns hm pa sa v32 pp ss) := hD
  refine lv_isub hx hb px_d264_28 ?_
  obtain ⟨m29_43, s29_43, hm29_43, hs29_43, hw⟩ := hw
  obtain ⟨hp29, hw⟩ := hw
  have hPc := hP.part (cx := [(ho, .inr (1, [.ref v27, .ref q_t, .int v29])), (v27, .inl (cc.2.1, v28, .inl v30)), (q_t, .inl (cc.2.1, 182, .inl v31))]) [0, 1, 2] rfl
  have hDc := hD.part (cx := [(ho, .inr (1, [.ref v27, .ref q_t, .int v29])), (v27, .inl (cc.2.1, v28, .inl v30)), (q_t, .inl (cc.2.1, 182, .inl v31))]) [0, 1, 2] (by decide) rfl
  have hFc := va_freeP (cx := [(ho, .inr (1, [.ref v27, .ref q_t, .int v29])), (v27, .inl (cc.2.1, v28, .inl v30)), (q_t, .inl (cc.2.1, 182, .inl v31))]) hD hS hA [0, 1, 2] rfl
  have hKc := hK.sub (tys' := [(cc.2.1, .int), (cc.2.2.2.1, .byte), (cc.2.2.2.2, .long), (cc.1, .object "MatroidDesk$Part"), (cc.2.2.1, (.array .int))]) [0, 1, 2, 3, 4] rfl
  refine va_callv (va_runV (As := [.int ((v32 a1x).2.1 12), .int r17, .int (((v32 a1x).2.1 14) - r25)]) (rest := []) ⟨hx, hb, hml, hown, htw⟩ (w246_met l dC dI H.size ho q_t a0x cc cm np ns hm pa sa pp ss m29_43 s29_43 ((v32 a1x).2.1 12) r17 (((v32 a1x).2.1 14) - r25) v27 v28 v29 v30 v31 v32 _ hw) (cwV 3 htw (px_gv px_w1262 px_w1271 px_w1272 px_w154 px_g246) rfl rfl rfl (by decide +kernel) ⟨Nat.le_of_ble_eq_true rfl, Nat.le_of_ble_eq_true rfl⟩) ⟨fun a U g mk q => by obtain ⟨q0, q1, qP, qK, qD, qN⟩ := q; exact ⟨q0, q1, qP, va_K.moved (u := U) (U := U.calling g mk a) (Vm.Alike.refl U.vm) qK, qD, qN.same rfl⟩, va_recv hK hP (ci := 10) (q0 := (3 + (13 * a0x + 0))) rfl (px_cg0 rfl hp29), fun U hU hW => ⟨rfl, by rw [hU], by rw [hU]; exact hPc, va_K.moved hW.alike hKc, hDc.weaken (fun _ _ _ _ => trivial), hN.warm hW⟩⟩ rfl rfl hl.1 rfl (lv_room (Nat.le_of_ble_eq_true rfl)) px_d264_29 ⟨hm29_43, hs29_43⟩) hS (fun q _ h => hFc q h) hFc (fun u t H1 locs ht hvm hw hB hz1 hk1 hS => ?_)
  obtain ⟨v37, v38, v39, v40, v41, v42⟩ := u
  obtain ⟨hP1, hK1, hD1⟩ := hB
  rw [ht] at hP1
  obtain ⟨hP, hD⟩ := va_joinP (wr := []) (rx := [(ho, .inr (1, [.ref v37, .ref q_t, .int v39])), (v37, .inl (cc.2.1, v38, .inl v40)), (q_t, .inl (cc.2.1, 182, .inl v41))]) hP hD [0, 1, 2] [] rfl rfl (by decide) (by decide) hk1 hFc hP1 hD1
  generalize H1 = H at hP hS ⊢
  have hP : va_P (dC, dI) vwCl (([(ho, .inr (1, [.ref v37, .ref q_t, .int v39])), (v37, .inl (cc.2.1, v38, .inl v40)), (q_t, .inl (cc.2.1, 182, .inl v41))] : va_W) ++ px_cp cc ho cm np ns hm pa sa v42 pp ss) H := hP
  have hD : va_D A (([(ho, .inr (1, [.ref v37, .ref q_t, .int v39])), (v37, .inl (cc.2.1, v38, .inl v40)), (q_t, .inl (cc.2.1, 182, .inl v41))] : va_W) ++ px_cp cc ho cm np ns hm pa sa v42 pp ss) := hD
  refine lv_aload_n hx hb px_d264_32 rfl (lv_at hl 1 rfl) ?_
  refine lv_aload_n hx hb px_d264_33 rfl (lv_at hl 2 rfl) ?_
  refine lv_iconst (v := 0) hx hb px_d264_34 (by decide) ?_
  refine lv_iload_n hx hb px_d264_35 rfl (lv_at hl 3 rfl) ?_
  refine lv_iload_n hx hb px_d264_36 rfl (lv_at hl 4 rfl) ?_
  refine lv_iconst (v := 0) hx hb px_d264_37 (by decide) ?_
  obtain ⟨m38_54, s38_54, hm38_54, hs38_54, hw⟩ := hw
  obtain ⟨hp38, hw⟩ := hw
  have hPc := hP.part (cx := [(ho, .inr (1, [.ref v37, .ref q_t, .int v39])), (v37, .inl (cc.2.1, v38, .inl v40)), (q_t, .inl (cc.2.1, 182, .inl v41))]) [0, 1, 2] rfl
  have hDc := hD.part (cx := [(ho, .inr (1, [.ref v37, .ref q_t, .int v39])), (v37, .inl (cc.2.1, v38, .inl v40)), (q_t, .inl (cc.2.1, 182, .inl v41))]) [0, 1, 2] (by decide) rfl
  have hFc := va_freeP (cx := [(ho, .inr (1, [.ref v37, .ref q_t, .int v39])), (v37, .inl (cc.2.1, v38, .inl v40)), (q_t, .inl (cc.2.1, 182, .inl v41))]) hD hS hA [0, 1, 2] rfl
  have hKc := hK.sub (tys' := [(cc.2.1, .int), (cc.2.2.2.1, .byte), (cc.2.2.2.2, .long), (cc.1, .object "MatroidDesk$Part"), (cc.2.2.1, (.array .int))]) [0, 1, 2, 3, 4] rfl
  refine va_callv (va_runV (As := [.ref (hm a1x), .int 0, .int a2x, .int a3x, .int 0]) (rest := []) ⟨hx, hb, hml, hown, htw⟩ (w259_met l dC dI H.size ho q_t a0x cc cm ns hm sa ss a1x m38_54 s38_54 0 a2x a3x 0 v37 v38 v39 v40 v41 v42 np pa pp _ hw) (cwV 5 htw (px_gv px_w1324 px_w1326 px_w1327 px_w154 px_g259) rfl rfl rfl (by decide +kernel) ⟨Nat.le_of_ble_eq_true rfl, Nat.le_of_ble_eq_true rfl⟩) ⟨fun a U g mk q => by obtain ⟨q0, q1, qP, qK, qD, qN⟩ := q; exact ⟨q0, q1, qP, va_K.moved (u := U) (U := U.calling g mk a) (Vm.Alike.refl U.vm) qK, qD, qN.same rfl⟩, va_recv hK hP (ci := 10) (q0 := (3 + (13 * a0x + 0))) rfl (px_cg0 rfl hp38), fun U hU hW => ⟨rfl, by rw [hU], by rw [hU]; exact hPc, va_K.moved hW.alike hKc, hDc.weaken (fun _ _ _ _ => trivial), hN.warm hW⟩⟩ rfl rfl hl.1 rfl (lv_room (Nat.le_of_ble_eq_true rfl)) px_d264_38 ⟨hm38_54, hs38_54⟩) hS (fun q _ h => hFc q h) hFc (fun u t H1 locs ht hvm hw hB hz1 hk1 hS => ?_)
  obtain ⟨v45, v46, v47, v48, v49, v50, v51, v52, v53⟩ := u
  obtain ⟨hP1, hK1, hD1⟩ := hB
  rw [ht] at hP1
  obtain ⟨hP, hD⟩ := va_joinP (wr := []) (rx := [(ho, .inr (1, [.ref v45, .ref q_t, .int v47])), (v45, .inl (cc.2.1, v46, .inl v48)), (q_t, .inl (cc.2.1, 182, .inl v49))]) hP hD [0, 1, 2] [] rfl rfl (by decide) (by decide) hk1 hFc hP1 hD1
  generalize H1 = H at hP hS ⊢
  have hP : va_P (dC, dI) vwCl (([(ho, .inr (1, [.ref v45, .ref q_t, .int v47])), (v45, .inl (cc.2.1, v46, .inl v48)), (q_t, .inl (cc.2.1, 182, .inl v49))] : va_W) ++ px_cp cc ho cm v51 ns hm v52 sa v50 v53 ss) H := hP
  have hD : va_D A (([(ho, .inr (1, [.ref v45, .ref q_t, .int v47])), (v45, .inl (cc.2.1, v46, .inl v48)), (q_t, .inl (cc.2.1, 182, .inl v49))] : va_W) ++ px_cp cc ho cm v51 ns hm v52 sa v50 v53 ss) := hD
  refine lv_iconst (v := 0) hx hb px_d264_41 (by decide) ?_
  refine lv_istore (lv' := [(5, .int 0), (4, .int z34), (0, .ref (hm a0x)), (1, .ref (hm a1x)), (2, .int a2x), (3, .int a3x)]) hx hb px_d264_42 hl (by decide) rfl (fun ls hl => ?_)
  refine lv_iconst (v := 0) hx hb px_d264_44 (by decide) ?_
  refine lv_istore (lv' := [(6, .int 0), (5, .int 0), (4, .int z34), (0, .ref (hm a0x)), (1, .ref (hm a1x)), (2, .int a2x), (3, .int a3x)]) hx hb px_d264_45 hl (by decide) rfl (fun ls hl => ?_)
  obtain ⟨k9, hw⟩ := hw
  exact S47 k9 a2x a3x z34 0 0 v45 v46 v47 v48 v49 v50 v51 v52 v53 (0 + m29_43 + m38_54) (0 + s29_43 + s38_54) H locs ls hm38_54 hs38_54 hP hD hS (lv_sub hl [3, 4, 5, 6, 2, 1, 0] rfl) hw

/-! MatroidDesk$Matroid.join(LMatroidDesk$Matroid;LMatroidDesk$Matroid;)V -/
def w267_L49 (a0x : Nat) (cm : Nat) (ns : Nat) (sa : Nat → Nat) (ss : Nat → px_SR) (a1x : Nat) (a2x : Nat) (mc : Nat) (ms : Nat) (post : Nat → Nat → Int32 → (Nat → Int32) → (Nat → Int32) → (Nat → px_MR) → Nat → (Nat → Nat) → (Nat → px_PR) → Prop) : Nat → Int32 → Nat → Nat → Int32 → (Nat → Int32) → (Nat → Int32) → (Nat → px_MR) → Nat → (Nat → Nat) → (Nat → px_PR) → Nat → Nat → Prop
  | 0 => fun _ _ _ _ _ _ _ _ _ _ _ _ => False
  | k + 1 => fun x3 q_o l_o o_reached g_o g_t mm np pa pp kc ks => a0x < cm ∧ (w249_wp a0x cm np ns pa sa pp ss (fun r51 v1 v2 v3 v4 v5 v6 => (r51 < x3 → post v1 v2 v3 v4 v5 v6 np pa pp) ∧ (¬ r51 < x3 → a0x < cm ∧ (a1x < cm ∧ (a1x < cm ∧ (w249_wp a1x cm np ns pa sa pp ss (fun r68 v8 v9 v10 v11 v12 v13 => (v6 a1x).1 6 = (v13 a1x).1 6 ∧ a1x < cm ∧ (vp_in (x3 &&& r68) ((v13 a1x).2.2.1 6) ∧ (a2x < cm ∧ (a1x < cm ∧ (a2x < cm ∧ (vp_in (x3 >>> (((v13 a1x).2.1 13) &&& 31)) ((v13 a2x).2.2.1 6) ∧ (∀ z15 : Int32, z15 = ((((v13 a1x).2.2.2.1 6) (Int32.toNatClampNeg (x3 &&& r68))) * (((v13 a2x).2.2.2.1 6) (Int32.toNatClampNeg (x3 >>> (((v13 a1x).2.1 13) &&& 31))))).toInt8.toInt32 → (v6 a0x).1 6 = (v13 a0x).1 6 ∧ a0x < cm ∧ (vp_in x3 ((v13 a0x).2.2.1 6) ∧ (∀ mm16 : Nat → px_MR, mm16 = va_up v13 a0x ((v13 a0x).1, (v13 a0x).2.1, (v13 a0x).2.2.1, va_up (v13 a0x).2.2.2.1 6 (upd ((v13 a0x).2.2.2.1 6) (Int32.toNatClampNeg x3) (vp_nar .byte z15)), (v13 a0x).2.2.2.2) → (∀ z17 : Int32, z17 = x3 + 1 → (w267_L49 a0x cm ns sa ss a1x a2x mc ms post k) z17 v8 v9 v10 v11 v12 mm16 np pa pp kc ks)))))))))) v1 v2 v3 v4 v5 v6))))) q_o l_o o_reached g_o g_t mm)
def w267_wp (a0x : Nat) (cm : Nat) (ns : Nat) (sa : Nat → Nat) (ss : Nat → px_SR) (a1x : Nat) (a2x : Nat) (mc : Nat) (ms : Nat) (post : Nat → Nat → Int32 → (Nat → Int32) → (Nat → Int32) → (Nat → px_MR) → Nat → (Nat → Nat) → (Nat → px_PR) → Prop) (q_o : Nat) (l_o : Nat) (o_reached : Int32) (g_o : Nat → Int32) (g_t : Nat → Int32) (mm : Nat → px_MR) (np : Nat) (pa : Nat → Nat) (pp : Nat → px_PR) : Prop := a1x < cm ∧ (a1x < cm ∧ (a2x < cm ∧ (a1x < cm ∧ (a2x < cm ∧ (∃ m23_24 s23_24 : Nat, 0 + m23_24 ≤ mc ∧ 0 + s23_24 ≤ ms ∧ a0x < cm ∧ (w246_wp a0x cm np ns pa sa pp ss m23_24 s23_24 (fun v18 v19 v20 v21 v22 v23 => ∃ m32_35 s32_35 : Nat, 0 + m23_24 + m32_35 ≤ mc ∧ 0 + s23_24 + s32_35 ≤ ms ∧ a0x < cm ∧ (w259_wp a0x cm ns sa ss a1x m32_35 s32_35 (fun v26 v27 v28 v29 v30 v31 v32 v33 v34 => a1x < cm ∧ (∃ m44_46 s44_46 : Nat, 0 + m23_24 + m32_35 + m44_46 ≤ mc ∧ 0 + s23_24 + s32_35 + s44_46 ≤ ms ∧ a0x < cm ∧ (w259_wp a0x cm ns sa ss a2x m44_46 s44_46 (fun v37 v38 v39 v40 v41 v42 v43 v44 v45 => ∃ j49, w267_L49 a0x cm ns sa ss a1x a2x mc ms post j49 0 v37 v38 v39 v40 v41 v42 v43 v44 v45 (0 + m23_24 + m32_35 + m44_46) (0 + s23_24 + s32_35 + s44_46)) ((v31 a1x).2.1 13) 0 0 0 v26 v27 v28 v29 v30 v31 v32 v33 v34))) 0 0 0 0 v18 v19 v20 v21 v22 v23 np pa pp)) ((mm a1x).2.1 12) (((mm a1x).2.1 13) + ((mm a2x).2.1 13)) (((mm a1x).2.1 14) + ((mm a2x).2.1 14)) q_o l_o o_reached g_o g_t mm))))))
set_option maxHeartbeats 8000000 in
set_option maxRecDepth 100000 in
theorem w267_met (l : Launch) (dC : Nat → ClassId) (dI : Nat → Nat → Nat) (sz : Nat) (ho : Nat) (q_t : Nat) (a0x : Nat) (cc : px_CC) (cm : Nat) (ns : Nat) (hm : Nat → Nat) (sa : Nat → Nat) (ss : Nat → px_SR) (a1x : Nat) (a2x : Nat) (mc : Nat) (ms : Nat) (q_o : Nat) (l_o : Nat) (o_reached : Int32) (g_o : Nat → Int32) (g_t : Nat → Int32) (mm : Nat → px_MR) (np : Nat) (pa : Nat → Nat) (pp : Nat → px_PR) (post : Nat → Nat → Int32 → (Nat → Int32) → (Nat → Int32) → (Nat → px_MR) → Nat → (Nat → Nat) → (Nat → px_PR) → Prop) (hw : w267_wp a0x cm ns sa ss a1x a2x mc ms post q_o l_o o_reached g_o g_t mm np pa pp) : Met l px_y267 px_s267 ({ frames := 4, cells := mc, slots := ms, locals := 93 }) (va_Pc [.ref (hm a0x), .ref (hm a1x), .ref (hm a2x)] (fun U => U.heap.size = sz ∧ va_P (dC, dI) vwCl (([(ho, .inr (1, [.ref q_o, .ref q_t, .int o_reached])), (q_o, .inl (cc.2.1, l_o, .inl g_o)), (q_t, .inl (cc.2.1, 182, .inl g_t))] : va_W) ++ px_cp cc ho cm np ns hm pa sa mm pp ss) U.heap ∧ va_K (dC, dI) vwCl [(cc.2.1, .int), (cc.2.2.2.1, .byte), (cc.2.2.2.2, .long), (cc.1, .object "MatroidDesk$Part"), (cc.2.2.1, (.array .int))] U ∧ va_D (fun _ => True) (([(ho, .inr (1, [.ref q_o, .ref q_t, .int o_reached])), (q_o, .inl (cc.2.1, l_o, .inl g_o)), (q_t, .inl (cc.2.1, 182, .inl g_t))] : va_W) ++ px_cp cc ho cm np ns hm pa sa mm pp ss) ∧ px_N U)) (va_Qv (fun (u : Nat × Nat × Int32 × (Nat → Int32) × (Nat → Int32) × (Nat → px_MR) × Nat × (Nat → Nat) × (Nat → px_PR)) => post u.1 u.2.1 u.2.2.1 u.2.2.2.1 u.2.2.2.2.1 u.2.2.2.2.2.1 u.2.2.2.2.2.2.1 u.2.2.2.2.2.2.2.1 u.2.2.2.2.2.2.2.2) (fun (u : Nat × Nat × Int32 × (Nat → Int32) × (Nat → Int32) × (Nat → px_MR) × Nat × (Nat → Nat) × (Nat → px_PR)) (t : State) => va_P (dC, dI) vwCl (([(ho, .inr (1, [.ref u.1, .ref q_t, .int u.2.2.1])), (u.1, .inl (cc.2.1, u.2.1, .inl u.2.2.2.1)), (q_t, .inl (cc.2.1, 182, .inl u.2.2.2.2.1))] : va_W) ++ px_cp cc ho cm u.2.2.2.2.2.2.1 ns hm u.2.2.2.2.2.2.2.1 sa u.2.2.2.2.2.1 u.2.2.2.2.2.2.2.2 ss) t.heap ∧ va_K (dC, dI) vwCl [(cc.2.1, .int), (cc.2.2.2.1, .byte), (cc.2.2.2.2, .long), (cc.1, .object "MatroidDesk$Part"), (cc.2.2.1, (.array .int))] t ∧ va_D (va_A (([(ho, .inr (1, [.ref q_o, .ref q_t, .int o_reached])), (q_o, .inl (cc.2.1, l_o, .inl g_o)), (q_t, .inl (cc.2.1, 182, .inl g_t))] : va_W) ++ px_cp cc ho cm np ns hm pa sa mm pp ss) sz) (([(ho, .inr (1, [.ref u.1, .ref q_t, .int u.2.2.1])), (u.1, .inl (cc.2.1, u.2.1, .inl u.2.2.2.1)), (q_t, .inl (cc.2.1, 182, .inl u.2.2.2.2.1))] : va_W) ++ px_cp cc ho cm u.2.2.2.2.2.2.1 ns hm u.2.2.2.2.2.2.2.1 sa u.2.2.2.2.2.1 u.2.2.2.2.2.2.2.2 ss)) (va_A (([(ho, .inr (1, [.ref q_o, .ref q_t, .int o_reached])), (q_o, .inl (cc.2.1, l_o, .inl g_o)), (q_t, .inl (cc.2.1, 182, .inl g_t))] : va_W) ++ px_cp cc ho cm np ns hm pa sa mm pp ss) sz)) mc ms (va_A (([(ho, .inr (1, [.ref q_o, .ref q_t, .int o_reached])), (q_o, .inl (cc.2.1, l_o, .inl g_o)), (q_t, .inl (cc.2.1, 182, .inl g_t))] : va_W) ++ px_cp cc ho cm np ns hm pa sa mm pp ss) sz) := by
  refine Met.ofW (cc := prog_3_method_5_code) (maxL := 4) (ret := none) (by decide) rfl ?_
  intro p e s m args below meth c s₁ B hml hv
  obtain ⟨rfl, hsz, hP, hK, hD0, hN⟩ := hv
  have hx := B.exec
  have hb := B.bytes
  have hr := B.returns
  have htw : ∀ w ∈ px_all, w.before _ s = true := fun w h => atoms_spec (ws := px_s267) B.pre w (List.mem_cons_of_mem _ h)
  have hown : s.vm.findClass "MatroidDesk$Matroid" = some m.cls := findClass_of_methodNamed B.named
  have hlocks := B.notSynchronized
  subst hsz
  have hD := hD0.self (sz := s.heap.size)
  generalize hAe : va_A (([(ho, .inr (1, [.ref q_o, .ref q_t, .int o_reached])), (q_o, .inl (cc.2.1, l_o, .inl g_o)), (q_t, .inl (cc.2.1, 182, .inl g_t))] : va_W) ++ px_cp cc ho cm np ns hm pa sa mm pp ss) s.heap.size = A at hD ⊢
  have hA : ∀ q : Nat, s.heap.size ≤ q → A q := fun q h => by rw [← hAe]; exact Or.inr h
  have hS : va_S A s.heap s.heap [] := va_S.rf
  have hP : va_P (dC, dI) vwCl (([(ho, .inr (1, [.ref q_o, .ref q_t, .int o_reached])), (q_o, .inl (cc.2.1, l_o, .inl g_o)), (q_t, .inl (cc.2.1, 182, .inl g_t))] : va_W) ++ px_cp cc ho cm np ns hm pa sa mm pp ss) s.heap := hP
  have hl := lv_entry ([.ref (hm a0x), .ref (hm a1x), .ref (hm a2x)]) (n := 4) (Nat.le_of_ble_eq_true rfl)
  rw [lg_entry_eq]
  generalize (lg_sl ([.ref (hm a0x), .ref (hm a1x), .ref (hm a2x)]) ++ List.replicate (4 - (lg_sl ([.ref (hm a0x), .ref (hm a1x), .ref (hm a2x)])).length) Slot.unset).toArray = ls at hl ⊢
  have hl : lv_has ls 4 [(0, .ref (hm a0x)), (1, .ref (hm a1x)), (2, .ref (hm a2x))] := hl
  generalize hQ : MQ _ _ _ _ _ _ _ = Q
  have S49 : ∀ (k49 : Nat) (x3 : Int32) (q_o : Nat) (l_o : Nat) (o_reached : Int32) (g_o : Nat → Int32) (g_t : Nat → Int32) (mm : Nat → px_MR) (np : Nat) (pa : Nat → Nat) (pp : Nat → px_PR) (kc : Nat) (ks : Nat) (H : Heap) (locs : List Loc) (ls : Array Slot), kc ≤ mc → ks ≤ ms → va_P (dC, dI) vwCl (([(ho, .inr (1, [.ref q_o, .ref q_t, .int o_reached])), (q_o, .inl (cc.2.1, l_o, .inl g_o)), (q_t, .inl (cc.2.1, 182, .inl g_t))] : va_W) ++ px_cp cc ho cm np ns hm pa sa mm pp ss) H → va_D A (([(ho, .inr (1, [.ref q_o, .ref q_t, .int o_reached])), (q_o, .inl (cc.2.1, l_o, .inl g_o)), (q_t, .inl (cc.2.1, 182, .inl g_t))] : va_W) ++ px_cp cc ho cm np ns hm pa sa mm pp ss) → va_S A s.heap H locs → lv_has ls 4 [(0, .ref (hm a0x)), (1, .ref (hm a1x)), (2, .ref (hm a2x)), (3, .int x3)] → w267_L49 a0x cm ns sa ss a1x a2x mc ms post k49 x3 q_o l_o o_reached g_o g_t mm np pa pp kc ks → W p l e (headSpec px_s267 ({ frames := 4, cells := mc, slots := ms, locals := 93 })).room s m ([.ref (hm a0x), .ref (hm a1x), .ref (hm a2x)]).toArray below meth c H locs kc ks Q (F0 m 49 ls []) := by
    intro k49
    induction k49 with
    | zero => intro x3 q_o l_o o_reached g_o g_t mm np pa pp kc ks H locs ls hkc hks hP hD hS hl hw; exact False.elim hw
    | succ k49 ih49 =>
      intro x3 q_o l_o o_reached g_o g_t mm np pa pp kc ks H locs ls hkc hks hP hD hS hl hw
      unfold w267_L49 at hw
      refine lv_iload_n hx hb px_d267_49 rfl (lv_at hl 3 rfl) ?_
      refine lv_aload_n hx hb px_d267_50 rfl (lv_at hl 0 rfl) ?_
      obtain ⟨hp51, hw⟩ := hw
      have hPc := hP.part (cx := [(ho, .inr (1, [.ref q_o, .ref q_t, .int o_reached])), (q_o, .inl (cc.2.1, l_o, .inl g_o)), (q_t, .inl (cc.2.1, 182, .inl g_t))]) [0, 1, 2] rfl
      have hDc := hD.part (cx := [(ho, .inr (1, [.ref q_o, .ref q_t, .int o_reached])), (q_o, .inl (cc.2.1, l_o, .inl g_o)), (q_t, .inl (cc.2.1, 182, .inl g_t))]) [0, 1, 2] (by decide) rfl
      have hFc := va_freeP (cx := [(ho, .inr (1, [.ref q_o, .ref q_t, .int o_reached])), (q_o, .inl (cc.2.1, l_o, .inl g_o)), (q_t, .inl (cc.2.1, 182, .inl g_t))]) hD hS hA [0, 1, 2] rfl
      have hKc := hK.sub (tys' := [(cc.2.1, .int), (cc.2.2.2.1, .byte), (cc.2.2.2.2, .long), (cc.1, .object "MatroidDesk$Part"), (cc.2.2.1, (.array .int))]) [0, 1, 2, 3, 4] rfl
      refine va_calli (va_runV (As := []) (rest := [.int x3]) ⟨hx, hb, hml, hown, htw⟩ (w249_met l dC dI H.size ho q_t a0x cc cm np ns hm pa sa pp ss q_o l_o o_reached g_o g_t mm _ hw) (cwV 0 htw (px_gv px_w1265 px_w1287 px_w1288 px_w154 px_g249) rfl rfl rfl (by decide +kernel) ⟨Nat.le_of_ble_eq_true rfl, Nat.le_of_ble_eq_true rfl⟩) ⟨fun a U g mk q => by obtain ⟨q0, q1, qP, qK, qD, qN⟩ := q; exact ⟨q0, q1, qP, va_K.moved (u := U) (U := U.calling g mk a) (Vm.Alike.refl U.vm) qK, qD, qN.same rfl⟩, va_recv hK hP (ci := 10) (q0 := (3 + (13 * a0x + 0))) rfl (px_cg0 rfl hp51), fun U hU hW => ⟨rfl, by rw [hU], by rw [hU]; exact hPc, va_K.moved hW.alike hKc, hDc.weaken (fun _ _ _ _ => trivial), hN.warm hW⟩⟩ rfl rfl hl.1 rfl (lv_room (Nat.le_of_ble_eq_true rfl)) px_d267_51 ⟨hkc, hks⟩) hS (fun q _ h => hFc q h) hFc (fun r51 u t H1 locs ht hvm hw hB hz1 hk1 hS => ?_)
      obtain ⟨v1, v2, v3, v4, v5, v6⟩ := u
      obtain ⟨hP1, hK1, hD1⟩ := hB
      rw [ht] at hP1
      obtain ⟨hP, hD⟩ := va_joinP (wr := []) (rx := [(ho, .inr (1, [.ref v1, .ref q_t, .int v3])), (v1, .inl (cc.2.1, v2, .inl v4)), (q_t, .inl (cc.2.1, 182, .inl v5))]) hP hD [0, 1, 2] [] rfl rfl (by decide) (by decide) hk1 hFc hP1 hD1
      generalize H1 = H at hP hS ⊢
      have hP : va_P (dC, dI) vwCl (([(ho, .inr (1, [.ref v1, .ref q_t, .int v3])), (v1, .inl (cc.2.1, v2, .inl v4)), (q_t, .inl (cc.2.1, 182, .inl v5))] : va_W) ++ px_cp cc ho cm np ns hm pa sa v6 pp ss) H := hP
      have hD : va_D A (([(ho, .inr (1, [.ref v1, .ref q_t, .int v3])), (v1, .inl (cc.2.1, v2, .inl v4)), (q_t, .inl (cc.2.1, 182, .inl v5))] : va_W) ++ px_cp cc ho cm np ns hm pa sa v6 pp ss) := hD
      refine lv_icmp_gt (tgt := 93) hx hb px_d267_54 (by decide) (fun c54 => ?_) (fun c54 => ?_)
      · have hw := hw.1 c54
        refine W.widen (k := mc) (n := ms) hkc hks ?_
        rw [← hQ]
        exact W.vret hx hb hr (fun t ht hW => ⟨⟨(v1, v2, v3, v4, v5, v6, np, pa, pp), rfl, hw, by rw [ht]; exact hP, va_K.moved hW.alike hK, hD⟩, hS.F ht⟩) hS.2.2 px_d267_93
      · have hw := hw.2 c54
        refine lv_aload_n hx hb px_d267_57 rfl (lv_at hl 0 rfl) ?_
        obtain ⟨hp58, hw⟩ := hw
        refine va_get (D := (dC, dI)) (ci := 10) (v := .ref ((v6 a0x).1 6)) (C := "MatroidDesk$Matroid") (T := px_T10) (N := 15) hx hb htw px_in10 hown hK hP (3 + (13 * a0x + 0)) (px_cg0 rfl hp58) rfl 6 (by decide) (htw _ px_w1005) (fun _ h9 => h9) rfl px_d267_58 ?_
        refine lv_iload_n hx hb px_d267_61 rfl (lv_at hl 3 rfl) ?_
        refine lv_aload_n hx hb px_d267_62 rfl (lv_at hl 1 rfl) ?_
        obtain ⟨hp63, hw⟩ := hw
        refine va_get (D := (dC, dI)) (ci := 10) (v := .ref ((v6 a1x).1 6)) (C := "MatroidDesk$Matroid") (T := px_T10) (N := 15) hx hb htw px_in10 hown hK hP (3 + (13 * a1x + 0)) (px_cg0 rfl hp63) rfl 6 (by decide) (htw _ px_w1005) (fun _ h9 => h9) rfl px_d267_63 ?_
        refine lv_iload_n hx hb px_d267_66 rfl (lv_at hl 3 rfl) ?_
        refine lv_aload_n hx hb px_d267_67 rfl (lv_at hl 1 rfl) ?_
        obtain ⟨hp68, hw⟩ := hw
        have hPc := hP.part (cx := [(ho, .inr (1, [.ref v1, .ref q_t, .int v3])), (v1, .inl (cc.2.1, v2, .inl v4)), (q_t, .inl (cc.2.1, 182, .inl v5))]) [0, 1, 2] rfl
        have hDc := hD.part (cx := [(ho, .inr (1, [.ref v1, .ref q_t, .int v3])), (v1, .inl (cc.2.1, v2, .inl v4)), (q_t, .inl (cc.2.1, 182, .inl v5))]) [0, 1, 2] (by decide) rfl
        have hFc := va_freeP (cx := [(ho, .inr (1, [.ref v1, .ref q_t, .int v3])), (v1, .inl (cc.2.1, v2, .inl v4)), (q_t, .inl (cc.2.1, 182, .inl v5))]) hD hS hA [0, 1, 2] rfl
        have hKc := hK.sub (tys' := [(cc.2.1, .int), (cc.2.2.2.1, .byte), (cc.2.2.2.2, .long), (cc.1, .object "MatroidDesk$Part"), (cc.2.2.1, (.array .int))]) [0, 1, 2, 3, 4] rfl
        refine va_calli (va_runV (As := []) (rest := [.int x3, .ref ((v6 a1x).1 6), .int x3, .ref ((v6 a0x).1 6)]) ⟨hx, hb, hml, hown, htw⟩ (w249_met l dC dI H.size ho q_t a1x cc cm np ns hm pa sa pp ss v1 v2 v3 v4 v5 v6 _ hw) (cwV 0 htw (px_gv px_w1265 px_w1287 px_w1288 px_w154 px_g249) rfl rfl rfl (by decide +kernel) ⟨Nat.le_of_ble_eq_true rfl, Nat.le_of_ble_eq_true rfl⟩) ⟨fun a U g mk q => by obtain ⟨q0, q1, qP, qK, qD, qN⟩ := q; exact ⟨q0, q1, qP, va_K.moved (u := U) (U := U.calling g mk a) (Vm.Alike.refl U.vm) qK, qD, qN.same rfl⟩, va_recv hK hP (ci := 10) (q0 := (3 + (13 * a1x + 0))) rfl (px_cg0 rfl hp68), fun U hU hW => ⟨rfl, by rw [hU], by rw [hU]; exact hPc, va_K.moved hW.alike hKc, hDc.weaken (fun _ _ _ _ => trivial), hN.warm hW⟩⟩ rfl rfl hl.1 rfl (lv_room (Nat.le_of_ble_eq_true rfl)) px_d267_68 ⟨hkc, hks⟩) hS (fun q _ h => hFc q h) hFc (fun r68 u t H1 locs ht hvm hw hB hz1 hk1 hS => ?_)
        obtain ⟨v8, v9, v10, v11, v12, v13⟩ := u
        obtain ⟨hP1, hK1, hD1⟩ := hB
        rw [ht] at hP1
        obtain ⟨hP, hD⟩ := va_joinP (wr := []) (rx := [(ho, .inr (1, [.ref v8, .ref q_t, .int v10])), (v8, .inl (cc.2.1, v9, .inl v11)), (q_t, .inl (cc.2.1, 182, .inl v12))]) hP hD [0, 1, 2] [] rfl rfl (by decide) (by decide) hk1 hFc hP1 hD1
        generalize H1 = H at hP hS ⊢
        have hP : va_P (dC, dI) vwCl (([(ho, .inr (1, [.ref v8, .ref q_t, .int v10])), (v8, .inl (cc.2.1, v9, .inl v11)), (q_t, .inl (cc.2.1, 182, .inl v12))] : va_W) ++ px_cp cc ho cm np ns hm pa sa v13 pp ss) H := hP
        have hD : va_D A (([(ho, .inr (1, [.ref v8, .ref q_t, .int v10])), (v8, .inl (cc.2.1, v9, .inl v11)), (q_t, .inl (cc.2.1, 182, .inl v12))] : va_W) ++ px_cp cc ho cm np ns hm pa sa v13 pp ss) := hD
        refine lv_iand hx hb px_d267_71 ?_
        obtain ⟨hf72, hw⟩ := hw
        rw [hf72]
        obtain ⟨hp72, hw⟩ := hw
        obtain ⟨hi72, hw⟩ := hw
        refine va_bald hx hb hK hP (3 + (13 * a1x + 6)) 1 (px_cg6 rfl hp72) rfl hi72 px_d267_72 ?_
        refine lv_aload_n hx hb px_d267_73 rfl (lv_at hl 2 rfl) ?_
        obtain ⟨hp74, hw⟩ := hw
        refine va_get (D := (dC, dI)) (ci := 10) (v := .ref ((v13 a2x).1 6)) (C := "MatroidDesk$Matroid") (T := px_T10) (N := 15) hx hb htw px_in10 hown hK hP (3 + (13 * a2x + 0)) (px_cg0 rfl hp74) rfl 6 (by decide) (htw _ px_w1005) (fun _ h9 => h9) rfl px_d267_74 ?_
        refine lv_iload_n hx hb px_d267_77 rfl (lv_at hl 3 rfl) ?_
        refine lv_aload_n hx hb px_d267_78 rfl (lv_at hl 1 rfl) ?_
        obtain ⟨hp79, hw⟩ := hw
        refine va_get (D := (dC, dI)) (ci := 10) (v := .int ((v13 a1x).2.1 13)) (C := "MatroidDesk$Matroid") (T := px_T10) (N := 15) hx hb htw px_in10 hown hK hP (3 + (13 * a1x + 0)) (px_cg0 rfl hp79) rfl 13 (by decide) (htw _ px_w1264) (fun _ h9 => h9) rfl px_d267_79 ?_
        refine lv_ishr hx hb px_d267_82 ?_
        obtain ⟨hp83, hw⟩ := hw
        obtain ⟨hi83, hw⟩ := hw
        refine va_bald hx hb hK hP (3 + (13 * a2x + 6)) 1 (px_cg6 rfl hp83) rfl hi83 px_d267_83 ?_
        refine lv_imul hx hb px_d267_84 ?_
        refine lv_i2b (v := ((((v13 a1x).2.2.2.1 6) (Int32.toNatClampNeg (x3 &&& r68))) * (((v13 a2x).2.2.2.1 6) (Int32.toNatClampNeg (x3 >>> (((v13 a1x).2.1 13) &&& 31))))).toInt8.toInt32) hx hb px_d267_85 rfl ?_
        refine lv_topi (fun z15 ez15 => ?_)
        have hw := hw z15 ez15
        obtain ⟨hf86, hw⟩ := hw
        rw [hf86]
        obtain ⟨hp86, hw⟩ := hw
        obtain ⟨hi86, hw⟩ := hw
        obtain ⟨mm16, emm16⟩ : ∃ z : Nat → px_MR, z = va_up v13 a0x ((v13 a0x).1, (v13 a0x).2.1, (v13 a0x).2.2.1, va_up (v13 a0x).2.2.2.1 6 (upd ((v13 a0x).2.2.2.1 6) (Int32.toNatClampNeg x3) (vp_nar .byte z15)), (v13 a0x).2.2.2.2) := ⟨_, rfl⟩
        refine va_bast hx hb hK hP hD hS (3 + (13 * a0x + 6)) 1 (px_cg6 rfl hp86) rfl hi86 px_d267_86 (fun H locs hP hD hS => ?_)
        have hP : va_P (dC, dI) vwCl (([(ho, .inr (1, [.ref v8, .ref q_t, .int v10])), (v8, .inl (cc.2.1, v9, .inl v11)), (q_t, .inl (cc.2.1, 182, .inl v12))] : va_W) ++ px_cp cc ho cm np ns hm pa sa mm16 pp ss) H := px_csP rfl hp86 (by decide) rfl (px_hr6 _ _ _) emm16 hP
        have hD : va_D A (([(ho, .inr (1, [.ref v8, .ref q_t, .int v10])), (v8, .inl (cc.2.1, v9, .inl v11)), (q_t, .inl (cc.2.1, 182, .inl v12))] : va_W) ++ px_cp cc ho cm np ns hm pa sa mm16 pp ss) := px_csD rfl hp86 (by decide) rfl (px_hr6 _ _ _) emm16 hD
        have hw := hw mm16 emm16
        obtain ⟨z17, ez17⟩ : ∃ y : Int32, y = x3 + 1 := ⟨_, rfl⟩
        have hw := hw z17 ez17
        refine lv_iinc (v := z17) (lv' := [(3, .int z17), (0, .ref (hm a0x)), (1, .ref (hm a1x)), (2, .ref (hm a2x))]) hx hb px_d267_87 hl (k := 3) rfl (by rw [ez17]; rfl) (by decide) rfl (fun ls hl => ?_)
        refine lv_goto (tgt := 49) hx hb px_d267_90 (by decide) ?_
        exact ih49 z17 v8 v9 v10 v11 v12 mm16 np pa pp kc ks H locs ls hkc hks hP hD hS (lv_sub hl [1, 2, 3, 0] rfl) hw
  unfold w267_wp at hw
  have hS0 := hS
  obtain ⟨H, hH9⟩ : ∃ z, z = s.heap := ⟨_, rfl⟩
  have hP : va_P (dC, dI) vwCl (([(ho, .inr (1, [.ref q_o, .ref q_t, .int o_reached])), (q_o, .inl (cc.2.1, l_o, .inl g_o)), (q_t, .inl (cc.2.1, 182, .inl g_t))] : va_W) ++ px_cp cc ho cm np ns hm pa sa mm pp ss) H := by rw [hH9]; exact hP
  obtain ⟨locs, hlo9⟩ : ∃ z : List Loc, z = [] := ⟨_, rfl⟩
  have hS : va_S A s.heap H locs := by rw [hH9, hlo9]; exact hS
  suffices hG : W p l e (headSpec px_s267 ({ frames := 4, cells := mc, slots := ms, locals := 93 })).room s m ([.ref (hm a0x), .ref (hm a1x), .ref (hm a2x)]).toArray below meth c H locs 0 0 Q (F0 m 0 ls []) by rw [hH9, hlo9] at hG; exact hG
  refine lv_aload_n hx hb px_d267_0 rfl (lv_at hl 0 rfl) ?_
  refine lv_aload_n hx hb px_d267_1 rfl (lv_at hl 1 rfl) ?_
  obtain ⟨hp2, hw⟩ := hw
  refine va_get (D := (dC, dI)) (ci := 10) (v := .int ((mm a1x).2.1 12)) (C := "MatroidDesk$Matroid") (T := px_T10) (N := 15) hx hb htw px_in10 hown hK hP (3 + (13 * a1x + 0)) (px_cg0 rfl hp2) rfl 12 (by decide) (htw _ px_w1273) (fun _ h9 => h9) rfl px_d267_2 ?_
  refine lv_aload_n hx hb px_d267_5 rfl (lv_at hl 1 rfl) ?_
  obtain ⟨hp6, hw⟩ := hw
  refine va_get (D := (dC, dI)) (ci := 10) (v := .int ((mm a1x).2.1 13)) (C := "MatroidDesk$Matroid") (T := px_T10) (N := 15) hx hb htw px_in10 hown hK hP (3 + (13 * a1x + 0)) (px_cg0 rfl hp6) rfl 13 (by decide) (htw _ px_w1264) (fun _ h9 => h9) rfl px_d267_6 ?_
  refine lv_aload_n hx hb px_d267_9 rfl (lv_at hl 2 rfl) ?_
  obtain ⟨hp10, hw⟩ := hw
  refine va_get (D := (dC, dI)) (ci := 10) (v := .int ((mm a2x).2.1 13)) (C := "MatroidDesk$Matroid") (T := px_T10) (N := 15) hx hb htw px_in10 hown hK hP (3 + (13 * a2x + 0)) (px_cg0 rfl hp10) rfl 13 (by decide) (htw _ px_w1264) (fun _ h9 => h9) rfl px_d267_10 ?_
  refine lv_iadd hx hb px_d267_13 ?_
  refine lv_aload_n hx hb px_d267_14 rfl (lv_at hl 1 rfl) ?_
  obtain ⟨hp15, hw⟩ := hw
  refine va_get (D := (dC, dI)) (ci := 10) (v := .int ((mm a1x).2.1 14)) (C := "MatroidDesk$Matroid") (T := px_T10) (N := 15) hx hb htw px_in10 hown hK hP (3 + (13 * a1x + 0)) (px_cg0 rfl hp15) rfl 14 (by decide) (htw _ px_w1267) (fun _ h9 => h9) rfl px_d267_15 ?_
  refine lv_aload_n hx hb px_d267_18 rfl (lv_at hl 2 rfl) ?_
  obtain ⟨hp19, hw⟩ := hw
  refine va_get (D := (dC, dI)) (ci := 10) (v := .int ((mm a2x).2.1 14)) (C := "MatroidDesk$Matroid") (T := px_T10) (N := 15) hx hb htw px_in10 hown hK hP (3 + (13 * a2x + 0)) (px_cg0 rfl hp19) rfl 14 (by decide) (htw _ px_w1267) (fun _ h9 => h9) rfl px_d267_19 ?_
  refine lv_iadd hx hb px_d267_22 ?_
  obtain ⟨m23_24, s23_24, hm23_24, hs23_24, hw⟩ := hw
  obtain ⟨hp23, hw⟩ := hw
  have hPc := hP.part (cx := [(ho, .inr (1, [.ref q_o, .ref q_t, .int o_reached])), (q_o, .inl (cc.2.1, l_o, .inl g_o)), (q_t, .inl (cc.2.1, 182, .inl g_t))]) [0, 1, 2] rfl
  have hDc := hD.part (cx := [(ho, .inr (1, [.ref q_o, .ref q_t, .int o_reached])), (q_o, .inl (cc.2.1, l_o, .inl g_o)), (q_t, .inl (cc.2.1, 182, .inl g_t))]) [0, 1, 2] (by decide) rfl
  have hFc := va_freeP (cx := [(ho, .inr (1, [.ref q_o, .ref q_t, .int o_reached])), (q_o, .inl (cc.2.1, l_o, .inl g_o)), (q_t, .inl (cc.2.1, 182, .inl g_t))]) hD hS hA [0, 1, 2] rfl
  have hKc := hK.sub (tys' := [(cc.2.1, .int), (cc.2.2.2.1, .byte), (cc.2.2.2.2, .long), (cc.1, .object "MatroidDesk$Part"), (cc.2.2.1, (.array .int))]) [0, 1, 2, 3, 4] rfl
  refine va_callv (va_runV (As := [.int ((mm a1x).2.1 12), .int (((mm a1x).2.1 13) + ((mm a2x).2.1 13)), .int (((mm a1x).2.1 14) + ((mm a2x).2.1 14))]) (rest := []) ⟨hx, hb, hml, hown, htw⟩ (w246_met l dC dI H.size ho q_t a0x cc cm np ns hm pa sa pp ss m23_24 s23_24 ((mm a1x).2.1 12) (((mm a1x).2.1 13) + ((mm a2x).2.1 13)) (((mm a1x).2.1 14) + ((mm a2x).2.1 14)) q_o l_o o_reached g_o g_t mm _ hw) (cwV 3 htw (px_gv px_w1262 px_w1271 px_w1272 px_w154 px_g246) rfl rfl rfl (by decide +kernel) ⟨Nat.le_of_ble_eq_true rfl, Nat.le_of_ble_eq_true rfl⟩) ⟨fun a U g mk q => by obtain ⟨q0, q1, qP, qK, qD, qN⟩ := q; exact ⟨q0, q1, qP, va_K.moved (u := U) (U := U.calling g mk a) (Vm.Alike.refl U.vm) qK, qD, qN.same rfl⟩, va_recv hK hP (ci := 10) (q0 := (3 + (13 * a0x + 0))) rfl (px_cg0 rfl hp23), fun U hU hW => ⟨rfl, by rw [hU], by rw [hU]; exact hPc, va_K.moved hW.alike hKc, hDc.weaken (fun _ _ _ _ => trivial), hN.warm hW⟩⟩ rfl rfl hl.1 rfl (lv_room (Nat.le_of_ble_eq_true rfl)) px_d267_23 ⟨hm23_24, hs23_24⟩) hS (fun q _ h => hFc q h) hFc (fun u t H1 locs ht hvm hw hB hz1 hk1 hS => ?_)
  obtain ⟨v18, v19, v20, v21, v22, v23⟩ := u
  obtain ⟨hP1, hK1, hD1⟩ := hB
  rw [ht] at hP1
  obtain ⟨hP, hD⟩ := va_joinP (wr := []) (rx := [(ho, .inr (1, [.ref v18, .ref q_t, .int v20])), (v18, .inl (cc.2.1, v19, .inl v21)), (q_t, .inl (cc.2.1, 182, .inl v22))]) hP hD [0, 1, 2] [] rfl rfl (by decide) (by decide) hk1 hFc hP1 hD1
  generalize H1 = H at hP hS ⊢
  have hP : va_P (dC, dI) vwCl (([(ho, .inr (1, [.ref v18, .ref q_t, .int v20])), (v18, .inl (cc.2.1, v19, .inl v21)), (q_t, .inl (cc.2.1, 182, .inl v22))] : va_W) ++ px_cp cc ho cm np ns hm pa sa v23 pp ss) H := hP
  have hD : va_D A (([(ho, .inr (1, [.ref v18, .ref q_t, .int v20])), (v18, .inl (cc.2.1, v19, .inl v21)), (q_t, .inl (cc.2.1, 182, .inl v22))] : va_W) ++ px_cp cc ho cm np ns hm pa sa v23 pp ss) := hD
  refine lv_aload_n hx hb px_d267_26 rfl (lv_at hl 0 rfl) ?_
  refine lv_aload_n hx hb px_d267_27 rfl (lv_at hl 1 rfl) ?_
  refine lv_iconst (v := 0) hx hb px_d267_28 (by decide) ?_
  refine lv_iconst (v := 0) hx hb px_d267_29 (by decide) ?_
  refine lv_iconst (v := 0) hx hb px_d267_30 (by decide) ?_
  refine lv_iconst (v := 0) hx hb px_d267_31 (by decide) ?_
  obtain ⟨m32_35, s32_35, hm32_35, hs32_35, hw⟩ := hw
  obtain ⟨hp32, hw⟩ := hw
  have hPc := hP.part (cx := [(ho, .inr (1, [.ref v18, .ref q_t, .int v20])), (v18, .inl (cc.2.1, v19, .inl v21)), (q_t, .inl (cc.2.1, 182, .inl v22))]) [0, 1, 2] rfl
  have hDc := hD.part (cx := [(ho, .inr (1, [.ref v18, .ref q_t, .int v20])), (v18, .inl (cc.2.1, v19, .inl v21)), (q_t, .inl (cc.2.1, 182, .inl v22))]) [0, 1, 2] (by decide) rfl
  have hFc := va_freeP (cx := [(ho, .inr (1, [.ref v18, .ref q_t, .int v20])), (v18, .inl (cc.2.1, v19, .inl v21)), (q_t, .inl (cc.2.1, 182, .inl v22))]) hD hS hA [0, 1, 2] rfl
  have hKc := hK.sub (tys' := [(cc.2.1, .int), (cc.2.2.2.1, .byte), (cc.2.2.2.2, .long), (cc.1, .object "MatroidDesk$Part"), (cc.2.2.1, (.array .int))]) [0, 1, 2, 3, 4] rfl
  refine va_callv (va_runV (As := [.ref (hm a1x), .int 0, .int 0, .int 0, .int 0]) (rest := []) ⟨hx, hb, hml, hown, htw⟩ (w259_met l dC dI H.size ho q_t a0x cc cm ns hm sa ss a1x m32_35 s32_35 0 0 0 0 v18 v19 v20 v21 v22 v23 np pa pp _ hw) (cwV 5 htw (px_gv px_w1324 px_w1326 px_w1327 px_w154 px_g259) rfl rfl rfl (by decide +kernel) ⟨Nat.le_of_ble_eq_true rfl, Nat.le_of_ble_eq_true rfl⟩) ⟨fun a U g mk q => by obtain ⟨q0, q1, qP, qK, qD, qN⟩ := q; exact ⟨q0, q1, qP, va_K.moved (u := U) (U := U.calling g mk a) (Vm.Alike.refl U.vm) qK, qD, qN.same rfl⟩, va_recv hK hP (ci := 10) (q0 := (3 + (13 * a0x + 0))) rfl (px_cg0 rfl hp32), fun U hU hW => ⟨rfl, by rw [hU], by rw [hU]; exact hPc, va_K.moved hW.alike hKc, hDc.weaken (fun _ _ _ _ => trivial), hN.warm hW⟩⟩ rfl rfl hl.1 rfl (lv_room (Nat.le_of_ble_eq_true rfl)) px_d267_32 ⟨hm32_35, hs32_35⟩) hS (fun q _ h => hFc q h) hFc (fun u t H1 locs ht hvm hw hB hz1 hk1 hS => ?_)
  obtain ⟨v26, v27, v28, v29, v30, v31, v32, v33, v34⟩ := u
  obtain ⟨hP1, hK1, hD1⟩ := hB
  rw [ht] at hP1
  obtain ⟨hP, hD⟩ := va_joinP (wr := []) (rx := [(ho, .inr (1, [.ref v26, .ref q_t, .int v28])), (v26, .inl (cc.2.1, v27, .inl v29)), (q_t, .inl (cc.2.1, 182, .inl v30))]) hP hD [0, 1, 2] [] rfl rfl (by decide) (by decide) hk1 hFc hP1 hD1
  generalize H1 = H at hP hS ⊢
  have hP : va_P (dC, dI) vwCl (([(ho, .inr (1, [.ref v26, .ref q_t, .int v28])), (v26, .inl (cc.2.1, v27, .inl v29)), (q_t, .inl (cc.2.1, 182, .inl v30))] : va_W) ++ px_cp cc ho cm v32 ns hm v33 sa v31 v34 ss) H := hP
  have hD : va_D A (([(ho, .inr (1, [.ref v26, .ref q_t, .int v28])), (v26, .inl (cc.2.1, v27, .inl v29)), (q_t, .inl (cc.2.1, 182, .inl v30))] : va_W) ++ px_cp cc ho cm v32 ns hm v33 sa v31 v34 ss) := hD
  refine lv_aload_n hx hb px_d267_35 rfl (lv_at hl 0 rfl) ?_
  refine lv_aload_n hx hb px_d267_36 rfl (lv_at hl 2 rfl) ?_
  refine lv_aload_n hx hb px_d267_37 rfl (lv_at hl 1 rfl) ?_
  obtain ⟨hp38, hw⟩ := hw
  refine va_get (D := (dC, dI)) (ci := 10) (v := .int ((v31 a1x).2.1 13)) (C := "MatroidDesk$Matroid") (T := px_T10) (N := 15) hx hb htw px_in10 hown hK hP (3 + (13 * a1x + 0)) (px_cg0 rfl hp38) rfl 13 (by decide) (htw _ px_w1264) (fun _ h9 => h9) rfl px_d267_38 ?_
  refine lv_iconst (v := 0) hx hb px_d267_41 (by decide) ?_
  refine lv_iconst (v := 0) hx hb px_d267_42 (by decide) ?_
  refine lv_iconst (v := 0) hx hb px_d267_43 (by decide) ?_
  obtain ⟨m44_46, s44_46, hm44_46, hs44_46, hw⟩ := hw
  obtain ⟨hp44, hw⟩ := hw
  have hPc := hP.part (cx := [(ho, .inr (1, [.ref v26, .ref q_t, .int v28])), (v26, .inl (cc.2.1, v27, .inl v29)), (q_t, .inl (cc.2.1, 182, .inl v30))]) [0, 1, 2] rfl
  have hDc := hD.part (cx := [(ho, .inr (1, [.ref v26, .ref q_t, .int v28])), (v26, .inl (cc.2.1, v27, .inl v29)), (q_t, .inl (cc.2.1, 182, .inl v30))]) [0, 1, 2] (by decide) rfl
  have hFc := va_freeP (cx := [(ho, .inr (1, [.ref v26, .ref q_t, .int v28])), (v26, .inl (cc.2.1, v27, .inl v29)), (q_t, .inl (cc.2.1, 182, .inl v30))]) hD hS hA [0, 1, 2] rfl
  have hKc := hK.sub (tys' := [(cc.2.1, .int), (cc.2.2.2.1, .byte), (cc.2.2.2.2, .long), (cc.1, .object "MatroidDesk$Part"), (cc.2.2.1, (.array .int))]) [0, 1, 2, 3, 4] rfl
  refine va_callv (va_runV (As := [.ref (hm a2x), .int ((v31 a1x).2.1 13), .int 0, .int 0, .int 0]) (rest := []) ⟨hx, hb, hml, hown, htw⟩ (w259_met l dC dI H.size ho q_t a0x cc cm ns hm sa ss a2x m44_46 s44_46 ((v31 a1x).2.1 13) 0 0 0 v26 v27 v28 v29 v30 v31 v32 v33 v34 _ hw) (cwV 5 htw (px_gv px_w1324 px_w1326 px_w1327 px_w154 px_g259) rfl rfl rfl (by decide +kernel) ⟨Nat.le_of_ble_eq_true rfl, Nat.le_of_ble_eq_true rfl⟩) ⟨fun a U g mk q => by obtain ⟨q0, q1, qP, qK, qD, qN⟩ := q; exact ⟨q0, q1, qP, va_K.moved (u := U) (U := U.calling g mk a) (Vm.Alike.refl U.vm) qK, qD, qN.same rfl⟩, va_recv hK hP (ci := 10) (q0 := (3 + (13 * a0x + 0))) rfl (px_cg0 rfl hp44), fun U hU hW => ⟨rfl, by rw [hU], by rw [hU]; exact hPc, va_K.moved hW.alike hKc, hDc.weaken (fun _ _ _ _ => trivial), hN.warm hW⟩⟩ rfl rfl hl.1 rfl (lv_room (Nat.le_of_ble_eq_true rfl)) px_d267_44 ⟨hm44_46, hs44_46⟩) hS (fun q _ h => hFc q h) hFc (fun u t H1 locs ht hvm hw hB hz1 hk1 hS => ?_)
  obtain ⟨v37, v38, v39, v40, v41, v42, v43, v44, v45⟩ := u
  obtain ⟨hP1, hK1, hD1⟩ := hB
  rw [ht] at hP1
  obtain ⟨hP, hD⟩ := va_joinP (wr := []) (rx := [(ho, .inr (1, [.ref v37, .ref q_t, .int v39])), (v37, .inl (cc.2.1, v38, .inl v40)), (q_t, .inl (cc.2.1, 182, .inl v41))]) hP hD [0, 1, 2] [] rfl rfl (by decide) (by decide) hk1 hFc hP1 hD1
  generalize H1 = H at hP hS ⊢
  have hP : va_P (dC, dI) vwCl (([(ho, .inr (1, [.ref v37, .ref q_t, .int v39])), (v37, .inl (cc.2.1, v38, .inl v40)), (q_t, .inl (cc.2.1, 182, .inl v41))] : va_W) ++ px_cp cc ho cm v43 ns hm v44 sa v42 v45 ss) H := hP
  have hD : va_D A (([(ho, .inr (1, [.ref v37, .ref q_t, .int v39])), (v37, .inl (cc.2.1, v38, .inl v40)), (q_t, .inl (cc.2.1, 182, .inl v41))] : va_W) ++ px_cp cc ho cm v43 ns hm v44 sa v42 v45 ss) := hD
  refine lv_iconst (v := 0) hx hb px_d267_47 (by decide) ?_
  refine lv_istore_n (lv' := [(3, .int 0), (0, .ref (hm a0x)), (1, .ref (hm a1x)), (2, .ref (hm a2x))]) hx hb px_d267_48 rfl hl (by decide) rfl (fun ls hl => ?_)
  obtain ⟨k9, hw⟩ := hw
  exact S49 k9 0 v37 v38 v39 v40 v41 v42 v43 v44 v45 (0 + m23_24 + m32_35 + m44_46) (0 + s23_24 + s32_35 + s44_46) H locs ls hm44_46 hs44_46 hP hD hS (lv_sub hl [1, 2, 3, 0] rfl) hw

