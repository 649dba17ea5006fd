/-! MatroidDesk$Matroid.bestBasis()I -/
def w286_L97 (K6 : Int32 → Int32 → Int32 → Nat → Nat → Int32 → (Nat → Int32) → (Nat → Int32) → (Nat → px_MR) → Nat → Nat → Prop) (a0x : Nat) (cm : Nat) (np : Nat) (ns : Nat) (pa : Nat → Nat) (sa : Nat → Nat) (pp : Nat → px_PR) (ss : Nat → px_SR) (mc : Nat) (ms : Nat) (post : Int32 → Nat → Nat → Int32 → (Nat → Int32) → (Nat → Int32) → (Nat → px_MR) → Prop) (x1 : Int32) (x2 : Int32) (x3 : Int32) (x4 : Int32) (x5 : Int32) (y0 : Int32) (q_o : Nat) (l_o : Nat) (o_reached : Int32) (g_o : Nat → Int32) (g_t : Nat → Int32) (mm : Nat → px_MR) (kc : Nat) (ks : Nat) : Prop := ∀ z1 : Int32, z1 = x2 ||| y0 → ∃ m109_8 s109_8 : Nat, kc + m109_8 ≤ mc ∧ ks + s109_8 ≤ ms ∧ a0x < cm ∧ (w261_wp a0x cm np ns pa sa pp ss m109_8 s109_8 (fun r109 v2 v3 v4 v5 v6 v7 => ∀ z10 : Int32, z10 = x1 ||| r109 → ∀ z11 : Int32, z11 = x3 + 1 → K6 z10 z1 z11 v2 v3 v4 v5 v6 v7 (kc + m109_8) (ks + s109_8)) x1 y0 q_o l_o o_reached g_o g_t mm)
def w286_L77 (K6 : Int32 → Int32 → Int32 → Nat → Nat → Int32 → (Nat → Int32) → (Nat → Int32) → (Nat → px_MR) → Nat → Nat → Prop) (K20 : Int32 → Int32 → Int32 → Int32 → Int32 → Nat → Nat → Int32 → (Nat → Int32) → (Nat → Int32) → (Nat → px_MR) → Nat → Nat → Prop) (a0x : Nat) (cm : Nat) (np : Nat) (ns : Nat) (pa : Nat → Nat) (sa : Nat → Nat) (pp : Nat → px_PR) (ss : Nat → px_SR) (mc : Nat) (ms : Nat) (post : Int32 → Nat → Nat → Int32 → (Nat → Int32) → (Nat → Int32) → (Nat → px_MR) → Prop) (x1 : Int32) (x2 : Int32) (x3 : Int32) (x4 : Int32) (x5 : Int32) (x6 : Int32) (q_o : Nat) (l_o : Nat) (o_reached : Int32) (g_o : Nat → Int32) (g_t : Nat → Int32) (mm : Nat → px_MR) (kc : Nat) (ks : Nat) : Prop := ∀ z12 : Int32, z12 = x5 + 1 → K20 x1 x2 x3 x4 z12 q_o l_o o_reached g_o g_t mm kc ks
def w286_L73 (K6 : Int32 → Int32 → Int32 → Nat → Nat → Int32 → (Nat → Int32) → (Nat → Int32) → (Nat → px_MR) → Nat → Nat → Prop) (K20 : Int32 → Int32 → Int32 → Int32 → Int32 → Nat → Nat → Int32 → (Nat → Int32) → (Nat → Int32) → (Nat → px_MR) → Nat → Nat → Prop) (a0x : Nat) (cm : Nat) (np : Nat) (ns : Nat) (pa : Nat → Nat) (sa : Nat → Nat) (pp : Nat → px_PR) (ss : Nat → px_SR) (mc : Nat) (ms : Nat) (post : Int32 → Nat → Nat → Int32 → (Nat → Int32) → (Nat → Int32) → (Nat → px_MR) → Prop) (x1 : Int32) (x2 : Int32) (x3 : Int32) (x4 : Int32) (x5 : Int32) (x6 : Int32) (q_o : Nat) (l_o : Nat) (o_reached : Int32) (g_o : Nat → Int32) (g_t : Nat → Int32) (mm : Nat → px_MR) (kc : Nat) (ks : Nat) : Prop := w286_L77 K6 K20 a0x cm np ns pa sa pp ss mc ms post x1 x2 x3 x5 x5 x6 q_o l_o o_reached g_o g_t mm kc ks
def w286_L43 (K6 : Int32 → Int32 → Int32 → Nat → Nat → Int32 → (Nat → Int32) → (Nat → Int32) → (Nat → px_MR) → Nat → Nat → Prop) (K20 : Int32 → Int32 → Int32 → Int32 → Int32 → Nat → Nat → Int32 → (Nat → Int32) → (Nat → Int32) → (Nat → px_MR) → Nat → Nat → Prop) (a0x : Nat) (cm : Nat) (np : Nat) (ns : Nat) (pa : Nat → Nat) (sa : Nat → Nat) (pp : Nat → px_PR) (ss : Nat → px_SR) (mc : Nat) (ms : Nat) (post : Int32 → Nat → Nat → Int32 → (Nat → Int32) → (Nat → Int32) → (Nat → px_MR) → Prop) (x1 : Int32) (x2 : Int32) (x3 : Int32) (x4 : Int32) (x5 : Int32) (y0 : Int32) (q_o : Nat) (l_o : Nat) (o_reached : Int32) (g_o : Nat → Int32) (g_t : Nat → Int32) (mm : Nat → px_MR) (kc : Nat) (ks : Nat) : Prop := (y0 = 0 → w286_L77 K6 K20 a0x cm np ns pa sa pp ss mc ms post x1 x2 x3 x4 x5 y0 q_o l_o o_reached g_o g_t mm kc ks) ∧ (¬ y0 = 0 → (x4 = (-1) → w286_L73 K6 K20 a0x cm np ns pa sa pp ss mc ms post x1 x2 x3 x4 x5 y0 q_o l_o o_reached g_o g_t mm kc ks) ∧ (¬ x4 = (-1) → a0x < cm ∧ (a0x < cm ∧ (vp_in x5 (12) ∧ (a0x < cm ∧ (a0x < cm ∧ (vp_in x4 (12) ∧ (((((mm a0x).2.2.2.1 3) (Int32.toNatClampNeg x5)) ≤ (((mm a0x).2.2.2.1 3) (Int32.toNatClampNeg x4)) → w286_L77 K6 K20 a0x cm np ns pa sa pp ss mc ms post x1 x2 x3 x4 x5 y0 q_o l_o o_reached g_o g_t mm kc ks) ∧ (¬ (((mm a0x).2.2.2.1 3) (Int32.toNatClampNeg x5)) ≤ (((mm a0x).2.2.2.1 3) (Int32.toNatClampNeg x4)) → w286_L73 K6 K20 a0x cm np ns pa sa pp ss mc ms post x1 x2 x3 x4 x5 y0 q_o l_o o_reached g_o g_t mm kc ks)))))))))
def w286_L20 (K6 : Int32 → Int32 → Int32 → Nat → Nat → Int32 → (Nat → Int32) → (Nat → Int32) → (Nat → px_MR) → Nat → Nat → Prop) (a0x : Nat) (cm : Nat) (np : Nat) (ns : Nat) (pa : Nat → Nat) (sa : Nat → Nat) (pp : Nat → px_PR) (ss : Nat → px_SR) (mc : Nat) (ms : Nat) (post : Int32 → Nat → Nat → Int32 → (Nat → Int32) → (Nat → Int32) → (Nat → px_MR) → Prop) : Nat → Int32 → Int32 → Int32 → Int32 → Int32 → Nat → Nat → Int32 → (Nat → Int32) → (Nat → Int32) → (Nat → px_MR) → Nat → Nat → Prop
  | 0 => fun _ _ _ _ _ _ _ _ _ _ _ _ _ => False
  | k + 1 => fun x1 x2 x3 x4 x5 q_o l_o o_reached g_o g_t mm kc ks => a0x < cm ∧ ((((mm a0x).2.1 13) ≤ x5 → (¬ x4 = (-1) → w286_L97 K6 a0x cm np ns pa sa pp ss mc ms post x1 x2 x3 x4 x5 ((1 : Int32) <<< (x4 &&& 31)) q_o l_o o_reached g_o g_t mm kc ks) ∧ (x4 = (-1) → w286_L97 K6 a0x cm np ns pa sa pp ss mc ms post x1 x2 x3 x4 x5 0 q_o l_o o_reached g_o g_t mm kc ks)) ∧ (¬ ((mm a0x).2.1 13) ≤ x5 → (¬ ((x2 >>> (x5 &&& 31)) &&& 1) = 0 → w286_L43 K6 (w286_L20 K6 a0x cm np ns pa sa pp ss mc ms post k) a0x cm np ns pa sa pp ss mc ms post x1 x2 x3 x4 x5 0 q_o l_o o_reached g_o g_t mm kc ks) ∧ (((x2 >>> (x5 &&& 31)) &&& 1) = 0 → w286_L43 K6 (w286_L20 K6 a0x cm np ns pa sa pp ss mc ms post k) a0x cm np ns pa sa pp ss mc ms post x1 x2 x3 x4 x5 1 q_o l_o o_reached g_o g_t mm kc ks)))
def w286_L6 (a0x : Nat) (cm : Nat) (np : Nat) (ns : Nat) (pa : Nat → Nat) (sa : Nat → Nat) (pp : Nat → px_PR) (ss : Nat → px_SR) (mc : Nat) (ms : Nat) (post : Int32 → Nat → Nat → Int32 → (Nat → Int32) → (Nat → Int32) → (Nat → px_MR) → Prop) : Nat → Int32 → Int32 → Int32 → Nat → Nat → Int32 → (Nat → Int32) → (Nat → Int32) → (Nat → px_MR) → Nat → Nat → Prop
  | 0 => fun _ _ _ _ _ _ _ _ _ _ _ => False
  | k + 1 => fun x1 x2 x3 q_o l_o o_reached g_o g_t mm kc ks => a0x < cm ∧ ((((mm a0x).2.1 13) ≤ x3 → post x1 q_o l_o o_reached g_o g_t mm) ∧ (¬ ((mm a0x).2.1 13) ≤ x3 → ∃ j20, w286_L20 (w286_L6 a0x cm np ns pa sa pp ss mc ms post k) a0x cm np ns pa sa pp ss mc ms post j20 x1 x2 x3 (-1) 0 q_o l_o o_reached g_o g_t mm kc ks))
def w286_wp (a0x : Nat) (cm : Nat) (np : Nat) (ns : Nat) (pa : Nat → Nat) (sa : Nat → Nat) (pp : Nat → px_PR) (ss : Nat → px_SR) (mc : Nat) (ms : Nat) (post : Int32 → Nat → Nat → Int32 → (Nat → Int32) → (Nat → Int32) → (Nat → px_MR) → Prop) (q_o : Nat) (l_o : Nat) (o_reached : Int32) (g_o : Nat → Int32) (g_t : Nat → Int32) (mm : Nat → px_MR) : Prop := ∃ j6, w286_L6 a0x cm np ns pa sa pp ss mc ms post j6 0 0 0 q_o l_o o_reached g_o g_t mm 0 0
set_option maxHeartbeats 8000000 in
set_option maxRecDepth 100000 in
theorem w286_met (l : Launch) (dC : Nat → ClassId) (dI : Nat → Nat → Nat) (sz : Nat) (ho : Nat) (q_t : Nat) (a0x : Nat) (cc : px_CC) (cm : Nat) (np : Nat) (ns : Nat) (hm : Nat → Nat) (pa : Nat → Nat) (sa : Nat → Nat) (pp : Nat → px_PR) (ss : Nat → px_SR) (mc : Nat) (ms : Nat) (q_o : Nat) (l_o : Nat) (o_reached : Int32) (g_o : Nat → Int32) (g_t : Nat → Int32) (mm : Nat → px_MR) (post : Int32 → Nat → Nat → Int32 → (Nat → Int32) → (Nat → Int32) → (Nat → px_MR) → Prop) (hw : w286_wp a0x cm np ns pa sa pp ss mc ms post q_o l_o o_reached g_o g_t mm) : Met l px_y286 px_s286 ({ frames := 4, cells := mc, slots := ms, locals := 90 }) (va_Pc [.ref (hm a0x)] (fun U => U.heap.size = sz ∧ va_P (dC, dI) vwCl (([(ho, .inr (1, [.ref q_o, .ref q_t, .int o_reached])), (q_o, .inl (cc.2.1, l_o, .inl g_o)), (q_t, .inl (cc.2.1, 182, .inl g_t))] : va_W) ++ px_cp cc ho cm np ns hm pa sa mm pp ss) U.heap ∧ va_K (dC, dI) vwCl [(cc.2.1, .int), (cc.2.2.2.1, .byte), (cc.2.2.2.2, .long), (cc.1, .object "MatroidDesk$Part"), (cc.2.2.1, (.array .int))] U ∧ va_D (fun _ => True) (([(ho, .inr (1, [.ref q_o, .ref q_t, .int o_reached])), (q_o, .inl (cc.2.1, l_o, .inl g_o)), (q_t, .inl (cc.2.1, 182, .inl g_t))] : va_W) ++ px_cp cc ho cm np ns hm pa sa mm pp ss) ∧ px_N U)) (va_Qi (fun (r : Int32) (u : Nat × Nat × Int32 × (Nat → Int32) × (Nat → Int32) × (Nat → px_MR)) => post r u.1 u.2.1 u.2.2.1 u.2.2.2.1 u.2.2.2.2.1 u.2.2.2.2.2) (fun (u : Nat × Nat × Int32 × (Nat → Int32) × (Nat → Int32) × (Nat → px_MR)) (t : State) => va_P (dC, dI) vwCl (([(ho, .inr (1, [.ref u.1, .ref q_t, .int u.2.2.1])), (u.1, .inl (cc.2.1, u.2.1, .inl u.2.2.2.1)), (q_t, .inl (cc.2.1, 182, .inl u.2.2.2.2.1))] : va_W) ++ px_cp cc ho cm np ns hm pa sa u.2.2.2.2.2 pp ss) t.heap ∧ va_K (dC, dI) vwCl [(cc.2.1, .int), (cc.2.2.2.1, .byte), (cc.2.2.2.2, .long), (cc.1, .object "MatroidDesk$Part"), (cc.2.2.1, (.array .int))] t ∧ va_D (va_A (([(ho, .inr (1, [.ref q_o, .ref q_t, .int o_reached])), (q_o, .inl (cc.2.1, l_o, .inl g_o)), (q_t, .inl (cc.2.1, 182, .inl g_t))] : va_W) ++ px_cp cc ho cm np ns hm pa sa mm pp ss) sz) (([(ho, .inr (1, [.ref u.1, .ref q_t, .int u.2.2.1])), (u.1, .inl (cc.2.1, u.2.1, .inl u.2.2.2.1)), (q_t, .inl (cc.2.1, 182, .inl u.2.2.2.2.1))] : va_W) ++ px_cp cc ho cm np ns hm pa sa u.2.2.2.2.2 pp ss)) (va_A (([(ho, .inr (1, [.ref q_o, .ref q_t, .int o_reached])), (q_o, .inl (cc.2.1, l_o, .inl g_o)), (q_t, .inl (cc.2.1, 182, .inl g_t))] : va_W) ++ px_cp cc ho cm np ns hm pa sa mm pp ss) sz)) mc ms (va_A (([(ho, .inr (1, [.ref q_o, .ref q_t, .int o_reached])), (q_o, .inl (cc.2.1, l_o, .inl g_o)), (q_t, .inl (cc.2.1, 182, .inl g_t))] : va_W) ++ px_cp cc ho cm np ns hm pa sa mm pp ss) sz) := by
  refine Met.ofW (cc := prog_3_method_14_code) (maxL := 7) (ret := (some .int)) (by decide) rfl ?_
  intro p e s m args below meth c s₁ B hml hv
  obtain ⟨rfl, hsz, hP, hK, hD0, hN⟩ := hv
  have hx := B.exec
  have hb := B.bytes
  have hr := B.returns
  have htw : ∀ w ∈ px_all, w.before _ s = true := fun w h => atoms_spec (ws := px_s286) B.pre w (List.mem_cons_of_mem _ h)
  have hown : s.vm.findClass "MatroidDesk$Matroid" = some m.cls := findClass_of_methodNamed B.named
  have hlocks := B.notSynchronized
  subst hsz
  have hD := hD0.self (sz := s.heap.size)
  generalize hAe : va_A (([(ho, .inr (1, [.ref q_o, .ref q_t, .int o_reached])), (q_o, .inl (cc.2.1, l_o, .inl g_o)), (q_t, .inl (cc.2.1, 182, .inl g_t))] : va_W) ++ px_cp cc ho cm np ns hm pa sa mm pp ss) s.heap.size = A at hD ⊢
  have hA : ∀ q : Nat, s.heap.size ≤ q → A q := fun q h => by rw [← hAe]; exact Or.inr h
  have hS : va_S A s.heap s.heap [] := va_S.rf
  have hP : va_P (dC, dI) vwCl (([(ho, .inr (1, [.ref q_o, .ref q_t, .int o_reached])), (q_o, .inl (cc.2.1, l_o, .inl g_o)), (q_t, .inl (cc.2.1, 182, .inl g_t))] : va_W) ++ px_cp cc ho cm np ns hm pa sa mm pp ss) s.heap := hP
  have hl := lv_entry ([.ref (hm a0x)]) (n := 7) (Nat.le_of_ble_eq_true rfl)
  rw [lg_entry_eq]
  generalize (lg_sl ([.ref (hm a0x)]) ++ List.replicate (7 - (lg_sl ([.ref (hm a0x)])).length) Slot.unset).toArray = ls at hl ⊢
  have hl : lv_has ls 7 [(0, .ref (hm a0x))] := hl
  generalize hQ : MQ _ _ _ _ _ _ _ = Q
  have S6 : ∀ (k6 : Nat) (x1 : Int32) (x2 : Int32) (x3 : Int32) (q_o : Nat) (l_o : Nat) (o_reached : Int32) (g_o : Nat → Int32) (g_t : Nat → Int32) (mm : Nat → px_MR) (kc : Nat) (ks : Nat) (H : Heap) (locs : List Loc) (ls : Array Slot), kc ≤ mc → ks ≤ ms → va_P (dC, dI) vwCl (([(ho, .inr (1, [.ref q_o, .ref q_t, .int o_reached])), (q_o, .inl (cc.2.1, l_o, .inl g_o)), (q_t, .inl (cc.2.1, 182, .inl g_t))] : va_W) ++ px_cp cc ho cm np ns hm pa sa mm pp ss) H → va_D A (([(ho, .inr (1, [.ref q_o, .ref q_t, .int o_reached])), (q_o, .inl (cc.2.1, l_o, .inl g_o)), (q_t, .inl (cc.2.1, 182, .inl g_t))] : va_W) ++ px_cp cc ho cm np ns hm pa sa mm pp ss) → va_S A s.heap H locs → lv_has ls 7 [(0, .ref (hm a0x)), (1, .int x1), (2, .int x2), (3, .int x3)] → w286_L6 a0x cm np ns pa sa pp ss mc ms post k6 x1 x2 x3 q_o l_o o_reached g_o g_t mm kc ks → W p l e (headSpec px_s286 ({ frames := 4, cells := mc, slots := ms, locals := 90 })).room s m ([.ref (hm a0x)]).toArray below meth c H locs kc ks Q (F0 m 6 ls []) := by
    intro k6
    induction k6 with
    | zero => intro x1 x2 x3 q_o l_o o_reached g_o g_t mm kc ks H locs ls hkc hks hP hD hS hl hw; exact False.elim hw
    | succ k6 ih6 =>
      have S97 : ∀ (x1 : Int32) (x2 : Int32) (x3 : Int32) (x4 : Int32) (x5 : Int32) (y0 : Int32) (q_o : Nat) (l_o : Nat) (o_reached : Int32) (g_o : Nat → Int32) (g_t : Nat → Int32) (mm : Nat → px_MR) (kc : Nat) (ks : Nat) (H : Heap) (locs : List Loc) (ls : Array Slot), kc ≤ mc → ks ≤ ms → va_P (dC, dI) vwCl (([(ho, .inr (1, [.ref q_o, .ref q_t, .int o_reached])), (q_o, .inl (cc.2.1, l_o, .inl g_o)), (q_t, .inl (cc.2.1, 182, .inl g_t))] : va_W) ++ px_cp cc ho cm np ns hm pa sa mm pp ss) H → va_D A (([(ho, .inr (1, [.ref q_o, .ref q_t, .int o_reached])), (q_o, .inl (cc.2.1, l_o, .inl g_o)), (q_t, .inl (cc.2.1, 182, .inl g_t))] : va_W) ++ px_cp cc ho cm np ns hm pa sa mm pp ss) → va_S A s.heap H locs → lv_has ls 7 [(0, .ref (hm a0x)), (1, .int x1), (2, .int x2), (3, .int x3), (4, .int x4), (5, .int x5)] → w286_L97 (w286_L6 a0x cm np ns pa sa pp ss mc ms post k6) a0x cm np ns pa sa pp ss mc ms post x1 x2 x3 x4 x5 y0 q_o l_o o_reached g_o g_t mm kc ks → W p l e (headSpec px_s286 ({ frames := 4, cells := mc, slots := ms, locals := 90 })).room s m ([.ref (hm a0x)]).toArray below meth c H locs kc ks Q (F0 m 97 ls [.int y0]) := by
        intro x1 x2 x3 x4 x5 y0 q_o l_o o_reached g_o g_t mm kc ks H locs ls hkc hks hP hD hS hl hw
        unfold w286_L97 at hw
        refine lv_istore (lv' := [(5, .int y0), (0, .ref (hm a0x)), (1, .int x1), (2, .int x2), (3, .int x3), (4, .int x4)]) hx hb px_d286_97 hl (by decide) rfl (fun ls hl => ?_)
        refine lv_iload_n hx hb px_d286_99 rfl (lv_at hl 3 rfl) ?_
        refine lv_iload hx hb px_d286_100 (lv_at hl 0 rfl) ?_
        refine lv_ior hx hb px_d286_102 ?_
        refine lv_topi (fun z1 ez1 => ?_)
        have hw := hw z1 ez1
        refine lv_istore_n (lv' := [(2, .int z1), (5, .int y0), (0, .ref (hm a0x)), (1, .int x1), (3, .int x3), (4, .int x4)]) hx hb px_d286_103 rfl hl (by decide) rfl (fun ls hl => ?_)
        refine lv_iload_n hx hb px_d286_104 rfl (lv_at hl 3 rfl) ?_
        refine lv_aload_n hx hb px_d286_105 rfl (lv_at hl 2 rfl) ?_
        refine lv_iload_n hx hb px_d286_106 rfl (lv_at hl 3 rfl) ?_
        refine lv_iload hx hb px_d286_107 (lv_at hl 1 rfl) ?_
        obtain ⟨m109_8, s109_8, hm109_8, hs109_8, hw⟩ := hw
        obtain ⟨hp109, hw⟩ := hw
        have hPc := hP.part (cx := [(ho, .inr (1, [.ref q_o, .ref q_t, .int o_reached])), (q_o, .inl (cc.2.1, l_o, .inl g_o)), (q_t, .inl (cc.2.1, 182, .inl g_t))]) [0, 1, 2] rfl
        have hDc := hD.part (cx := [(ho, .inr (1, [.ref q_o, .ref q_t, .int o_reached])), (q_o, .inl (cc.2.1, l_o, .inl g_o)), (q_t, .inl (cc.2.1, 182, .inl g_t))]) [0, 1, 2] (by decide) rfl
        have hFc := va_freeP (cx := [(ho, .inr (1, [.ref q_o, .ref q_t, .int o_reached])), (q_o, .inl (cc.2.1, l_o, .inl g_o)), (q_t, .inl (cc.2.1, 182, .inl g_t))]) hD hS hA [0, 1, 2] rfl
        have hKc := hK.sub (tys' := [(cc.2.1, .int), (cc.2.2.2.1, .byte), (cc.2.2.2.2, .long), (cc.1, .object "MatroidDesk$Part"), (cc.2.2.1, (.array .int))]) [0, 1, 2, 3, 4] rfl
        refine va_calli (va_runV (As := [.int x1, .int y0]) (rest := [.int x1]) ⟨hx, hb, hml, hown, htw⟩ (w261_met l dC dI H.size ho q_t a0x cc cm np ns hm pa sa pp ss m109_8 s109_8 x1 y0 q_o l_o o_reached g_o g_t mm _ hw) (cwV 2 htw (px_gv px_w1446 px_w1333 px_w1334 px_w154 px_g261) rfl rfl rfl (by decide +kernel) ⟨Nat.le_of_ble_eq_true rfl, Nat.le_of_ble_eq_true rfl⟩) ⟨fun a U g mk q => by obtain ⟨q0, q1, qP, qK, qD, qN⟩ := q; exact ⟨q0, q1, qP, va_K.moved (u := U) (U := U.calling g mk a) (Vm.Alike.refl U.vm) qK, qD, qN.same rfl⟩, va_recv hK hP (ci := 10) (q0 := (3 + (13 * a0x + 0))) rfl (px_cg0 rfl hp109), fun U hU hW => ⟨rfl, by rw [hU], by rw [hU]; exact hPc, va_K.moved hW.alike hKc, hDc.weaken (fun _ _ _ _ => trivial), hN.warm hW⟩⟩ rfl rfl hl.1 rfl (lv_room (Nat.le_of_ble_eq_true rfl)) px_d286_109 ⟨hm109_8, hs109_8⟩) hS (fun q _ h => hFc q h) hFc (fun r109 u t H1 locs ht hvm hw hB hz1 hk1 hS => ?_)
        obtain ⟨v2, v3, v4, v5, v6, v7⟩ := u
        obtain ⟨hP1, hK1, hD1⟩ := hB
        rw [ht] at hP1
        obtain ⟨hP, hD⟩ := va_joinP (wr := []) (rx := [(ho, .inr (1, [.ref v2, .ref q_t, .int v4])), (v2, .inl (cc.2.1, v3, .inl v5)), (q_t, .inl (cc.2.1, 182, .inl v6))]) hP hD [0, 1, 2] [] rfl rfl (by decide) (by decide) hk1 hFc hP1 hD1
        generalize H1 = H at hP hS ⊢
        have hP : va_P (dC, dI) vwCl (([(ho, .inr (1, [.ref v2, .ref q_t, .int v4])), (v2, .inl (cc.2.1, v3, .inl v5)), (q_t, .inl (cc.2.1, 182, .inl v6))] : va_W) ++ px_cp cc ho cm np ns hm pa sa v7 pp ss) H := hP
        have hD : va_D A (([(ho, .inr (1, [.ref v2, .ref q_t, .int v4])), (v2, .inl (cc.2.1, v3, .inl v5)), (q_t, .inl (cc.2.1, 182, .inl v6))] : va_W) ++ px_cp cc ho cm np ns hm pa sa v7 pp ss) := hD
        refine lv_ior hx hb px_d286_112 ?_
        refine lv_topi (fun z10 ez10 => ?_)
        have hw := hw z10 ez10
        refine lv_istore_n (lv' := [(1, .int z10), (2, .int z1), (5, .int y0), (0, .ref (hm a0x)), (3, .int x3), (4, .int x4)]) hx hb px_d286_113 rfl hl (by decide) rfl (fun ls hl => ?_)
        obtain ⟨z11, ez11⟩ : ∃ y : Int32, y = x3 + 1 := ⟨_, rfl⟩
        have hw := hw z11 ez11
        refine lv_iinc (v := z11) (lv' := [(3, .int z11), (1, .int z10), (2, .int z1), (5, .int y0), (0, .ref (hm a0x)), (4, .int x4)]) hx hb px_d286_114 hl (k := 4) rfl (by rw [ez11]; rfl) (by decide) rfl (fun ls hl => ?_)
        refine lv_goto (tgt := 6) hx hb px_d286_117 (by decide) ?_
        exact ih6 z10 z1 z11 v2 v3 v4 v5 v6 v7 (kc + m109_8) (ks + s109_8) H locs ls hm109_8 hs109_8 hP hD hS (lv_sub hl [4, 1, 2, 0] rfl) hw
      have S20 : ∀ (k20 : Nat) (x1 : Int32) (x2 : Int32) (x3 : Int32) (x4 : Int32) (x5 : Int32) (q_o : Nat) (l_o : Nat) (o_reached : Int32) (g_o : Nat → Int32) (g_t : Nat → Int32) (mm : Nat → px_MR) (kc : Nat) (ks : Nat) (H : Heap) (locs : List Loc) (ls : Array Slot), kc ≤ mc → ks ≤ ms → va_P (dC, dI) vwCl (([(ho, .inr (1, [.ref q_o, .ref q_t, .int o_reached])), (q_o, .inl (cc.2.1, l_o, .inl g_o)), (q_t, .inl (cc.2.1, 182, .inl g_t))] : va_W) ++ px_cp cc ho cm np ns hm pa sa mm pp ss) H → va_D A (([(ho, .inr (1, [.ref q_o, .ref q_t, .int o_reached])), (q_o, .inl (cc.2.1, l_o, .inl g_o)), (q_t, .inl (cc.2.1, 182, .inl g_t))] : va_W) ++ px_cp cc ho cm np ns hm pa sa mm pp ss) → va_S A s.heap H locs → lv_has ls 7 [(0, .ref (hm a0x)), (1, .int x1), (2, .int x2), (3, .int x3), (4, .int x4), (5, .int x5)] → w286_L20 (w286_L6 a0x cm np ns pa sa pp ss mc ms post k6) a0x cm np ns pa sa pp ss mc ms post k20 x1 x2 x3 x4 x5 q_o l_o o_reached g_o g_t mm kc ks → W p l e (headSpec px_s286 ({ frames := 4, cells := mc, slots := ms, locals := 90 })).room s m ([.ref (hm a0x)]).toArray below meth c H locs kc ks Q (F0 m 20 ls []) := by
        intro k20
        induction k20 with
        | zero => intro x1 x2 x3 x4 x5 q_o l_o o_reached g_o g_t mm kc ks H locs ls hkc hks hP hD hS hl hw; exact False.elim hw
        | succ k20 ih20 =>
          have S77 : ∀ (x1 : Int32) (x2 : Int32) (x3 : Int32) (x4 : Int32) (x5 : Int32) (x6 : Int32) (q_o : Nat) (l_o : Nat) (o_reached : Int32) (g_o : Nat → Int32) (g_t : Nat → Int32) (mm : Nat → px_MR) (kc : Nat) (ks : Nat) (H : Heap) (locs : List Loc) (ls : Array Slot), kc ≤ mc → ks ≤ ms → va_P (dC, dI) vwCl (([(ho, .inr (1, [.ref q_o, .ref q_t, .int o_reached])), (q_o, .inl (cc.2.1, l_o, .inl g_o)), (q_t, .inl (cc.2.1, 182, .inl g_t))] : va_W) ++ px_cp cc ho cm np ns hm pa sa mm pp ss) H → va_D A (([(ho, .inr (1, [.ref q_o, .ref q_t, .int o_reached])), (q_o, .inl (cc.2.1, l_o, .inl g_o)), (q_t, .inl (cc.2.1, 182, .inl g_t))] : va_W) ++ px_cp cc ho cm np ns hm pa sa mm pp ss) → va_S A s.heap H locs → lv_has ls 7 [(0, .ref (hm a0x)), (1, .int x1), (2, .int x2), (3, .int x3), (4, .int x4), (5, .int x5), (6, .int x6)] → w286_L77 (w286_L6 a0x cm np ns pa sa pp ss mc ms post k6) (w286_L20 (w286_L6 a0x cm np ns pa sa pp ss mc ms post k6) a0x cm np ns pa sa pp ss mc ms post k20) a0x cm np ns pa sa pp ss mc ms post x1 x2 x3 x4 x5 x6 q_o l_o o_reached g_o g_t mm kc ks → W p l e (headSpec px_s286 ({ frames := 4, cells := mc, slots := ms, locals := 90 })).room s m ([.ref (hm a0x)]).toArray below meth c H locs kc ks Q (F0 m 77 ls []) := by
            intro x1 x2 x3 x4 x5 x6 q_o l_o o_reached g_o g_t mm kc ks H locs ls hkc hks hP hD hS hl hw
            unfold w286_L77 at hw
            obtain ⟨z12, ez12⟩ : ∃ y : Int32, y = x5 + 1 := ⟨_, rfl⟩
            have hw := hw z12 ez12
            refine lv_iinc (v := z12) (lv' := [(5, .int z12), (0, .ref (hm a0x)), (1, .int x1), (2, .int x2), (3, .int x3), (4, .int x4), (6, .int x6)]) hx hb px_d286_77 hl (k := 5) rfl (by rw [ez12]; rfl) (by decide) rfl (fun ls hl => ?_)
            refine lv_goto (tgt := 20) hx hb px_d286_80 (by decide) ?_
            exact ih20 x1 x2 x3 x4 z12 q_o l_o o_reached g_o g_t mm kc ks H locs ls hkc hks hP hD hS (lv_sub hl [1, 2, 3, 4, 5, 0] rfl) hw
          have S73 : ∀ (x1 : Int32) (x2 : Int32) (x3 : Int32) (x4 : Int32) (x5 : Int32) (x6 : Int32) (q_o : Nat) (l_o : Nat) (o_reached : Int32) (g_o : Nat → Int32) (g_t : Nat → Int32) (mm : Nat → px_MR) (kc : Nat) (ks : Nat) (H : Heap) (locs : List Loc) (ls : Array Slot), kc ≤ mc → ks ≤ ms → va_P (dC, dI) vwCl (([(ho, .inr (1, [.ref q_o, .ref q_t, .int o_reached])), (q_o, .inl (cc.2.1, l_o, .inl g_o)), (q_t, .inl (cc.2.1, 182, .inl g_t))] : va_W) ++ px_cp cc ho cm np ns hm pa sa mm pp ss) H → va_D A (([(ho, .inr (1, [.ref q_o, .ref q_t, .int o_reached])), (q_o, .inl (cc.2.1, l_o, .inl g_o)), (q_t, .inl (cc.2.1, 182, .inl g_t))] : va_W) ++ px_cp cc ho cm np ns hm pa sa mm pp ss) → va_S A s.heap H locs → lv_has ls 7 [(0, .ref (hm a0x)), (1, .int x1), (2, .int x2), (3, .int x3), (4, .int x4), (5, .int x5), (6, .int x6)] → w286_L73 (w286_L6 a0x cm np ns pa sa pp ss mc ms post k6) (w286_L20 (w286_L6 a0x cm np ns pa sa pp ss mc ms post k6) a0x cm np ns pa sa pp ss mc ms post k20) a0x cm np ns pa sa pp ss mc ms post x1 x2 x3 x4 x5 x6 q_o l_o o_reached g_o g_t mm kc ks → W p l e (headSpec px_s286 ({ frames := 4, cells := mc, slots := ms, locals := 90 })).room s m ([.ref (hm a0x)]).toArray below meth c H locs kc ks Q (F0 m 73 ls []) := by
            intro x1 x2 x3 x4 x5 x6 q_o l_o o_reached g_o g_t mm kc ks H locs ls hkc hks hP hD hS hl hw
            unfold w286_L73 at hw
            refine lv_iload hx hb px_d286_73 (lv_at hl 5 rfl) ?_
            refine lv_istore (lv' := [(4, .int x5), (0, .ref (hm a0x)), (1, .int x1), (2, .int x2), (3, .int x3), (5, .int x5), (6, .int x6)]) hx hb px_d286_75 hl (by decide) rfl (fun ls hl => ?_)
            exact S77 x1 x2 x3 x5 x5 x6 q_o l_o o_reached g_o g_t mm kc ks H locs ls hkc hks hP hD hS (lv_sub hl [1, 2, 3, 4, 0, 5, 6] rfl) hw
          have S43 : ∀ (x1 : Int32) (x2 : Int32) (x3 : Int32) (x4 : Int32) (x5 : Int32) (y0 : Int32) (q_o : Nat) (l_o : Nat) (o_reached : Int32) (g_o : Nat → Int32) (g_t : Nat → Int32) (mm : Nat → px_MR) (kc : Nat) (ks : Nat) (H : Heap) (locs : List Loc) (ls : Array Slot), kc ≤ mc → ks ≤ ms → va_P (dC, dI) vwCl (([(ho, .inr (1, [.ref q_o, .ref q_t, .int o_reached])), (q_o, .inl (cc.2.1, l_o, .inl g_o)), (q_t, .inl (cc.2.1, 182, .inl g_t))] : va_W) ++ px_cp cc ho cm np ns hm pa sa mm pp ss) H → va_D A (([(ho, .inr (1, [.ref q_o, .ref q_t, .int o_reached])), (q_o, .inl (cc.2.1, l_o, .inl g_o)), (q_t, .inl (cc.2.1, 182, .inl g_t))] : va_W) ++ px_cp cc ho cm np ns hm pa sa mm pp ss) → va_S A s.heap H locs → lv_has ls 7 [(0, .ref (hm a0x)), (1, .int x1), (2, .int x2), (3, .int x3), (4, .int x4), (5, .int x5)] → w286_L43 (w286_L6 a0x cm np ns pa sa pp ss mc ms post k6) (w286_L20 (w286_L6 a0x cm np ns pa sa pp ss mc ms post k6) a0x cm np ns pa sa pp ss mc ms post k20) a0x cm np ns pa sa pp ss mc ms post x1 x2 x3 x4 x5 y0 q_o l_o o_reached g_o g_t mm kc ks → W p l e (headSpec px_s286 ({ frames := 4, cells := mc, slots := ms, locals := 90 })).room s m ([.ref (hm a0x)]).toArray below meth c H locs kc ks Q (F0 m 43 ls [.int y0]) := by
            intro x1 x2 x3 x4 x5 y0 q_o l_o o_reached g_o g_t mm kc ks H locs ls hkc hks hP hD hS hl hw
            unfold w286_L43 at hw
            refine lv_istore (lv' := [(6, .int y0), (0, .ref (hm a0x)), (1, .int x1), (2, .int x2), (3, .int x3), (4, .int x4), (5, .int x5)]) hx hb px_d286_43 hl (by decide) rfl (fun ls hl => ?_)
            refine lv_iload hx hb px_d286_45 (lv_at hl 0 rfl) ?_
            refine lv_if_eq (tgt := 77) hx hb px_d286_47 (by decide) (fun c47 => ?_) (fun c47 => ?_)
            · have hw := hw.1 c47
              exact S77 x1 x2 x3 x4 x5 y0 q_o l_o o_reached g_o g_t mm kc ks H locs ls hkc hks hP hD hS (lv_sub hl [1, 2, 3, 4, 5, 6, 0] rfl) hw
            · have hw := hw.2 c47
              refine lv_iload hx hb px_d286_50 (lv_at hl 5 rfl) ?_
              refine lv_iconst (v := (-1)) hx hb px_d286_52 (by decide) ?_
              refine lv_icmp_eq (tgt := 73) hx hb px_d286_53 (by decide) (fun c53 => ?_) (fun c53 => ?_)
              · have hw := hw.1 c53
                exact S73 x1 x2 x3 x4 x5 y0 q_o l_o o_reached g_o g_t mm kc ks H locs ls hkc hks hP hD hS (lv_sub hl [1, 2, 3, 4, 5, 6, 0] rfl) hw
              · have hw := hw.2 c53
                refine lv_aload_n hx hb px_d286_56 rfl (lv_at hl 1 rfl) ?_
                obtain ⟨hp57, hw⟩ := hw
                refine va_get (D := (dC, dI)) (ci := 10) (v := .ref ((mm a0x).1 3)) (C := "MatroidDesk$Matroid") (T := px_T10) (N := 15) hx hb htw px_in10 hown hK hP (3 + (13 * a0x + 0)) (px_cg0 rfl hp57) rfl 3 (by decide) (htw _ px_w1002) (fun _ h9 => h9) rfl px_d286_57 ?_
                refine lv_iload hx hb px_d286_60 (lv_at hl 6 rfl) ?_
                obtain ⟨hp62, hw⟩ := hw
                obtain ⟨hi62, hw⟩ := hw
                refine va_iald hx hb hK hP (3 + (13 * a0x + 3)) 0 (px_cg3 rfl hp62) rfl hi62 px_d286_62 ?_
                refine lv_aload_n hx hb px_d286_63 rfl (lv_at hl 1 rfl) ?_
                obtain ⟨hp64, hw⟩ := hw
                refine va_get (D := (dC, dI)) (ci := 10) (v := .ref ((mm a0x).1 3)) (C := "MatroidDesk$Matroid") (T := px_T10) (N := 15) hx hb htw px_in10 hown hK hP (3 + (13 * a0x + 0)) (px_cg0 rfl hp64) rfl 3 (by decide) (htw _ px_w1002) (fun _ h9 => h9) rfl px_d286_64 ?_
                refine lv_iload hx hb px_d286_67 (lv_at hl 5 rfl) ?_
                obtain ⟨hp69, hw⟩ := hw
                obtain ⟨hi69, hw⟩ := hw
                refine va_iald hx hb hK hP (3 + (13 * a0x + 3)) 0 (px_cg3 rfl hp69) rfl hi69 px_d286_69 ?_
                refine lv_icmp_le (tgt := 77) hx hb px_d286_70 (by decide) (fun c70 => ?_) (fun c70 => ?_)
                · have hw := hw.1 c70
                  exact S77 x1 x2 x3 x4 x5 y0 q_o l_o o_reached g_o g_t mm kc ks H locs ls hkc hks hP hD hS (lv_sub hl [1, 2, 3, 4, 5, 6, 0] rfl) hw
                · have hw := hw.2 c70
                  exact S73 x1 x2 x3 x4 x5 y0 q_o l_o o_reached g_o g_t mm kc ks H locs ls hkc hks hP hD hS (lv_sub hl [1, 2, 3, 4, 5, 6, 0] rfl) hw
          intro x1 x2 x3 x4 x5 q_o l_o o_reached g_o g_t mm kc ks H locs ls hkc hks hP hD hS hl hw
          unfold w286_L20 at hw
          refine lv_iload hx hb px_d286_20 (lv_at hl 5 rfl) ?_
          refine lv_aload_n hx hb px_d286_22 rfl (lv_at hl 0 rfl) ?_
          obtain ⟨hp23, hw⟩ := hw
          refine va_get (D := (dC, dI)) (ci := 10) (v := .int ((mm a0x).2.1 13)) (C := "MatroidDesk$Matroid") (T := px_T10) (N := 15) hx hb htw px_in10 hown hK hP (3 + (13 * a0x + 0)) (px_cg0 rfl hp23) rfl 13 (by decide) (htw _ px_w1264) (fun _ h9 => h9) rfl px_d286_23 ?_
          refine lv_icmp_ge (tgt := 83) hx hb px_d286_26 (by decide) (fun c26 => ?_) (fun c26 => ?_)
          · have hw := hw.1 c26
            refine lv_iload hx hb px_d286_83 (lv_at hl 4 rfl) ?_
            refine lv_iconst (v := (-1)) hx hb px_d286_85 (by decide) ?_
            refine lv_icmp_ne (tgt := 93) hx hb px_d286_86 (by decide) (fun c86 => ?_) (fun c86 => ?_)
            · have hw := hw.1 c86
              refine lv_iconst (v := 1) hx hb px_d286_93 (by decide) ?_
              refine lv_iload hx hb px_d286_94 (lv_at hl 4 rfl) ?_
              refine lv_ishl hx hb px_d286_96 ?_
              exact S97 x1 x2 x3 x4 x5 ((1 : Int32) <<< (x4 &&& 31)) q_o l_o o_reached g_o g_t mm kc ks H locs ls hkc hks hP hD hS (lv_sub hl [0, 1, 2, 3, 4, 5] rfl) hw
            · have hw := hw.2 c86
              refine lv_iconst (v := 0) hx hb px_d286_89 (by decide) ?_
              refine lv_goto (tgt := 97) hx hb px_d286_90 (by decide) ?_
              exact S97 x1 x2 x3 x4 x5 0 q_o l_o o_reached g_o g_t mm kc ks H locs ls hkc hks hP hD hS (lv_sub hl [0, 1, 2, 3, 4, 5] rfl) hw
          · have hw := hw.2 c26
            refine lv_iload_n hx hb px_d286_29 rfl (lv_at hl 2 rfl) ?_
            refine lv_iload hx hb px_d286_30 (lv_at hl 5 rfl) ?_
            refine lv_ishr hx hb px_d286_32 ?_
            refine lv_iconst (v := 1) hx hb px_d286_33 (by decide) ?_
            refine lv_iand hx hb px_d286_34 ?_
            refine lv_if_ne (tgt := 42) hx hb px_d286_35 (by decide) (fun c35 => ?_) (fun c35 => ?_)
            · have hw := hw.1 c35
              refine lv_iconst (v := 0) hx hb px_d286_42 (by decide) ?_
              exact S43 x1 x2 x3 x4 x5 0 q_o l_o o_reached g_o g_t mm kc ks H locs ls hkc hks hP hD hS (lv_sub hl [0, 1, 2, 3, 4, 5] rfl) hw
            · have hw := hw.2 c35
              refine lv_iconst (v := 1) hx hb px_d286_38 (by decide) ?_
              refine lv_goto (tgt := 43) hx hb px_d286_39 (by decide) ?_
              exact S43 x1 x2 x3 x4 x5 1 q_o l_o o_reached g_o g_t mm kc ks H locs ls hkc hks hP hD hS (lv_sub hl [0, 1, 2, 3, 4, 5] rfl) hw
      intro x1 x2 x3 q_o l_o o_reached g_o g_t mm kc ks H locs ls hkc hks hP hD hS hl hw
      unfold w286_L6 at hw
      refine lv_iload_n hx hb px_d286_6 rfl (lv_at hl 3 rfl) ?_
      refine lv_aload_n hx hb px_d286_7 rfl (lv_at hl 0 rfl) ?_
      obtain ⟨hp8, hw⟩ := hw
      refine va_get (D := (dC, dI)) (ci := 10) (v := .int ((mm a0x).2.1 13)) (C := "MatroidDesk$Matroid") (T := px_T10) (N := 15) hx hb htw px_in10 hown hK hP (3 + (13 * a0x + 0)) (px_cg0 rfl hp8) rfl 13 (by decide) (htw _ px_w1264) (fun _ h9 => h9) rfl px_d286_8 ?_
      refine lv_icmp_ge (tgt := 120) hx hb px_d286_11 (by decide) (fun c11 => ?_) (fun c11 => ?_)
      · have hw := hw.1 c11
        refine lv_iload_n hx hb px_d286_120 rfl (lv_at hl 1 rfl) ?_
        refine W.widen (k := mc) (n := ms) hkc hks ?_
        rw [← hQ]
        exact W.iret (v := x1) hx hb hr (fun t ht hW => ⟨⟨x1, (q_o, l_o, o_reached, g_o, g_t, mm), rfl, hw, by rw [ht]; exact hP, va_K.moved hW.alike hK, hD⟩, hS.F ht⟩) hS.2.2 px_d286_121
      · have hw := hw.2 c11
        refine lv_iconst (v := (-1)) hx hb px_d286_14 (by decide) ?_
        refine lv_istore (lv' := [(4, .int (-1)), (0, .ref (hm a0x)), (1, .int x1), (2, .int x2), (3, .int x3)]) hx hb px_d286_15 hl (by decide) rfl (fun ls hl => ?_)
        refine lv_iconst (v := 0) hx hb px_d286_17 (by decide) ?_
        refine lv_istore (lv' := [(5, .int 0), (4, .int (-1)), (0, .ref (hm a0x)), (1, .int x1), (2, .int x2), (3, .int x3)]) hx hb px_d286_18 hl (by decide) rfl (fun ls hl => ?_)
        obtain ⟨k9, hw⟩ := hw
        exact S20 k9 x1 x2 x3 (-1) 0 q_o l_o o_reached g_o g_t mm kc ks H locs ls hkc hks hP hD hS (lv_sub hl [2, 3, 4, 5, 1, 0] rfl) hw
  unfold w286_wp at hw
  have hS0 := hS
  obtain ⟨H, hH9⟩ : ∃ z, z = s.heap := ⟨_, rfl⟩
  have hP : va_P (dC, dI) vwCl (([(ho, .inr (1, [.ref q_o, .ref q_t, .int o_reached])), (q_o, .inl (cc.2.1, l_o, .inl g_o)), (q_t, .inl (cc.2.1, 182, .inl g_t))] : va_W) ++ px_cp cc ho cm np ns hm pa sa mm pp ss) H := by rw [hH9]; exact hP
  obtain ⟨locs, hlo9⟩ : ∃ z : List Loc, z = [] := ⟨_, rfl⟩
  have hS : va_S A s.heap H locs := by rw [hH9, hlo9]; exact hS
  suffices hG : W p l e (headSpec px_s286 ({ frames := 4, cells := mc, slots := ms, locals := 90 })).room s m ([.ref (hm a0x)]).toArray below meth c H locs 0 0 Q (F0 m 0 ls []) by rw [hH9, hlo9] at hG; exact hG
  refine lv_iconst (v := 0) hx hb px_d286_0 (by decide) ?_
  refine lv_istore_n (lv' := [(1, .int 0), (0, .ref (hm a0x))]) hx hb px_d286_1 rfl hl (by decide) rfl (fun ls hl => ?_)
  refine lv_iconst (v := 0) hx hb px_d286_2 (by decide) ?_
  refine lv_istore_n (lv' := [(2, .int 0), (1, .int 0), (0, .ref (hm a0x))]) hx hb px_d286_3 rfl hl (by decide) rfl (fun ls hl => ?_)
  refine lv_iconst (v := 0) hx hb px_d286_4 (by decide) ?_
  refine lv_istore_n (lv' := [(3, .int 0), (2, .int 0), (1, .int 0), (0, .ref (hm a0x))]) hx hb px_d286_5 rfl hl (by decide) rfl (fun ls hl => ?_)
  obtain ⟨k9, hw⟩ := hw
  exact S6 k9 0 0 0 q_o l_o o_reached g_o g_t mm 0 0 H locs ls (Nat.zero_le mc) (Nat.zero_le ms) hP hD hS (lv_sub hl [3, 2, 1, 0] rfl) hw

/-! MatroidDesk$Matroid.commonSet(LMatroidDesk$Matroid;)I -/
def w288_L89 (K12 : Int32 → Nat → Nat → Int32 → (Nat → Int32) → (Nat → Int32) → (Nat → px_MR) → Nat → Nat → Prop) (K45 : Int32 → Int32 → Int32 → Nat → Nat → Int32 → (Nat → Int32) → (Nat → Int32) → (Nat → px_MR) → Nat → Nat → Prop) (a0x : Nat) (cm : Nat) (np : Nat) (ns : Nat) (pa : Nat → Nat) (sa : Nat → Nat) (pp : Nat → px_PR) (ss : Nat → px_SR) (a1x : Nat) (mc : Nat) (ms : Nat) (post : Int32 → Nat → Nat → Int32 → (Nat → Int32) → (Nat → Int32) → (Nat → px_MR) → Prop) (x2 : Int32) (x3 : Int32) (x4 : Int32) (x5 : Int32) (q_o : Nat) (l_o : Nat) (o_reached : Int32) (g_o : Nat → Int32) (g_t : Nat → Int32) (mm : Nat → px_MR) (kc : Nat) (ks : Nat) : Prop := ∀ z1 : Int32, z1 = x4 + 1 → K45 x2 x3 z1 q_o l_o o_reached g_o g_t mm kc ks
def w288_L45 (K12 : Int32 → Nat → Nat → Int32 → (Nat → Int32) → (Nat → Int32) → (Nat → px_MR) → Nat → Nat → Prop) (a0x : Nat) (cm : Nat) (np : Nat) (ns : Nat) (pa : Nat → Nat) (sa : Nat → Nat) (pp : Nat → px_PR) (ss : Nat → px_SR) (a1x : Nat) (mc : Nat) (ms : Nat) (post : Int32 → Nat → Nat → Int32 → (Nat → Int32) → (Nat → Int32) → (Nat → px_MR) → Prop) : Nat → Int32 → Int32 → Int32 → Nat → Nat → Int32 → (Nat → Int32) → (Nat → Int32) → (Nat → px_MR) → Nat → Nat → Prop
  | 0 => fun _ _ _ _ _ _ _ _ _ _ _ => False
  | k + 1 => fun x2 x3 x4 q_o l_o o_reached g_o g_t mm kc ks => (x3 ≤ x4 → ∀ z2 : Int32, z2 = x2 + (-1) → K12 z2 q_o l_o o_reached g_o g_t mm kc ks) ∧ (¬ x3 ≤ x4 → a0x < cm ∧ (a0x < cm ∧ ((w240_wp (fun r61 v3 v4 v5 v6 v7 => ∃ m69_15 s69_15 : Nat, kc + m69_15 ≤ mc ∧ ks + s69_15 ≤ ms ∧ a0x < cm ∧ (w262_wp a0x cm np ns pa sa pp ss m69_15 s69_15 (fun r69 v9 v10 v11 v12 v13 v14 => (¬ r69 = x2 → w288_L89 K12 (w288_L45 K12 a0x cm np ns pa sa pp ss a1x mc ms post k) a0x cm np ns pa sa pp ss a1x mc ms post x2 x3 x4 r61 v9 v10 v11 v12 v13 v14 (kc + m69_15) (ks + s69_15)) ∧ (r69 = x2 → ∃ m79_23 s79_23 : Nat, kc + m69_15 + m79_23 ≤ mc ∧ ks + s69_15 + s79_23 ≤ ms ∧ a1x < cm ∧ (w262_wp a1x cm np ns pa sa pp ss m79_23 s79_23 (fun r79 v17 v18 v19 v20 v21 v22 => (¬ r79 = x2 → w288_L89 K12 (w288_L45 K12 a0x cm np ns pa sa pp ss a1x mc ms post k) a0x cm np ns pa sa pp ss a1x mc ms post x2 x3 x4 r61 v17 v18 v19 v20 v21 v22 (kc + m69_15 + m79_23) (ks + s69_15 + s79_23)) ∧ (r79 = x2 → post r61 v17 v18 v19 v20 v21 v22)) r61 v9 v10 v11 v12 v13 v14))) r61 v3 v4 v5 v6 v7 mm)) ((mm a0x).2.1 13) x4 q_o l_o o_reached g_o g_t))))
def w288_L12 (a0x : Nat) (cm : Nat) (np : Nat) (ns : Nat) (pa : Nat → Nat) (sa : Nat → Nat) (pp : Nat → px_PR) (ss : Nat → px_SR) (a1x : Nat) (mc : Nat) (ms : Nat) (post : Int32 → Nat → Nat → Int32 → (Nat → Int32) → (Nat → Int32) → (Nat → px_MR) → Prop) : Nat → Int32 → Nat → Nat → Int32 → (Nat → Int32) → (Nat → Int32) → (Nat → px_MR) → Nat → Nat → Prop
  | 0 => fun _ _ _ _ _ _ _ _ _ => False
  | k + 1 => fun x2 q_o l_o o_reached g_o g_t mm kc ks => (x2 ≤ 0 → post 0 q_o l_o o_reached g_o g_t mm) ∧ (¬ x2 ≤ 0 → a0x < cm ∧ (a0x < cm ∧ ((w239_wp (fun r27 v25 v26 v27 v28 v29 => a0x < cm ∧ (a0x < cm ∧ ((w239_wp (fun r40 v31 v32 v33 v34 v35 => ∃ j45, w288_L45 (w288_L12 a0x cm np ns pa sa pp ss a1x mc ms post k) a0x cm np ns pa sa pp ss a1x mc ms post j45 x2 r27 r40 v31 v32 v33 v34 v35 mm kc ks) ((mm a0x).2.1 13) x2 v25 v26 v27 v28 v29)))) ((mm a0x).2.1 13) (x2 + 1) q_o l_o o_reached g_o g_t))))
def w288_wp (a0x : Nat) (cm : Nat) (np : Nat) (ns : Nat) (pa : Nat → Nat) (sa : Nat → Nat) (pp : Nat → px_PR) (ss : Nat → px_SR) (a1x : Nat) (mc : Nat) (ms : Nat) (post : Int32 → Nat → Nat → Int32 → (Nat → Int32) → (Nat → Int32) → (Nat → px_MR) → Prop) (q_o : Nat) (l_o : Nat) (o_reached : Int32) (g_o : Nat → Int32) (g_t : Nat → Int32) (mm : Nat → px_MR) : Prop := a0x < cm ∧ (a1x < cm ∧ ((w183_wp (fun r8  => ∃ j12, w288_L12 a0x cm np ns pa sa pp ss a1x mc ms post j12 r8 q_o l_o o_reached g_o g_t mm 0 0) ((mm a0x).2.1 14) ((mm a1x).2.1 14))))
set_option maxHeartbeats 8000000 in
set_option maxRecDepth 100000 in
theorem w288_met (l : Launch) (dC : Nat → ClassId) (dI : Nat → Nat → Nat) (sz : Nat) (ho : Nat) (q_t : Nat) (a0x : Nat) (cc : px_CC) (cm : Nat) (np : Nat) (ns : Nat) (hm : Nat → Nat) (pa : Nat → Nat) (sa : Nat → Nat) (pp : Nat → px_PR) (ss : Nat → px_SR) (a1x : Nat) (mc : Nat) (ms : Nat) (q_o : Nat) (l_o : Nat) (o_reached : Int32) (g_o : Nat → Int32) (g_t : Nat → Int32) (mm : Nat → px_MR) (post : Int32 → Nat → Nat → Int32 → (Nat → Int32) → (Nat → Int32) → (Nat → px_MR) → Prop) (hw : w288_wp a0x cm np ns pa sa pp ss a1x mc ms post q_o l_o o_reached g_o g_t mm) : Met l px_y288 px_s288 ({ frames := 3, cells := mc, slots := ms, locals := 65 }) (va_Pc [.ref (hm a0x), .ref (hm a1x)] (fun U => U.heap.size = sz ∧ va_P (dC, dI) vwCl (([(ho, .inr (1, [.ref q_o, .ref q_t, .int o_reached])), (q_o, .inl (cc.2.1, l_o, .inl g_o)), (q_t, .inl (cc.2.1, 182, .inl g_t))] : va_W) ++ px_cp cc ho cm np ns hm pa sa mm pp ss) U.heap ∧ va_K (dC, dI) vwCl [(cc.2.1, .int), (cc.2.2.2.1, .byte), (cc.2.2.2.2, .long), (cc.1, .object "MatroidDesk$Part"), (cc.2.2.1, (.array .int))] U ∧ va_D (fun _ => True) (([(ho, .inr (1, [.ref q_o, .ref q_t, .int o_reached])), (q_o, .inl (cc.2.1, l_o, .inl g_o)), (q_t, .inl (cc.2.1, 182, .inl g_t))] : va_W) ++ px_cp cc ho cm np ns hm pa sa mm pp ss) ∧ px_N U)) (va_Qi (fun (r : Int32) (u : Nat × Nat × Int32 × (Nat → Int32) × (Nat → Int32) × (Nat → px_MR)) => post r u.1 u.2.1 u.2.2.1 u.2.2.2.1 u.2.2.2.2.1 u.2.2.2.2.2) (fun (u : Nat × Nat × Int32 × (Nat → Int32) × (Nat → Int32) × (Nat → px_MR)) (t : State) => va_P (dC, dI) vwCl (([(ho, .inr (1, [.ref u.1, .ref q_t, .int u.2.2.1])), (u.1, .inl (cc.2.1, u.2.1, .inl u.2.2.2.1)), (q_t, .inl (cc.2.1, 182, .inl u.2.2.2.2.1))] : va_W) ++ px_cp cc ho cm np ns hm pa sa u.2.2.2.2.2 pp ss) t.heap ∧ va_K (dC, dI) vwCl [(cc.2.1, .int), (cc.2.2.2.1, .byte), (cc.2.2.2.2, .long), (cc.1, .object "MatroidDesk$Part"), (cc.2.2.1, (.array .int))] t ∧ va_D (va_A (([(ho, .inr (1, [.ref q_o, .ref q_t, .int o_reached])), (q_o, .inl (cc.2.1, l_o, .inl g_o)), (q_t, .inl (cc.2.1, 182, .inl g_t))] : va_W) ++ px_cp cc ho cm np ns hm pa sa mm pp ss) sz) (([(ho, .inr (1, [.ref u.1, .ref q_t, .int u.2.2.1])), (u.1, .inl (cc.2.1, u.2.1, .inl u.2.2.2.1)), (q_t, .inl (cc.2.1, 182, .inl u.2.2.2.2.1))] : va_W) ++ px_cp cc ho cm np ns hm pa sa u.2.2.2.2.2 pp ss)) (va_A (([(ho, .inr (1, [.ref q_o, .ref q_t, .int o_reached])), (q_o, .inl (cc.2.1, l_o, .inl g_o)), (q_t, .inl (cc.2.1, 182, .inl g_t))] : va_W) ++ px_cp cc ho cm np ns hm pa sa mm pp ss) sz)) mc ms (va_A (([(ho, .inr (1, [.ref q_o, .ref q_t, .int o_reached])), (q_o, .inl (cc.2.1, l_o, .inl g_o)), (q_t, .inl (cc.2.1, 182, .inl g_t))] : va_W) ++ px_cp cc ho cm np ns hm pa sa mm pp ss) sz) := by
  refine Met.ofW (cc := prog_3_method_15_code) (maxL := 6) (ret := (some .int)) (by decide) rfl ?_
  intro p e s m args below meth c s₁ B hml hv
  obtain ⟨rfl, hsz, hP, hK, hD0, hN⟩ := hv
  have hx := B.exec
  have hb := B.bytes
  have hr := B.returns
  have htw : ∀ w ∈ px_all, w.before _ s = true := fun w h => atoms_spec (ws := px_s288) B.pre w (List.mem_cons_of_mem _ h)
  have hown : s.vm.findClass "MatroidDesk$Matroid" = some m.cls := findClass_of_methodNamed B.named
  have hlocks := B.notSynchronized
  subst hsz
  have hD := hD0.self (sz := s.heap.size)
  generalize hAe : va_A (([(ho, .inr (1, [.ref q_o, .ref q_t, .int o_reached])), (q_o, .inl (cc.2.1, l_o, .inl g_o)), (q_t, .inl (cc.2.1, 182, .inl g_t))] : va_W) ++ px_cp cc ho cm np ns hm pa sa mm pp ss) s.heap.size = A at hD ⊢
  have hA : ∀ q : Nat, s.heap.size ≤ q → A q := fun q h => by rw [← hAe]; exact Or.inr h
  have hS : va_S A s.heap s.heap [] := va_S.rf
  have hP : va_P (dC, dI) vwCl (([(ho, .inr (1, [.ref q_o, .ref q_t, .int o_reached])), (q_o, .inl (cc.2.1, l_o, .inl g_o)), (q_t, .inl (cc.2.1, 182, .inl g_t))] : va_W) ++ px_cp cc ho cm np ns hm pa sa mm pp ss) s.heap := hP
  have hl := lv_entry ([.ref (hm a0x), .ref (hm a1x)]) (n := 6) (Nat.le_of_ble_eq_true rfl)
  rw [lg_entry_eq]
  generalize (lg_sl ([.ref (hm a0x), .ref (hm a1x)]) ++ List.replicate (6 - (lg_sl ([.ref (hm a0x), .ref (hm a1x)])).length) Slot.unset).toArray = ls at hl ⊢
  have hl : lv_has ls 6 [(0, .ref (hm a0x)), (1, .ref (hm a1x))] := hl
  generalize hQ : MQ _ _ _ _ _ _ _ = Q
  have S12 : ∀ (k12 : Nat) (x2 : Int32) (q_o : Nat) (l_o : Nat) (o_reached : Int32) (g_o : Nat → Int32) (g_t : Nat → Int32) (mm : Nat → px_MR) (kc : Nat) (ks : Nat) (H : Heap) (locs : List Loc) (ls : Array Slot), kc ≤ mc → ks ≤ ms → va_P (dC, dI) vwCl (([(ho, .inr (1, [.ref q_o, .ref q_t, .int o_reached])), (q_o, .inl (cc.2.1, l_o, .inl g_o)), (q_t, .inl (cc.2.1, 182, .inl g_t))] : va_W) ++ px_cp cc ho cm np ns hm pa sa mm pp ss) H → va_D A (([(ho, .inr (1, [.ref q_o, .ref q_t, .int o_reached])), (q_o, .inl (cc.2.1, l_o, .inl g_o)), (q_t, .inl (cc.2.1, 182, .inl g_t))] : va_W) ++ px_cp cc ho cm np ns hm pa sa mm pp ss) → va_S A s.heap H locs → lv_has ls 6 [(0, .ref (hm a0x)), (1, .ref (hm a1x)), (2, .int x2)] → w288_L12 a0x cm np ns pa sa pp ss a1x mc ms post k12 x2 q_o l_o o_reached g_o g_t mm kc ks → W p l e (headSpec px_s288 ({ frames := 3, cells := mc, slots := ms, locals := 65 })).room s m ([.ref (hm a0x), .ref (hm a1x)]).toArray below meth c H locs kc ks Q (F0 m 12 ls []) := by
    intro k12
    induction k12 with
    | zero => intro x2 q_o l_o o_reached g_o g_t mm kc ks H locs ls hkc hks hP hD hS hl hw; exact False.elim hw
    | succ k12 ih12 =>
      have S45 : ∀ (k45 : Nat) (x2 : Int32) (x3 : Int32) (x4 : Int32) (q_o : Nat) (l_o : Nat) (o_reached : Int32) (g_o : Nat → Int32) (g_t : Nat → Int32) (mm : Nat → px_MR) (kc : Nat) (ks : Nat) (H : Heap) (locs : List Loc) (ls : Array Slot), kc ≤ mc → ks ≤ ms → va_P (dC, dI) vwCl (([(ho, .inr (1, [.ref q_o, .ref q_t, .int o_reached])), (q_o, .inl (cc.2.1, l_o, .inl g_o)), (q_t, .inl (cc.2.1, 182, .inl g_t))] : va_W) ++ px_cp cc ho cm np ns hm pa sa mm pp ss) H → va_D A (([(ho, .inr (1, [.ref q_o, .ref q_t, .int o_reached])), (q_o, .inl (cc.2.1, l_o, .inl g_o)), (q_t, .inl (cc.2.1, 182, .inl g_t))] : va_W) ++ px_cp cc ho cm np ns hm pa sa mm pp ss) → va_S A s.heap H locs → lv_has ls 6 [(0, .ref (hm a0x)), (1, .ref (hm a1x)), (2, .int x2), (3, .int x3), (4, .int x4)] → w288_L45 (w288_L12 a0x cm np ns pa sa pp ss a1x mc ms post k12) a0x cm np ns pa sa pp ss a1x mc ms post k45 x2 x3 x4 q_o l_o o_reached g_o g_t mm kc ks → W p l e (headSpec px_s288 ({ frames := 3, cells := mc, slots := ms, locals := 65 })).room s m ([.ref (hm a0x), .ref (hm a1x)]).toArray below meth c H locs kc ks Q (F0 m 45 ls []) := by
        intro k45
        induction k45 with
        | zero => intro x2 x3 x4 q_o l_o o_reached g_o g_t mm kc ks H locs ls hkc hks hP hD hS hl hw; exact False.elim hw
        | succ k45 ih45 =>
          have S89 : ∀ (x2 : Int32) (x3 : Int32) (x4 : Int32) (x5 : Int32) (q_o : Nat) (l_o : Nat) (o_reached : Int32) (g_o : Nat → Int32) (g_t : Nat → Int32) (mm : Nat → px_MR) (kc : Nat) (ks : Nat) (H : Heap) (locs : List Loc) (ls : Array Slot), kc ≤ mc → ks ≤ ms → va_P (dC, dI) vwCl (([(ho, .inr (1, [.ref q_o, .ref q_t, .int o_reached])), (q_o, .inl (cc.2.1, l_o, .inl g_o)), (q_t, .inl (cc.2.1, 182, .inl g_t))] : va_W) ++ px_cp cc ho cm np ns hm pa sa mm pp ss) H → va_D A (([(ho, .inr (1, [.ref q_o, .ref q_t, .int o_reached])), (q_o, .inl (cc.2.1, l_o, .inl g_o)), (q_t, .inl (cc.2.1, 182, .inl g_t))] : va_W) ++ px_cp cc ho cm np ns hm pa sa mm pp ss) → va_S A s.heap H locs → lv_has ls 6 [(0, .ref (hm a0x)), (1, .ref (hm a1x)), (2, .int x2), (3, .int x3), (4, .int x4), (5, .int x5)] → w288_L89 (w288_L12 a0x cm np ns pa sa pp ss a1x mc ms post k12) (w288_L45 (w288_L12 a0x cm np ns pa sa pp ss a1x mc ms post k12) a0x cm np ns pa sa pp ss a1x mc ms post k45) a0x cm np ns pa sa pp ss a1x mc ms post x2 x3 x4 x5 q_o l_o o_reached g_o g_t mm kc ks → W p l e (headSpec px_s288 ({ frames := 3, cells := mc, slots := ms, locals := 65 })).room s m ([.ref (hm a0x), .ref (hm a1x)]).toArray below meth c H locs kc ks Q (F0 m 89 ls []) := by
            intro x2 x3 x4 x5 q_o l_o o_reached g_o g_t mm kc ks H locs ls hkc hks hP hD hS hl hw
            unfold w288_L89 at hw
            obtain ⟨z1, ez1⟩ : ∃ y : Int32, y = x4 + 1 := ⟨_, rfl⟩
            have hw := hw z1 ez1
            refine lv_iinc (v := z1) (lv' := [(4, .int z1), (0, .ref (hm a0x)), (1, .ref (hm a1x)), (2, .int x2), (3, .int x3), (5, .int x5)]) hx hb px_d288_89 hl (k := 4) rfl (by rw [ez1]; rfl) (by decide) rfl (fun ls hl => ?_)
            refine lv_goto (tgt := 45) hx hb px_d288_92 (by decide) ?_
            exact ih45 x2 x3 z1 q_o l_o o_reached g_o g_t mm kc ks H locs ls hkc hks hP hD hS (lv_sub hl [1, 2, 3, 4, 0] rfl) hw
          intro x2 x3 x4 q_o l_o o_reached g_o g_t mm kc ks H locs ls hkc hks hP hD hS hl hw
          unfold w288_L45 at hw
          refine lv_iload hx hb px_d288_45 (lv_at hl 4 rfl) ?_
          refine lv_iload_n hx hb px_d288_47 rfl (lv_at hl 3 rfl) ?_
          refine lv_icmp_ge (tgt := 95) hx hb px_d288_48 (by decide) (fun c48 => ?_) (fun c48 => ?_)
          · have hw := hw.1 c48
            obtain ⟨z2, ez2⟩ : ∃ y : Int32, y = x2 + (-1) := ⟨_, rfl⟩
            have hw := hw z2 ez2
            refine lv_iinc (v := z2) (lv' := [(2, .int z2), (0, .ref (hm a0x)), (1, .ref (hm a1x)), (3, .int x3), (4, .int x4)]) hx hb px_d288_95 hl (k := 2) rfl (by rw [ez2]; rfl) (by decide) rfl (fun ls hl => ?_)
            refine lv_goto (tgt := 12) hx hb px_d288_98 (by decide) ?_
            exact ih12 z2 q_o l_o o_reached g_o g_t mm kc ks H locs ls hkc hks hP hD hS (lv_sub hl [1, 2, 0] rfl) hw
          · have hw := hw.2 c48
            refine lv_aload_n hx hb px_d288_51 rfl (lv_at hl 0 rfl) ?_
            obtain ⟨hp52, hw⟩ := hw
            refine va_get (D := (dC, dI)) (ci := 10) (v := .ref ho) (C := "MatroidDesk$Matroid") (T := px_T10) (N := 15) hx hb htw px_in10 hown hK hP (3 + (13 * a0x + 0)) (px_cg0 rfl hp52) rfl 0 (by decide) (htw _ px_w998) (fun _ h9 => h9) rfl px_d288_52 ?_
            refine lv_aload_n hx hb px_d288_55 rfl (lv_at hl 0 rfl) ?_
            obtain ⟨hp56, hw⟩ := hw
            refine va_get (D := (dC, dI)) (ci := 10) (v := .int ((mm a0x).2.1 13)) (C := "MatroidDesk$Matroid") (T := px_T10) (N := 15) hx hb htw px_in10 hown hK hP (3 + (13 * a0x + 0)) (px_cg0 rfl hp56) rfl 13 (by decide) (htw _ px_w1264) (fun _ h9 => h9) rfl px_d288_56 ?_
            refine lv_iload hx hb px_d288_59 (lv_at hl 4 rfl) ?_
            have hPc := hP.sub (ws' := [(ho, .inr (1, [.ref q_o, .ref q_t, .int o_reached])), (q_o, .inl (cc.2.1, l_o, .inl g_o)), (q_t, .inl (cc.2.1, 182, .inl g_t))]) [0, 1, 2] rfl
            have hDc := hD.sub (ws' := [(ho, .inr (1, [.ref q_o, .ref q_t, .int o_reached])), (q_o, .inl (cc.2.1, l_o, .inl g_o)), (q_t, .inl (cc.2.1, 182, .inl g_t))]) [0, 1, 2] (by decide) rfl
            have hFc := va_free (wc := [(ho, .inr (1, [.ref q_o, .ref q_t, .int o_reached])), (q_o, .inl (cc.2.1, l_o, .inl g_o)), (q_t, .inl (cc.2.1, 182, .inl g_t))]) hD hS hA [0, 1, 2] rfl
            have hKc := hK.sub (tys' := [(cc.2.1, .int)]) [0] rfl
            refine va_calli (va_runV (As := [.int ((mm a0x).2.1 13), .int x4]) (rest := []) ⟨hx, hb, hml, hown, htw⟩ (w240_met l dC dI H.size ho q_t cc.2.1 ((mm a0x).2.1 13) x4 q_o l_o o_reached g_o g_t _ hw) (cwV 2 htw (px_gv px_w1295 px_w1240 px_w1241 px_w22 px_g240) rfl rfl rfl (by decide +kernel) ⟨Nat.le_of_ble_eq_true rfl, Nat.le_of_ble_eq_true rfl⟩) ⟨fun a U g mk q => by obtain ⟨q0, q1, qP, qK, qD, qN⟩ := q; exact ⟨q0, q1, qP, va_K.moved (u := U) (U := U.calling g mk a) (Vm.Alike.refl U.vm) qK, qD, qN.same rfl⟩, va_recv hK hP (ci := 1) (q0 := 0) rfl rfl, fun U hU hW => ⟨rfl, by rw [hU], by rw [hU]; exact hPc, va_K.moved hW.alike hKc, hDc.weaken (fun _ _ _ _ => trivial), hN.warm hW⟩⟩ rfl rfl hl.1 rfl (lv_room (Nat.le_of_ble_eq_true rfl)) px_d288_61 ⟨hkc, hks⟩) hS (fun q _ h => hFc q h) hFc (fun r61 u t H1 locs ht hvm hw hB hz1 hk1 hS => ?_)
            obtain ⟨v3, v4, v5, v6, v7⟩ := u
            obtain ⟨hP1, hK1, hD1⟩ := hB
            rw [ht] at hP1
            obtain ⟨hP, hD⟩ := va_joinQ (wr := []) (w1 := [(ho, .inr (1, [.ref v3, .ref q_t, .int v5])), (v3, .inl (cc.2.1, v4, .inl v6)), (q_t, .inl (cc.2.1, 182, .inl v7))]) hP hD [0, 1, 2] [] rfl rfl (by decide) (by decide) hk1 hFc hP1 hD1
            generalize H1 = H at hP hS ⊢
            have hP : va_P (dC, dI) vwCl (([(ho, .inr (1, [.ref v3, .ref q_t, .int v5])), (v3, .inl (cc.2.1, v4, .inl v6)), (q_t, .inl (cc.2.1, 182, .inl v7))] : va_W) ++ px_cp cc ho cm np ns hm pa sa mm pp ss) H := hP
            have hD : va_D A (([(ho, .inr (1, [.ref v3, .ref q_t, .int v5])), (v3, .inl (cc.2.1, v4, .inl v6)), (q_t, .inl (cc.2.1, 182, .inl v7))] : va_W) ++ px_cp cc ho cm np ns hm pa sa mm pp ss) := hD
            refine lv_istore (lv' := [(5, .int r61), (0, .ref (hm a0x)), (1, .ref (hm a1x)), (2, .int x2), (3, .int x3), (4, .int x4)]) hx hb px_d288_64 hl (by decide) rfl (fun ls hl => ?_)
            refine lv_aload_n hx hb px_d288_66 rfl (lv_at hl 1 rfl) ?_
            refine lv_iload hx hb px_d288_67 (lv_at hl 0 rfl) ?_
            obtain ⟨m69_15, s69_15, hm69_15, hs69_15, hw⟩ := hw
            obtain ⟨hp69, hw⟩ := hw
            have hPc := hP.part (cx := [(ho, .inr (1, [.ref v3, .ref q_t, .int v5])), (v3, .inl (cc.2.1, v4, .inl v6)), (q_t, .inl (cc.2.1, 182, .inl v7))]) [0, 1, 2] rfl
            have hDc := hD.part (cx := [(ho, .inr (1, [.ref v3, .ref q_t, .int v5])), (v3, .inl (cc.2.1, v4, .inl v6)), (q_t, .inl (cc.2.1, 182, .inl v7))]) [0, 1, 2] (by decide) rfl
            have hFc := va_freeP (cx := [(ho, .inr (1, [.ref v3, .ref q_t, .int v5])), (v3, .inl (cc.2.1, v4, .inl v6)), (q_t, .inl (cc.2.1, 182, .inl v7))]) hD hS hA [0, 1, 2] rfl
            have hKc := hK.sub (tys' := [(cc.2.1, .int), (cc.2.2.2.1, .byte), (cc.2.2.2.2, .long), (cc.1, .object "MatroidDesk$Part"), (cc.2.2.1, (.array .int))]) [0, 1, 2, 3, 4] rfl
            refine va_calli (va_runV (As := [.int r61]) (rest := []) ⟨hx, hb, hml, hown, htw⟩ (w262_met l dC dI H.size ho q_t a0x cc cm np ns hm pa sa pp ss m69_15 s69_15 r61 v3 v4 v5 v6 v7 mm _ hw) (cwV 1 htw (px_gv px_w1335 px_w1337 px_w1338 px_w154 px_g262) rfl rfl rfl (by decide +kernel) ⟨Nat.le_of_ble_eq_true rfl, Nat.le_of_ble_eq_true rfl⟩) ⟨fun a U g mk q => by obtain ⟨q0, q1, qP, qK, qD, qN⟩ := q; exact ⟨q0, q1, qP, va_K.moved (u := U) (U := U.calling g mk a) (Vm.Alike.refl U.vm) qK, qD, qN.same rfl⟩, va_recv hK hP (ci := 10) (q0 := (3 + (13 * a0x + 0))) rfl (px_cg0 rfl hp69), fun U hU hW => ⟨rfl, by rw [hU], by rw [hU]; exact hPc, va_K.moved hW.alike hKc, hDc.weaken (fun _ _ _ _ => trivial), hN.warm hW⟩⟩ rfl rfl hl.1 rfl (lv_room (Nat.le_of_ble_eq_true rfl)) px_d288_69 ⟨hm69_15, hs69_15⟩) hS (fun q _ h => hFc q h) hFc (fun r69 u t H1 locs ht hvm hw hB hz1 hk1 hS => ?_)
            obtain ⟨v9, v10, v11, v12, v13, v14⟩ := u
            obtain ⟨hP1, hK1, hD1⟩ := hB
            rw [ht] at hP1
            obtain ⟨hP, hD⟩ := va_joinP (wr := []) (rx := [(ho, .inr (1, [.ref v9, .ref q_t, .int v11])), (v9, .inl (cc.2.1, v10, .inl v12)), (q_t, .inl (cc.2.1, 182, .inl v13))]) hP hD [0, 1, 2] [] rfl rfl (by decide) (by decide) hk1 hFc hP1 hD1
            generalize H1 = H at hP hS ⊢
            have hP : va_P (dC, dI) vwCl (([(ho, .inr (1, [.ref v9, .ref q_t, .int v11])), (v9, .inl (cc.2.1, v10, .inl v12)), (q_t, .inl (cc.2.1, 182, .inl v13))] : va_W) ++ px_cp cc ho cm np ns hm pa sa v14 pp ss) H := hP
            have hD : va_D A (([(ho, .inr (1, [.ref v9, .ref q_t, .int v11])), (v9, .inl (cc.2.1, v10, .inl v12)), (q_t, .inl (cc.2.1, 182, .inl v13))] : va_W) ++ px_cp cc ho cm np ns hm pa sa v14 pp ss) := hD
            refine lv_iload_n hx hb px_d288_72 rfl (lv_at hl 3 rfl) ?_
            refine lv_icmp_ne (tgt := 89) hx hb px_d288_73 (by decide) (fun c73 => ?_) (fun c73 => ?_)
            · have hw := hw.1 c73
              exact S89 x2 x3 x4 r61 v9 v10 v11 v12 v13 v14 (kc + m69_15) (ks + s69_15) H locs ls hm69_15 hs69_15 hP hD hS (lv_sub hl [1, 2, 3, 4, 5, 0] rfl) hw
            · have hw := hw.2 c73
              refine lv_aload_n hx hb px_d288_76 rfl (lv_at hl 2 rfl) ?_
              refine lv_iload hx hb px_d288_77 (lv_at hl 0 rfl) ?_
              obtain ⟨m79_23, s79_23, hm79_23, hs79_23, hw⟩ := hw
              obtain ⟨hp79, hw⟩ := hw
              have hPc := hP.part (cx := [(ho, .inr (1, [.ref v9, .ref q_t, .int v11])), (v9, .inl (cc.2.1, v10, .inl v12)), (q_t, .inl (cc.2.1, 182, .inl v13))]) [0, 1, 2] rfl
              have hDc := hD.part (cx := [(ho, .inr (1, [.ref v9, .ref q_t, .int v11])), (v9, .inl (cc.2.1, v10, .inl v12)), (q_t, .inl (cc.2.1, 182, .inl v13))]) [0, 1, 2] (by decide) rfl
              have hFc := va_freeP (cx := [(ho, .inr (1, [.ref v9, .ref q_t, .int v11])), (v9, .inl (cc.2.1, v10, .inl v12)), (q_t, .inl (cc.2.1, 182, .inl v13))]) hD hS hA [0, 1, 2] rfl
              have hKc := hK.sub (tys' := [(cc.2.1, .int), (cc.2.2.2.1, .byte), (cc.2.2.2.2, .long), (cc.1, .object "MatroidDesk$Part"), (cc.2.2.1, (.array .int))]) [0, 1, 2, 3, 4] rfl
              refine va_calli (va_runV (As := [.int r61]) (rest := []) ⟨hx, hb, hml, hown, htw⟩ (w262_met l dC dI H.size ho q_t a1x cc cm np ns hm pa sa pp ss m79_23 s79_23 r61 v9 v10 v11 v12 v13 v14 _ hw) (cwV 1 htw (px_gv px_w1335 px_w1337 px_w1338 px_w154 px_g262) rfl rfl rfl (by decide +kernel) ⟨Nat.le_of_ble_eq_true rfl, Nat.le_of_ble_eq_true rfl⟩) ⟨fun a U g mk q => by obtain ⟨q0, q1, qP, qK, qD, qN⟩ := q; exact ⟨q0, q1, qP, va_K.moved (u := U) (U := U.calling g mk a) (Vm.Alike.refl U.vm) qK, qD, qN.same rfl⟩, va_recv hK hP (ci := 10) (q0 := (3 + (13 * a1x + 0))) rfl (px_cg0 rfl hp79), fun U hU hW => ⟨rfl, by rw [hU], by rw [hU]; exact hPc, va_K.moved hW.alike hKc, hDc.weaken (fun _ _ _ _ => trivial), hN.warm hW⟩⟩ rfl rfl hl.1 rfl (lv_room (Nat.le_of_ble_eq_true rfl)) px_d288_79 ⟨hm79_23, hs79_23⟩) hS (fun q _ h => hFc q h) hFc (fun r79 u t H1 locs ht hvm hw hB hz1 hk1 hS => ?_)
              obtain ⟨v17, v18, v19, v20, v21, v22⟩ := u
              obtain ⟨hP1, hK1, hD1⟩ := hB
              rw [ht] at hP1
              obtain ⟨hP, hD⟩ := va_joinP (wr := []) (rx := [(ho, .inr (1, [.ref v17, .ref q_t, .int v19])), (v17, .inl (cc.2.1, v18, .inl v20)), (q_t, .inl (cc.2.1, 182, .inl v21))]) hP hD [0, 1, 2] [] rfl rfl (by decide) (by decide) hk1 hFc hP1 hD1
              generalize H1 = H at hP hS ⊢
              have hP : va_P (dC, dI) vwCl (([(ho, .inr (1, [.ref v17, .ref q_t, .int v19])), (v17, .inl (cc.2.1, v18, .inl v20)), (q_t, .inl (cc.2.1, 182, .inl v21))] : va_W) ++ px_cp cc ho cm np ns hm pa sa v22 pp ss) H := hP
              have hD : va_D A (([(ho, .inr (1, [.ref v17, .ref q_t, .int v19])), (v17, .inl (cc.2.1, v18, .inl v20)), (q_t, .inl (cc.2.1, 182, .inl v21))] : va_W) ++ px_cp cc ho cm np ns hm pa sa v22 pp ss) := hD
              refine lv_iload_n hx hb px_d288_82 rfl (lv_at hl 3 rfl) ?_
              refine lv_icmp_ne (tgt := 89) hx hb px_d288_83 (by decide) (fun c83 => ?_) (fun c83 => ?_)
              · have hw := hw.1 c83
                exact S89 x2 x3 x4 r61 v17 v18 v19 v20 v21 v22 (kc + m69_15 + m79_23) (ks + s69_15 + s79_23) H locs ls hm79_23 hs79_23 hP hD hS (lv_sub hl [1, 2, 3, 4, 5, 0] rfl) hw
              · have hw := hw.2 c83
                refine lv_iload hx hb px_d288_86 (lv_at hl 0 rfl) ?_
                refine W.widen (k := mc) (n := ms) hm79_23 hs79_23 ?_
                rw [← hQ]
                exact W.iret (v := r61) hx hb hr (fun t ht hW => ⟨⟨r61, (v17, v18, v19, v20, v21, v22), rfl, hw, by rw [ht]; exact hP, va_K.moved hW.alike hK, hD⟩, hS.F ht⟩) hS.2.2 px_d288_88
      intro x2 q_o l_o o_reached g_o g_t mm kc ks H locs ls hkc hks hP hD hS hl hw
      unfold w288_L12 at hw
      refine lv_iload_n hx hb px_d288_12 rfl (lv_at hl 2 rfl) ?_
      refine lv_if_le (tgt := 101) hx hb px_d288_13 (by decide) (fun c13 => ?_) (fun c13 => ?_)
      · have hw := hw.1 c13
        refine lv_iconst (v := 0) hx hb px_d288_101 (by decide) ?_
        refine W.widen (k := mc) (n := ms) hkc hks ?_
        rw [← hQ]
        exact W.iret (v := 0) hx hb hr (fun t ht hW => ⟨⟨0, (q_o, l_o, o_reached, g_o, g_t, mm), rfl, hw, by rw [ht]; exact hP, va_K.moved hW.alike hK, hD⟩, hS.F ht⟩) hS.2.2 px_d288_102
      · have hw := hw.2 c13
        refine lv_aload_n hx hb px_d288_16 rfl (lv_at hl 0 rfl) ?_
        obtain ⟨hp17, hw⟩ := hw
        refine va_get (D := (dC, dI)) (ci := 10) (v := .ref ho) (C := "MatroidDesk$Matroid") (T := px_T10) (N := 15) hx hb htw px_in10 hown hK hP (3 + (13 * a0x + 0)) (px_cg0 rfl hp17) rfl 0 (by decide) (htw _ px_w998) (fun _ h9 => h9) rfl px_d288_17 ?_
        refine lv_aload_n hx hb px_d288_20 rfl (lv_at hl 0 rfl) ?_
        obtain ⟨hp21, hw⟩ := hw
        refine va_get (D := (dC, dI)) (ci := 10) (v := .int ((mm a0x).2.1 13)) (C := "MatroidDesk$Matroid") (T := px_T10) (N := 15) hx hb htw px_in10 hown hK hP (3 + (13 * a0x + 0)) (px_cg0 rfl hp21) rfl 13 (by decide) (htw _ px_w1264) (fun _ h9 => h9) rfl px_d288_21 ?_
        refine lv_iload_n hx hb px_d288_24 rfl (lv_at hl 2 rfl) ?_
        refine lv_iconst (v := 1) hx hb px_d288_25 (by decide) ?_
        refine lv_iadd hx hb px_d288_26 ?_
        have hPc := hP.sub (ws' := [(ho, .inr (1, [.ref q_o, .ref q_t, .int o_reached])), (q_o, .inl (cc.2.1, l_o, .inl g_o)), (q_t, .inl (cc.2.1, 182, .inl g_t))]) [0, 1, 2] rfl
        have hDc := hD.sub (ws' := [(ho, .inr (1, [.ref q_o, .ref q_t, .int o_reached])), (q_o, .inl (cc.2.1, l_o, .inl g_o)), (q_t, .inl (cc.2.1, 182, .inl g_t))]) [0, 1, 2] (by decide) rfl
        have hFc := va_free (wc := [(ho, .inr (1, [.ref q_o, .ref q_t, .int o_reached])), (q_o, .inl (cc.2.1, l_o, .inl g_o)), (q_t, .inl (cc.2.1, 182, .inl g_t))]) hD hS hA [0, 1, 2] rfl
        have hKc := hK.sub (tys' := [(cc.2.1, .int)]) [0] rfl
        refine va_calli (va_runV (As := [.int ((mm a0x).2.1 13), .int (x2 + 1)]) (rest := []) ⟨hx, hb, hml, hown, htw⟩ (w239_met l dC dI H.size ho q_t cc.2.1 ((mm a0x).2.1 13) (x2 + 1) q_o l_o o_reached g_o g_t _ hw) (cwV 2 htw (px_gv px_w1294 px_w1237 px_w1238 px_w22 px_g239) rfl rfl rfl (by decide +kernel) ⟨Nat.le_of_ble_eq_true rfl, Nat.le_of_ble_eq_true rfl⟩) ⟨fun a U g mk q => by obtain ⟨q0, q1, qP, qK, qD, qN⟩ := q; exact ⟨q0, q1, qP, va_K.moved (u := U) (U := U.calling g mk a) (Vm.Alike.refl U.vm) qK, qD, qN.same rfl⟩, va_recv hK hP (ci := 1) (q0 := 0) rfl rfl, fun U hU hW => ⟨rfl, by rw [hU], by rw [hU]; exact hPc, va_K.moved hW.alike hKc, hDc.weaken (fun _ _ _ _ => trivial), hN.warm hW⟩⟩ rfl rfl hl.1 rfl (lv_room (Nat.le_of_ble_eq_true rfl)) px_d288_27 ⟨hkc, hks⟩) hS (fun q _ h => hFc q h) hFc (fun r27 u t H1 locs ht hvm hw hB hz1 hk1 hS => ?_)
        obtain ⟨v25, v26, v27, v28, v29⟩ := u
        obtain ⟨hP1, hK1, hD1⟩ := hB
        rw [ht] at hP1
        obtain ⟨hP, hD⟩ := va_joinQ (wr := []) (w1 := [(ho, .inr (1, [.ref v25, .ref q_t, .int v27])), (v25, .inl (cc.2.1, v26, .inl v28)), (q_t, .inl (cc.2.1, 182, .inl v29))]) hP hD [0, 1, 2] [] rfl rfl (by decide) (by decide) hk1 hFc hP1 hD1
        generalize H1 = H at hP hS ⊢
        have hP : va_P (dC, dI) vwCl (([(ho, .inr (1, [.ref v25, .ref q_t, .int v27])), (v25, .inl (cc.2.1, v26, .inl v28)), (q_t, .inl (cc.2.1, 182, .inl v29))] : va_W) ++ px_cp cc ho cm np ns hm pa sa mm pp ss) H := hP
        have hD : va_D A (([(ho, .inr (1, [.ref v25, .ref q_t, .int v27])), (v25, .inl (cc.2.1, v26, .inl v28)), (q_t, .inl (cc.2.1, 182, .inl v29))] : va_W) ++ px_cp cc ho cm np ns hm pa sa mm pp ss) := hD
        refine lv_istore_n (lv' := [(3, .int r27), (0, .ref (hm a0x)), (1, .ref (hm a1x)), (2, .int x2)]) hx hb px_d288_30 rfl hl (by decide) rfl (fun ls hl => ?_)
        refine lv_aload_n hx hb px_d288_31 rfl (lv_at hl 1 rfl) ?_
        obtain ⟨hp32, hw⟩ := hw
        refine va_get (D := (dC, dI)) (ci := 10) (v := .ref ho) (C := "MatroidDesk$Matroid") (T := px_T10) (N := 15) hx hb htw px_in10 hown hK hP (3 + (13 * a0x + 0)) (px_cg0 rfl hp32) rfl 0 (by decide) (htw _ px_w998) (fun _ h9 => h9) rfl px_d288_32 ?_
        refine lv_aload_n hx hb px_d288_35 rfl (lv_at hl 1 rfl) ?_
        obtain ⟨hp36, hw⟩ := hw
        refine va_get (D := (dC, dI)) (ci := 10) (v := .int ((mm a0x).2.1 13)) (C := "MatroidDesk$Matroid") (T := px_T10) (N := 15) hx hb htw px_in10 hown hK hP (3 + (13 * a0x + 0)) (px_cg0 rfl hp36) rfl 13 (by decide) (htw _ px_w1264) (fun _ h9 => h9) rfl px_d288_36 ?_
        refine lv_iload_n hx hb px_d288_39 rfl (lv_at hl 3 rfl) ?_
        have hPc := hP.sub (ws' := [(ho, .inr (1, [.ref v25, .ref q_t, .int v27])), (v25, .inl (cc.2.1, v26, .inl v28)), (q_t, .inl (cc.2.1, 182, .inl v29))]) [0, 1, 2] rfl
        have hDc := hD.sub (ws' := [(ho, .inr (1, [.ref v25, .ref q_t, .int v27])), (v25, .inl (cc.2.1, v26, .inl v28)), (q_t, .inl (cc.2.1, 182, .inl v29))]) [0, 1, 2] (by decide) rfl
        have hFc := va_free (wc := [(ho, .inr (1, [.ref v25, .ref q_t, .int v27])), (v25, .inl (cc.2.1, v26, .inl v28)), (q_t, .inl (cc.2.1, 182, .inl v29))]) hD hS hA [0, 1, 2] rfl
        have hKc := hK.sub (tys' := [(cc.2.1, .int)]) [0] rfl
        refine va_calli (va_runV (As := [.int ((mm a0x).2.1 13), .int x2]) (rest := []) ⟨hx, hb, hml, hown, htw⟩ (w239_met l dC dI H.size ho q_t cc.2.1 ((mm a0x).2.1 13) x2 v25 v26 v27 v28 v29 _ hw) (cwV 2 htw (px_gv px_w1294 px_w1237 px_w1238 px_w22 px_g239) rfl rfl rfl (by decide +kernel) ⟨Nat.le_of_ble_eq_true rfl, Nat.le_of_ble_eq_true rfl⟩) ⟨fun a U g mk q => by obtain ⟨q0, q1, qP, qK, qD, qN⟩ := q; exact ⟨q0, q1, qP, va_K.moved (u := U) (U := U.calling g mk a) (Vm.Alike.refl U.vm) qK, qD, qN.same rfl⟩, va_recv hK hP (ci := 1) (q0 := 0) rfl rfl, fun U hU hW => ⟨rfl, by rw [hU], by rw [hU]; exact hPc, va_K.moved hW.alike hKc, hDc.weaken (fun _ _ _ _ => trivial), hN.warm hW⟩⟩ rfl rfl hl.1 rfl (lv_room (Nat.le_of_ble_eq_true rfl)) px_d288_40 ⟨hkc, hks⟩) hS (fun q _ h => hFc q h) hFc (fun r40 u t H1 locs ht hvm hw hB hz1 hk1 hS => ?_)
        obtain ⟨v31, v32, v33, v34, v35⟩ := u
        obtain ⟨hP1, hK1, hD1⟩ := hB
        rw [ht] at hP1
        obtain ⟨hP, hD⟩ := va_joinQ (wr := []) (w1 := [(ho, .inr (1, [.ref v31, .ref q_t, .int v33])), (v31, .inl (cc.2.1, v32, .inl v34)), (q_t, .inl (cc.2.1, 182, .inl v35))]) hP hD [0, 1, 2] [] rfl rfl (by decide) (by decide) hk1 hFc hP1 hD1
        generalize H1 = H at hP hS ⊢
        have hP : va_P (dC, dI) vwCl (([(ho, .inr (1, [.ref v31, .ref q_t, .int v33])), (v31, .inl (cc.2.1, v32, .inl v34)), (q_t, .inl (cc.2.1, 182, .inl v35))] : va_W) ++ px_cp cc ho cm np ns hm pa sa mm pp ss) H := hP
        have hD : va_D A (([(ho, .inr (1, [.ref v31, .ref q_t, .int v33])), (v31, .inl (cc.2.1, v32, .inl v34)), (q_t, .inl (cc.2.1, 182, .inl v35))] : va_W) ++ px_cp cc ho cm np ns hm pa sa mm pp ss) := hD
        refine lv_istore (lv' := [(4, .int r40), (3, .int r27), (0, .ref (hm a0x)), (1, .ref (hm a1x)), (2, .int x2)]) hx hb px_d288_43 hl (by decide) rfl (fun ls hl => ?_)
        obtain ⟨k9, hw⟩ := hw
        exact S45 k9 x2 r27 r40 v31 v32 v33 v34 v35 mm kc ks H locs ls hkc hks hP hD hS (lv_sub hl [2, 3, 4, 1, 0] rfl) hw
  unfold w288_wp at hw
  have hS0 := hS
  obtain ⟨H, hH9⟩ : ∃ z, z = s.heap := ⟨_, rfl⟩
  have hP : va_P (dC, dI) vwCl (([(ho, .inr (1, [.ref q_o, .ref q_t, .int o_reached])), (q_o, .inl (cc.2.1, l_o, .inl g_o)), (q_t, .inl (cc.2.1, 182, .inl g_t))] : va_W) ++ px_cp cc ho cm np ns hm pa sa mm pp ss) H := by rw [hH9]; exact hP
  obtain ⟨locs, hlo9⟩ : ∃ z : List Loc, z = [] := ⟨_, rfl⟩
  have hS : va_S A s.heap H locs := by rw [hH9, hlo9]; exact hS
  suffices hG : W p l e (headSpec px_s288 ({ frames := 3, cells := mc, slots := ms, locals := 65 })).room s m ([.ref (hm a0x), .ref (hm a1x)]).toArray below meth c H locs 0 0 Q (F0 m 0 ls []) by rw [hH9, hlo9] at hG; exact hG
  refine lv_aload_n hx hb px_d288_0 rfl (lv_at hl 0 rfl) ?_
  obtain ⟨hp1, hw⟩ := hw
  refine va_get (D := (dC, dI)) (ci := 10) (v := .int ((mm a0x).2.1 14)) (C := "MatroidDesk$Matroid") (T := px_T10) (N := 15) hx hb htw px_in10 hown hK hP (3 + (13 * a0x + 0)) (px_cg0 rfl hp1) rfl 14 (by decide) (htw _ px_w1267) (fun _ h9 => h9) rfl px_d288_1 ?_
  refine lv_aload_n hx hb px_d288_4 rfl (lv_at hl 1 rfl) ?_
  obtain ⟨hp5, hw⟩ := hw
  refine va_get (D := (dC, dI)) (ci := 10) (v := .int ((mm a1x).2.1 14)) (C := "MatroidDesk$Matroid") (T := px_T10) (N := 15) hx hb htw px_in10 hown hK hP (3 + (13 * a1x + 0)) (px_cg0 rfl hp5) rfl 14 (by decide) (htw _ px_w1267) (fun _ h9 => h9) rfl px_d288_5 ?_
  have hPc := hP.sub (ws' := []) [] rfl
  have hDc := hD.sub (ws' := []) [] (by decide) rfl
  have hFc := va_free (wc := []) hD hS hA [] rfl
  have hKc := hK.sub (tys' := []) [] rfl
  refine va_calli (va_runS (As := [.int ((mm a0x).2.1 14), .int ((mm a1x).2.1 14)]) (rest := []) ⟨hx, hb, hml, hown, htw⟩ (w183_met l dC dI H.size ((mm a0x).2.1 14) ((mm a1x).2.1 14) _ hw) (va_cwS 2 htw (px_gs2 px_w1455 px_w1042 px_w1753 px_g183) rfl rfl rfl (by decide +kernel) ⟨Nat.le_of_ble_eq_true rfl, Nat.le_of_ble_eq_true rfl⟩) ⟨fun a U g mk q => by obtain ⟨q0, q1, qP, qK, qD, qN⟩ := q; exact ⟨q0, q1, qP, va_K.moved (u := U) (U := U.calling g mk a) (Vm.Alike.refl U.vm) qK, qD, qN.same rfl⟩, fun U hU hW => ⟨rfl, by rw [hU], by rw [hU]; exact hPc, va_K.moved hW.alike hKc, hDc.weaken (fun _ _ _ _ => trivial), hN.warm hW⟩⟩ rfl rfl hl.1 rfl (lv_room (Nat.le_of_ble_eq_true rfl)) px_d288_8 ⟨(Nat.zero_le mc), (Nat.zero_le ms)⟩) hS (fun q _ h => hFc q h) hFc (fun r8 u t H1 locs ht hvm hw hB hz1 hk1 hS => ?_)
  obtain ⟨hP1, hK1, hD1⟩ := hB
  rw [ht] at hP1
  obtain ⟨hP, hD⟩ := va_joinQ (wr := [(ho, .inr (1, [.ref q_o, .ref q_t, .int o_reached])), (q_o, .inl (cc.2.1, l_o, .inl g_o)), (q_t, .inl (cc.2.1, 182, .inl g_t))]) (w1 := []) hP hD [] [0, 1, 2] rfl rfl (by decide) (by decide) hk1 hFc hP1 hD1
  generalize H1 = H at hP hS ⊢
  have hP : va_P (dC, dI) vwCl (([(ho, .inr (1, [.ref q_o, .ref q_t, .int o_reached])), (q_o, .inl (cc.2.1, l_o, .inl g_o)), (q_t, .inl (cc.2.1, 182, .inl g_t))] : va_W) ++ px_cp cc ho cm np ns hm pa sa mm pp ss) H := hP
  have hD : va_D A (([(ho, .inr (1, [.ref q_o, .ref q_t, .int o_reached])), (q_o, .inl (cc.2.1, l_o, .inl g_o)), (q_t, .inl (cc.2.1, 182, .inl g_t))] : va_W) ++ px_cp cc ho cm np ns hm pa sa mm pp ss) := hD
  refine lv_istore_n (lv' := [(2, .int r8), (0, .ref (hm a0x)), (1, .ref (hm a1x))]) hx hb px_d288_11 rfl hl (by decide) rfl (fun ls hl => ?_)
  obtain ⟨k9, hw⟩ := hw
  exact S12 k9 r8 q_o l_o o_reached g_o g_t mm 0 0 H locs ls (Nat.zero_le mc) (Nat.zero_le ms) hP hD hS (lv_sub hl [1, 2, 0] rfl) hw

/-! MatroidDesk$Matroid.coverSet(LMatroidDesk$Matroid;)I -/
def w289_L53 (K17 : Int32 → Int32 → Int32 → Nat → Nat → Int32 → (Nat → Int32) → (Nat → Int32) → (Nat → px_MR) → Nat → Nat → Prop) (a0x : Nat) (cm : Nat) (np : Nat) (ns : Nat) (pa : Nat → Nat) (sa : Nat → Nat) (pp : Nat → px_PR) (ss : Nat → px_SR) (a1x : Nat) (mc : Nat) (ms : Nat) (post : Int32 → Nat → Nat → Int32 → (Nat → Int32) → (Nat → Int32) → (Nat → px_MR) → Prop) (x2 : Int32) (x3 : Int32) (x4 : Int32) (q_o : Nat) (l_o : Nat) (o_reached : Int32) (g_o : Nat → Int32) (g_t : Nat → Int32) (mm : Nat → px_MR) (kc : Nat) (ks : Nat) : Prop := ∀ z1 : Int32, z1 = x4 + 1 → K17 x2 x3 z1 q_o l_o o_reached g_o g_t mm kc ks
def w289_L17 (a0x : Nat) (cm : Nat) (np : Nat) (ns : Nat) (pa : Nat → Nat) (sa : Nat → Nat) (pp : Nat → px_PR) (ss : Nat → px_SR) (a1x : Nat) (mc : Nat) (ms : Nat) (post : Int32 → Nat → Nat → Int32 → (Nat → Int32) → (Nat → Int32) → (Nat → px_MR) → Prop) : Nat → Int32 → Int32 → Int32 → Nat → Nat → Int32 → (Nat → Int32) → (Nat → Int32) → (Nat → px_MR) → Nat → Nat → Prop
  | 0 => fun _ _ _ _ _ _ _ _ _ _ _ => False
  | k + 1 => fun x2 x3 x4 q_o l_o o_reached g_o g_t mm kc ks => a0x < cm ∧ (w249_wp a0x cm np ns pa sa pp ss (fun r20 v2 v3 v4 v5 v6 v7 => (r20 < x4 → post x3 v2 v3 v4 v5 v6 v7) ∧ (¬ r20 < x4 → ∃ m29_15 s29_15 : Nat, kc + m29_15 ≤ mc ∧ ks + s29_15 ≤ ms ∧ a0x < cm ∧ (w262_wp a0x cm np ns pa sa pp ss m29_15 s29_15 (fun r29 v9 v10 v11 v12 v13 v14 => a0x < cm ∧ (w249_wp a0x cm np ns pa sa pp ss (fun r34 v17 v18 v19 v20 v21 v22 => ∃ m40_30 s40_30 : Nat, kc + m29_15 + m40_30 ≤ mc ∧ ks + s29_15 + s40_30 ≤ ms ∧ a1x < cm ∧ (w262_wp a1x cm np ns pa sa pp ss m40_30 s40_30 (fun r40 v24 v25 v26 v27 v28 v29 => (¬ (r29 + r40) = x2 → w289_L53 (w289_L17 a0x cm np ns pa sa pp ss a1x mc ms post k) a0x cm np ns pa sa pp ss a1x mc ms post x2 x3 x4 v24 v25 v26 v27 v28 v29 (kc + m29_15 + m40_30) (ks + s29_15 + s40_30)) ∧ ((r29 + r40) = x2 → ∀ z32 : Int32, z32 = x3 &&& x4 → w289_L53 (w289_L17 a0x cm np ns pa sa pp ss a1x mc ms post k) a0x cm np ns pa sa pp ss a1x mc ms post x2 z32 x4 v24 v25 v26 v27 v28 v29 (kc + m29_15 + m40_30) (ks + s29_15 + s40_30))) (r34 ^^^ x4) v17 v18 v19 v20 v21 v22)) v9 v10 v11 v12 v13 v14)) x4 v2 v3 v4 v5 v6 v7))) q_o l_o o_reached g_o g_t mm)
def w289_wp (a0x : Nat) (cm : Nat) (np : Nat) (ns : Nat) (pa : Nat → Nat) (sa : Nat → Nat) (pp : Nat → px_PR) (ss : Nat → px_SR) (a1x : Nat) (mc : Nat) (ms : Nat) (post : Int32 → Nat → Nat → Int32 → (Nat → Int32) → (Nat → Int32) → (Nat → px_MR) → Prop) (q_o : Nat) (l_o : Nat) (o_reached : Int32) (g_o : Nat → Int32) (g_t : Nat → Int32) (mm : Nat → px_MR) : Prop := ∃ m2_39 s2_39 : Nat, 0 + m2_39 ≤ mc ∧ 0 + s2_39 ≤ ms ∧ a0x < cm ∧ (w288_wp a0x cm np ns pa sa pp ss a1x m2_39 s2_39 (fun r2 v33 v34 v35 v36 v37 v38 => (w250_wp (fun r5  => a0x < cm ∧ (w249_wp a0x cm np ns pa sa pp ss (fun r10 v42 v43 v44 v45 v46 v47 => ∃ j17, w289_L17 a0x cm np ns pa sa pp ss a1x mc ms post j17 r5 r10 0 v42 v43 v44 v45 v46 v47 (0 + m2_39) (0 + s2_39)) v33 v34 v35 v36 v37 v38)) r2)) q_o l_o o_reached g_o g_t mm)
set_option maxHeartbeats 8000000 in
set_option maxRecDepth 100000 in
theorem w289_met (l : Launch) (dC : Nat → ClassId) (dI : Nat → Nat → Nat) (sz : Nat) (ho : Nat) (q_t : Nat) (a0x : Nat) (cc : px_CC) (cm : Nat) (np : Nat) (ns : Nat) (hm : Nat → Nat) (pa : Nat → Nat) (sa : Nat → Nat) (pp : Nat → px_PR) (ss : Nat → px_SR) (a1x : Nat) (mc : Nat) (ms : Nat) (q_o : Nat) (l_o : Nat) (o_reached : Int32) (g_o : Nat → Int32) (g_t : Nat → Int32) (mm : Nat → px_MR) (post : Int32 → Nat → Nat → Int32 → (Nat → Int32) → (Nat → Int32) → (Nat → px_MR) → Prop) (hw : w289_wp a0x cm np ns pa sa pp ss a1x mc ms post q_o l_o o_reached g_o g_t mm) : Met l px_y289 px_s289 ({ frames := 4, cells := mc, slots := ms, locals := 90 }) (va_Pc [.ref (hm a0x), .ref (hm a1x)] (fun U => U.heap.size = sz ∧ va_P (dC, dI) vwCl (([(ho, .inr (1, [.ref q_o, .ref q_t, .int o_reached])), (q_o, .inl (cc.2.1, l_o, .inl g_o)), (q_t, .inl (cc.2.1, 182, .inl g_t))] : va_W) ++ px_cp cc ho cm np ns hm pa sa mm pp ss) U.heap ∧ va_K (dC, dI) vwCl [(cc.2.1, .int), (cc.2.2.2.1, .byte), (cc.2.2.2.2, .long), (cc.1, .object "MatroidDesk$Part"), (cc.2.2.1, (.array .int))] U ∧ va_D (fun _ => True) (([(ho, .inr (1, [.ref q_o, .ref q_t, .int o_reached])), (q_o, .inl (cc.2.1, l_o, .inl g_o)), (q_t, .inl (cc.2.1, 182, .inl g_t))] : va_W) ++ px_cp cc ho cm np ns hm pa sa mm pp ss) ∧ px_N U)) (va_Qi (fun (r : Int32) (u : Nat × Nat × Int32 × (Nat → Int32) × (Nat → Int32) × (Nat → px_MR)) => post r u.1 u.2.1 u.2.2.1 u.2.2.2.1 u.2.2.2.2.1 u.2.2.2.2.2) (fun (u : Nat × Nat × Int32 × (Nat → Int32) × (Nat → Int32) × (Nat → px_MR)) (t : State) => va_P (dC, dI) vwCl (([(ho, .inr (1, [.ref u.1, .ref q_t, .int u.2.2.1])), (u.1, .inl (cc.2.1, u.2.1, .inl u.2.2.2.1)), (q_t, .inl (cc.2.1, 182, .inl u.2.2.2.2.1))] : va_W) ++ px_cp cc ho cm np ns hm pa sa u.2.2.2.2.2 pp ss) t.heap ∧ va_K (dC, dI) vwCl [(cc.2.1, .int), (cc.2.2.2.1, .byte), (cc.2.2.2.2, .long), (cc.1, .object "MatroidDesk$Part"), (cc.2.2.1, (.array .int))] t ∧ va_D (va_A (([(ho, .inr (1, [.ref q_o, .ref q_t, .int o_reached])), (q_o, .inl (cc.2.1, l_o, .inl g_o)), (q_t, .inl (cc.2.1, 182, .inl g_t))] : va_W) ++ px_cp cc ho cm np ns hm pa sa mm pp ss) sz) (([(ho, .inr (1, [.ref u.1, .ref q_t, .int u.2.2.1])), (u.1, .inl (cc.2.1, u.2.1, .inl u.2.2.2.1)), (q_t, .inl (cc.2.1, 182, .inl u.2.2.2.2.1))] : va_W) ++ px_cp cc ho cm np ns hm pa sa u.2.2.2.2.2 pp ss)) (va_A (([(ho, .inr (1, [.ref q_o, .ref q_t, .int o_reached])), (q_o, .inl (cc.2.1, l_o, .inl g_o)), (q_t, .inl (cc.2.1, 182, .inl g_t))] : va_W) ++ px_cp cc ho cm np ns hm pa sa mm pp ss) sz)) mc ms (va_A (([(ho, .inr (1, [.ref q_o, .ref q_t, .int o_reached])), (q_o, .inl (cc.2.1, l_o, .inl g_o)), (q_t, .inl (cc.2.1, 182, .inl g_t))] : va_W) ++ px_cp cc ho cm np ns hm pa sa mm pp ss) sz) := by
  refine Met.ofW (cc := prog_3_method_16_code) (maxL := 5) (ret := (some .int)) (by decide) rfl ?_
  intro p e s m args below meth c s₁ B hml hv
  obtain ⟨rfl, hsz, hP, hK, hD0, hN⟩ := hv
  have hx := B.exec
  have hb := B.bytes
  have hr := B.returns
  have htw : ∀ w ∈ px_all, w.before _ s = true := fun w h => atoms_spec (ws := px_s289) B.pre w (List.mem_cons_of_mem _ h)
  have hown : s.vm.findClass "MatroidDesk$Matroid" = some m.cls := findClass_of_methodNamed B.named
  have hlocks := B.notSynchronized
  subst hsz
  have hD := hD0.self (sz := s.heap.size)
  generalize hAe : va_A (([(ho, .inr (1, [.ref q_o, .ref q_t, .int o_reached])), (q_o, .inl (cc.2.1, l_o, .inl g_o)), (q_t, .inl (cc.2.1, 182, .inl g_t))] : va_W) ++ px_cp cc ho cm np ns hm pa sa mm pp ss) s.heap.size = A at hD ⊢
  have hA : ∀ q : Nat, s.heap.size ≤ q → A q := fun q h => by rw [← hAe]; exact Or.inr h
  have hS : va_S A s.heap s.heap [] := va_S.rf
  have hP : va_P (dC, dI) vwCl (([(ho, .inr (1, [.ref q_o, .ref q_t, .int o_reached])), (q_o, .inl (cc.2.1, l_o, .inl g_o)), (q_t, .inl (cc.2.1, 182, .inl g_t))] : va_W) ++ px_cp cc ho cm np ns hm pa sa mm pp ss) s.heap := hP
  have hl := lv_entry ([.ref (hm a0x), .ref (hm a1x)]) (n := 5) (Nat.le_of_ble_eq_true rfl)
  rw [lg_entry_eq]
  generalize (lg_sl ([.ref (hm a0x), .ref (hm a1x)]) ++ List.replicate (5 - (lg_sl ([.ref (hm a0x), .ref (hm a1x)])).length) Slot.unset).toArray = ls at hl ⊢
  have hl : lv_has ls 5 [(0, .ref (hm a0x)), (1, .ref (hm a1x))] := hl
  generalize hQ : MQ _ _ _ _ _ _ _ = Q
  have S17 : ∀ (k17 : Nat) (x2 : Int32) (x3 : Int32) (x4 : Int32) (q_o : Nat) (l_o : Nat) (o_reached : Int32) (g_o : Nat → Int32) (g_t : Nat → Int32) (mm : Nat → px_MR) (kc : Nat) (ks : Nat) (H : Heap) (locs : List Loc) (ls : Array Slot), kc ≤ mc → ks ≤ ms → va_P (dC, dI) vwCl (([(ho, .inr (1, [.ref q_o, .ref q_t, .int o_reached])), (q_o, .inl (cc.2.1, l_o, .inl g_o)), (q_t, .inl (cc.2.1, 182, .inl g_t))] : va_W) ++ px_cp cc ho cm np ns hm pa sa mm pp ss) H → va_D A (([(ho, .inr (1, [.ref q_o, .ref q_t, .int o_reached])), (q_o, .inl (cc.2.1, l_o, .inl g_o)), (q_t, .inl (cc.2.1, 182, .inl g_t))] : va_W) ++ px_cp cc ho cm np ns hm pa sa mm pp ss) → va_S A s.heap H locs → lv_has ls 5 [(0, .ref (hm a0x)), (1, .ref (hm a1x)), (2, .int x2), (3, .int x3), (4, .int x4)] → w289_L17 a0x cm np ns pa sa pp ss a1x mc ms post k17 x2 x3 x4 q_o l_o o_reached g_o g_t mm kc ks → W p l e (headSpec px_s289 ({ frames := 4, cells := mc, slots := ms, locals := 90 })).room s m ([.ref (hm a0x), .ref (hm a1x)]).toArray below meth c H locs kc ks Q (F0 m 17 ls []) := by
    intro k17
    induction k17 with
    | zero => intro x2 x3 x4 q_o l_o o_reached g_o g_t mm kc ks H locs ls hkc hks hP hD hS hl hw; exact False.elim hw
    | succ k17 ih17 =>
      have S53 : ∀ (x2 : Int32) (x3 : Int32) (x4 : Int32) (q_o : Nat) (l_o : Nat) (o_reached : Int32) (g_o : Nat → Int32) (g_t : Nat → Int32) (mm : Nat → px_MR) (kc : Nat) (ks : Nat) (H : Heap) (locs : List Loc) (ls : Array Slot), kc ≤ mc → ks ≤ ms → va_P (dC, dI) vwCl (([(ho, .inr (1, [.ref q_o, .ref q_t, .int o_reached])), (q_o, .inl (cc.2.1, l_o, .inl g_o)), (q_t, .inl (cc.2.1, 182, .inl g_t))] : va_W) ++ px_cp cc ho cm np ns hm pa sa mm pp ss) H → va_D A (([(ho, .inr (1, [.ref q_o, .ref q_t, .int o_reached])), (q_o, .inl (cc.2.1, l_o, .inl g_o)), (q_t, .inl (cc.2.1, 182, .inl g_t))] : va_W) ++ px_cp cc ho cm np ns hm pa sa mm pp ss) → va_S A s.heap H locs → lv_has ls 5 [(0, .ref (hm a0x)), (1, .ref (hm a1x)), (2, .int x2), (3, .int x3), (4, .int x4)] → w289_L53 (w289_L17 a0x cm np ns pa sa pp ss a1x mc ms post k17) a0x cm np ns pa sa pp ss a1x mc ms post x2 x3 x4 q_o l_o o_reached g_o g_t mm kc ks → W p l e (headSpec px_s289 ({ frames := 4, cells := mc, slots := ms, locals := 90 })).room s m ([.ref (hm a0x), .ref (hm a1x)]).toArray below meth c H locs kc ks Q (F0 m 53 ls []) := by
        intro x2 x3 x4 q_o l_o o_reached g_o g_t mm kc ks H locs ls hkc hks hP hD hS hl hw
        unfold w289_L53 at hw
        obtain ⟨z1, ez1⟩ : ∃ y : Int32, y = x4 + 1 := ⟨_, rfl⟩
        have hw := hw z1 ez1
        refine lv_iinc (v := z1) (lv' := [(4, .int z1), (0, .ref (hm a0x)), (1, .ref (hm a1x)), (2, .int x2), (3, .int x3)]) hx hb px_d289_53 hl (k := 4) rfl (by rw [ez1]; rfl) (by decide) rfl (fun ls hl => ?_)
        refine lv_goto (tgt := 17) hx hb px_d289_56 (by decide) ?_
        exact ih17 x2 x3 z1 q_o l_o o_reached g_o g_t mm kc ks H locs ls hkc hks hP hD hS (lv_sub hl [1, 2, 3, 4, 0] rfl) hw
      intro x2 x3 x4 q_o l_o o_reached g_o g_t mm kc ks H locs ls hkc hks hP hD hS hl hw
      unfold w289_L17 at hw
      refine lv_iload hx hb px_d289_17 (lv_at hl 4 rfl) ?_
      refine lv_aload_n hx hb px_d289_19 rfl (lv_at hl 0 rfl) ?_
      obtain ⟨hp20, hw⟩ := hw
      have hPc := hP.part (cx := [(ho, .inr (1, [.ref q_o, .ref q_t, .int o_reached])), (q_o, .inl (cc.2.1, l_o, .inl g_o)), (q_t, .inl (cc.2.1, 182, .inl g_t))]) [0, 1, 2] rfl
      have hDc := hD.part (cx := [(ho, .inr (1, [.ref q_o, .ref q_t, .int o_reached])), (q_o, .inl (cc.2.1, l_o, .inl g_o)), (q_t, .inl (cc.2.1, 182, .inl g_t))]) [0, 1, 2] (by decide) rfl
      have hFc := va_freeP (cx := [(ho, .inr (1, [.ref q_o, .ref q_t, .int o_reached])), (q_o, .inl (cc.2.1, l_o, .inl g_o)), (q_t, .inl (cc.2.1, 182, .inl g_t))]) hD hS hA [0, 1, 2] rfl
      have hKc := hK.sub (tys' := [(cc.2.1, .int), (cc.2.2.2.1, .byte), (cc.2.2.2.2, .long), (cc.1, .object "MatroidDesk$Part"), (cc.2.2.1, (.array .int))]) [0, 1, 2, 3, 4] rfl
      refine va_calli (va_runV (As := []) (rest := [.int x4]) ⟨hx, hb, hml, hown, htw⟩ (w249_met l dC dI H.size ho q_t a0x cc cm np ns hm pa sa pp ss q_o l_o o_reached g_o g_t mm _ hw) (cwV 0 htw (px_gv px_w1265 px_w1287 px_w1288 px_w154 px_g249) rfl rfl rfl (by decide +kernel) ⟨Nat.le_of_ble_eq_true rfl, Nat.le_of_ble_eq_true rfl⟩) ⟨fun a U g mk q => by obtain ⟨q0, q1, qP, qK, qD, qN⟩ := q; exact ⟨q0, q1, qP, va_K.moved (u := U) (U := U.calling g mk a) (Vm.Alike.refl U.vm) qK, qD, qN.same rfl⟩, va_recv hK hP (ci := 10) (q0 := (3 + (13 * a0x + 0))) rfl (px_cg0 rfl hp20), fun U hU hW => ⟨rfl, by rw [hU], by rw [hU]; exact hPc, va_K.moved hW.alike hKc, hDc.weaken (fun _ _ _ _ => trivial), hN.warm hW⟩⟩ rfl rfl hl.1 rfl (lv_room (Nat.le_of_ble_eq_true rfl)) px_d289_20 ⟨hkc, hks⟩) hS (fun q _ h => hFc q h) hFc (fun r20 u t H1 locs ht hvm hw hB hz1 hk1 hS => ?_)
      obtain ⟨v2, v3, v4, v5, v6, v7⟩ := u
      obtain ⟨hP1, hK1, hD1⟩ := hB
      rw [ht] at hP1
      obtain ⟨hP, hD⟩ := va_joinP (wr := []) (rx := [(ho, .inr (1, [.ref v2, .ref q_t, .int v4])), (v2, .inl (cc.2.1, v3, .inl v5)), (q_t, .inl (cc.2.1, 182, .inl v6))]) hP hD [0, 1, 2] [] rfl rfl (by decide) (by decide) hk1 hFc hP1 hD1
      generalize H1 = H at hP hS ⊢
      have hP : va_P (dC, dI) vwCl (([(ho, .inr (1, [.ref v2, .ref q_t, .int v4])), (v2, .inl (cc.2.1, v3, .inl v5)), (q_t, .inl (cc.2.1, 182, .inl v6))] : va_W) ++ px_cp cc ho cm np ns hm pa sa v7 pp ss) H := hP
      have hD : va_D A (([(ho, .inr (1, [.ref v2, .ref q_t, .int v4])), (v2, .inl (cc.2.1, v3, .inl v5)), (q_t, .inl (cc.2.1, 182, .inl v6))] : va_W) ++ px_cp cc ho cm np ns hm pa sa v7 pp ss) := hD
      refine lv_icmp_gt (tgt := 59) hx hb px_d289_23 (by decide) (fun c23 => ?_) (fun c23 => ?_)
      · have hw := hw.1 c23
        refine lv_iload_n hx hb px_d289_59 rfl (lv_at hl 3 rfl) ?_
        refine W.widen (k := mc) (n := ms) hkc hks ?_
        rw [← hQ]
        exact W.iret (v := x3) hx hb hr (fun t ht hW => ⟨⟨x3, (v2, v3, v4, v5, v6, v7), rfl, hw, by rw [ht]; exact hP, va_K.moved hW.alike hK, hD⟩, hS.F ht⟩) hS.2.2 px_d289_60
      · have hw := hw.2 c23
        refine lv_aload_n hx hb px_d289_26 rfl (lv_at hl 0 rfl) ?_
        refine lv_iload hx hb px_d289_27 (lv_at hl 4 rfl) ?_
        obtain ⟨m29_15, s29_15, hm29_15, hs29_15, hw⟩ := hw
        obtain ⟨hp29, hw⟩ := hw
        have hPc := hP.part (cx := [(ho, .inr (1, [.ref v2, .ref q_t, .int v4])), (v2, .inl (cc.2.1, v3, .inl v5)), (q_t, .inl (cc.2.1, 182, .inl v6))]) [0, 1, 2] rfl
        have hDc := hD.part (cx := [(ho, .inr (1, [.ref v2, .ref q_t, .int v4])), (v2, .inl (cc.2.1, v3, .inl v5)), (q_t, .inl (cc.2.1, 182, .inl v6))]) [0, 1, 2] (by decide) rfl
        have hFc := va_freeP (cx := [(ho, .inr (1, [.ref v2, .ref q_t, .int v4])), (v2, .inl (cc.2.1, v3, .inl v5)), (q_t, .inl (cc.2.1, 182, .inl v6))]) hD hS hA [0, 1, 2] rfl
        have hKc := hK.sub (tys' := [(cc.2.1, .int), (cc.2.2.2.1, .byte), (cc.2.2.2.2, .long), (cc.1, .object "MatroidDesk$Part"), (cc.2.2.1, (.array .int))]) [0, 1, 2, 3, 4] rfl
        refine va_calli (va_runV (As := [.int x4]) (rest := []) ⟨hx, hb, hml, hown, htw⟩ (w262_met l dC dI H.size ho q_t a0x cc cm np ns hm pa sa pp ss m29_15 s29_15 x4 v2 v3 v4 v5 v6 v7 _ hw) (cwV 1 htw (px_gv px_w1335 px_w1337 px_w1338 px_w154 px_g262) rfl rfl rfl (by decide +kernel) ⟨Nat.le_of_ble_eq_true rfl, Nat.le_of_ble_eq_true rfl⟩) ⟨fun a U g mk q => by obtain ⟨q0, q1, qP, qK, qD, qN⟩ := q; exact ⟨q0, q1, qP, va_K.moved (u := U) (U := U.calling g mk a) (Vm.Alike.refl U.vm) qK, qD, qN.same rfl⟩, va_recv hK hP (ci := 10) (q0 := (3 + (13 * a0x + 0))) rfl (px_cg0 rfl hp29), fun U hU hW => ⟨rfl, by rw [hU], by rw [hU]; exact hPc, va_K.moved hW.alike hKc, hDc.weaken (fun _ _ _ _ => trivial), hN.warm hW⟩⟩ rfl rfl hl.1 rfl (lv_room (Nat.le_of_ble_eq_true rfl)) px_d289_29 ⟨hm29_15, hs29_15⟩) hS (fun q _ h => hFc q h) hFc (fun r29 u t H1 locs ht hvm hw hB hz1 hk1 hS => ?_)
        obtain ⟨v9, v10, v11, v12, v13, v14⟩ := u
        obtain ⟨hP1, hK1, hD1⟩ := hB
        rw [ht] at hP1
        obtain ⟨hP, hD⟩ := va_joinP (wr := []) (rx := [(ho, .inr (1, [.ref v9, .ref q_t, .int v11])), (v9, .inl (cc.2.1, v10, .inl v12)), (q_t, .inl (cc.2.1, 182, .inl v13))]) hP hD [0, 1, 2] [] rfl rfl (by decide) (by decide) hk1 hFc hP1 hD1
        generalize H1 = H at hP hS ⊢
        have hP : va_P (dC, dI) vwCl (([(ho, .inr (1, [.ref v9, .ref q_t, .int v11])), (v9, .inl (cc.2.1, v10, .inl v12)), (q_t, .inl (cc.2.1, 182, .inl v13))] : va_W) ++ px_cp cc ho cm np ns hm pa sa v14 pp ss) H := hP
        have hD : va_D A (([(ho, .inr (1, [.ref v9, .ref q_t, .int v11])), (v9, .inl (cc.2.1, v10, .inl v12)), (q_t, .inl (cc.2.1, 182, .inl v13))] : va_W) ++ px_cp cc ho cm np ns hm pa sa v14 pp ss) := hD
        refine lv_aload_n hx hb px_d289_32 rfl (lv_at hl 1 rfl) ?_
        refine lv_aload_n hx hb px_d289_33 rfl (lv_at hl 0 rfl) ?_
        obtain ⟨hp34, hw⟩ := hw
        have hPc := hP.part (cx := [(ho, .inr (1, [.ref v9, .ref q_t, .int v11])), (v9, .inl (cc.2.1, v10, .inl v12)), (q_t, .inl (cc.2.1, 182, .inl v13))]) [0, 1, 2] rfl
        have hDc := hD.part (cx := [(ho, .inr (1, [.ref v9, .ref q_t, .int v11])), (v9, .inl (cc.2.1, v10, .inl v12)), (q_t, .inl (cc.2.1, 182, .inl v13))]) [0, 1, 2] (by decide) rfl
        have hFc := va_freeP (cx := [(ho, .inr (1, [.ref v9, .ref q_t, .int v11])), (v9, .inl (cc.2.1, v10, .inl v12)), (q_t, .inl (cc.2.1, 182, .inl v13))]) hD hS hA [0, 1, 2] rfl
        have hKc := hK.sub (tys' := [(cc.2.1, .int), (cc.2.2.2.1, .byte), (cc.2.2.2.2, .long), (cc.1, .object "MatroidDesk$Part"), (cc.2.2.1, (.array .int))]) [0, 1, 2, 3, 4] rfl
        refine va_calli (va_runV (As := []) (rest := [.ref (hm a1x), .int r29]) ⟨hx, hb, hml, hown, htw⟩ (w249_met l dC dI H.size ho q_t a0x cc cm np ns hm pa sa pp ss v9 v10 v11 v12 v13 v14 _ hw) (cwV 0 htw (px_gv px_w1265 px_w1287 px_w1288 px_w154 px_g249) rfl rfl rfl (by decide +kernel) ⟨Nat.le_of_ble_eq_true rfl, Nat.le_of_ble_eq_true rfl⟩) ⟨fun a U g mk q => by obtain ⟨q0, q1, qP, qK, qD, qN⟩ := q; exact ⟨q0, q1, qP, va_K.moved (u := U) (U := U.calling g mk a) (Vm.Alike.refl U.vm) qK, qD, qN.same rfl⟩, va_recv hK hP (ci := 10) (q0 := (3 + (13 * a0x + 0))) rfl (px_cg0 rfl hp34), fun U hU hW => ⟨rfl, by rw [hU], by rw [hU]; exact hPc, va_K.moved hW.alike hKc, hDc.weaken (fun _ _ _ _ => trivial), hN.warm hW⟩⟩ rfl rfl hl.1 rfl (lv_room (Nat.le_of_ble_eq_true rfl)) px_d289_34 ⟨hm29_15, hs29_15⟩) hS (fun q _ h => hFc q h) hFc (fun r34 u t H1 locs ht hvm hw hB hz1 hk1 hS => ?_)
        obtain ⟨v17, v18, v19, v20, v21, v22⟩ := u
        obtain ⟨hP1, hK1, hD1⟩ := hB
        rw [ht] at hP1
        obtain ⟨hP, hD⟩ := va_joinP (wr := []) (rx := [(ho, .inr (1, [.ref v17, .ref q_t, .int v19])), (v17, .inl (cc.2.1, v18, .inl v20)), (q_t, .inl (cc.2.1, 182, .inl v21))]) hP hD [0, 1, 2] [] rfl rfl (by decide) (by decide) hk1 hFc hP1 hD1
        generalize H1 = H at hP hS ⊢
        have hP : va_P (dC, dI) vwCl (([(ho, .inr (1, [.ref v17, .ref q_t, .int v19])), (v17, .inl (cc.2.1, v18, .inl v20)), (q_t, .inl (cc.2.1, 182, .inl v21))] : va_W) ++ px_cp cc ho cm np ns hm pa sa v22 pp ss) H := hP
        have hD : va_D A (([(ho, .inr (1, [.ref v17, .ref q_t, .int v19])), (v17, .inl (cc.2.1, v18, .inl v20)), (q_t, .inl (cc.2.1, 182, .inl v21))] : va_W) ++ px_cp cc ho cm np ns hm pa sa v22 pp ss) := hD
        refine lv_iload hx hb px_d289_37 (lv_at hl 4 rfl) ?_
        refine lv_ixor hx hb px_d289_39 ?_
        obtain ⟨m40_30, s40_30, hm40_30, hs40_30, hw⟩ := hw
        obtain ⟨hp40, hw⟩ := hw
        have hPc := hP.part (cx := [(ho, .inr (1, [.ref v17, .ref q_t, .int v19])), (v17, .inl (cc.2.1, v18, .inl v20)), (q_t, .inl (cc.2.1, 182, .inl v21))]) [0, 1, 2] rfl
        have hDc := hD.part (cx := [(ho, .inr (1, [.ref v17, .ref q_t, .int v19])), (v17, .inl (cc.2.1, v18, .inl v20)), (q_t, .inl (cc.2.1, 182, .inl v21))]) [0, 1, 2] (by decide) rfl
        have hFc := va_freeP (cx := [(ho, .inr (1, [.ref v17, .ref q_t, .int v19])), (v17, .inl (cc.2.1, v18, .inl v20)), (q_t, .inl (cc.2.1, 182, .inl v21))]) hD hS hA [0, 1, 2] rfl
        have hKc := hK.sub (tys' := [(cc.2.1, .int), (cc.2.2.2.1, .byte), (cc.2.2.2.2, .long), (cc.1, .object "MatroidDesk$Part"), (cc.2.2.1, (.array .int))]) [0, 1, 2, 3, 4] rfl
        refine va_calli (va_runV (As := [.int (r34 ^^^ x4)]) (rest := [.int r29]) ⟨hx, hb, hml, hown, htw⟩ (w262_met l dC dI H.size ho q_t a1x cc cm np ns hm pa sa pp ss m40_30 s40_30 (r34 ^^^ x4) v17 v18 v19 v20 v21 v22 _ hw) (cwV 1 htw (px_gv px_w1335 px_w1337 px_w1338 px_w154 px_g262) rfl rfl rfl (by decide +kernel) ⟨Nat.le_of_ble_eq_true rfl, Nat.le_of_ble_eq_true rfl⟩) ⟨fun a U g mk q => by obtain ⟨q0, q1, qP, qK, qD, qN⟩ := q; exact ⟨q0, q1, qP, va_K.moved (u := U) (U := U.calling g mk a) (Vm.Alike.refl U.vm) qK, qD, qN.same rfl⟩, va_recv hK hP (ci := 10) (q0 := (3 + (13 * a1x + 0))) rfl (px_cg0 rfl hp40), fun U hU hW => ⟨rfl, by rw [hU], by rw [hU]; exact hPc, va_K.moved hW.alike hKc, hDc.weaken (fun _ _ _ _ => trivial), hN.warm hW⟩⟩ rfl rfl hl.1 rfl (lv_room (Nat.le_of_ble_eq_true rfl)) px_d289_40 ⟨hm40_30, hs40_30⟩) hS (fun q _ h => hFc q h) hFc (fun r40 u t H1 locs ht hvm hw hB hz1 hk1 hS => ?_)
        obtain ⟨v24, v25, v26, v27, v28, v29⟩ := u
        obtain ⟨hP1, hK1, hD1⟩ := hB
        rw [ht] at hP1
        obtain ⟨hP, hD⟩ := va_joinP (wr := []) (rx := [(ho, .inr (1, [.ref v24, .ref q_t, .int v26])), (v24, .inl (cc.2.1, v25, .inl v27)), (q_t, .inl (cc.2.1, 182, .inl v28))]) hP hD [0, 1, 2] [] rfl rfl (by decide) (by decide) hk1 hFc hP1 hD1
        generalize H1 = H at hP hS ⊢
        have hP : va_P (dC, dI) vwCl (([(ho, .inr (1, [.ref v24, .ref q_t, .int v26])), (v24, .inl (cc.2.1, v25, .inl v27)), (q_t, .inl (cc.2.1, 182, .inl v28))] : va_W) ++ px_cp cc ho cm np ns hm pa sa v29 pp ss) H := hP
        have hD : va_D A (([(ho, .inr (1, [.ref v24, .ref q_t, .int v26])), (v24, .inl (cc.2.1, v25, .inl v27)), (q_t, .inl (cc.2.1, 182, .inl v28))] : va_W) ++ px_cp cc ho cm np ns hm pa sa v29 pp ss) := hD
        refine lv_iadd hx hb px_d289_43 ?_
        refine lv_iload_n hx hb px_d289_44 rfl (lv_at hl 2 rfl) ?_
        refine lv_icmp_ne (tgt := 53) hx hb px_d289_45 (by decide) (fun c45 => ?_) (fun c45 => ?_)
        · have hw := hw.1 c45
          exact S53 x2 x3 x4 v24 v25 v26 v27 v28 v29 (kc + m29_15 + m40_30) (ks + s29_15 + s40_30) H locs ls hm40_30 hs40_30 hP hD hS (lv_sub hl [0, 1, 2, 3, 4] rfl) hw
        · have hw := hw.2 c45
          refine lv_iload_n hx hb px_d289_48 rfl (lv_at hl 3 rfl) ?_
          refine lv_iload hx hb px_d289_49 (lv_at hl 4 rfl) ?_
          refine lv_iand hx hb px_d289_51 ?_
          refine lv_topi (fun z32 ez32 => ?_)
          have hw := hw z32 ez32
          refine lv_istore_n (lv' := [(3, .int z32), (0, .ref (hm a0x)), (1, .ref (hm a1x)), (2, .int x2), (4, .int x4)]) hx hb px_d289_52 rfl hl (by decide) rfl (fun ls hl => ?_)
          exact S53 x2 z32 x4 v24 v25 v26 v27 v28 v29 (kc + m29_15 + m40_30) (ks + s29_15 + s40_30) H locs ls hm40_30 hs40_30 hP hD hS (lv_sub hl [1, 2, 3, 0, 4] rfl) hw
  unfold w289_wp at hw
  have hS0 := hS
  obtain ⟨H, hH9⟩ : ∃ z, z = s.heap := ⟨_, rfl⟩
  have hP : va_P (dC, dI) vwCl (([(ho, .inr (1, [.ref q_o, .ref q_t, .int o_reached])), (q_o, .inl (cc.2.1, l_o, .inl g_o)), (q_t, .inl (cc.2.1, 182, .inl g_t))] : va_W) ++ px_cp cc ho cm np ns hm pa sa mm pp ss) H := by rw [hH9]; exact hP
  obtain ⟨locs, hlo9⟩ : ∃ z : List Loc, z = [] := ⟨_, rfl⟩
  have hS : va_S A s.heap H locs := by rw [hH9, hlo9]; exact hS
  suffices hG : W p l e (headSpec px_s289 ({ frames := 4, cells := mc, slots := ms, locals := 90 })).room s m ([.ref (hm a0x), .ref (hm a1x)]).toArray below meth c H locs 0 0 Q (F0 m 0 ls []) by rw [hH9, hlo9] at hG; exact hG
  refine lv_aload_n hx hb px_d289_0 rfl (lv_at hl 0 rfl) ?_
  refine lv_aload_n hx hb px_d289_1 rfl (lv_at hl 1 rfl) ?_
  obtain ⟨m2_39, s2_39, hm2_39, hs2_39, hw⟩ := hw
  obtain ⟨hp2, hw⟩ := hw
  have hPc := hP.part (cx := [(ho, .inr (1, [.ref q_o, .ref q_t, .int o_reached])), (q_o, .inl (cc.2.1, l_o, .inl g_o)), (q_t, .inl (cc.2.1, 182, .inl g_t))]) [0, 1, 2] rfl
  have hDc := hD.part (cx := [(ho, .inr (1, [.ref q_o, .ref q_t, .int o_reached])), (q_o, .inl (cc.2.1, l_o, .inl g_o)), (q_t, .inl (cc.2.1, 182, .inl g_t))]) [0, 1, 2] (by decide) rfl
  have hFc := va_freeP (cx := [(ho, .inr (1, [.ref q_o, .ref q_t, .int o_reached])), (q_o, .inl (cc.2.1, l_o, .inl g_o)), (q_t, .inl (cc.2.1, 182, .inl g_t))]) hD hS hA [0, 1, 2] rfl
  have hKc := hK.sub (tys' := [(cc.2.1, .int), (cc.2.2.2.1, .byte), (cc.2.2.2.2, .long), (cc.1, .object "MatroidDesk$Part"), (cc.2.2.1, (.array .int))]) [0, 1, 2, 3, 4] rfl
  refine va_calli (va_runV (As := [.ref (hm a1x)]) (rest := []) ⟨hx, hb, hml, hown, htw⟩ (w288_met l dC dI H.size ho q_t a0x cc cm np ns hm pa sa pp ss a1x m2_39 s2_39 q_o l_o o_reached g_o g_t mm _ hw) (cwV 1 htw (px_gv px_w1459 px_w1453 px_w1454 px_w154 px_g288) rfl rfl rfl (by decide +kernel) ⟨Nat.le_of_ble_eq_true rfl, Nat.le_of_ble_eq_true rfl⟩) ⟨fun a U g mk q => by obtain ⟨q0, q1, qP, qK, qD, qN⟩ := q; exact ⟨q0, q1, qP, va_K.moved (u := U) (U := U.calling g mk a) (Vm.Alike.refl U.vm) qK, qD, qN.same rfl⟩, va_recv hK hP (ci := 10) (q0 := (3 + (13 * a0x + 0))) rfl (px_cg0 rfl hp2), fun U hU hW => ⟨rfl, by rw [hU], by rw [hU]; exact hPc, va_K.moved hW.alike hKc, hDc.weaken (fun _ _ _ _ => trivial), hN.warm hW⟩⟩ rfl rfl hl.1 rfl (lv_room (Nat.le_of_ble_eq_true rfl)) px_d289_2 ⟨hm2_39, hs2_39⟩) hS (fun q _ h => hFc q h) hFc (fun r2 u t H1 locs ht hvm hw hB hz1 hk1 hS => ?_)
  obtain ⟨v33, v34, v35, v36, v37, v38⟩ := u
  obtain ⟨hP1, hK1, hD1⟩ := hB
  rw [ht] at hP1
  obtain ⟨hP, hD⟩ := va_joinP (wr := []) (rx := [(ho, .inr (1, [.ref v33, .ref q_t, .int v35])), (v33, .inl (cc.2.1, v34, .inl v36)), (q_t, .inl (cc.2.1, 182, .inl v37))]) hP hD [0, 1, 2] [] rfl rfl (by decide) (by decide) hk1 hFc hP1 hD1
  generalize H1 = H at hP hS ⊢
  have hP : va_P (dC, dI) vwCl (([(ho, .inr (1, [.ref v33, .ref q_t, .int v35])), (v33, .inl (cc.2.1, v34, .inl v36)), (q_t, .inl (cc.2.1, 182, .inl v37))] : va_W) ++ px_cp cc ho cm np ns hm pa sa v38 pp ss) H := hP
  have hD : va_D A (([(ho, .inr (1, [.ref v33, .ref q_t, .int v35])), (v33, .inl (cc.2.1, v34, .inl v36)), (q_t, .inl (cc.2.1, 182, .inl v37))] : va_W) ++ px_cp cc ho cm np ns hm pa sa v38 pp ss) := hD
  have hPc := hP.sub (ws' := []) [] rfl
  have hDc := hD.sub (ws' := []) [] (by decide) rfl
  have hFc := va_free (wc := []) hD hS hA [] rfl
  have hKc := hK.sub (tys' := []) [] rfl
  refine va_calli (va_runS (As := [.int r2]) (rest := []) ⟨hx, hb, hml, hown, htw⟩ (w250_met l dC dI H.size r2 _ hw) (va_cwS 1 htw (px_gs2 px_w1266 px_w1290 px_w1764 px_g250) rfl rfl rfl (by decide +kernel) ⟨Nat.le_of_ble_eq_true rfl, Nat.le_of_ble_eq_true rfl⟩) ⟨fun a U g mk q => by obtain ⟨q0, q1, qP, qK, qD, qN⟩ := q; exact ⟨q0, q1, qP, va_K.moved (u := U) (U := U.calling g mk a) (Vm.Alike.refl U.vm) qK, qD, qN.same rfl⟩, fun U hU hW => ⟨rfl, by rw [hU], by rw [hU]; exact hPc, va_K.moved hW.alike hKc, hDc.weaken (fun _ _ _ _ => trivial), hN.warm hW⟩⟩ rfl rfl hl.1 rfl (lv_room (Nat.le_of_ble_eq_true rfl)) px_d289_5 ⟨hm2_39, hs2_39⟩) hS (fun q _ h => hFc q h) hFc (fun r5 u t H1 locs ht hvm hw hB hz1 hk1 hS => ?_)
  obtain ⟨hP1, hK1, hD1⟩ := hB
  rw [ht] at hP1
  obtain ⟨hP, hD⟩ := va_joinQ (wr := [(ho, .inr (1, [.ref v33, .ref q_t, .int v35])), (v33, .inl (cc.2.1, v34, .inl v36)), (q_t, .inl (cc.2.1, 182, .inl v37))]) (w1 := []) hP hD [] [0, 1, 2] rfl rfl (by decide) (by decide) hk1 hFc hP1 hD1
  generalize H1 = H at hP hS ⊢
  have hP : va_P (dC, dI) vwCl (([(ho, .inr (1, [.ref v33, .ref q_t, .int v35])), (v33, .inl (cc.2.1, v34, .inl v36)), (q_t, .inl (cc.2.1, 182, .inl v37))] : va_W) ++ px_cp cc ho cm np ns hm pa sa v38 pp ss) H := hP
  have hD : va_D A (([(ho, .inr (1, [.ref v33, .ref q_t, .int v35])), (v33, .inl (cc.2.1, v34, .inl v36)), (q_t, .inl (cc.2.1, 182, .inl v37))] : va_W) ++ px_cp cc ho cm np ns hm pa sa v38 pp ss) := hD
  refine lv_istore_n (lv' := [(2, .int r5), (0, .ref (hm a0x)), (1, .ref (hm a1x))]) hx hb px_d289_8 rfl hl (by decide) rfl (fun ls hl => ?_)
  refine lv_aload_n hx hb px_d289_9 rfl (lv_at hl 1 rfl) ?_
  obtain ⟨hp10, hw⟩ := hw
  have hPc := hP.part (cx := [(ho, .inr (1, [.ref v33, .ref q_t, .int v35])), (v33, .inl (cc.2.1, v34, .inl v36)), (q_t, .inl (cc.2.1, 182, .inl v37))]) [0, 1, 2] rfl
  have hDc := hD.part (cx := [(ho, .inr (1, [.ref v33, .ref q_t, .int v35])), (v33, .inl (cc.2.1, v34, .inl v36)), (q_t, .inl (cc.2.1, 182, .inl v37))]) [0, 1, 2] (by decide) rfl
  have hFc := va_freeP (cx := [(ho, .inr (1, [.ref v33, .ref q_t, .int v35])), (v33, .inl (cc.2.1, v34, .inl v36)), (q_t, .inl (cc.2.1, 182, .inl v37))]) hD hS hA [0, 1, 2] rfl
  have hKc := hK.sub (tys' := [(cc.2.1, .int), (cc.2.2.2.1, .byte), (cc.2.2.2.2, .long), (cc.1, .object "MatroidDesk$Part"), (cc.2.2.1, (.array .int))]) [0, 1, 2, 3, 4] rfl
  refine va_calli (va_runV (As := []) (rest := []) ⟨hx, hb, hml, hown, htw⟩ (w249_met l dC dI H.size ho q_t a0x cc cm np ns hm pa sa pp ss v33 v34 v35 v36 v37 v38 _ hw) (cwV 0 htw (px_gv px_w1265 px_w1287 px_w1288 px_w154 px_g249) rfl rfl rfl (by decide +kernel) ⟨Nat.le_of_ble_eq_true rfl, Nat.le_of_ble_eq_true rfl⟩) ⟨fun a U g mk q => by obtain ⟨q0, q1, qP, qK, qD, qN⟩ := q; exact ⟨q0, q1, qP, va_K.moved (u := U) (U := U.calling g mk a) (Vm.Alike.refl U.vm) qK, qD, qN.same rfl⟩, va_recv hK hP (ci := 10) (q0 := (3 + (13 * a0x + 0))) rfl (px_cg0 rfl hp10), fun U hU hW => ⟨rfl, by rw [hU], by rw [hU]; exact hPc, va_K.moved hW.alike hKc, hDc.weaken (fun _ _ _ _ => trivial), hN.warm hW⟩⟩ rfl rfl hl.1 rfl (lv_room (Nat.le_of_ble_eq_true rfl)) px_d289_10 ⟨hm2_39, hs2_39⟩) hS (fun q _ h => hFc q h) hFc (fun r10 u t H1 locs ht hvm hw hB hz1 hk1 hS => ?_)
  obtain ⟨v42, v43, v44, v45, v46, v47⟩ := u
  obtain ⟨hP1, hK1, hD1⟩ := hB
  rw [ht] at hP1
  obtain ⟨hP, hD⟩ := va_joinP (wr := []) (rx := [(ho, .inr (1, [.ref v42, .ref q_t, .int v44])), (v42, .inl (cc.2.1, v43, .inl v45)), (q_t, .inl (cc.2.1, 182, .inl v46))]) hP hD [0, 1, 2] [] rfl rfl (by decide) (by decide) hk1 hFc hP1 hD1
  generalize H1 = H at hP hS ⊢
  have hP : va_P (dC, dI) vwCl (([(ho, .inr (1, [.ref v42, .ref q_t, .int v44])), (v42, .inl (cc.2.1, v43, .inl v45)), (q_t, .inl (cc.2.1, 182, .inl v46))] : va_W) ++ px_cp cc ho cm np ns hm pa sa v47 pp ss) H := hP
  have hD : va_D A (([(ho, .inr (1, [.ref v42, .ref q_t, .int v44])), (v42, .inl (cc.2.1, v43, .inl v45)), (q_t, .inl (cc.2.1, 182, .inl v46))] : va_W) ++ px_cp cc ho cm np ns hm pa sa v47 pp ss) := hD
  refine lv_istore_n (lv' := [(3, .int r10), (2, .int r5), (0, .ref (hm a0x)), (1, .ref (hm a1x))]) hx hb px_d289_13 rfl hl (by decide) rfl (fun ls hl => ?_)
  refine lv_iconst (v := 0) hx hb px_d289_14 (by decide) ?_
  refine lv_istore (lv' := [(4, .int 0), (3, .int r10), (2, .int r5), (0, .ref (hm a0x)), (1, .ref (hm a1x))]) hx hb px_d289_15 hl (by decide) rfl (fun ls hl => ?_)
  obtain ⟨k9, hw⟩ := hw
  exact S17 k9 r5 r10 0 v42 v43 v44 v45 v46 v47 (0 + m2_39) (0 + s2_39) H locs ls hm2_39 hs2_39 hP hD hS (lv_sub hl [3, 4, 2, 1, 0] rfl) hw

