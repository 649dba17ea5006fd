/-! MatroidDesk$Matroid.commonSet(LMatroidDesk$Matroid;)I -/
def w288_L89 (K12 : Int32 → Nat → Nat → Int32 → (Nat → Int32) → (Nat → Int32) → (Nat → px_MR) → Nat → Nat → Prop) (K45 : Int32 → Int32 → Int32 → Nat → Nat → Int32 → (Nat → Int32) → (Nat → Int32) → (Nat → px_MR) → Nat → Nat → Prop) (a0x : Nat) (cm : Nat) (np : Nat) (ns : Nat) (pa : Nat → Nat) (sa : Nat → Nat) (pp : Nat → px_PR) (ss : Nat → px_SR) (a1x : Nat) (mc : Nat) (ms : Nat) (post : Int32 → Nat → Nat → Int32 → (Nat → Int32) → (Nat → Int32) → (Nat → px_MR) → Prop) (x2 : Int32) (x3 : Int32) (x4 : Int32) (x5 : Int32) (q_o : Nat) (l_o : Nat) (o_reached : Int32) (g_o : Nat → Int32) (g_t : Nat → Int32) (mm : Nat → px_MR) (kc : Nat) (ks : Nat) : Prop := ∀ z1 : Int32, z1 = x4 + 1 → K45 x2 x3 z1 q_o l_o o_reached g_o g_t mm kc ks
def w288_L45 (K12 : Int32 → Nat → Nat → Int32 → (Nat → Int32) → (Nat → Int32) → (Nat → px_MR) → Nat → Nat → Prop) (a0x : Nat) (cm : Nat) (np : Nat) (ns : Nat) (pa : Nat → Nat) (sa : Nat → Nat) (pp : Nat → px_PR) (ss : Nat → px_SR) (a1x : Nat) (mc : Nat) (ms : Nat) (post : Int32 → Nat → Nat → Int32 → (Nat → Int32) → (Nat → Int32) → (Nat → px_MR) → Prop) : Nat → Int32 → Int32 → Int32 → Nat → Nat → Int32 → (Nat → Int32) → (Nat → Int32) → (Nat → px_MR) → Nat → Nat → Prop
  | 0 => fun _ _ _ _ _ _ _ _ _ _ _ => False
  | k + 1 => fun x2 x3 x4 q_o l_o o_reached g_o g_t mm kc ks => (x3 ≤ x4 → ∀ z2 : Int32, z2 = x2 + (-1) → K12 z2 q_o l_o o_reached g_o g_t mm kc ks) ∧ (¬ x3 ≤ x4 → a0x < cm ∧ (a0x < cm ∧ ((w240_wp (fun r61 v3 v4 v5 v6 v7 => ∃ m69_15 s69_15 : Nat, kc + m69_15 ≤ mc ∧ ks + s69_15 ≤ ms ∧ a0x < cm ∧ (w262_wp a0x cm np ns pa sa pp ss m69_15 s69_15 (fun r69 v9 v10 v11 v12 v13 v14 => (¬ r69 = x2 → w288_L89 K12 (w288_L45 K12 a0x cm np ns pa sa pp ss a1x mc ms post k) a0x cm np ns pa sa pp ss a1x mc ms post x2 x3 x4 r61 v9 v10 v11 v12 v13 v14 (kc + m69_15) (ks + s69_15)) ∧ (r69 = x2 → ∃ m79_23 s79_23 : Nat, kc + m69_15 + m79_23 ≤ mc ∧ ks + s69_15 + s79_23 ≤ ms ∧ a1x < cm ∧ (w262_wp a1x cm np ns pa sa pp ss m79_23 s79_23 (fun r79 v17 v18 v19 v20 v21 v22 => (¬ r79 = x2 → w288_L89 K12 (w288_L45 K12 a0x cm np ns pa sa pp ss a1x mc ms post k) a0x cm np ns pa sa pp ss a1x mc ms post x2 x3 x4 r61 v17 v18 v19 v20 v21 v22 (kc + m69_15 + m79_23) (ks + s69_15 + s79_23)) ∧ (r79 = x2 → post r61 v17 v18 v19 v20 v21 v22)) r61 v9 v10 v11 v12 v13 v14))) r61 v3 v4 v5 v6 v7 mm)) ((mm a0x).2.1 13) x4 q_o l_o o_reached g_o g_t))))
def w288_L12 (a0x : Nat) (cm : Nat) (np : Nat) (ns : Nat) (pa : Nat → Nat) (sa : Nat → Nat) (pp : Nat → px_PR) (ss : Nat → px_SR) (a1x : Nat) (mc : Nat) (ms : Nat) (post : Int32 → Nat → Nat → Int32 → (Nat → Int32) → (Nat → Int32) → (Nat → px_MR) → Prop) : Nat → Int32 → Nat → Nat → Int32 → (Nat → Int32) → (Nat → Int32) → (Nat → px_MR) → Nat → Nat → Prop
  | 0 => fun _ _ _ _ _ _ _ _ _ => False
  | k + 1 => fun x2 q_o l_o o_reached g_o g_t mm kc ks => (x2 ≤ 0 → post 0 q_o l_o o_reached g_o g_t mm) ∧ (¬ x2 ≤ 0 → a0x < cm ∧ (a0x < cm ∧ ((w239_wp (fun r27 v25 v26 v27 v28 v29 => a0x < cm ∧ (a0x < cm ∧ ((w239_wp (fun r40 v31 v32 v33 v34 v35 => ∃ j45, w288_L45 (w288_L12 a0x cm np ns pa sa pp ss a1x mc ms post k) a0x cm np ns pa sa pp ss a1x mc ms post j45 x2 r27 r40 v31 v32 v33 v34 v35 mm kc ks) ((mm a0x).2.1 13) x2 v25 v26 v27 v28 v29)))) ((mm a0x).2.1 13) (x2 + 1) q_o l_o o_reached g_o g_t))))
def w288_wp (a0x : Nat) (cm : Nat) (np : Nat) (ns : Nat) (pa : Nat → Nat) (sa : Nat → Nat) (pp : Nat → px_PR) (ss : Nat → px_SR) (a1x : Nat) (mc : Nat) (ms : Nat) (post : Int32 → Nat → Nat → Int32 → (Nat → Int32) → (Nat → Int32) → (Nat → px_MR) → Prop) (q_o : Nat) (l_o : Nat) (o_reached : Int32) (g_o : Nat → Int32) (g_t : Nat → Int32) (mm : Nat → px_MR) : Prop := a0x < cm ∧ (a1x < cm ∧ ((w183_wp (fun r8  => ∃ j12, w288_L12 a0x cm np ns pa sa pp ss a1x mc ms post j12 r8 q_o l_o o_reached g_o g_t mm 0 0) ((mm a0x).2.1 14) ((mm a1x).2.1 14))))
set_option maxHeartbeats 8000000 in
set_option maxRecDepth 100000 in
theorem w288_met (l : Launch) (dC : Nat → ClassId) (dI : Nat → Nat → Nat) (sz : Nat) (ho : Nat) (q_t : Nat) (a0x : Nat) (cc : px_CC) (cm : Nat) (np : Nat) (ns : Nat) (hm : Nat → Nat) (pa : Nat → Nat) (sa : Nat → Nat) (pp : Nat → px_PR) (ss : Nat → px_SR) (a1x : Nat) (mc : Nat) (ms : Nat) (q_o : Nat) (l_o : Nat) (o_reached : Int32) (g_o : Nat → Int32) (g_t : Nat → Int32) (mm : Nat → px_MR) (post : Int32 → Nat → Nat → Int32 → (Nat → Int32) → (Nat → Int32) → (Nat → px_MR) → Prop) (hw : w288_wp a0x cm np ns pa sa pp ss a1x mc ms post q_o l_o o_reached g_o g_t mm) : Met l px_y288 px_s288 ({ frames := 3, cells := mc, slots := ms, locals := 65 }) (va_Pc [.ref (hm a0x), .ref (hm a1x)] (fun U => U.heap.size = sz ∧ va_P (dC, dI) vwCl ([(ho, .inr (1, [.ref q_o, .ref q_t, .int o_reached])), (q_o, .inl (cc.2.1, l_o, .inl g_o)), (q_t, .inl (cc.2.1, 182, .inl g_t))] ++ px_cp cc ho cm np ns hm pa sa mm pp ss) U.heap ∧ va_K (dC, dI) vwCl [(cc.2.1, .int), (cc.2.2.2.1, .byte), (cc.2.2.2.2, .long), (cc.1, .object "MatroidDesk$Part"), (cc.2.2.1, (.array .int))] U ∧ va_D (fun _ => True) ([(ho, .inr (1, [.ref q_o, .ref q_t, .int o_reached])), (q_o, .inl (cc.2.1, l_o, .inl g_o)), (q_t, .inl (cc.2.1, 182, .inl g_t))] ++ px_cp cc ho cm np ns hm pa sa mm pp ss) ∧ px_N U)) (va_Qi (fun (r : Int32) (u : Nat × Nat × Int32 × (Nat → Int32) × (Nat → Int32) × (Nat → px_MR)) => post r u.1 u.2.1 u.2.2.1 u.2.2.2.1 u.2.2.2.2.1 u.2.2.2.2.2) (fun (u : Nat × Nat × Int32 × (Nat → Int32) × (Nat → Int32) × (Nat → px_MR)) (t : State) => va_P (dC, dI) vwCl ([(ho, .inr (1, [.ref u.1, .ref q_t, .int u.2.2.1])), (u.1, .inl (cc.2.1, u.2.1, .inl u.2.2.2.1)), (q_t, .inl (cc.2.1, 182, .inl u.2.2.2.2.1))] ++ px_cp cc ho cm np ns hm pa sa u.2.2.2.2.2 pp ss) t.heap ∧ va_K (dC, dI) vwCl [(cc.2.1, .int), (cc.2.2.2.1, .byte), (cc.2.2.2.2, .long), (cc.1, .object "MatroidDesk$Part"), (cc.2.2.1, (.array .int))] t ∧ va_D (va_A ([(ho, .inr (1, [.ref q_o, .ref q_t, .int o_reached])), (q_o, .inl (cc.2.1, l_o, .inl g_o)), (q_t, .inl (cc.2.1, 182, .inl g_t))] ++ px_cp cc ho cm np ns hm pa sa mm pp ss) sz) ([(ho, .inr (1, [.ref u.1, .ref q_t, .int u.2.2.1])), (u.1, .inl (cc.2.1, u.2.1, .inl u.2.2.2.1)), (q_t, .inl (cc.2.1, 182, .inl u.2.2.2.2.1))] ++ px_cp cc ho cm np ns hm pa sa u.2.2.2.2.2 pp ss)) (va_A ([(ho, .inr (1, [.ref q_o, .ref q_t, .int o_reached])), (q_o, .inl (cc.2.1, l_o, .inl g_o)), (q_t, .inl (cc.2.1, 182, .inl g_t))] ++ px_cp cc ho cm np ns hm pa sa mm pp ss) sz)) mc ms (va_A ([(ho, .inr (1, [.ref q_o, .ref q_t, .int o_reached])), (q_o, .inl (cc.2.1, l_o, .inl g_o)), (q_t, .inl (cc.2.1, 182, .inl g_t))] ++ px_cp cc ho cm np ns hm pa sa mm pp ss) sz) := by
  refine Met.ofW (cc := prog_3_method_15_code) (maxL := 6) (ret := (some .int)) (by decide) rfl ?_
  intro p e s m args below meth c s₁ B hml hv
  obtain ⟨rfl, hsz, hP, hK, hD0, hN⟩ := hv
  have hx := B.exec
  have hb := B.bytes
  have hr := B.returns
  have htw : ∀ w ∈ px_all, w.before _ s = true := fun w h => atoms_spec (ws := px_s288) B.pre w (List.mem_cons_of_mem _ h)
  have hown : s.vm.findClass "MatroidDesk$Matroid" = some m.cls := findClass_of_methodNamed B.named
  have hlocks := B.notSynchronized
  subst hsz
  have hD := hD0.self (sz := s.heap.size)
  generalize hAe : va_A ([(ho, .inr (1, [.ref q_o, .ref q_t, .int o_reached])), (q_o, .inl (cc.2.1, l_o, .inl g_o)), (q_t, .inl (cc.2.1, 182, .inl g_t))] ++ px_cp cc ho cm np ns hm pa sa mm pp ss) s.heap.size = A at hD ⊢
  have hA : ∀ q : Nat, s.heap.size ≤ q → A q := fun q h => by rw [← hAe]; exact Or.inr h
  have hS : va_S A s.heap s.heap [] := va_S.rf
  have hP : va_P (dC, dI) vwCl ([(ho, .inr (1, [.ref q_o, .ref q_t, .int o_reached])), (q_o, .inl (cc.2.1, l_o, .inl g_o)), (q_t, .inl (cc.2.1, 182, .inl g_t))] ++ px_cp cc ho cm np ns hm pa sa mm pp ss) s.heap := hP
  have hl := lv_entry ([.ref (hm a0x), .ref (hm a1x)]) (n := 6) (Nat.le_of_ble_eq_true rfl)
  rw [lg_entry_eq]
  generalize (lg_sl ([.ref (hm a0x), .ref (hm a1x)]) ++ List.replicate (6 - (lg_sl ([.ref (hm a0x), .ref (hm a1x)])).length) Slot.unset).toArray = ls at hl ⊢
  have hl : lv_has ls 6 [(0, .ref (hm a0x)), (1, .ref (hm a1x))] := hl
  generalize hQ : MQ _ _ _ _ _ _ _ = Q
  have S12 : ∀ (k12 : Nat) (x2 : Int32) (q_o : Nat) (l_o : Nat) (o_reached : Int32) (g_o : Nat → Int32) (g_t : Nat → Int32) (mm : Nat → px_MR) (kc : Nat) (ks : Nat) (H : Heap) (locs : List Loc) (ls : Array Slot), kc ≤ mc → ks ≤ ms → va_P (dC, dI) vwCl ([(ho, .inr (1, [.ref q_o, .ref q_t, .int o_reached])), (q_o, .inl (cc.2.1, l_o, .inl g_o)), (q_t, .inl (cc.2.1, 182, .inl g_t))] ++ px_cp cc ho cm np ns hm pa sa mm pp ss) H → va_D A ([(ho, .inr (1, [.ref q_o, .ref q_t, .int o_reached])), (q_o, .inl (cc.2.1, l_o, .inl g_o)), (q_t, .inl (cc.2.1, 182, .inl g_t))] ++ px_cp cc ho cm np ns hm pa sa mm pp ss) → va_S A s.heap H locs → lv_has ls 6 [(0, .ref (hm a0x)), (1, .ref (hm a1x)), (2, .int x2)] → w288_L12 a0x cm np ns pa sa pp ss a1x mc ms post k12 x2 q_o l_o o_reached g_o g_t mm kc ks → W p l e (headSpec px_s288 ({ frames := 3, cells := mc, slots := ms, locals := 65 })).room s m ([.ref (hm a0x), .ref (hm a1x)]).toArray below meth c H locs kc ks Q (F0 m 12 ls []) := by
    intro k12
    induction k12 with
    | zero => intro x2 q_o l_o o_reached g_o g_t mm kc ks H locs ls hkc hks hP hD hS hl hw; exact False.elim hw
    | succ k12 ih12 =>
      have S45 : ∀ (k45 : Nat) (x2 : Int32) (x3 : Int32) (x4 : Int32) (q_o : Nat) (l_o : Nat) (o_reached : Int32) (g_o : Nat → Int32) (g_t : Nat → Int32) (mm : Nat → px_MR) (kc : Nat) (ks : Nat) (H : Heap) (locs : List Loc) (ls : Array Slot), kc ≤ mc → ks ≤ ms → va_P (dC, dI) vwCl ([(ho, .inr (1, [.ref q_o, .ref q_t, .int o_reached])), (q_o, .inl (cc.2.1, l_o, .inl g_o)), (q_t, .inl (cc.2.1, 182, .inl g_t))] ++ px_cp cc ho cm np ns hm pa sa mm pp ss) H → va_D A ([(ho, .inr (1, [.ref q_o, .ref q_t, .int o_reached])), (q_o, .inl (cc.2.1, l_o, .inl g_o)), (q_t, .inl (cc.2.1, 182, .inl g_t))] ++ px_cp cc ho cm np ns hm pa sa mm pp ss) → va_S A s.heap H locs → lv_has ls 6 [(0, .ref (hm a0x)), (1, .ref (hm a1x)), (2, .int x2), (3, .int x3), (4, .int x4)] → w288_L45 (w288_L12 a0x cm np ns pa sa pp ss a1x mc ms post k12) a0x cm np ns pa sa pp ss a1x mc ms post k45 x2 x3 x4 q_o l_o o_reached g_o g_t mm kc ks → W p l e (headSpec px_s288 ({ frames := 3, cells := mc, slots := ms, locals := 65 })).room s m ([.ref (hm a0x), .ref (hm a1x)]).toArray below meth c H locs kc ks Q (F0 m 45 ls []) := by
        intro k45
        induction k45 with
        | zero => intro x2 x3 x4 q_o l_o o_reached g_o g_t mm kc ks H locs ls hkc hks hP hD hS hl hw; exact False.elim hw
        | succ k45 ih45 =>
          have S89 : ∀ (x2 : Int32) (x3 : Int32) (x4 : Int32) (x5 : Int32) (q_o : Nat) (l_o : Nat) (o_reached : Int32) (g_o : Nat → Int32) (g_t : Nat → Int32) (mm : Nat → px_MR) (kc : Nat) (ks : Nat) (H : Heap) (locs : List Loc) (ls : Array Slot), kc ≤ mc → ks ≤ ms → va_P (dC, dI) vwCl ([(ho, .inr (1, [.ref q_o, .ref q_t, .int o_reached])), (q_o, .inl (cc.2.1, l_o, .inl g_o)), (q_t, .inl (cc.2.1, 182, .inl g_t))] ++ px_cp cc ho cm np ns hm pa sa mm pp ss) H → va_D A ([(ho, .inr (1, [.ref q_o, .ref q_t, .int o_reached])), (q_o, .inl (cc.2.1, l_o, .inl g_o)), (q_t, .inl (cc.2.1, 182, .inl g_t))] ++ px_cp cc ho cm np ns hm pa sa mm pp ss) → va_S A s.heap H locs → lv_has ls 6 [(0, .ref (hm a0x)), (1, .ref (hm a1x)), (2, .int x2), (3, .int x3), (4, .int x4), (5, .int x5)] → w288_L89 (w288_L12 a0x cm np ns pa sa pp ss a1x mc ms post k12) (w288_L45 (w288_L12 a0x cm np ns pa sa pp ss a1x mc ms post k12) a0x cm np ns pa sa pp ss a1x mc ms post k45) a0x cm np ns pa sa pp ss a1x mc ms post x2 x3 x4 x5 q_o l_o o_reached g_o g_t mm kc ks → W p l e (headSpec px_s288 ({ frames := 3, cells := mc, slots := ms, locals := 65 })).room s m ([.ref (hm a0x), .ref (hm a1x)]).toArray below meth c H locs kc ks Q (F0 m 89 ls []) := by
            intro x2 x3 x4 x5 q_o l_o o_reached g_o g_t mm kc ks H locs ls hkc hks hP hD hS hl hw
            unfold w288_L89 at hw
            obtain ⟨z1, ez1⟩ : ∃ y : Int32, y = x4 + 1 := ⟨_, rfl⟩
            have hw := hw z1 ez1
            refine lv_iinc (v := z1) (lv' := [(4, .int z1), (0, .ref (hm a0x)), (1, .ref (hm a1x)), (2, .int x2), (3, .int x3), (5, .int x5)]) hx hb px_d288_89 hl (k := 4) rfl (by rw [ez1]; rfl) (by decide) rfl (fun ls hl => ?_)
            refine lv_goto (tgt := 45) hx hb px_d288_92 (by decide) ?_
            exact ih45 x2 x3 z1 q_o l_o o_reached g_o g_t mm kc ks H locs ls hkc hks hP hD hS (lv_sub hl [1, 2, 3, 4, 0] rfl) hw
          intro x2 x3 x4 q_o l_o o_reached g_o g_t mm kc ks H locs ls hkc hks hP hD hS hl hw
          unfold w288_L45 at hw
          refine lv_iload hx hb px_d288_45 (lv_at hl 4 rfl) ?_
          refine lv_iload_n hx hb px_d288_47 rfl (lv_at hl 3 rfl) ?_
          refine lv_icmp_ge (tgt := 95) hx hb px_d288_48 (by decide) (fun c48 => ?_) (fun c48 => ?_)
          · have hw := hw.1 c48
            obtain ⟨z2, ez2⟩ : ∃ y : Int32, y = x2 + (-1) := ⟨_, rfl⟩
            have hw := hw z2 ez2
            refine lv_iinc (v := z2) (lv' := [(2, .int z2), (0, .ref (hm a0x)), (1, .ref (hm a1x)), (3, .int x3), (4, .int x4)]) hx hb px_d288_95 hl (k := 2) rfl (by rw [ez2]; rfl) (by decide) rfl (fun ls hl => ?_)
            refine lv_goto (tgt := 12) hx hb px_d288_98 (by decide) ?_
            exact ih12 z2 q_o l_o o_reached g_o g_t mm kc ks H locs ls hkc hks hP hD hS (lv_sub hl [1, 2, 0] rfl) hw
          · have hw := hw.2 c48
            refine lv_aload_n hx hb px_d288_51 rfl (lv_at hl 0 rfl) ?_
            obtain ⟨hp52, hw⟩ := hw
            refine va_get (D := (dC, dI)) (ci := 10) (v := .ref ho) (C := "MatroidDesk$Matroid") (T := px_T10) (N := 15) hx hb htw px_in10 hown hK hP (3 + (13 * a0x + 0)) (px_cg0 rfl hp52) rfl 0 (by decide) (htw _ px_w998) (fun _ h9 => h9) rfl px_d288_52 ?_
            refine lv_aload_n hx hb px_d288_55 rfl (lv_at hl 0 rfl) ?_
            obtain ⟨hp56, hw⟩ := hw
            refine va_get (D := (dC, dI)) (ci := 10) (v := .int ((mm a0x).2.1 13)) (C := "MatroidDesk$Matroid") (T := px_T10) (N := 15) hx hb htw px_in10 hown hK hP (3 + (13 * a0x + 0)) (px_cg0 rfl hp56) rfl 13 (by decide) (htw _ px_w1264) (fun _ h9 => h9) rfl px_d288_56 ?_
            refine lv_iload hx hb px_d288_59 (lv_at hl 4 rfl) ?_
            have hPc := hP.sub (ws' := [(ho, .inr (1, [.ref q_o, .ref q_t, .int o_reached])), (q_o, .inl (cc.2.1, l_o, .inl g_o)), (q_t, .inl (cc.2.1, 182, .inl g_t))]) [0, 1, 2] rfl
            have hDc := hD.sub (ws' := [(ho, .inr (1, [.ref q_o, .ref q_t, .int o_reached])), (q_o, .inl (cc.2.1, l_o, .inl g_o)), (q_t, .inl (cc.2.1, 182, .inl g_t))]) [0, 1, 2] (by decide) rfl
            have hFc := va_free (wc := [(ho, .inr (1, [.ref q_o, .ref q_t, .int o_reached])), (q_o, .inl (cc.2.1, l_o, .inl g_o)), (q_t, .inl (cc.2.1, 182, .inl g_t))]) hD hS hA [0, 1, 2] rfl
            have hKc := hK.sub (tys' := [(cc.2.1, .int)]) [0] rfl
            refine va_calli (va_runV (As := [.int ((mm a0x).2.1 13), .int x4]) (rest := []) ⟨hx, hb, hml, hown, htw⟩ (w240_met l dC dI H.size ho q_t cc.2.1 ((mm a0x).2.1 13) x4 q_o l_o o_reached g_o g_t _ hw) (cwV 2 htw (px_gv px_w1295 px_w1240 px_w1241 px_w22 px_g240) rfl rfl rfl (by decide +kernel) ⟨Nat.le_of_ble_eq_true rfl, Nat.le_of_ble_eq_true rfl⟩) ⟨fun a U g mk q => by obtain ⟨q0, q1, qP, qK, qD, qN⟩ := q; exact ⟨q0, q1, qP, va_K.moved (u := U) (U := U.calling g mk a) (Vm.Alike.refl U.vm) qK, qD, qN.same rfl⟩, va_recv hK hP (ci := 1) (q0 := 0) rfl rfl, fun U hU hW => ⟨rfl, by rw [hU], by rw [hU]; exact hPc, va_K.moved hW.alike hKc, hDc.weaken (fun _ _ _ _ => trivial), hN.warm hW⟩⟩ rfl rfl hl.1 rfl (lv_room (Nat.le_of_ble_eq_true rfl)) px_d288_61 ⟨hkc, hks⟩) hS (fun q _ h => hFc q h) hFc (fun r61 u t H1 locs ht hvm hw hB hz1 hk1 hS => ?_)
            obtain ⟨v3, v4, v5, v6, v7⟩ := u
            obtain ⟨hP1, hK1, hD1⟩ := hB
            rw [ht] at hP1
            obtain ⟨hP, hD⟩ := va_joinQ (wr := []) (w1 := [(ho, .inr (1, [.ref v3, .ref q_t, .int v5])), (v3, .inl (cc.2.1, v4, .inl v6)), (q_t, .inl (cc.2.1, 182, .inl v7))]) hP hD [0, 1, 2] [] rfl rfl (by decide) (by decide) hk1 hFc hP1 hD1
            generalize H1 = H at hP hS ⊢
            have hP : va_P (dC, dI) vwCl ([(ho, .inr (1, [.ref v3, .ref q_t, .int v5])), (v3, .inl (cc.2.1, v4, .inl v6)), (q_t, .inl (cc.2.1, 182, .inl v7))] ++ px_cp cc ho cm np ns hm pa sa mm pp ss) H := hP
            have hD : va_D A ([(ho, .inr (1, [.ref v3, .ref q_t, .int v5])), (v3, .inl (cc.2.1, v4, .inl v6)), (q_t, .inl (cc.2.1, 182, .inl v7))] ++ px_cp cc ho cm np ns hm pa sa mm pp ss) := hD
            refine lv_istore (lv' := [(5, .int r61), (0, .ref (hm a0x)), (1, .ref (hm a1x)), (2, .int x2), (3, .int x3), (4, .int x4)]) hx hb px_d288_64 hl (by decide) rfl (fun ls hl => ?_)
            refine lv_aload_n hx hb px_d288_66 rfl (lv_at hl 1 rfl) ?_
            refine lv_iload hx hb px_d288_67 (lv_at hl 0 rfl) ?_
            obtain ⟨m69_15, s69_15, hm69_15, hs69_15, hw⟩ := hw
            obtain ⟨hp69, hw⟩ := hw
            have hPc := hP.part (cx := [(ho, .inr (1, [.ref v3, .ref q_t, .int v5])), (v3, .inl (cc.2.1, v4, .inl v6)), (q_t, .inl (cc.2.1, 182, .inl v7))]) [0, 1, 2] rfl
            have hDc := hD.part (cx := [(ho, .inr (1, [.ref v3, .ref q_t, .int v5])), (v3, .inl (cc.2.1, v4, .inl v6)), (q_t, .inl (cc.2.1, 182, .inl v7))]) [0, 1, 2] (by decide) rfl
            have hFc := va_freeP (cx := [(ho, .inr (1, [.ref v3, .ref q_t, .int v5])), (v3, .inl (cc.2.1, v4, .inl v6)), (q_t, .inl (cc.2.1, 182, .inl v7))]) hD hS hA [0, 1, 2] rfl
            have hKc := hK.sub (tys' := [(cc.2.1, .int), (cc.2.2.2.1, .byte), (cc.2.2.2.2, .long), (cc.1, .object "MatroidDesk$Part"), (cc.2.2.1, (.array .int))]) [0, 1, 2, 3, 4] rfl
            refine va_calli (va_runV (As := [.int r61]) (rest := []) ⟨hx, hb, hml, hown, htw⟩ (w262_met l dC dI H.size ho q_t a0x cc cm np ns hm pa sa pp ss m69_15 s69_15 r61 v3 v4 v5 v6 v7 mm _ hw) (cwV 1 htw (px_gv px_w1335 px_w1337 px_w1338 px_w154 px_g262) rfl rfl rfl (by decide +kernel) ⟨Nat.le_of_ble_eq_true rfl, Nat.le_of_ble_eq_true rfl⟩) ⟨fun a U g mk q => by obtain ⟨q0, q1, qP, qK, qD, qN⟩ := q; exact ⟨q0, q1, qP, va_K.moved (u := U) (U := U.calling g mk a) (Vm.Alike.refl U.vm) qK, qD, qN.same rfl⟩, va_recv hK hP (ci := 10) (q0 := (3 + (13 * a0x + 0))) rfl (px_cg0 rfl hp69), fun U hU hW => ⟨rfl, by rw [hU], by rw [hU]; exact hPc, va_K.moved hW.alike hKc, hDc.weaken (fun _ _ _ _ => trivial), hN.warm hW⟩⟩ rfl rfl hl.1 rfl (lv_room (Nat.le_of_ble_eq_true rfl)) px_d288_69 ⟨hm69_15, hs69_15⟩) hS (fun q _ h => hFc q h) hFc (fun r69 u t H1 locs ht hvm hw hB hz1 hk1 hS => ?_)
            obtain ⟨v9, v10, v11, v12, v13, v14⟩ := u
            obtain ⟨hP1, hK1, hD1⟩ := hB
            rw [ht] at hP1
            obtain ⟨hP, hD⟩ := va_joinP (wr := []) (rx := [(ho, .inr (1, [.ref v9, .ref q_t, .int v11])), (v9, .inl (cc.2.1, v10, .inl v12)), (q_t, .inl (cc.2.1, 182, .inl v13))]) hP hD [0, 1, 2] [] rfl rfl (by decide) (by decide) hk1 hFc hP1 hD1
            generalize H1 = H at hP hS ⊢
            have hP : va_P (dC, dI) vwCl ([(ho, .inr (1, [.ref v9, .ref q_t, .int v11])), (v9, .inl (cc.2.1, v10, .inl v12)), (q_t, .inl (cc.2.1, 182, .inl v13))] ++ px_cp cc ho cm np ns hm pa sa v14 pp ss) H := hP
            have hD : va_D A ([(ho, .inr (1, [.ref v9, .ref q_t, .int v11])), (v9, .inl (cc.2.1, v10, .inl v12)), (q_t, .inl (cc.2.1, 182, .inl v13))] ++ px_cp cc ho cm np ns hm pa sa v14 pp ss) := hD
            refine lv_iload_n hx hb px_d288_72 rfl (lv_at hl 3 rfl) ?_
            refine lv_icmp_ne (tgt := 89) hx hb px_d288_73 (by decide) (fun c73 => ?_) (fun c73 => ?_)
            · have hw := hw.1 c73
              exact S89 x2 x3 x4 r61 v9 v10 v11 v12 v13 v14 (kc + m69_15) (ks + s69_15) H locs ls hm69_15 hs69_15 hP hD hS (lv_sub hl [1, 2, 3, 4, 5, 0] rfl) hw
            · have hw := hw.2 c73
              refine lv_aload_n hx hb px_d288_76 rfl (lv_at hl 2 rfl) ?_
              refine lv_iload hx hb px_d288_77 (lv_at hl 0 rfl) ?_
              obtain ⟨m79_23, s79_23, hm79_23, hs79_23, hw⟩ := hw
              obtain ⟨hp79, hw⟩ := hw
              have hPc := hP.part (cx := [(ho, .inr (1, [.ref v9, .ref q_t, .int v11])), (v9, .inl (cc.2.1, v10, .inl v12)), (q_t, .inl (cc.2.1, 182, .inl v13))]) [0, 1, 2] rfl
              have hDc := hD.part (cx := [(ho, .inr (1, [.ref v9, .ref q_t, .int v11])), (v9, .inl (cc.2.1, v10, .inl v12)), (q_t, .inl (cc.2.1, 182, .inl v13))]) [0, 1, 2] (by decide) rfl
              have hFc := va_freeP (cx := [(ho, .inr (1, [.ref v9, .ref q_t, .int v11])), (v9, .inl (cc.2.1, v10, .inl v12)), (q_t, .inl (cc.2.1, 182, .inl v13))]) hD hS hA [0, 1, 2] rfl
              have hKc := hK.sub (tys' := [(cc.2.1, .int), (cc.2.2.2.1, .byte), (cc.2.2.2.2, .long), (cc.1, .object "MatroidDesk$Part"), (cc.2.2.1, (.array .int))]) [0, 1, 2, 3, 4] rfl
              refine va_calli (va_runV (As := [.int r61]) (rest := []) ⟨hx, hb, hml, hown, htw⟩ (w262_met l dC dI H.size ho q_t a1x cc cm np ns hm pa sa pp ss m79_23 s79_23 r61 v9 v10 v11 v12 v13 v14 _ hw) (cwV 1 htw (px_gv px_w1335 px_w1337 px_w1338 px_w154 px_g262) rfl rfl rfl (by decide +kernel) ⟨Nat.le_of_ble_eq_true rfl, Nat.le_of_ble_eq_true rfl⟩) ⟨fun a U g mk q => by obtain ⟨q0, q1, qP, qK, qD, qN⟩ := q; exact ⟨q0, q1, qP, va_K.moved (u := U) (U := U.calling g mk a) (Vm.Alike.refl U.vm) qK, qD, qN.same rfl⟩, va_recv hK hP (ci := 10) (q0 := (3 + (13 * a1x + 0))) rfl (px_cg0 rfl hp79), fun U hU hW => ⟨rfl, by rw [hU], by rw [hU]; exact hPc, va_K.moved hW.alike hKc, hDc.weaken (fun _ _ _ _ => trivial), hN.warm hW⟩⟩ rfl rfl hl.1 rfl (lv_room (Nat.le_of_ble_eq_true rfl)) px_d288_79 ⟨hm79_23, hs79_23⟩) hS (fun q _ h => hFc q h) hFc (fun r79 u t H1 locs ht hvm hw hB hz1 hk1 hS => ?_)
              obtain ⟨v17, v18, v19, v20, v21, v22⟩ := u
              obtain ⟨hP1, hK1, hD1⟩ := hB
              rw [ht] at hP1
              obtain ⟨hP, hD⟩ := va_joinP (wr := []) (rx := [(ho, .inr (1, [.ref v17, .ref q_t, .int v19])), (v17, .inl (cc.2.1, v18, .inl v20)), (q_t, .inl (cc.2.1, 182, .inl v21))]) hP hD [0, 1, 2] [] rfl rfl (by decide) (by decide) hk1 hFc hP1 hD1
              generalize H1 = H at hP hS ⊢
              have hP : va_P (dC, dI) vwCl ([(ho, .inr (1, [.ref v17, .ref q_t, .int v19])), (v17, .inl (cc.2.1, v18, .inl v20)), (q_t, .inl (cc.2.1, 182, .inl v21))] ++ px_cp cc ho cm np ns hm pa sa v22 pp ss) H := hP
              have hD : va_D A ([(ho, .inr (1, [.ref v17, .ref q_t, .int v19])), (v17, .inl (cc.2.1, v18, .inl v20)), (q_t, .inl (cc.2.1, 182, .inl v21))] ++ px_cp cc ho cm np ns hm pa sa v22 pp ss) := hD
              refine lv_iload_n hx hb px_d288_82 rfl (lv_at hl 3 rfl) ?_
              refine lv_icmp_ne (tgt := 89) hx hb px_d288_83 (by decide) (fun c83 => ?_) (fun c83 => ?_)
              · have hw := hw.1 c83
                exact S89 x2 x3 x4 r61 v17 v18 v19 v20 v21 v22 (kc + m69_15 + m79_23) (ks + s69_15 + s79_23) H locs ls hm79_23 hs79_23 hP hD hS (lv_sub hl [1, 2, 3, 4, 5, 0] rfl) hw
              · have hw := hw.2 c83
                refine lv_iload hx hb px_d288_86 (lv_at hl 0 rfl) ?_
                refine W.widen (k := mc) (n := ms) hm79_23 hs79_23 ?_
                rw [← hQ]
                exact W.iret (v := r61) hx hb hr (fun t ht hW => ⟨⟨r61, (v17, v18, v19, v20, v21, v22), rfl, hw, by rw [ht]; exact hP, va_K.moved hW.alike hK, hD⟩, hS.F ht⟩) hS.2.2 px_d288_88
      intro x2 q_o l_o o_reached g_o g_t mm kc ks H locs ls hkc hks hP hD hS hl hw
      unfold w288_L12 at hw
      refine lv_iload_n hx hb px_d288_12 rfl (lv_at hl 2 rfl) ?_
      refine lv_if_le (tgt := 101) hx hb px_d288_13 (by decide) (fun c13 => ?_) (fun c13 => ?_)
      · have hw := hw.1 c13
        refine lv_iconst (v := 0) hx hb px_d288_101 (by decide) ?_
        refine W.widen (k := mc) (n := ms) hkc hks ?_
        rw [← hQ]
        exact W.iret (v := 0) hx hb hr (fun t ht hW => ⟨⟨0, (q_o, l_o, o_reached, g_o, g_t, mm), rfl, hw, by rw [ht]; exact hP, va_K.moved hW.alike hK, hD⟩, hS.F ht⟩) hS.2.2 px_d288_102
      · have hw := hw.2 c13
        refine lv_aload_n hx hb px_d288_16 rfl (lv_at hl 0 rfl) ?_
        obtain ⟨hp17, hw⟩ := hw
        refine va_get (D := (dC, dI)) (ci := 10) (v := .ref ho) (C := "MatroidDesk$Matroid") (T := px_T10) (N := 15) hx hb htw px_in10 hown hK hP (3 + (13 * a0x + 0)) (px_cg0 rfl hp17) rfl 0 (by decide) (htw _ px_w998) (fun _ h9 => h9) rfl px_d288_17 ?_
        refine lv_aload_n hx hb px_d288_20 rfl (lv_at hl 0 rfl) ?_
        obtain ⟨hp21, hw⟩ := hw
        refine va_get (D := (dC, dI)) (ci := 10) (v := .int ((mm a0x).2.1 13)) (C := "MatroidDesk$Matroid") (T := px_T10) (N := 15) hx hb htw px_in10 hown hK hP (3 + (13 * a0x + 0)) (px_cg0 rfl hp21) rfl 13 (by decide) (htw _ px_w1264) (fun _ h9 => h9) rfl px_d288_21 ?_
        refine lv_iload_n hx hb px_d288_24 rfl (lv_at hl 2 rfl) ?_
        refine lv_iconst (v := 1) hx hb px_d288_25 (by decide) ?_
        refine lv_iadd hx hb px_d288_26 ?_
        have hPc := hP.sub (ws' := [(ho, .inr (1, [.ref q_o, .ref q_t, .int o_reached])), (q_o, .inl (cc.2.1, l_o, .inl g_o)), (q_t, .inl (cc.2.1, 182, .inl g_t))]) [0, 1, 2] rfl
        have hDc := hD.sub (ws' := [(ho, .inr (1, [.ref q_o, .ref q_t, .int o_reached])), (q_o, .inl (cc.2.1, l_o, .inl g_o)), (q_t, .inl (cc.2.1, 182, .inl g_t))]) [0, 1, 2] (by decide) rfl
        have hFc := va_free (wc := [(ho, .inr (1, [.ref q_o, .ref q_t, .int o_reached])), (q_o, .inl (cc.2.1, l_o, .inl g_o)), (q_t, .inl (cc.2.1, 182, .inl g_t))]) hD hS hA [0, 1, 2] rfl
        have hKc := hK.sub (tys' := [(cc.2.1, .int)]) [0] rfl
        refine va_calli (va_runV (As := [.int ((mm a0x).2.1 13), .int (x2 + 1)]) (rest := []) ⟨hx, hb, hml, hown, htw⟩ (w239_met l dC dI H.size ho q_t cc.2.1 ((mm a0x).2.1 13) (x2 + 1) q_o l_o o_reached g_o g_t _ hw) (cwV 2 htw (px_gv px_w1294 px_w1237 px_w1238 px_w22 px_g239) rfl rfl rfl (by decide +kernel) ⟨Nat.le_of_ble_eq_true rfl, Nat.le_of_ble_eq_true rfl⟩) ⟨fun a U g mk q => by obtain ⟨q0, q1, qP, qK, qD, qN⟩ := q; exact ⟨q0, q1, qP, va_K.moved (u := U) (U := U.calling g mk a) (Vm.Alike.refl U.vm) qK, qD, qN.same rfl⟩, va_recv hK hP (ci := 1) (q0 := 0) rfl rfl, fun U hU hW => ⟨rfl, by rw [hU], by rw [hU]; exact hPc, va_K.moved hW.alike hKc, hDc.weaken (fun _ _ _ _ => trivial), hN.warm hW⟩⟩ rfl rfl hl.1 rfl (lv_room (Nat.le_of_ble_eq_true rfl)) px_d288_27 ⟨hkc, hks⟩) hS (fun q _ h => hFc q h) hFc (fun r27 u t H1 locs ht hvm hw hB hz1 hk1 hS => ?_)
        obtain ⟨v25, v26, v27, v28, v29⟩ := u
        obtain ⟨hP1, hK1, hD1⟩ := hB
        rw [ht] at hP1
        obtain ⟨hP, hD⟩ := va_joinQ (wr := []) (w1 := [(ho, .inr (1, [.ref v25, .ref q_t, .int v27])), (v25, .inl (cc.2.1, v26, .inl v28)), (q_t, .inl (cc.2.1, 182, .inl v29))]) hP hD [0, 1, 2] [] rfl rfl (by decide) (by decide) hk1 hFc hP1 hD1
        generalize H1 = H at hP hS ⊢
        have hP : va_P (dC, dI) vwCl ([(ho, .inr (1, [.ref v25, .ref q_t, .int v27])), (v25, .inl (cc.2.1, v26, .inl v28)), (q_t, .inl (cc.2.1, 182, .inl v29))] ++ px_cp cc ho cm np ns hm pa sa mm pp ss) H := hP
        have hD : va_D A ([(ho, .inr (1, [.ref v25, .ref q_t, .int v27])), (v25, .inl (cc.2.1, v26, .inl v28)), (q_t, .inl (cc.2.1, 182, .inl v29))] ++ px_cp cc ho cm np ns hm pa sa mm pp ss) := hD
        refine lv_istore_n (lv' := [(3, .int r27), (0, .ref (hm a0x)), (1, .ref (hm a1x)), (2, .int x2)]) hx hb px_d288_30 rfl hl (by decide) rfl (fun ls hl => ?_)
        refine lv_aload_n hx hb px_d288_31 rfl (lv_at hl 1 rfl) ?_
        obtain ⟨hp32, hw⟩ := hw
        refine va_get (D := (dC, dI)) (ci := 10) (v := .ref ho) (C := "MatroidDesk$Matroid") (T := px_T10) (N := 15) hx hb htw px_in10 hown hK hP (3 + (13 * a0x + 0)) (px_cg0 rfl hp32) rfl 0 (by decide) (htw _ px_w998) (fun _ h9 => h9) rfl px_d288_32 ?_
        refine lv_aload_n hx hb px_d288_35 rfl (lv_at hl 1 rfl) ?_
        obtain ⟨hp36, hw⟩ := hw
        refine va_get (D := (dC, dI)) (ci := 10) (v := .int ((mm a0x).2.1 13)) (C := "MatroidDesk$Matroid") (T := px_T10) (N := 15) hx hb htw px_in10 hown hK hP (3 + (13 * a0x + 0)) (px_cg0 rfl hp36) rfl 13 (by decide) (htw _ px_w1264) (fun _ h9 => h9) rfl px_d288_36 ?_
        refine lv_iload_n hx hb px_d288_39 rfl (lv_at hl 3 rfl) ?_
        have hPc := hP.sub (ws' := [(ho, .inr (1, [.ref v25, .ref q_t, .int v27])), (v25, .inl (cc.2.1, v26, .inl v28)), (q_t, .inl (cc.2.1, 182, .inl v29))]) [0, 1, 2] rfl
        have hDc := hD.sub (ws' := [(ho, .inr (1, [.ref v25, .ref q_t, .int v27])), (v25, .inl (cc.2.1, v26, .inl v28)), (q_t, .inl (cc.2.1, 182, .inl v29))]) [0, 1, 2] (by decide) rfl
        have hFc := va_free (wc := [(ho, .inr (1, [.ref v25, .ref q_t, .int v27])), (v25, .inl (cc.2.1, v26, .inl v28)), (q_t, .inl (cc.2.1, 182, .inl v29))]) hD hS hA [0, 1, 2] rfl
        have hKc := hK.sub (tys' := [(cc.2.1, .int)]) [0] rfl
        refine va_calli (va_runV (As := [.int ((mm a0x).2.1 13), .int x2]) (rest := []) ⟨hx, hb, hml, hown, htw⟩ (w239_met l dC dI H.size ho q_t cc.2.1 ((mm a0x).2.1 13) x2 v25 v26 v27 v28 v29 _ hw) (cwV 2 htw (px_gv px_w1294 px_w1237 px_w1238 px_w22 px_g239) rfl rfl rfl (by decide +kernel) ⟨Nat.le_of_ble_eq_true rfl, Nat.le_of_ble_eq_true rfl⟩) ⟨fun a U g mk q => by obtain ⟨q0, q1, qP, qK, qD, qN⟩ := q; exact ⟨q0, q1, qP, va_K.moved (u := U) (U := U.calling g mk a) (Vm.Alike.refl U.vm) qK, qD, qN.same rfl⟩, va_recv hK hP (ci := 1) (q0 := 0) rfl rfl, fun U hU hW => ⟨rfl, by rw [hU], by rw [hU]; exact hPc, va_K.moved hW.alike hKc, hDc.weaken (fun _ _ _ _ => trivial), hN.warm hW⟩⟩ rfl rfl hl.1 rfl (lv_room (Nat.le_of_ble_eq_true rfl)) px_d288_40 ⟨hkc, hks⟩) hS (fun q _ h => hFc q h) hFc (fun r40 u t H1 locs ht hvm hw hB hz1 hk1 hS => ?_)
        obtain ⟨v31, v32, v33, v34, v35⟩ := u
        obtain ⟨hP1, hK1, hD1⟩ := hB
        rw [ht] at hP1
        obtain ⟨hP, hD⟩ := va_joinQ (wr := []) (w1 := [(ho, .inr (1, [.ref v31, .ref q_t, .int v33])), (v31, .inl (cc.2.1, v32, .inl v34)), (q_t, .inl (cc.2.1, 182, .inl v35))]) hP hD [0, 1, 2] [] rfl rfl (by decide) (by decide) hk1 hFc hP1 hD1
        generalize H1 = H at hP hS ⊢
        have hP : va_P (dC, dI) vwCl ([(ho, .inr (1, [.ref v31, .ref q_t, .int v33])), (v31, .inl (cc.2.1, v32, .inl v34)), (q_t, .inl (cc.2.1, 182, .inl v35))] ++ px_cp cc ho cm np ns hm pa sa mm pp ss) H := hP
        have hD : va_D A ([(ho, .inr (1, [.ref v31, .ref q_t, .int v33])), (v31, .inl (cc.2.1, v32, .inl v34)), (q_t, .inl (cc.2.1, 182, .inl v35))] ++ px_cp cc ho cm np ns hm pa sa mm pp ss) := hD
        refine lv_istore (lv' := [(4, .int r40), (3, .int r27), (0, .ref (hm a0x)), (1, .ref (hm a1x)), (2, .int x2)]) hx hb px_d288_43 hl (by decide) rfl (fun ls hl => ?_)
        obtain ⟨k9, hw⟩ := hw
        exact S45 k9 x2 r27 r40 v31 v32 v33 v34 v35 mm kc ks H locs ls hkc hks hP hD hS (lv_sub hl [2, 3, 4, 1, 0] rfl) hw
  unfold w288_wp at hw
  have hS0 := hS
  obtain ⟨H, hH9⟩ : ∃ z, z = s.heap := ⟨_, rfl⟩
  have hP : va_P (dC, dI) vwCl ([(ho, .inr (1, [.ref q_o, .ref q_t, .int o_reached])), (q_o, .inl (cc.2.1, l_o, .inl g_o)), (q_t, .inl (cc.2.1, 182, .inl g_t))] ++ px_cp cc ho cm np ns hm pa sa mm pp ss) H := by rw [hH9]; exact hP
  obtain ⟨locs, hlo9⟩ : ∃ z : List Loc, z = [] := ⟨_, rfl⟩
  have hS : va_S A s.heap H locs := by rw [hH9, hlo9]; exact hS
  suffices hG : W p l e (headSpec px_s288 ({ frames := 3, cells := mc, slots := ms, locals := 65 })).room s m ([.ref (hm a0x), .ref (hm a1x)]).toArray below meth c H locs 0 0 Q (F0 m 0 ls []) by rw [hH9, hlo9] at hG; exact hG
  refine lv_aload_n hx hb px_d288_0 rfl (lv_at hl 0 rfl) ?_
  obtain ⟨hp1, hw⟩ := hw
  refine va_get (D := (dC, dI)) (ci := 10) (v := .int ((mm a0x).2.1 14)) (C := "MatroidDesk$Matroid") (T := px_T10) (N := 15) hx hb htw px_in10 hown hK hP (3 + (13 * a0x + 0)) (px_cg0 rfl hp1) rfl 14 (by decide) (htw _ px_w1267) (fun _ h9 => h9) rfl px_d288_1 ?_
  refine lv_aload_n hx hb px_d288_4 rfl (lv_at hl 1 rfl) ?_
  obtain ⟨hp5, hw⟩ := hw
  refine va_get (D := (dC, dI)) (ci := 10) (v := .int ((mm a1x).2.1 14)) (C := "MatroidDesk$Matroid") (T := px_T10) (N := 15) hx hb htw px_in10 hown hK hP (3 + (13 * a1x + 0)) (px_cg0 rfl hp5) rfl 14 (by decide) (htw _ px_w1267) (fun _ h9 => h9) rfl px_d288_5 ?_
  have hPc := hP.sub (ws' := []) [] rfl
  have hDc := hD.sub (ws' := []) [] (by decide) rfl
  have hFc := va_free (wc := []) hD hS hA [] rfl
  have hKc := hK.sub (tys' := []) [] rfl
  refine va_calli (va_runS (As := [.int ((mm a0x).2.1 14), .int ((mm a1x).2.1 14)]) (rest := []) ⟨hx, hb, hml, hown, htw⟩ (w183_met l dC dI H.size ((mm a0x).2.1 14) ((mm a1x).2.1 14) _ hw) (va_cwS 2 htw (px_gs2 px_w1455 px_w1042 px_w1753 px_g183) rfl rfl rfl (by decide +kernel) ⟨Nat.le_of_ble_eq_true rfl, Nat.le_of_ble_eq_true rfl⟩) ⟨fun a U g mk q => by obtain ⟨q0, q1, qP, qK, qD, qN⟩ := q; exact ⟨q0, q1, qP, va_K.moved (u := U) (U := U.calling g mk a) (Vm.Alike.refl U.vm) qK, qD, qN.same rfl⟩, fun U hU hW => ⟨rfl, by rw [hU], by rw [hU]; exact hPc, va_K.moved hW.alike hKc, hDc.weaken (fun _ _ _ _ => trivial), hN.warm hW⟩⟩ rfl rfl hl.1 rfl (lv_room (Nat.le_of_ble_eq_true rfl)) px_d288_8 ⟨(Nat.zero_le mc), (Nat.zero_le ms)⟩) hS (fun q _ h => hFc q h) hFc (fun r8 u t H1 locs ht hvm hw hB hz1 hk1 hS => ?_)
  obtain ⟨hP1, hK1, hD1⟩ := hB
  rw [ht] at hP1
  obtain ⟨hP, hD⟩ := va_joinQ (wr := [(ho, .inr (1, [.ref q_o, .ref q_t, .int o_reached])), (q_o, .inl (cc.2.1, l_o, .inl g_o)), (q_t, .inl (cc.2.1, 182, .inl g_t))]) (w1 := []) hP hD [] [0, 1, 2] rfl rfl (by decide) (by decide) hk1 hFc hP1 hD1
  generalize H1 = H at hP hS ⊢
  have hP : va_P (dC, dI) vwCl ([(ho, .inr (1, [.ref q_o, .ref q_t, .int o_reached])), (q_o, .inl (cc.2.1, l_o, .inl g_o)), (q_t, .inl (cc.2.1, 182, .inl g_t))] ++ px_cp cc ho cm np ns hm pa sa mm pp ss) H := hP
  have hD : va_D A ([(ho, .inr (1, [.ref q_o, .ref q_t, .int o_reached])), (q_o, .inl (cc.2.1, l_o, .inl g_o)), (q_t, .inl (cc.2.1, 182, .inl g_t))] ++ px_cp cc ho cm np ns hm pa sa mm pp ss) := hD
  refine lv_istore_n (lv' := [(2, .int r8), (0, .ref (hm a0x)), (1, .ref (hm a1x))]) hx hb px_d288_11 rfl hl (by decide) rfl (fun ls hl => ?_)
  obtain ⟨k9, hw⟩ := hw
  exact S12 k9 r8 q_o l_o o_reached g_o g_t mm 0 0 H locs ls (Nat.zero_le mc) (Nat.zero_le ms) hP hD hS (lv_sub hl [1, 2, 0] rfl) hw

/-! MatroidDesk$Matroid.coverSet(LMatroidDesk$Matroid;)I -/
def w289_L53 (K17 : Int32 → Int32 → Int32 → Nat → Nat → Int32 → (Nat → Int32) → (Nat → Int32) → (Nat → px_MR) → Nat → Nat → Prop) (a0x : Nat) (cm : Nat) (np : Nat) (ns : Nat) (pa : Nat → Nat) (sa : Nat → Nat) (pp : Nat → px_PR) (ss : Nat → px_SR) (a1x : Nat) (mc : Nat) (ms : Nat) (post : Int32 → Nat → Nat → Int32 → (Nat → Int32) → (Nat → Int32) → (Nat → px_MR) → Prop) (x2 : Int32) (x3 : Int32) (x4 : Int32) (q_o : Nat) (l_o : Nat) (o_reached : Int32) (g_o : Nat → Int32) (g_t : Nat → Int32) (mm : Nat → px_MR) (kc : Nat) (ks : Nat) : Prop := ∀ z1 : Int32, z1 = x4 + 1 → K17 x2 x3 z1 q_o l_o o_reached g_o g_t mm kc ks
def w289_L17 (a0x : Nat) (cm : Nat) (np : Nat) (ns : Nat) (pa : Nat → Nat) (sa : Nat → Nat) (pp : Nat → px_PR) (ss : Nat → px_SR) (a1x : Nat) (mc : Nat) (ms : Nat) (post : Int32 → Nat → Nat → Int32 → (Nat → Int32) → (Nat → Int32) → (Nat → px_MR) → Prop) : Nat → Int32 → Int32 → Int32 → Nat → Nat → Int32 → (Nat → Int32) → (Nat → Int32) → (Nat → px_MR) → Nat → Nat → Prop
  | 0 => fun _ _ _ _ _ _ _ _ _ _ _ => False
  | k + 1 => fun x2 x3 x4 q_o l_o o_reached g_o g_t mm kc ks => a0x < cm ∧ (w249_wp a0x cm np ns pa sa pp ss (fun r20 v2 v3 v4 v5 v6 v7 => (r20 < x4 → post x3 v2 v3 v4 v5 v6 v7) ∧ (¬ r20 < x4 → ∃ m29_15 s29_15 : Nat, kc + m29_15 ≤ mc ∧ ks + s29_15 ≤ ms ∧ a0x < cm ∧ (w262_wp a0x cm np ns pa sa pp ss m29_15 s29_15 (fun r29 v9 v10 v11 v12 v13 v14 => a0x < cm ∧ (w249_wp a0x cm np ns pa sa pp ss (fun r34 v17 v18 v19 v20 v21 v22 => ∃ m40_30 s40_30 : Nat, kc + m29_15 + m40_30 ≤ mc ∧ ks + s29_15 + s40_30 ≤ ms ∧ a1x < cm ∧ (w262_wp a1x cm np ns pa sa pp ss m40_30 s40_30 (fun r40 v24 v25 v26 v27 v28 v29 => (¬ (r29 + r40) = x2 → w289_L53 (w289_L17 a0x cm np ns pa sa pp ss a1x mc ms post k) a0x cm np ns pa sa pp ss a1x mc ms post x2 x3 x4 v24 v25 v26 v27 v28 v29 (kc + m29_15 + m40_30) (ks + s29_15 + s40_30)) ∧ ((r29 + r40) = x2 → ∀ z32 : Int32, z32 = x3 &&& x4 → w289_L53 (w289_L17 a0x cm np ns pa sa pp ss a1x mc ms post k) a0x cm np ns pa sa pp ss a1x mc ms post x2 z32 x4 v24 v25 v26 v27 v28 v29 (kc + m29_15 + m40_30) (ks + s29_15 + s40_30))) (r34 ^^^ x4) v17 v18 v19 v20 v21 v22)) v9 v10 v11 v12 v13 v14)) x4 v2 v3 v4 v5 v6 v7))) q_o l_o o_reached g_o g_t mm)
def w289_wp (a0x : Nat) (cm : Nat) (np : Nat) (ns : Nat) (pa : Nat → Nat) (sa : Nat → Nat) (pp : Nat → px_PR) (ss : Nat → px_SR) (a1x : Nat) (mc : Nat) (ms : Nat) (post : Int32 → Nat → Nat → Int32 → (Nat → Int32) → (Nat → Int32) → (Nat → px_MR) → Prop) (q_o : Nat) (l_o : Nat) (o_reached : Int32) (g_o : Nat → Int32) (g_t : Nat → Int32) (mm : Nat → px_MR) : Prop := ∃ m2_39 s2_39 : Nat, 0 + m2_39 ≤ mc ∧ 0 + s2_39 ≤ ms ∧ a0x < cm ∧ (w288_wp a0x cm np ns pa sa pp ss a1x m2_39 s2_39 (fun r2 v33 v34 v35 v36 v37 v38 => (w250_wp (fun r5  => a0x < cm ∧ (w249_wp a0x cm np ns pa sa pp ss (fun r10 v42 v43 v44 v45 v46 v47 => ∃ j17, w289_L17 a0x cm np ns pa sa pp ss a1x mc ms post j17 r5 r10 0 v42 v43 v44 v45 v46 v47 (0 + m2_39) (0 + s2_39)) v33 v34 v35 v36 v37 v38)) r2)) q_o l_o o_reached g_o g_t mm)
set_option maxHeartbeats 8000000 in
set_option maxRecDepth 100000 in
theorem w289_met (l : Launch) (dC : Nat → ClassId) (dI : Nat → Nat → Nat) (sz : Nat) (ho : Nat) (q_t : Nat) (a0x : Nat) (cc : px_CC) (cm : Nat) (np : Nat) (ns : Nat) (hm : Nat → Nat) (pa : Nat → Nat) (sa : Nat → Nat) (pp : Nat → px_PR) (ss : Nat → px_SR) (a1x : Nat) (mc : Nat) (ms : Nat) (q_o : Nat) (l_o : Nat) (o_reached : Int32) (g_o : Nat → Int32) (g_t : Nat → Int32) (mm : Nat → px_MR) (post : Int32 → Nat → Nat → Int32 → (Nat → Int32) → (Nat → Int32) → (Nat → px_MR) → Prop) (hw : w289_wp a0x cm np ns pa sa pp ss a1x mc ms post q_o l_o o_reached g_o g_t mm) : Met l px_y289 px_s289 ({ frames := 4, cells := mc, slots := ms, locals := 90 }) (va_Pc [.ref (hm a0x), .ref (hm a1x)] (fun U => U.heap.size = sz ∧ va_P (dC, dI) vwCl ([(ho, .inr (1, [.ref q_o, .ref q_t, .int o_reached])), (q_o, .inl (cc.2.1, l_o, .inl g_o)), (q_t, .inl (cc.2.1, 182, .inl g_t))] ++ px_cp cc ho cm np ns hm pa sa mm pp ss) U.heap ∧ va_K (dC, dI) vwCl [(cc.2.1, .int), (cc.2.2.2.1, .byte), (cc.2.2.2.2, .long), (cc.1, .object "MatroidDesk$Part"), (cc.2.2.1, (.array .int))] U ∧ va_D (fun _ => True) ([(ho, .inr (1, [.ref q_o, .ref q_t, .int o_reached])), (q_o, .inl (cc.2.1, l_o, .inl g_o)), (q_t, .inl (cc.2.1, 182, .inl g_t))] ++ px_cp cc ho cm np ns hm pa sa mm pp ss) ∧ px_N U)) (va_Qi (fun (r : Int32) (u : Nat × Nat × Int32 × (Nat → Int32) × (Nat → Int32) × (Nat → px_MR)) => post r u.1 u.2.1 u.2.2.1 u.2.2.2.1 u.2.2.2.2.1 u.2.2.2.2.2) (fun (u : Nat × Nat × Int32 × (Nat → Int32) × (Nat → Int32) × (Nat → px_MR)) (t : State) => va_P (dC, dI) vwCl ([(ho, .inr (1, [.ref u.1, .ref q_t, .int u.2.2.1])), (u.1, .inl (cc.2.1, u.2.1, .inl u.2.2.2.1)), (q_t, .inl (cc.2.1, 182, .inl u.2.2.2.2.1))] ++ px_cp cc ho cm np ns hm pa sa u.2.2.2.2.2 pp ss) t.heap ∧ va_K (dC, dI) vwCl [(cc.2.1, .int), (cc.2.2.2.1, .byte), (cc.2.2.2.2, .long), (cc.1, .object "MatroidDesk$Part"), (cc.2.2.1, (.array .int))] t ∧ va_D (va_A ([(ho, .inr (1, [.ref q_o, .ref q_t, .int o_reached])), (q_o, .inl (cc.2.1, l_o, .inl g_o)), (q_t, .inl (cc.2.1, 182, .inl g_t))] ++ px_cp cc ho cm np ns hm pa sa mm pp ss) sz) ([(ho, .inr (1, [.ref u.1, .ref q_t, .int u.2.2.1])), (u.1, .inl (cc.2.1, u.2.1, .inl u.2.2.2.1)), (q_t, .inl (cc.2.1, 182, .inl u.2.2.2.2.1))] ++ px_cp cc ho cm np ns hm pa sa u.2.2.2.2.2 pp ss)) (va_A ([(ho, .inr (1, [.ref q_o, .ref q_t, .int o_reached])), (q_o, .inl (cc.2.1, l_o, .inl g_o)), (q_t, .inl (cc.2.1, 182, .inl g_t))] ++ px_cp cc ho cm np ns hm pa sa mm pp ss) sz)) mc ms (va_A ([(ho, .inr (1, [.ref q_o, .ref q_t, .int o_reached])), (q_o, .inl (cc.2.1, l_o, .inl g_o)), (q_t, .inl (cc.2.1, 182, .inl g_t))] ++ px_cp cc ho cm np ns hm pa sa mm pp ss) sz) := by
  refine Met.ofW (cc := prog_3_method_16_code) (maxL := 5) (ret := (some .int)) (by decide) rfl ?_
  intro p e s m args below meth c s₁ B hml hv
  obtain ⟨rfl, hsz, hP, hK, hD0, hN⟩ := hv
  have hx := B.exec
  have hb := B.bytes
  have hr := B.returns
  have htw : ∀ w ∈ px_all, w.before _ s = true := fun w h => atoms_spec (ws := px_s289) B.pre w (List.mem_cons_of_mem _ h)
  have hown : s.vm.findClass "MatroidDesk$Matroid" = some m.cls := findClass_of_methodNamed B.named
  have hlocks := B.notSynchronized
  subst hsz
  have hD := hD0.self (sz := s.heap.size)
  generalize hAe : va_A ([(ho, .inr (1, [.ref q_o, .ref q_t, .int o_reached])), (q_o, .inl (cc.2.1, l_o, .inl g_o)), (q_t, .inl (cc.2.1, 182, .inl g_t))] ++ px_cp cc ho cm np ns hm pa sa mm pp ss) s.heap.size = A at hD ⊢
  have hA : ∀ q : Nat, s.heap.size ≤ q → A q := fun q h => by rw [← hAe]; exact Or.inr h
  have hS : va_S A s.heap s.heap [] := va_S.rf
  have hP : va_P (dC, dI) vwCl ([(ho, .inr (1, [.ref q_o, .ref q_t, .int o_reached])), (q_o, .inl (cc.2.1, l_o, .inl g_o)), (q_t, .inl (cc.2.1, 182, .inl g_t))] ++ px_cp cc ho cm np ns hm pa sa mm pp ss) s.heap := hP
  have hl := lv_entry ([.ref (hm a0x), .ref (hm a1x)]) (n := 5) (Nat.le_of_ble_eq_true rfl)
  rw [lg_entry_eq]
  generalize (lg_sl ([.ref (hm a0x), .ref (hm a1x)]) ++ List.replicate (5 - (lg_sl ([.ref (hm a0x), .ref (hm a1x)])).length) Slot.unset).toArray = ls at hl ⊢
  have hl : lv_has ls 5 [(0, .ref (hm a0x)), (1, .ref (hm a1x))] := hl
  generalize hQ : MQ _ _ _ _ _ _ _ = Q
  have S17 : ∀ (k17 : Nat) (x2 : Int32) (x3 : Int32) (x4 : Int32) (q_o : Nat) (l_o : Nat) (o_reached : Int32) (g_o : Nat → Int32) (g_t : Nat → Int32) (mm : Nat → px_MR) (kc : Nat) (ks : Nat) (H : Heap) (locs : List Loc) (ls : Array Slot), kc ≤ mc → ks ≤ ms → va_P (dC, dI) vwCl ([(ho, .inr (1, [.ref q_o, .ref q_t, .int o_reached])), (q_o, .inl (cc.2.1, l_o, .inl g_o)), (q_t, .inl (cc.2.1, 182, .inl g_t))] ++ px_cp cc ho cm np ns hm pa sa mm pp ss) H → va_D A ([(ho, .inr (1, [.ref q_o, .ref q_t, .int o_reached])), (q_o, .inl (cc.2.1, l_o, .inl g_o)), (q_t, .inl (cc.2.1, 182, .inl g_t))] ++ px_cp cc ho cm np ns hm pa sa mm pp ss) → va_S A s.heap H locs → lv_has ls 5 [(0, .ref (hm a0x)), (1, .ref (hm a1x)), (2, .int x2), (3, .int x3), (4, .int x4)] → w289_L17 a0x cm np ns pa sa pp ss a1x mc ms post k17 x2 x3 x4 q_o l_o o_reached g_o g_t mm kc ks → W p l e (headSpec px_s289 ({ frames := 4, cells := mc, slots := ms, locals := 90 })).room s m ([.ref (hm a0x), .ref (hm a1x)]).toArray below meth c H locs kc ks Q (F0 m 17 ls []) := by
    intro k17
    induction k17 with
    | zero => intro x2 x3 x4 q_o l_o o_reached g_o g_t mm kc ks H locs ls hkc hks hP hD hS hl hw; exact False.elim hw
    | succ k17 ih17 =>
      have S53 : ∀ (x2 : Int32) (x3 : Int32) (x4 : Int32) (q_o : Nat) (l_o : Nat) (o_reached : Int32) (g_o : Nat → Int32) (g_t : Nat → Int32) (mm : Nat → px_MR) (kc : Nat) (ks : Nat) (H : Heap) (locs : List Loc) (ls : Array Slot), kc ≤ mc → ks ≤ ms → va_P (dC, dI) vwCl ([(ho, .inr (1, [.ref q_o, .ref q_t, .int o_reached])), (q_o, .inl (cc.2.1, l_o, .inl g_o)), (q_t, .inl (cc.2.1, 182, .inl g_t))] ++ px_cp cc ho cm np ns hm pa sa mm pp ss) H → va_D A ([(ho, .inr (1, [.ref q_o, .ref q_t, .int o_reached])), (q_o, .inl (cc.2.1, l_o, .inl g_o)), (q_t, .inl (cc.2.1, 182, .inl g_t))] ++ px_cp cc ho cm np ns hm pa sa mm pp ss) → va_S A s.heap H locs → lv_has ls 5 [(0, .ref (hm a0x)), (1, .ref (hm a1x)), (2, .int x2), (3, .int x3), (4, .int x4)] → w289_L53 (w289_L17 a0x cm np ns pa sa pp ss a1x mc ms post k17) a0x cm np ns pa sa pp ss a1x mc ms post x2 x3 x4 q_o l_o o_reached g_o g_t mm kc ks → W p l e (headSpec px_s289 ({ frames := 4, cells := mc, slots := ms, locals := 90 })).room s m ([.ref (hm a0x), .ref (hm a1x)]).toArray below meth c H locs kc ks Q (F0 m 53 ls []) := by
        intro x2 x3 x4 q_o l_o o_reached g_o g_t mm kc ks H locs ls hkc hks hP hD hS hl hw
        unfold w289_L53 at hw
        obtain ⟨z1, ez1⟩ : ∃ y : Int32, y = x4 + 1 := ⟨_, rfl⟩
        have hw := hw z1 ez1
        refine lv_iinc (v := z1) (lv' := [(4, .int z1), (0, .ref (hm a0x)), (1, .ref (hm a1x)), (2, .int x2), (3, .int x3)]) hx hb px_d289_53 hl (k := 4) rfl (by rw [ez1]; rfl) (by decide) rfl (fun ls hl => ?_)
        refine lv_goto (tgt := 17) hx hb px_d289_56 (by decide) ?_
        exact ih17 x2 x3 z1 q_o l_o o_reached g_o g_t mm kc ks H locs ls hkc hks hP hD hS (lv_sub hl [1, 2, 3, 4, 0] rfl) hw
      intro x2 x3 x4 q_o l_o o_reached g_o g_t mm kc ks H locs ls hkc hks hP hD hS hl hw
      unfold w289_L17 at hw
      refine lv_iload hx hb px_d289_17 (lv_at hl 4 rfl) ?_
      refine lv_aload_n hx hb px_d289_19 rfl (lv_at hl 0 rfl) ?_
      obtain ⟨hp20, hw⟩ := hw
      have hPc := hP.part (cx := [(ho, .inr (1, [.ref q_o, .ref q_t, .int o_reached])), (q_o, .inl (cc.2.1, l_o, .inl g_o)), (q_t, .inl (cc.2.1, 182, .inl g_t))]) [0, 1, 2] rfl
      have hDc := hD.part (cx := [(ho, .inr (1, [.ref q_o, .ref q_t, .int o_reached])), (q_o, .inl (cc.2.1, l_o, .inl g_o)), (q_t, .inl (cc.2.1, 182, .inl g_t))]) [0, 1, 2] (by decide) rfl
      have hFc := va_freeP (cx := [(ho, .inr (1, [.ref q_o, .ref q_t, .int o_reached])), (q_o, .inl (cc.2.1, l_o, .inl g_o)), (q_t, .inl (cc.2.1, 182, .inl g_t))]) hD hS hA [0, 1, 2] rfl
      have hKc := hK.sub (tys' := [(cc.2.1, .int), (cc.2.2.2.1, .byte), (cc.2.2.2.2, .long), (cc.1, .object "MatroidDesk$Part"), (cc.2.2.1, (.array .int))]) [0, 1, 2, 3, 4] rfl
      refine va_calli (va_runV (As := []) (rest := [.int x4]) ⟨hx, hb, hml, hown, htw⟩ (w249_met l dC dI H.size ho q_t a0x cc cm np ns hm pa sa pp ss q_o l_o o_reached g_o g_t mm _ hw) (cwV 0 htw (px_gv px_w1265 px_w1287 px_w1288 px_w154 px_g249) rfl rfl rfl (by decide +kernel) ⟨Nat.le_of_ble_eq_true rfl, Nat.le_of_ble_eq_true rfl⟩) ⟨fun a U g mk q => by obtain ⟨q0, q1, qP, qK, qD, qN⟩ := q; exact ⟨q0, q1, qP, va_K.moved (u := U) (U := U.calling g mk a) (Vm.Alike.refl U.vm) qK, qD, qN.same rfl⟩, va_recv hK hP (ci := 10) (q0 := (3 + (13 * a0x + 0))) rfl (px_cg0 rfl hp20), fun U hU hW => ⟨rfl, by rw [hU], by rw [hU]; exact hPc, va_K.moved hW.alike hKc, hDc.weaken (fun _ _ _ _ => trivial), hN.warm hW⟩⟩ rfl rfl hl.1 rfl (lv_room (Nat.le_of_ble_eq_true rfl)) px_d289_20 ⟨hkc, hks⟩) hS (fun q _ h => hFc q h) hFc (fun r20 u t H1 locs ht hvm hw hB hz1 hk1 hS => ?_)
      obtain ⟨v2, v3, v4, v5, v6, v7⟩ := u
      obtain ⟨hP1, hK1, hD1⟩ := hB
      rw [ht] at hP1
      obtain ⟨hP, hD⟩ := va_joinP (wr := []) (rx := [(ho, .inr (1, [.ref v2, .ref q_t, .int v4])), (v2, .inl (cc.2.1, v3, .inl v5)), (q_t, .inl (cc.2.1, 182, .inl v6))]) hP hD [0, 1, 2] [] rfl rfl (by decide) (by decide) hk1 hFc hP1 hD1
      generalize H1 = H at hP hS ⊢
      have hP : va_P (dC, dI) vwCl ([(ho, .inr (1, [.ref v2, .ref q_t, .int v4])), (v2, .inl (cc.2.1, v3, .inl v5)), (q_t, .inl (cc.2.1, 182, .inl v6))] ++ px_cp cc ho cm np ns hm pa sa v7 pp ss) H := hP
      have hD : va_D A ([(ho, .inr (1, [.ref v2, .ref q_t, .int v4])), (v2, .inl (cc.2.1, v3, .inl v5)), (q_t, .inl (cc.2.1, 182, .inl v6))] ++ px_cp cc ho cm np ns hm pa sa v7 pp ss) := hD
      refine lv_icmp_gt (tgt := 59) hx hb px_d289_23 (by decide) (fun c23 => ?_) (fun c23 => ?_)
      · have hw := hw.1 c23
        refine lv_iload_n hx hb px_d289_59 rfl (lv_at hl 3 rfl) ?_
        refine W.widen (k := mc) (n := ms) hkc hks ?_
        rw [← hQ]
        exact W.iret (v := x3) hx hb hr (fun t ht hW => ⟨⟨x3, (v2, v3, v4, v5, v6, v7), rfl, hw, by rw [ht]; exact hP, va_K.moved hW.alike hK, hD⟩, hS.F ht⟩) hS.2.2 px_d289_60
      · have hw := hw.2 c23
        refine lv_aload_n hx hb px_d289_26 rfl (lv_at hl 0 rfl) ?_
        refine lv_iload hx hb px_d289_27 (lv_at hl 4 rfl) ?_
        obtain ⟨m29_15, s29_15, hm29_15, hs29_15, hw⟩ := hw
        obtain ⟨hp29, hw⟩ := hw
        have hPc := hP.part (cx := [(ho, .inr (1, [.ref v2, .ref q_t, .int v4])), (v2, .inl (cc.2.1, v3, .inl v5)), (q_t, .inl (cc.2.1, 182, .inl v6))]) [0, 1, 2] rfl
        have hDc := hD.part (cx := [(ho, .inr (1, [.ref v2, .ref q_t, .int v4])), (v2, .inl (cc.2.1, v3, .inl v5)), (q_t, .inl (cc.2.1, 182, .inl v6))]) [0, 1, 2] (by decide) rfl
        have hFc := va_freeP (cx := [(ho, .inr (1, [.ref v2, .ref q_t, .int v4])), (v2, .inl (cc.2.1, v3, .inl v5)), (q_t, .inl (cc.2.1, 182, .inl v6))]) hD hS hA [0, 1, 2] rfl
        have hKc := hK.sub (tys' := [(cc.2.1, .int), (cc.2.2.2.1, .byte), (cc.2.2.2.2, .long), (cc.1, .object "MatroidDesk$Part"), (cc.2.2.1, (.array .int))]) [0, 1, 2, 3, 4] rfl
        refine va_calli (va_runV (As := [.int x4]) (rest := []) ⟨hx, hb, hml, hown, htw⟩ (w262_met l dC dI H.size ho q_t a0x cc cm np ns hm pa sa pp ss m29_15 s29_15 x4 v2 v3 v4 v5 v6 v7 _ hw) (cwV 1 htw (px_gv px_w1335 px_w1337 px_w1338 px_w154 px_g262) rfl rfl rfl (by decide +kernel) ⟨Nat.le_of_ble_eq_true rfl, Nat.le_of_ble_eq_true rfl⟩) ⟨fun a U g mk q => by obtain ⟨q0, q1, qP, qK, qD, qN⟩ := q; exact ⟨q0, q1, qP, va_K.moved (u := U) (U := U.calling g mk a) (Vm.Alike.refl U.vm) qK, qD, qN.same rfl⟩, va_recv hK hP (ci := 10) (q0 := (3 + (13 * a0x + 0))) rfl (px_cg0 rfl hp29), fun U hU hW => ⟨rfl, by rw [hU], by rw [hU]; exact hPc, va_K.moved hW.alike hKc, hDc.weaken (fun _ _ _ _ => trivial), hN.warm hW⟩⟩ rfl rfl hl.1 rfl (lv_room (Nat.le_of_ble_eq_true rfl)) px_d289_29 ⟨hm29_15, hs29_15⟩) hS (fun q _ h => hFc q h) hFc (fun r29 u t H1 locs ht hvm hw hB hz1 hk1 hS => ?_)
        obtain ⟨v9, v10, v11, v12, v13, v14⟩ := u
        obtain ⟨hP1, hK1, hD1⟩ := hB
        rw [ht] at hP1
        obtain ⟨hP, hD⟩ := va_joinP (wr := []) (rx := [(ho, .inr (1, [.ref v9, .ref q_t, .int v11])), (v9, .inl (cc.2.1, v10, .inl v12)), (q_t, .inl (cc.2.1, 182, .inl v13))]) hP hD [0, 1, 2] [] rfl rfl (by decide) (by decide) hk1 hFc hP1 hD1
        generalize H1 = H at hP hS ⊢
        have hP : va_P (dC, dI) vwCl ([(ho, .inr (1, [.ref v9, .ref q_t, .int v11])), (v9, .inl (cc.2.1, v10, .inl v12)), (q_t, .inl (cc.2.1, 182, .inl v13))] ++ px_cp cc ho cm np ns hm pa sa v14 pp ss) H := hP
        have hD : va_D A ([(ho, .inr (1, [.ref v9, .ref q_t, .int v11])), (v9, .inl (cc.2.1, v10, .inl v12)), (q_t, .inl (cc.2.1, 182, .inl v13))] ++ px_cp cc ho cm np ns hm pa sa v14 pp ss) := hD
        refine lv_aload_n hx hb px_d289_32 rfl (lv_at hl 1 rfl) ?_
        refine lv_aload_n hx hb px_d289_33 rfl (lv_at hl 0 rfl) ?_
        obtain ⟨hp34, hw⟩ := hw
        have hPc := hP.part (cx := [(ho, .inr (1, [.ref v9, .ref q_t, .int v11])), (v9, .inl (cc.2.1, v10, .inl v12)), (q_t, .inl (cc.2.1, 182, .inl v13))]) [0, 1, 2] rfl
        have hDc := hD.part (cx := [(ho, .inr (1, [.ref v9, .ref q_t, .int v11])), (v9, .inl (cc.2.1, v10, .inl v12)), (q_t, .inl (cc.2.1, 182, .inl v13))]) [0, 1, 2] (by decide) rfl
        have hFc := va_freeP (cx := [(ho, .inr (1, [.ref v9, .ref q_t, .int v11])), (v9, .inl (cc.2.1, v10, .inl v12)), (q_t, .inl (cc.2.1, 182, .inl v13))]) hD hS hA [0, 1, 2] rfl
        have hKc := hK.sub (tys' := [(cc.2.1, .int), (cc.2.2.2.1, .byte), (cc.2.2.2.2, .long), (cc.1, .object "MatroidDesk$Part"), (cc.2.2.1, (.array .int))]) [0, 1, 2, 3, 4] rfl
        refine va_calli (va_runV (As := []) (rest := [.ref (hm a1x), .int r29]) ⟨hx, hb, hml, hown, htw⟩ (w249_met l dC dI H.size ho q_t a0x cc cm np ns hm pa sa pp ss v9 v10 v11 v12 v13 v14 _ hw) (cwV 0 htw (px_gv px_w1265 px_w1287 px_w1288 px_w154 px_g249) rfl rfl rfl (by decide +kernel) ⟨Nat.le_of_ble_eq_true rfl, Nat.le_of_ble_eq_true rfl⟩) ⟨fun a U g mk q => by obtain ⟨q0, q1, qP, qK, qD, qN⟩ := q; exact ⟨q0, q1, qP, va_K.moved (u := U) (U := U.calling g mk a) (Vm.Alike.refl U.vm) qK, qD, qN.same rfl⟩, va_recv hK hP (ci := 10) (q0 := (3 + (13 * a0x + 0))) rfl (px_cg0 rfl hp34), fun U hU hW => ⟨rfl, by rw [hU], by rw [hU]; exact hPc, va_K.moved hW.alike hKc, hDc.weaken (fun _ _ _ _ => trivial), hN.warm hW⟩⟩ rfl rfl hl.1 rfl (lv_room (Nat.le_of_ble_eq_true rfl)) px_d289_34 ⟨hm29_15, hs29_15⟩) hS (fun q _ h => hFc q h) hFc (fun r34 u t H1 locs ht hvm hw hB hz1 hk1 hS => ?_)
        obtain ⟨v17, v18, v19, v20, v21, v22⟩ := u
        obtain ⟨hP1, hK1, hD1⟩ := hB
        rw [ht] at hP1
        obtain ⟨hP, hD⟩ := va_joinP (wr := []) (rx := [(ho, .inr (1, [.ref v17, .ref q_t, .int v19])), (v17, .inl (cc.2.1, v18, .inl v20)), (q_t, .inl (cc.2.1, 182, .inl v21))]) hP hD [0, 1, 2] [] rfl rfl (by decide) (by decide) hk1 hFc hP1 hD1
        generalize H1 = H at hP hS ⊢
        have hP : va_P (dC, dI) vwCl ([(ho, .inr (1, [.ref v17, .ref q_t, .int v19])), (v17, .inl (cc.2.1, v18, .inl v20)), (q_t, .inl (cc.2.1, 182, .inl v21))] ++ px_cp cc ho cm np ns hm pa sa v22 pp ss) H := hP
        have hD : va_D A ([(ho, .inr (1, [.ref v17, .ref q_t, .int v19])), (v17, .inl (cc.2.1, v18, .inl v20)), (q_t, .inl (cc.2.1, 182, .inl v21))] ++ px_cp cc ho cm np ns hm pa sa v22 pp ss) := hD
        refine lv_iload hx hb px_d289_37 (lv_at hl 4 rfl) ?_
        refine lv_ixor hx hb px_d289_39 ?_
        obtain ⟨m40_30, s40_30, hm40_30, hs40_30, hw⟩ := hw
        obtain ⟨hp40, hw⟩ := hw
        have hPc := hP.part (cx := [(ho, .inr (1, [.ref v17, .ref q_t, .int v19])), (v17, .inl (cc.2.1, v18, .inl v20)), (q_t, .inl (cc.2.1, 182, .inl v21))]) [0, 1, 2] rfl
        have hDc := hD.part (cx := [(ho, .inr (1, [.ref v17, .ref q_t, .int v19])), (v17, .inl (cc.2.1, v18, .inl v20)), (q_t, .inl (cc.2.1, 182, .inl v21))]) [0, 1, 2] (by decide) rfl
        have hFc := va_freeP (cx := [(ho, .inr (1, [.ref v17, .ref q_t, .int v19])), (v17, .inl (cc.2.1, v18, .inl v20)), (q_t, .inl (cc.2.1, 182, .inl v21))]) hD hS hA [0, 1, 2] rfl
        have hKc := hK.sub (tys' := [(cc.2.1, .int), (cc.2.2.2.1, .byte), (cc.2.2.2.2, .long), (cc.1, .object "MatroidDesk$Part"), (cc.2.2.1, (.array .int))]) [0, 1, 2, 3, 4] rfl
        refine va_calli (va_runV (As := [.int (r34 ^^^ x4)]) (rest := [.int r29]) ⟨hx, hb, hml, hown, htw⟩ (w262_met l dC dI H.size ho q_t a1x cc cm np ns hm pa sa pp ss m40_30 s40_30 (r34 ^^^ x4) v17 v18 v19 v20 v21 v22 _ hw) (cwV 1 htw (px_gv px_w1335 px_w1337 px_w1338 px_w154 px_g262) rfl rfl rfl (by decide +kernel) ⟨Nat.le_of_ble_eq_true rfl, Nat.le_of_ble_eq_true rfl⟩) ⟨fun a U g mk q => by obtain ⟨q0, q1, qP, qK, qD, qN⟩ := q; exact ⟨q0, q1, qP, va_K.moved (u := U) (U := U.calling g mk a) (Vm.Alike.refl U.vm) qK, qD, qN.same rfl⟩, va_recv hK hP (ci := 10) (q0 := (3 + (13 * a1x + 0))) rfl (px_cg0 rfl hp40), fun U hU hW => ⟨rfl, by rw [hU], by rw [hU]; exact hPc, va_K.moved hW.alike hKc, hDc.weaken (fun _ _ _ _ => trivial), hN.warm hW⟩⟩ rfl rfl hl.1 rfl (lv_room (Nat.le_of_ble_eq_true rfl)) px_d289_40 ⟨hm40_30, hs40_30⟩) hS (fun q _ h => hFc q h) hFc (fun r40 u t H1 locs ht hvm hw hB hz1 hk1 hS => ?_)
        obtain ⟨v24, v25, v26, v27, v28, v29⟩ := u
        obtain ⟨hP1, hK1, hD1⟩ := hB
        rw [ht] at hP1
        obtain ⟨hP, hD⟩ := va_joinP (wr := []) (rx := [(ho, .inr (1, [.ref v24, .ref q_t, .int v26])), (v24, .inl (cc.2.1, v25, .inl v27)), (q_t, .inl (cc.2.1, 182, .inl v28))]) hP hD [0, 1, 2] [] rfl rfl (by decide) (by decide) hk1 hFc hP1 hD1
        generalize H1 = H at hP hS ⊢
        have hP : va_P (dC, dI) vwCl ([(ho, .inr (1, [.ref v24, .ref q_t, .int v26])), (v24, .inl (cc.2.1, v25, .inl v27)), (q_t, .inl (cc.2.1, 182, .inl v28))] ++ px_cp cc ho cm np ns hm pa sa v29 pp ss) H := hP
        have hD : va_D A ([(ho, .inr (1, [.ref v24, .ref q_t, .int v26])), (v24, .inl (cc.2.1, v25, .inl v27)), (q_t, .inl (cc.2.1, 182, .inl v28))] ++ px_cp cc ho cm np ns hm pa sa v29 pp ss) := hD
        refine lv_iadd hx hb px_d289_43 ?_
        refine lv_iload_n hx hb px_d289_44 rfl (lv_at hl 2 rfl) ?_
        refine lv_icmp_ne (tgt := 53) hx hb px_d289_45 (by decide) (fun c45 => ?_) (fun c45 => ?_)
        · have hw := hw.1 c45
          exact S53 x2 x3 x4 v24 v25 v26 v27 v28 v29 (kc + m29_15 + m40_30) (ks + s29_15 + s40_30) H locs ls hm40_30 hs40_30 hP hD hS (lv_sub hl [0, 1, 2, 3, 4] rfl) hw
        · have hw := hw.2 c45
          refine lv_iload_n hx hb px_d289_48 rfl (lv_at hl 3 rfl) ?_
          refine lv_iload hx hb px_d289_49 (lv_at hl 4 rfl) ?_
          refine lv_iand hx hb px_d289_51 ?_
          refine lv_topi (fun z32 ez32 => ?_)
          have hw := hw z32 ez32
          refine lv_istore_n (lv' := [(3, .int z32), (0, .ref (hm a0x)), (1, .ref (hm a1x)), (2, .int x2), (4, .int x4)]) hx hb px_d289_52 rfl hl (by decide) rfl (fun ls hl => ?_)
          exact S53 x2 z32 x4 v24 v25 v26 v27 v28 v29 (kc + m29_15 + m40_30) (ks + s29_15 + s40_30) H locs ls hm40_30 hs40_30 hP hD hS (lv_sub hl [1, 2, 3, 0, 4] rfl) hw
  unfold w289_wp at hw
  have hS0 := hS
  obtain ⟨H, hH9⟩ : ∃ z, z = s.heap := ⟨_, rfl⟩
  have hP : va_P (dC, dI) vwCl ([(ho, .inr (1, [.ref q_o, .ref q_t, .int o_reached])), (q_o, .inl (cc.2.1, l_o, .inl g_o)), (q_t, .inl (cc.2.1, 182, .inl g_t))] ++ px_cp cc ho cm np ns hm pa sa mm pp ss) H := by rw [hH9]; exact hP
  obtain ⟨locs, hlo9⟩ : ∃ z : List Loc, z = [] := ⟨_, rfl⟩
  have hS : va_S A s.heap H locs := by rw [hH9, hlo9]; exact hS
  suffices hG : W p l e (headSpec px_s289 ({ frames := 4, cells := mc, slots := ms, locals := 90 })).room s m ([.ref (hm a0x), .ref (hm a1x)]).toArray below meth c H locs 0 0 Q (F0 m 0 ls []) by rw [hH9, hlo9] at hG; exact hG
  refine lv_aload_n hx hb px_d289_0 rfl (lv_at hl 0 rfl) ?_
  refine lv_aload_n hx hb px_d289_1 rfl (lv_at hl 1 rfl) ?_
  obtain ⟨m2_39, s2_39, hm2_39, hs2_39, hw⟩ := hw
  obtain ⟨hp2, hw⟩ := hw
  have hPc := hP.part (cx := [(ho, .inr (1, [.ref q_o, .ref q_t, .int o_reached])), (q_o, .inl (cc.2.1, l_o, .inl g_o)), (q_t, .inl (cc.2.1, 182, .inl g_t))]) [0, 1, 2] rfl
  have hDc := hD.part (cx := [(ho, .inr (1, [.ref q_o, .ref q_t, .int o_reached])), (q_o, .inl (cc.2.1, l_o, .inl g_o)), (q_t, .inl (cc.2.1, 182, .inl g_t))]) [0, 1, 2] (by decide) rfl
  have hFc := va_freeP (cx := [(ho, .inr (1, [.ref q_o, .ref q_t, .int o_reached])), (q_o, .inl (cc.2.1, l_o, .inl g_o)), (q_t, .inl (cc.2.1, 182, .inl g_t))]) hD hS hA [0, 1, 2] rfl
  have hKc := hK.sub (tys' := [(cc.2.1, .int), (cc.2.2.2.1, .byte), (cc.2.2.2.2, .long), (cc.1, .object "MatroidDesk$Part"), (cc.2.2.1, (.array .int))]) [0, 1, 2, 3, 4] rfl
  refine va_calli (va_runV (As := [.ref (hm a1x)]) (rest := []) ⟨hx, hb, hml, hown, htw⟩ (w288_met l dC dI H.size ho q_t a0x cc cm np ns hm pa sa pp ss a1x m2_39 s2_39 q_o l_o o_reached g_o g_t mm _ hw) (cwV 1 htw (px_gv px_w1459 px_w1453 px_w1454 px_w154 px_g288) rfl rfl rfl (by decide +kernel) ⟨Nat.le_of_ble_eq_true rfl, Nat.le_of_ble_eq_true rfl⟩) ⟨fun a U g mk q => by obtain ⟨q0, q1, qP, qK, qD, qN⟩ := q; exact ⟨q0, q1, qP, va_K.moved (u := U) (U := U.calling g mk a) (Vm.Alike.refl U.vm) qK, qD, qN.same rfl⟩, va_recv hK hP (ci := 10) (q0 := (3 + (13 * a0x + 0))) rfl (px_cg0 rfl hp2), fun U hU hW => ⟨rfl, by rw [hU], by rw [hU]; exact hPc, va_K.moved hW.alike hKc, hDc.weaken (fun _ _ _ _ => trivial), hN.warm hW⟩⟩ rfl rfl hl.1 rfl (lv_room (Nat.le_of_ble_eq_true rfl)) px_d289_2 ⟨hm2_39, hs2_39⟩) hS (fun q _ h => hFc q h) hFc (fun r2 u t H1 locs ht hvm hw hB hz1 hk1 hS => ?_)
  obtain ⟨v33, v34, v35, v36, v37, v38⟩ := u
  obtain ⟨hP1, hK1, hD1⟩ := hB
  rw [ht] at hP1
  obtain ⟨hP, hD⟩ := va_joinP (wr := []) (rx := [(ho, .inr (1, [.ref v33, .ref q_t, .int v35])), (v33, .inl (cc.2.1, v34, .inl v36)), (q_t, .inl (cc.2.1, 182, .inl v37))]) hP hD [0, 1, 2] [] rfl rfl (by decide) (by decide) hk1 hFc hP1 hD1
  generalize H1 = H at hP hS ⊢
  have hP : va_P (dC, dI) vwCl ([(ho, .inr (1, [.ref v33, .ref q_t, .int v35])), (v33, .inl (cc.2.1, v34, .inl v36)), (q_t, .inl (cc.2.1, 182, .inl v37))] ++ px_cp cc ho cm np ns hm pa sa v38 pp ss) H := hP
  have hD : va_D A ([(ho, .inr (1, [.ref v33, .ref q_t, .int v35])), (v33, .inl (cc.2.1, v34, .inl v36)), (q_t, .inl (cc.2.1, 182, .inl v37))] ++ px_cp cc ho cm np ns hm pa sa v38 pp ss) := hD
  have hPc := hP.sub (ws' := []) [] rfl
  have hDc := hD.sub (ws' := []) [] (by decide) rfl
  have hFc := va_free (wc := []) hD hS hA [] rfl
  have hKc := hK.sub (tys' := []) [] rfl
  refine va_calli (va_runS (As := [.int r2]) (rest := []) ⟨hx, hb, hml, hown, htw⟩ (w250_met l dC dI H.size r2 _ hw) (va_cwS 1 htw (px_gs2 px_w1266 px_w1290 px_w1764 px_g250) rfl rfl rfl (by decide +kernel) ⟨Nat.le_of_ble_eq_true rfl, Nat.le_of_ble_eq_true rfl⟩) ⟨fun a U g mk q => by obtain ⟨q0, q1, qP, qK, qD, qN⟩ := q; exact ⟨q0, q1, qP, va_K.moved (u := U) (U := U.calling g mk a) (Vm.Alike.refl U.vm) qK, qD, qN.same rfl⟩, fun U hU hW => ⟨rfl, by rw [hU], by rw [hU]; exact hPc, va_K.moved hW.alike hKc, hDc.weaken (fun _ _ _ _ => trivial), hN.warm hW⟩⟩ rfl rfl hl.1 rfl (lv_room (Nat.le_of_ble_eq_true rfl)) px_d289_5 ⟨hm2_39, hs2_39⟩) hS (fun q _ h => hFc q h) hFc (fun r5 u t H1 locs ht hvm hw hB hz1 hk1 hS => ?_)
  obtain ⟨hP1, hK1, hD1⟩ := hB
  rw [ht] at hP1
  obtain ⟨hP, hD⟩ := va_joinQ (wr := [(ho, .inr (1, [.ref v33, .ref q_t, .int v35])), (v33, .inl (cc.2.1, v34, .inl v36)), (q_t, .inl (cc.2.1, 182, .inl v37))]) (w1 := []) hP hD [] [0, 1, 2] rfl rfl (by decide) (by decide) hk1 hFc hP1 hD1
  generalize H1 = H at hP hS ⊢
  have hP : va_P (dC, dI) vwCl ([(ho, .inr (1, [.ref v33, .ref q_t, .int v35])), (v33, .inl (cc.2.1, v34, .inl v36)), (q_t, .inl (cc.2.1, 182, .inl v37))] ++ px_cp cc ho cm np ns hm pa sa v38 pp ss) H := hP
  have hD : va_D A ([(ho, .inr (1, [.ref v33, .ref q_t, .int v35])), (v33, .inl (cc.2.1, v34, .inl v36)), (q_t, .inl (cc.2.1, 182, .inl v37))] ++ px_cp cc ho cm np ns hm pa sa v38 pp ss) := hD
  refine lv_istore_n (lv' := [(2, .int r5), (0, .ref (hm a0x)), (1, .ref (hm a1x))]) hx hb px_d289_8 rfl hl (by decide) rfl (fun ls hl => ?_)
  refine lv_aload_n hx hb px_d289_9 rfl (lv_at hl 1 rfl) ?_
  obtain ⟨hp10, hw⟩ := hw
  have hPc := hP.part (cx := [(ho, .inr (1, [.ref v33, .ref q_t, .int v35])), (v33, .inl (cc.2.1, v34, .inl v36)), (q_t, .inl (cc.2.1, 182, .inl v37))]) [0, 1, 2] rfl
  have hDc := hD.part (cx := [(ho, .inr (1, [.ref v33, .ref q_t, .int v35])), (v33, .inl (cc.2.1, v34, .inl v36)), (q_t, .inl (cc.2.1, 182, .inl v37))]) [0, 1, 2] (by decide) rfl
  have hFc := va_freeP (cx := [(ho, .inr (1, [.ref v33, .ref q_t, .int v35])), (v33, .inl (cc.2.1, v34, .inl v36)), (q_t, .inl (cc.2.1, 182, .inl v37))]) hD hS hA [0, 1, 2] rfl
  have hKc := hK.sub (tys' := [(cc.2.1, .int), (cc.2.2.2.1, .byte), (cc.2.2.2.2, .long), (cc.1, .object "MatroidDesk$Part"), (cc.2.2.1, (.array .int))]) [0, 1, 2, 3, 4] rfl
  refine va_calli (va_runV (As := []) (rest := []) ⟨hx, hb, hml, hown, htw⟩ (w249_met l dC dI H.size ho q_t a0x cc cm np ns hm pa sa pp ss v33 v34 v35 v36 v37 v38 _ hw) (cwV 0 htw (px_gv px_w1265 px_w1287 px_w1288 px_w154 px_g249) rfl rfl rfl (by decide +kernel) ⟨Nat.le_of_ble_eq_true rfl, Nat.le_of_ble_eq_true rfl⟩) ⟨fun a U g mk q => by obtain ⟨q0, q1, qP, qK, qD, qN⟩ := q; exact ⟨q0, q1, qP, va_K.moved (u := U) (U := U.calling g mk a) (Vm.Alike.refl U.vm) qK, qD, qN.same rfl⟩, va_recv hK hP (ci := 10) (q0 := (3 + (13 * a0x + 0))) rfl (px_cg0 rfl hp10), fun U hU hW => ⟨rfl, by rw [hU], by rw [hU]; exact hPc, va_K.moved hW.alike hKc, hDc.weaken (fun _ _ _ _ => trivial), hN.warm hW⟩⟩ rfl rfl hl.1 rfl (lv_room (Nat.le_of_ble_eq_true rfl)) px_d289_10 ⟨hm2_39, hs2_39⟩) hS (fun q _ h => hFc q h) hFc (fun r10 u t H1 locs ht hvm hw hB hz1 hk1 hS => ?_)
  obtain ⟨v42, v43, v44, v45, v46, v47⟩ := u
  obtain ⟨hP1, hK1, hD1⟩ := hB
  rw [ht] at hP1
  obtain ⟨hP, hD⟩ := va_joinP (wr := []) (rx := [(ho, .inr (1, [.ref v42, .ref q_t, .int v44])), (v42, .inl (cc.2.1, v43, .inl v45)), (q_t, .inl (cc.2.1, 182, .inl v46))]) hP hD [0, 1, 2] [] rfl rfl (by decide) (by decide) hk1 hFc hP1 hD1
  generalize H1 = H at hP hS ⊢
  have hP : va_P (dC, dI) vwCl ([(ho, .inr (1, [.ref v42, .ref q_t, .int v44])), (v42, .inl (cc.2.1, v43, .inl v45)), (q_t, .inl (cc.2.1, 182, .inl v46))] ++ px_cp cc ho cm np ns hm pa sa v47 pp ss) H := hP
  have hD : va_D A ([(ho, .inr (1, [.ref v42, .ref q_t, .int v44])), (v42, .inl (cc.2.1, v43, .inl v45)), (q_t, .inl (cc.2.1, 182, .inl v46))] ++ px_cp cc ho cm np ns hm pa sa v47 pp ss) := hD
  refine lv_istore_n (lv' := [(3, .int r10), (2, .int r5), (0, .ref (hm a0x)), (1, .ref (hm a1x))]) hx hb px_d289_13 rfl hl (by decide) rfl (fun ls hl => ?_)
  refine lv_iconst (v := 0) hx hb px_d289_14 (by decide) ?_
  refine lv_istore (lv' := [(4, .int 0), (3, .int r10), (2, .int r5), (0, .ref (hm a0x)), (1, .ref (hm a1x))]) hx hb px_d289_15 hl (by decide) rfl (fun ls hl => ?_)
  obtain ⟨k9, hw⟩ := hw
  exact S17 k9 r5 r10 0 v42 v43 v44 v45 v46 v47 (0 + m2_39) (0 + s2_39) H locs ls hm2_39 hs2_39 hP hD hS (lv_sub hl [3, 4, 2, 1, 0] rfl) hw

/-! MatroidDesk$Matroid.negatives(I)I -/
def w293_L129 (K32 : Int32 → Int32 → Int32 → Int32 → Int32 → Int32 → Nat → Nat → Int32 → (Nat → Int32) → (Nat → Int32) → (Nat → px_MR) → Nat → Nat → Prop) (a0x : Nat) (cm : Nat) (np : Nat) (ns : Nat) (pa : Nat → Nat) (sa : Nat → Nat) (pp : Nat → px_PR) (ss : Nat → px_SR) (mc : Nat) (ms : Nat) (post : Int32 → Nat → Nat → Int32 → (Nat → Int32) → (Nat → Int32) → (Nat → px_MR) → Prop) (x1 : Int32) (x2 : Int32) (x3 : Int32) (x4 : Int32) (x5 : Int32) (x6 : Int32) (x7 : Int32) (q_o : Nat) (l_o : Nat) (o_reached : Int32) (g_o : Nat → Int32) (g_t : Nat → Int32) (mm : Nat → px_MR) (kc : Nat) (ks : Nat) : Prop := ∀ z1 : Int32, z1 = x6 + 1 → K32 x1 x2 x3 x4 x5 z1 q_o l_o o_reached g_o g_t mm kc ks
def w293_L126 (K32 : Int32 → Int32 → Int32 → Int32 → Int32 → Int32 → Nat → Nat → Int32 → (Nat → Int32) → (Nat → Int32) → (Nat → px_MR) → Nat → Nat → Prop) (a0x : Nat) (cm : Nat) (np : Nat) (ns : Nat) (pa : Nat → Nat) (sa : Nat → Nat) (pp : Nat → px_PR) (ss : Nat → px_SR) (mc : Nat) (ms : Nat) (post : Int32 → Nat → Nat → Int32 → (Nat → Int32) → (Nat → Int32) → (Nat → px_MR) → Prop) (x1 : Int32) (x2 : Int32) (x3 : Int32) (x4 : Int32) (x5 : Int32) (x6 : Int32) (x7 : Int32) (x8 : Int32) (x9 : Int32) (y0 : Int32) (y1 : Int32) (q_o : Nat) (l_o : Nat) (o_reached : Int32) (g_o : Nat → Int32) (g_t : Nat → Int32) (mm : Nat → px_MR) (kc : Nat) (ks : Nat) : Prop := ∀ z2 : Int32, z2 = y1 ||| y0 → w293_L129 K32 a0x cm np ns pa sa pp ss mc ms post x1 x2 x3 x4 z2 x6 x7 q_o l_o o_reached g_o g_t mm kc ks
def w293_L111 (K32 : Int32 → Int32 → Int32 → Int32 → Int32 → Int32 → Nat → Nat → Int32 → (Nat → Int32) → (Nat → Int32) → (Nat → px_MR) → Nat → Nat → Prop) (a0x : Nat) (cm : Nat) (np : Nat) (ns : Nat) (pa : Nat → Nat) (sa : Nat → Nat) (pp : Nat → px_PR) (ss : Nat → px_SR) (mc : Nat) (ms : Nat) (post : Int32 → Nat → Nat → Int32 → (Nat → Int32) → (Nat → Int32) → (Nat → px_MR) → Prop) (x1 : Int32) (x2 : Int32) (x3 : Int32) (x4 : Int32) (x5 : Int32) (x6 : Int32) (x7 : Int32) (x8 : Int32) (y0 : Int32) (q_o : Nat) (l_o : Nat) (o_reached : Int32) (g_o : Nat → Int32) (g_t : Nat → Int32) (mm : Nat → px_MR) (kc : Nat) (ks : Nat) : Prop := (y0 = 0 → w293_L126 K32 a0x cm np ns pa sa pp ss mc ms post x1 x2 x3 x4 x5 x6 x7 x8 y0 0 x5 q_o l_o o_reached g_o g_t mm kc ks) ∧ (¬ y0 = 0 → w293_L126 K32 a0x cm np ns pa sa pp ss mc ms post x1 x2 x3 x4 x5 x6 x7 x8 y0 x7 x5 q_o l_o o_reached g_o g_t mm kc ks)
def w293_L32 (a0x : Nat) (cm : Nat) (np : Nat) (ns : Nat) (pa : Nat → Nat) (sa : Nat → Nat) (pp : Nat → px_PR) (ss : Nat → px_SR) (mc : Nat) (ms : Nat) (post : Int32 → Nat → Nat → Int32 → (Nat → Int32) → (Nat → Int32) → (Nat → px_MR) → Prop) : Nat → Int32 → Int32 → Int32 → Int32 → Int32 → Int32 → Nat → Nat → Int32 → (Nat → Int32) → (Nat → Int32) → (Nat → px_MR) → Nat → Nat → Prop
  | 0 => fun _ _ _ _ _ _ _ _ _ _ _ _ _ _ => False
  | k + 1 => fun x1 x2 x3 x4 x5 x6 q_o l_o o_reached g_o g_t mm kc ks => a0x < cm ∧ ((((mm a0x).2.1 13) ≤ x6 → post x5 q_o l_o o_reached g_o g_t mm) ∧ (¬ ((mm a0x).2.1 13) ≤ x6 → ∀ z3 : Int32, z3 = x3 &&& ((1 : Int32) <<< (x6 &&& 31)) → (z3 = 0 → w293_L129 (w293_L32 a0x cm np ns pa sa pp ss mc ms post k) a0x cm np ns pa sa pp ss mc ms post x1 x2 x3 x4 x5 x6 z3 q_o l_o o_reached g_o g_t mm kc ks) ∧ (¬ z3 = 0 → a0x < cm ∧ (a0x < cm ∧ (vp_in x4 ((mm a0x).2.2.1 6) ∧ (a0x < cm ∧ (a0x < cm ∧ (vp_in ((x4 ^^^ z3) ^^^ x2) ((mm a0x).2.2.1 6) ∧ (∀ z4 : Int32, z4 = (((mm a0x).2.2.2.1 6) (Int32.toNatClampNeg x4)) * (((mm a0x).2.2.2.1 6) (Int32.toNatClampNeg ((x4 ^^^ z3) ^^^ x2))) → (w294_wp (fun r82  => (r82 = 0 → (z4 ≤ 0 → w293_L111 (w293_L32 a0x cm np ns pa sa pp ss mc ms post k) a0x cm np ns pa sa pp ss mc ms post x1 x2 x3 x4 x5 x6 z3 z4 0 q_o l_o o_reached g_o g_t mm kc ks) ∧ (¬ z4 ≤ 0 → w293_L111 (w293_L32 a0x cm np ns pa sa pp ss mc ms post k) a0x cm np ns pa sa pp ss mc ms post x1 x2 x3 x4 x5 x6 z3 z4 1 q_o l_o o_reached g_o g_t mm kc ks)) ∧ (¬ r82 = 0 → (0 ≤ z4 → w293_L111 (w293_L32 a0x cm np ns pa sa pp ss mc ms post k) a0x cm np ns pa sa pp ss mc ms post x1 x2 x3 x4 x5 x6 z3 z4 0 q_o l_o o_reached g_o g_t mm kc ks) ∧ (¬ 0 ≤ z4 → w293_L111 (w293_L32 a0x cm np ns pa sa pp ss mc ms post k) a0x cm np ns pa sa pp ss mc ms post x1 x2 x3 x4 x5 x6 z3 z4 1 q_o l_o o_reached g_o g_t mm kc ks))) x4 (z3 ||| x2)))))))))))
def w293_wp (a0x : Nat) (cm : Nat) (np : Nat) (ns : Nat) (pa : Nat → Nat) (sa : Nat → Nat) (pp : Nat → px_PR) (ss : Nat → px_SR) (mc : Nat) (ms : Nat) (post : Int32 → Nat → Nat → Int32 → (Nat → Int32) → (Nat → Int32) → (Nat → px_MR) → Prop) (a1x : Int32) (q_o : Nat) (l_o : Nat) (o_reached : Int32) (g_o : Nat → Int32) (g_t : Nat → Int32) (mm : Nat → px_MR) : Prop := ∀ z6 : Int32, z6 = a1x &&& (-a1x) → ∀ z7 : Int32, z7 = a1x ^^^ z6 → a0x < cm ∧ (w249_wp a0x cm np ns pa sa pp ss (fun r13 v8 v9 v10 v11 v12 v13 => ∃ m20_21 s20_21 : Nat, 0 + m20_21 ≤ mc ∧ 0 + s20_21 ≤ ms ∧ a0x < cm ∧ (w261_wp a0x cm np ns pa sa pp ss m20_21 s20_21 (fun r20 v15 v16 v17 v18 v19 v20 => ∀ z23 : Int32, z23 = z7 ||| r20 → ∃ j32, w293_L32 a0x cm np ns pa sa pp ss mc ms post j32 a1x z6 z7 z23 0 0 v15 v16 v17 v18 v19 v20 (0 + m20_21) (0 + s20_21)) z7 (r13 &&& (z7 ^^^ (-1))) v8 v9 v10 v11 v12 v13)) q_o l_o o_reached g_o g_t mm)
set_option maxHeartbeats 8000000 in
set_option maxRecDepth 100000 in
theorem w293_met (l : Launch) (dC : Nat → ClassId) (dI : Nat → Nat → Nat) (sz : Nat) (ho : Nat) (q_t : Nat) (a0x : Nat) (cc : px_CC) (cm : Nat) (np : Nat) (ns : Nat) (hm : Nat → Nat) (pa : Nat → Nat) (sa : Nat → Nat) (pp : Nat → px_PR) (ss : Nat → px_SR) (mc : Nat) (ms : Nat) (a1x : Int32) (q_o : Nat) (l_o : Nat) (o_reached : Int32) (g_o : Nat → Int32) (g_t : Nat → Int32) (mm : Nat → px_MR) (post : Int32 → Nat → Nat → Int32 → (Nat → Int32) → (Nat → Int32) → (Nat → px_MR) → Prop) (hw : w293_wp a0x cm np ns pa sa pp ss mc ms post a1x q_o l_o o_reached g_o g_t mm) : Met l px_y293 px_s293 ({ frames := 4, cells := mc, slots := ms, locals := 90 }) (va_Pc [.ref (hm a0x), .int a1x] (fun U => U.heap.size = sz ∧ va_P (dC, dI) vwCl ([(ho, .inr (1, [.ref q_o, .ref q_t, .int o_reached])), (q_o, .inl (cc.2.1, l_o, .inl g_o)), (q_t, .inl (cc.2.1, 182, .inl g_t))] ++ px_cp cc ho cm np ns hm pa sa mm pp ss) U.heap ∧ va_K (dC, dI) vwCl [(cc.2.1, .int), (cc.2.2.2.1, .byte), (cc.2.2.2.2, .long), (cc.1, .object "MatroidDesk$Part"), (cc.2.2.1, (.array .int))] U ∧ va_D (fun _ => True) ([(ho, .inr (1, [.ref q_o, .ref q_t, .int o_reached])), (q_o, .inl (cc.2.1, l_o, .inl g_o)), (q_t, .inl (cc.2.1, 182, .inl g_t))] ++ px_cp cc ho cm np ns hm pa sa mm pp ss) ∧ px_N U)) (va_Qi (fun (r : Int32) (u : Nat × Nat × Int32 × (Nat → Int32) × (Nat → Int32) × (Nat → px_MR)) => post r u.1 u.2.1 u.2.2.1 u.2.2.2.1 u.2.2.2.2.1 u.2.2.2.2.2) (fun (u : Nat × Nat × Int32 × (Nat → Int32) × (Nat → Int32) × (Nat → px_MR)) (t : State) => va_P (dC, dI) vwCl ([(ho, .inr (1, [.ref u.1, .ref q_t, .int u.2.2.1])), (u.1, .inl (cc.2.1, u.2.1, .inl u.2.2.2.1)), (q_t, .inl (cc.2.1, 182, .inl u.2.2.2.2.1))] ++ px_cp cc ho cm np ns hm pa sa u.2.2.2.2.2 pp ss) t.heap ∧ va_K (dC, dI) vwCl [(cc.2.1, .int), (cc.2.2.2.1, .byte), (cc.2.2.2.2, .long), (cc.1, .object "MatroidDesk$Part"), (cc.2.2.1, (.array .int))] t ∧ va_D (va_A ([(ho, .inr (1, [.ref q_o, .ref q_t, .int o_reached])), (q_o, .inl (cc.2.1, l_o, .inl g_o)), (q_t, .inl (cc.2.1, 182, .inl g_t))] ++ px_cp cc ho cm np ns hm pa sa mm pp ss) sz) ([(ho, .inr (1, [.ref u.1, .ref q_t, .int u.2.2.1])), (u.1, .inl (cc.2.1, u.2.1, .inl u.2.2.2.1)), (q_t, .inl (cc.2.1, 182, .inl u.2.2.2.2.1))] ++ px_cp cc ho cm np ns hm pa sa u.2.2.2.2.2 pp ss)) (va_A ([(ho, .inr (1, [.ref q_o, .ref q_t, .int o_reached])), (q_o, .inl (cc.2.1, l_o, .inl g_o)), (q_t, .inl (cc.2.1, 182, .inl g_t))] ++ px_cp cc ho cm np ns hm pa sa mm pp ss) sz)) mc ms (va_A ([(ho, .inr (1, [.ref q_o, .ref q_t, .int o_reached])), (q_o, .inl (cc.2.1, l_o, .inl g_o)), (q_t, .inl (cc.2.1, 182, .inl g_t))] ++ px_cp cc ho cm np ns hm pa sa mm pp ss) sz) := by
  refine Met.ofW (cc := prog_3_method_17_code) (maxL := 10) (ret := (some .int)) (by decide) rfl ?_
  intro p e s m args below meth c s₁ B hml hv
  obtain ⟨rfl, hsz, hP, hK, hD0, hN⟩ := hv
  have hx := B.exec
  have hb := B.bytes
  have hr := B.returns
  have htw : ∀ w ∈ px_all, w.before _ s = true := fun w h => atoms_spec (ws := px_s293) B.pre w (List.mem_cons_of_mem _ h)
  have hown : s.vm.findClass "MatroidDesk$Matroid" = some m.cls := findClass_of_methodNamed B.named
  have hlocks := B.notSynchronized
  subst hsz
  have hD := hD0.self (sz := s.heap.size)
  generalize hAe : va_A ([(ho, .inr (1, [.ref q_o, .ref q_t, .int o_reached])), (q_o, .inl (cc.2.1, l_o, .inl g_o)), (q_t, .inl (cc.2.1, 182, .inl g_t))] ++ px_cp cc ho cm np ns hm pa sa mm pp ss) s.heap.size = A at hD ⊢
  have hA : ∀ q : Nat, s.heap.size ≤ q → A q := fun q h => by rw [← hAe]; exact Or.inr h
  have hS : va_S A s.heap s.heap [] := va_S.rf
  have hP : va_P (dC, dI) vwCl ([(ho, .inr (1, [.ref q_o, .ref q_t, .int o_reached])), (q_o, .inl (cc.2.1, l_o, .inl g_o)), (q_t, .inl (cc.2.1, 182, .inl g_t))] ++ px_cp cc ho cm np ns hm pa sa mm pp ss) s.heap := hP
  have hl := lv_entry ([.ref (hm a0x), .int a1x]) (n := 10) (Nat.le_of_ble_eq_true rfl)
  rw [lg_entry_eq]
  generalize (lg_sl ([.ref (hm a0x), .int a1x]) ++ List.replicate (10 - (lg_sl ([.ref (hm a0x), .int a1x])).length) Slot.unset).toArray = ls at hl ⊢
  have hl : lv_has ls 10 [(0, .ref (hm a0x)), (1, .int a1x)] := hl
  generalize hQ : MQ _ _ _ _ _ _ _ = Q
  have S32 : ∀ (k32 : Nat) (x1 : Int32) (x2 : Int32) (x3 : Int32) (x4 : Int32) (x5 : Int32) (x6 : Int32) (q_o : Nat) (l_o : Nat) (o_reached : Int32) (g_o : Nat → Int32) (g_t : Nat → Int32) (mm : Nat → px_MR) (kc : Nat) (ks : Nat) (H : Heap) (locs : List Loc) (ls : Array Slot), kc ≤ mc → ks ≤ ms → va_P (dC, dI) vwCl ([(ho, .inr (1, [.ref q_o, .ref q_t, .int o_reached])), (q_o, .inl (cc.2.1, l_o, .inl g_o)), (q_t, .inl (cc.2.1, 182, .inl g_t))] ++ px_cp cc ho cm np ns hm pa sa mm pp ss) H → va_D A ([(ho, .inr (1, [.ref q_o, .ref q_t, .int o_reached])), (q_o, .inl (cc.2.1, l_o, .inl g_o)), (q_t, .inl (cc.2.1, 182, .inl g_t))] ++ px_cp cc ho cm np ns hm pa sa mm pp ss) → va_S A s.heap H locs → lv_has ls 10 [(0, .ref (hm a0x)), (1, .int x1), (2, .int x2), (3, .int x3), (4, .int x4), (5, .int x5), (6, .int x6)] → w293_L32 a0x cm np ns pa sa pp ss mc ms post k32 x1 x2 x3 x4 x5 x6 q_o l_o o_reached g_o g_t mm kc ks → W p l e (headSpec px_s293 ({ frames := 4, cells := mc, slots := ms, locals := 90 })).room s m ([.ref (hm a0x), .int a1x]).toArray below meth c H locs kc ks Q (F0 m 32 ls []) := by
    intro k32
    induction k32 with
    | zero => intro x1 x2 x3 x4 x5 x6 q_o l_o o_reached g_o g_t mm kc ks H locs ls hkc hks hP hD hS hl hw; exact False.elim hw
    | succ k32 ih32 =>
      have S129 : ∀ (x1 : Int32) (x2 : Int32) (x3 : Int32) (x4 : Int32) (x5 : Int32) (x6 : Int32) (x7 : Int32) (q_o : Nat) (l_o : Nat) (o_reached : Int32) (g_o : Nat → Int32) (g_t : Nat → Int32) (mm : Nat → px_MR) (kc : Nat) (ks : Nat) (H : Heap) (locs : List Loc) (ls : Array Slot), kc ≤ mc → ks ≤ ms → va_P (dC, dI) vwCl ([(ho, .inr (1, [.ref q_o, .ref q_t, .int o_reached])), (q_o, .inl (cc.2.1, l_o, .inl g_o)), (q_t, .inl (cc.2.1, 182, .inl g_t))] ++ px_cp cc ho cm np ns hm pa sa mm pp ss) H → va_D A ([(ho, .inr (1, [.ref q_o, .ref q_t, .int o_reached])), (q_o, .inl (cc.2.1, l_o, .inl g_o)), (q_t, .inl (cc.2.1, 182, .inl g_t))] ++ px_cp cc ho cm np ns hm pa sa mm pp ss) → va_S A s.heap H locs → lv_has ls 10 [(0, .ref (hm a0x)), (1, .int x1), (2, .int x2), (3, .int x3), (4, .int x4), (5, .int x5), (6, .int x6), (7, .int x7)] → w293_L129 (w293_L32 a0x cm np ns pa sa pp ss mc ms post k32) a0x cm np ns pa sa pp ss mc ms post x1 x2 x3 x4 x5 x6 x7 q_o l_o o_reached g_o g_t mm kc ks → W p l e (headSpec px_s293 ({ frames := 4, cells := mc, slots := ms, locals := 90 })).room s m ([.ref (hm a0x), .int a1x]).toArray below meth c H locs kc ks Q (F0 m 129 ls []) := by
        intro x1 x2 x3 x4 x5 x6 x7 q_o l_o o_reached g_o g_t mm kc ks H locs ls hkc hks hP hD hS hl hw
        unfold w293_L129 at hw
        obtain ⟨z1, ez1⟩ : ∃ y : Int32, y = x6 + 1 := ⟨_, rfl⟩
        have hw := hw z1 ez1
        refine lv_iinc (v := z1) (lv' := [(6, .int z1), (0, .ref (hm a0x)), (1, .int x1), (2, .int x2), (3, .int x3), (4, .int x4), (5, .int x5), (7, .int x7)]) hx hb px_d293_129 hl (k := 6) rfl (by rw [ez1]; rfl) (by decide) rfl (fun ls hl => ?_)
        refine lv_goto (tgt := 32) hx hb px_d293_132 (by decide) ?_
        exact ih32 x1 x2 x3 x4 x5 z1 q_o l_o o_reached g_o g_t mm kc ks H locs ls hkc hks hP hD hS (lv_sub hl [1, 2, 3, 4, 5, 6, 0] rfl) hw
      have S126 : ∀ (x1 : Int32) (x2 : Int32) (x3 : Int32) (x4 : Int32) (x5 : Int32) (x6 : Int32) (x7 : Int32) (x8 : Int32) (x9 : Int32) (y0 : Int32) (y1 : Int32) (q_o : Nat) (l_o : Nat) (o_reached : Int32) (g_o : Nat → Int32) (g_t : Nat → Int32) (mm : Nat → px_MR) (kc : Nat) (ks : Nat) (H : Heap) (locs : List Loc) (ls : Array Slot), kc ≤ mc → ks ≤ ms → va_P (dC, dI) vwCl ([(ho, .inr (1, [.ref q_o, .ref q_t, .int o_reached])), (q_o, .inl (cc.2.1, l_o, .inl g_o)), (q_t, .inl (cc.2.1, 182, .inl g_t))] ++ px_cp cc ho cm np ns hm pa sa mm pp ss) H → va_D A ([(ho, .inr (1, [.ref q_o, .ref q_t, .int o_reached])), (q_o, .inl (cc.2.1, l_o, .inl g_o)), (q_t, .inl (cc.2.1, 182, .inl g_t))] ++ px_cp cc ho cm np ns hm pa sa mm pp ss) → va_S A s.heap H locs → lv_has ls 10 [(0, .ref (hm a0x)), (1, .int x1), (2, .int x2), (3, .int x3), (4, .int x4), (5, .int x5), (6, .int x6), (7, .int x7), (8, .int x8), (9, .int x9)] → w293_L126 (w293_L32 a0x cm np ns pa sa pp ss mc ms post k32) a0x cm np ns pa sa pp ss mc ms post x1 x2 x3 x4 x5 x6 x7 x8 x9 y0 y1 q_o l_o o_reached g_o g_t mm kc ks → W p l e (headSpec px_s293 ({ frames := 4, cells := mc, slots := ms, locals := 90 })).room s m ([.ref (hm a0x), .int a1x]).toArray below meth c H locs kc ks Q (F0 m 126 ls [.int y0, .int y1]) := by
        intro x1 x2 x3 x4 x5 x6 x7 x8 x9 y0 y1 q_o l_o o_reached g_o g_t mm kc ks H locs ls hkc hks hP hD hS hl hw
        unfold w293_L126 at hw
        refine lv_ior hx hb px_d293_126 ?_
        refine lv_topi (fun z2 ez2 => ?_)
        have hw := hw z2 ez2
        refine lv_istore (lv' := [(5, .int z2), (0, .ref (hm a0x)), (1, .int x1), (2, .int x2), (3, .int x3), (4, .int x4), (6, .int x6), (7, .int x7), (8, .int x8), (9, .int x9)]) hx hb px_d293_127 hl (by decide) rfl (fun ls hl => ?_)
        exact S129 x1 x2 x3 x4 z2 x6 x7 q_o l_o o_reached g_o g_t mm kc ks H locs ls hkc hks hP hD hS (lv_sub hl [1, 2, 3, 4, 5, 0, 6, 7] rfl) hw
      have S111 : ∀ (x1 : Int32) (x2 : Int32) (x3 : Int32) (x4 : Int32) (x5 : Int32) (x6 : Int32) (x7 : Int32) (x8 : Int32) (y0 : Int32) (q_o : Nat) (l_o : Nat) (o_reached : Int32) (g_o : Nat → Int32) (g_t : Nat → Int32) (mm : Nat → px_MR) (kc : Nat) (ks : Nat) (H : Heap) (locs : List Loc) (ls : Array Slot), kc ≤ mc → ks ≤ ms → va_P (dC, dI) vwCl ([(ho, .inr (1, [.ref q_o, .ref q_t, .int o_reached])), (q_o, .inl (cc.2.1, l_o, .inl g_o)), (q_t, .inl (cc.2.1, 182, .inl g_t))] ++ px_cp cc ho cm np ns hm pa sa mm pp ss) H → va_D A ([(ho, .inr (1, [.ref q_o, .ref q_t, .int o_reached])), (q_o, .inl (cc.2.1, l_o, .inl g_o)), (q_t, .inl (cc.2.1, 182, .inl g_t))] ++ px_cp cc ho cm np ns hm pa sa mm pp ss) → va_S A s.heap H locs → lv_has ls 10 [(0, .ref (hm a0x)), (1, .int x1), (2, .int x2), (3, .int x3), (4, .int x4), (5, .int x5), (6, .int x6), (7, .int x7), (8, .int x8)] → w293_L111 (w293_L32 a0x cm np ns pa sa pp ss mc ms post k32) a0x cm np ns pa sa pp ss mc ms post x1 x2 x3 x4 x5 x6 x7 x8 y0 q_o l_o o_reached g_o g_t mm kc ks → W p l e (headSpec px_s293 ({ frames := 4, cells := mc, slots := ms, locals := 90 })).room s m ([.ref (hm a0x), .int a1x]).toArray below meth c H locs kc ks Q (F0 m 111 ls [.int y0]) := by
        intro x1 x2 x3 x4 x5 x6 x7 x8 y0 q_o l_o o_reached g_o g_t mm kc ks H locs ls hkc hks hP hD hS hl hw
        unfold w293_L111 at hw
        refine lv_istore (lv' := [(9, .int y0), (0, .ref (hm a0x)), (1, .int x1), (2, .int x2), (3, .int x3), (4, .int x4), (5, .int x5), (6, .int x6), (7, .int x7), (8, .int x8)]) hx hb px_d293_111 hl (by decide) rfl (fun ls hl => ?_)
        refine lv_iload hx hb px_d293_113 (lv_at hl 6 rfl) ?_
        refine lv_iload hx hb px_d293_115 (lv_at hl 0 rfl) ?_
        refine lv_if_eq (tgt := 125) hx hb px_d293_117 (by decide) (fun c117 => ?_) (fun c117 => ?_)
        · have hw := hw.1 c117
          refine lv_iconst (v := 0) hx hb px_d293_125 (by decide) ?_
          exact S126 x1 x2 x3 x4 x5 x6 x7 x8 y0 0 x5 q_o l_o o_reached g_o g_t mm kc ks H locs ls hkc hks hP hD hS (lv_sub hl [1, 2, 3, 4, 5, 6, 7, 8, 9, 0] rfl) hw
        · have hw := hw.2 c117
          refine lv_iload hx hb px_d293_120 (lv_at hl 8 rfl) ?_
          refine lv_goto (tgt := 126) hx hb px_d293_122 (by decide) ?_
          exact S126 x1 x2 x3 x4 x5 x6 x7 x8 y0 x7 x5 q_o l_o o_reached g_o g_t mm kc ks H locs ls hkc hks hP hD hS (lv_sub hl [1, 2, 3, 4, 5, 6, 7, 8, 9, 0] rfl) hw
      intro x1 x2 x3 x4 x5 x6 q_o l_o o_reached g_o g_t mm kc ks H locs ls hkc hks hP hD hS hl hw
      unfold w293_L32 at hw
      refine lv_iload hx hb px_d293_32 (lv_at hl 6 rfl) ?_
      refine lv_aload_n hx hb px_d293_34 rfl (lv_at hl 0 rfl) ?_
      obtain ⟨hp35, hw⟩ := hw
      refine va_get (D := (dC, dI)) (ci := 10) (v := .int ((mm a0x).2.1 13)) (C := "MatroidDesk$Matroid") (T := px_T10) (N := 15) hx hb htw px_in10 hown hK hP (3 + (13 * a0x + 0)) (px_cg0 rfl hp35) rfl 13 (by decide) (htw _ px_w1264) (fun _ h9 => h9) rfl px_d293_35 ?_
      refine lv_icmp_ge (tgt := 135) hx hb px_d293_38 (by decide) (fun c38 => ?_) (fun c38 => ?_)
      · have hw := hw.1 c38
        refine lv_iload hx hb px_d293_135 (lv_at hl 5 rfl) ?_
        refine W.widen (k := mc) (n := ms) hkc hks ?_
        rw [← hQ]
        exact W.iret (v := x5) hx hb hr (fun t ht hW => ⟨⟨x5, (q_o, l_o, o_reached, g_o, g_t, mm), rfl, hw, by rw [ht]; exact hP, va_K.moved hW.alike hK, hD⟩, hS.F ht⟩) hS.2.2 px_d293_137
      · have hw := hw.2 c38
        refine lv_iload_n hx hb px_d293_41 rfl (lv_at hl 3 rfl) ?_
        refine lv_iconst (v := 1) hx hb px_d293_42 (by decide) ?_
        refine lv_iload hx hb px_d293_43 (lv_at hl 6 rfl) ?_
        refine lv_ishl hx hb px_d293_45 ?_
        refine lv_iand hx hb px_d293_46 ?_
        refine lv_topi (fun z3 ez3 => ?_)
        have hw := hw z3 ez3
        refine lv_istore (lv' := [(7, .int z3), (0, .ref (hm a0x)), (1, .int x1), (2, .int x2), (3, .int x3), (4, .int x4), (5, .int x5), (6, .int x6)]) hx hb px_d293_47 hl (by decide) rfl (fun ls hl => ?_)
        refine lv_iload hx hb px_d293_49 (lv_at hl 0 rfl) ?_
        refine lv_if_eq (tgt := 129) hx hb px_d293_51 (by decide) (fun c51 => ?_) (fun c51 => ?_)
        · have hw := hw.1 c51
          exact S129 x1 x2 x3 x4 x5 x6 z3 q_o l_o o_reached g_o g_t mm kc ks H locs ls hkc hks hP hD hS (lv_sub hl [1, 2, 3, 4, 5, 6, 7, 0] rfl) hw
        · have hw := hw.2 c51
          refine lv_aload_n hx hb px_d293_54 rfl (lv_at hl 1 rfl) ?_
          obtain ⟨hp55, hw⟩ := hw
          refine va_get (D := (dC, dI)) (ci := 10) (v := .ref ((mm a0x).1 6)) (C := "MatroidDesk$Matroid") (T := px_T10) (N := 15) hx hb htw px_in10 hown hK hP (3 + (13 * a0x + 0)) (px_cg0 rfl hp55) rfl 6 (by decide) (htw _ px_w1005) (fun _ h9 => h9) rfl px_d293_55 ?_
          refine lv_iload hx hb px_d293_58 (lv_at hl 5 rfl) ?_
          obtain ⟨hp60, hw⟩ := hw
          obtain ⟨hi60, hw⟩ := hw
          refine va_bald hx hb hK hP (3 + (13 * a0x + 6)) 1 (px_cg6 rfl hp60) rfl hi60 px_d293_60 ?_
          refine lv_aload_n hx hb px_d293_61 rfl (lv_at hl 1 rfl) ?_
          obtain ⟨hp62, hw⟩ := hw
          refine va_get (D := (dC, dI)) (ci := 10) (v := .ref ((mm a0x).1 6)) (C := "MatroidDesk$Matroid") (T := px_T10) (N := 15) hx hb htw px_in10 hown hK hP (3 + (13 * a0x + 0)) (px_cg0 rfl hp62) rfl 6 (by decide) (htw _ px_w1005) (fun _ h9 => h9) rfl px_d293_62 ?_
          refine lv_iload hx hb px_d293_65 (lv_at hl 5 rfl) ?_
          refine lv_iload hx hb px_d293_67 (lv_at hl 0 rfl) ?_
          refine lv_ixor hx hb px_d293_69 ?_
          refine lv_iload_n hx hb px_d293_70 rfl (lv_at hl 3 rfl) ?_
          refine lv_ixor hx hb px_d293_71 ?_
          obtain ⟨hp72, hw⟩ := hw
          obtain ⟨hi72, hw⟩ := hw
          refine va_bald hx hb hK hP (3 + (13 * a0x + 6)) 1 (px_cg6 rfl hp72) rfl hi72 px_d293_72 ?_
          refine lv_imul hx hb px_d293_73 ?_
          refine lv_topi (fun z4 ez4 => ?_)
          have hw := hw z4 ez4
          refine lv_istore (lv' := [(8, .int z4), (7, .int z3), (0, .ref (hm a0x)), (1, .int x1), (2, .int x2), (3, .int x3), (4, .int x4), (5, .int x5), (6, .int x6)]) hx hb px_d293_74 hl (by decide) rfl (fun ls hl => ?_)
          refine lv_iload hx hb px_d293_76 (lv_at hl 6 rfl) ?_
          refine lv_iload hx hb px_d293_78 (lv_at hl 1 rfl) ?_
          refine lv_iload_n hx hb px_d293_80 rfl (lv_at hl 4 rfl) ?_
          refine lv_ior hx hb px_d293_81 ?_
          have hPc := hP.sub (ws' := []) [] rfl
          have hDc := hD.sub (ws' := []) [] (by decide) rfl
          have hFc := va_free (wc := []) hD hS hA [] rfl
          have hKc := hK.sub (tys' := []) [] rfl
          refine va_calli (va_runSN (As := [.int x4, .int (z3 ||| x2)]) (rest := []) ⟨hx, hb, hml, hown, htw⟩ (w294_met l dC dI H.size x4 (z3 ||| x2) _ hw) ⟨(va_cnB 2 htw px_g294 rfl rfl rfl (hN.2.1 ("MatroidDesk$Matroid", 144, px_y294, "MatroidDesk") px_mm2) (htw _ px_w6) (by decide +kernel) ⟨Nat.le_of_ble_eq_true rfl, Nat.le_of_ble_eq_true rfl⟩), (htw _ px_w1477), trivial⟩ ⟨fun a U g mk q => by obtain ⟨q0, q1, qP, qK, qD, qN⟩ := q; exact ⟨q0, q1, qP, va_K.moved (u := U) (U := U.calling g mk a) (Vm.Alike.refl U.vm) qK, qD, qN.same rfl⟩, fun U hU hW => ⟨rfl, by rw [hU], by rw [hU]; exact hPc, va_K.moved hW.alike hKc, hDc.weaken (fun _ _ _ _ => trivial), hN.warm hW⟩⟩ rfl rfl hl.1 rfl (lv_room (Nat.le_of_ble_eq_true rfl)) px_d293_82 ⟨hkc, hks⟩) hS (fun q _ h => hFc q h) hFc (fun r82 u t H1 locs ht hvm hw hB hz1 hk1 hS => ?_)
          obtain ⟨hP1, hK1, hD1⟩ := hB
          rw [ht] at hP1
          obtain ⟨hP, hD⟩ := va_joinQ (wr := [(ho, .inr (1, [.ref q_o, .ref q_t, .int o_reached])), (q_o, .inl (cc.2.1, l_o, .inl g_o)), (q_t, .inl (cc.2.1, 182, .inl g_t))]) (w1 := []) hP hD [] [0, 1, 2] rfl rfl (by decide) (by decide) hk1 hFc hP1 hD1
          generalize H1 = H at hP hS ⊢
          have hP : va_P (dC, dI) vwCl ([(ho, .inr (1, [.ref q_o, .ref q_t, .int o_reached])), (q_o, .inl (cc.2.1, l_o, .inl g_o)), (q_t, .inl (cc.2.1, 182, .inl g_t))] ++ px_cp cc ho cm np ns hm pa sa mm pp ss) H := hP
          have hD : va_D A ([(ho, .inr (1, [.ref q_o, .ref q_t, .int o_reached])), (q_o, .inl (cc.2.1, l_o, .inl g_o)), (q_t, .inl (cc.2.1, 182, .inl g_t))] ++ px_cp cc ho cm np ns hm pa sa mm pp ss) := hD
          refine lv_if_eq (tgt := 101) hx hb px_d293_85 (by decide) (fun c85 => ?_) (fun c85 => ?_)
          · have hw := hw.1 c85
            refine lv_iload hx hb px_d293_101 (lv_at hl 0 rfl) ?_
            refine lv_if_le (tgt := 110) hx hb px_d293_103 (by decide) (fun c103 => ?_) (fun c103 => ?_)
            · have hw := hw.1 c103
              refine lv_iconst (v := 0) hx hb px_d293_110 (by decide) ?_
              exact S111 x1 x2 x3 x4 x5 x6 z3 z4 0 q_o l_o o_reached g_o g_t mm kc ks H locs ls hkc hks hP hD hS (lv_sub hl [2, 3, 4, 5, 6, 7, 8, 1, 0] rfl) hw
            · have hw := hw.2 c103
              refine lv_iconst (v := 1) hx hb px_d293_106 (by decide) ?_
              refine lv_goto (tgt := 111) hx hb px_d293_107 (by decide) ?_
              exact S111 x1 x2 x3 x4 x5 x6 z3 z4 1 q_o l_o o_reached g_o g_t mm kc ks H locs ls hkc hks hP hD hS (lv_sub hl [2, 3, 4, 5, 6, 7, 8, 1, 0] rfl) hw
          · have hw := hw.2 c85
            refine lv_iload hx hb px_d293_88 (lv_at hl 0 rfl) ?_
            refine lv_if_ge (tgt := 97) hx hb px_d293_90 (by decide) (fun c90 => ?_) (fun c90 => ?_)
            · have hw := hw.1 c90
              refine lv_iconst (v := 0) hx hb px_d293_97 (by decide) ?_
              refine lv_goto (tgt := 111) hx hb px_d293_98 (by decide) ?_
              exact S111 x1 x2 x3 x4 x5 x6 z3 z4 0 q_o l_o o_reached g_o g_t mm kc ks H locs ls hkc hks hP hD hS (lv_sub hl [2, 3, 4, 5, 6, 7, 8, 1, 0] rfl) hw
            · have hw := hw.2 c90
              refine lv_iconst (v := 1) hx hb px_d293_93 (by decide) ?_
              refine lv_goto (tgt := 111) hx hb px_d293_94 (by decide) ?_
              exact S111 x1 x2 x3 x4 x5 x6 z3 z4 1 q_o l_o o_reached g_o g_t mm kc ks H locs ls hkc hks hP hD hS (lv_sub hl [2, 3, 4, 5, 6, 7, 8, 1, 0] rfl) hw
  unfold w293_wp at hw
  have hS0 := hS
  obtain ⟨H, hH9⟩ : ∃ z, z = s.heap := ⟨_, rfl⟩
  have hP : va_P (dC, dI) vwCl ([(ho, .inr (1, [.ref q_o, .ref q_t, .int o_reached])), (q_o, .inl (cc.2.1, l_o, .inl g_o)), (q_t, .inl (cc.2.1, 182, .inl g_t))] ++ px_cp cc ho cm np ns hm pa sa mm pp ss) H := by rw [hH9]; exact hP
  obtain ⟨locs, hlo9⟩ : ∃ z : List Loc, z = [] := ⟨_, rfl⟩
  have hS : va_S A s.heap H locs := by rw [hH9, hlo9]; exact hS
  suffices hG : W p l e (headSpec px_s293 ({ frames := 4, cells := mc, slots := ms, locals := 90 })).room s m ([.ref (hm a0x), .int a1x]).toArray below meth c H locs 0 0 Q (F0 m 0 ls []) by rw [hH9, hlo9] at hG; exact hG
  refine lv_iload_n hx hb px_d293_0 rfl (lv_at hl 1 rfl) ?_
  refine lv_iload_n hx hb px_d293_1 rfl (lv_at hl 1 rfl) ?_
  refine lv_ineg hx hb px_d293_2 ?_
  refine lv_iand hx hb px_d293_3 ?_
  refine lv_topi (fun z6 ez6 => ?_)
  have hw := hw z6 ez6
  refine lv_istore_n (lv' := [(2, .int z6), (0, .ref (hm a0x)), (1, .int a1x)]) hx hb px_d293_4 rfl hl (by decide) rfl (fun ls hl => ?_)
  refine lv_iload_n hx hb px_d293_5 rfl (lv_at hl 2 rfl) ?_
  refine lv_iload_n hx hb px_d293_6 rfl (lv_at hl 0 rfl) ?_
  refine lv_ixor hx hb px_d293_7 ?_
  refine lv_topi (fun z7 ez7 => ?_)
  have hw := hw z7 ez7
  refine lv_istore_n (lv' := [(3, .int z7), (2, .int z6), (0, .ref (hm a0x)), (1, .int a1x)]) hx hb px_d293_8 rfl hl (by decide) rfl (fun ls hl => ?_)
  refine lv_iload_n hx hb px_d293_9 rfl (lv_at hl 0 rfl) ?_
  refine lv_aload_n hx hb px_d293_10 rfl (lv_at hl 2 rfl) ?_
  refine lv_iload_n hx hb px_d293_11 rfl (lv_at hl 0 rfl) ?_
  refine lv_aload_n hx hb px_d293_12 rfl (lv_at hl 2 rfl) ?_
  obtain ⟨hp13, hw⟩ := hw
  have hPc := hP.part (cx := [(ho, .inr (1, [.ref q_o, .ref q_t, .int o_reached])), (q_o, .inl (cc.2.1, l_o, .inl g_o)), (q_t, .inl (cc.2.1, 182, .inl g_t))]) [0, 1, 2] rfl
  have hDc := hD.part (cx := [(ho, .inr (1, [.ref q_o, .ref q_t, .int o_reached])), (q_o, .inl (cc.2.1, l_o, .inl g_o)), (q_t, .inl (cc.2.1, 182, .inl g_t))]) [0, 1, 2] (by decide) rfl
  have hFc := va_freeP (cx := [(ho, .inr (1, [.ref q_o, .ref q_t, .int o_reached])), (q_o, .inl (cc.2.1, l_o, .inl g_o)), (q_t, .inl (cc.2.1, 182, .inl g_t))]) hD hS hA [0, 1, 2] rfl
  have hKc := hK.sub (tys' := [(cc.2.1, .int), (cc.2.2.2.1, .byte), (cc.2.2.2.2, .long), (cc.1, .object "MatroidDesk$Part"), (cc.2.2.1, (.array .int))]) [0, 1, 2, 3, 4] rfl
  refine va_calli (va_runV (As := []) (rest := [.int z7, .ref (hm a0x), .int z7]) ⟨hx, hb, hml, hown, htw⟩ (w249_met l dC dI H.size ho q_t a0x cc cm np ns hm pa sa pp ss q_o l_o o_reached g_o g_t mm _ hw) (cwV 0 htw (px_gv px_w1265 px_w1287 px_w1288 px_w154 px_g249) rfl rfl rfl (by decide +kernel) ⟨Nat.le_of_ble_eq_true rfl, Nat.le_of_ble_eq_true rfl⟩) ⟨fun a U g mk q => by obtain ⟨q0, q1, qP, qK, qD, qN⟩ := q; exact ⟨q0, q1, qP, va_K.moved (u := U) (U := U.calling g mk a) (Vm.Alike.refl U.vm) qK, qD, qN.same rfl⟩, va_recv hK hP (ci := 10) (q0 := (3 + (13 * a0x + 0))) rfl (px_cg0 rfl hp13), fun U hU hW => ⟨rfl, by rw [hU], by rw [hU]; exact hPc, va_K.moved hW.alike hKc, hDc.weaken (fun _ _ _ _ => trivial), hN.warm hW⟩⟩ rfl rfl hl.1 rfl (lv_room (Nat.le_of_ble_eq_true rfl)) px_d293_13 ⟨(Nat.zero_le mc), (Nat.zero_le ms)⟩) hS (fun q _ h => hFc q h) hFc (fun r13 u t H1 locs ht hvm hw hB hz1 hk1 hS => ?_)
  obtain ⟨v8, v9, v10, v11, v12, v13⟩ := u
  obtain ⟨hP1, hK1, hD1⟩ := hB
  rw [ht] at hP1
  obtain ⟨hP, hD⟩ := va_joinP (wr := []) (rx := [(ho, .inr (1, [.ref v8, .ref q_t, .int v10])), (v8, .inl (cc.2.1, v9, .inl v11)), (q_t, .inl (cc.2.1, 182, .inl v12))]) hP hD [0, 1, 2] [] rfl rfl (by decide) (by decide) hk1 hFc hP1 hD1
  generalize H1 = H at hP hS ⊢
  have hP : va_P (dC, dI) vwCl ([(ho, .inr (1, [.ref v8, .ref q_t, .int v10])), (v8, .inl (cc.2.1, v9, .inl v11)), (q_t, .inl (cc.2.1, 182, .inl v12))] ++ px_cp cc ho cm np ns hm pa sa v13 pp ss) H := hP
  have hD : va_D A ([(ho, .inr (1, [.ref v8, .ref q_t, .int v10])), (v8, .inl (cc.2.1, v9, .inl v11)), (q_t, .inl (cc.2.1, 182, .inl v12))] ++ px_cp cc ho cm np ns hm pa sa v13 pp ss) := hD
  refine lv_iload_n hx hb px_d293_16 rfl (lv_at hl 0 rfl) ?_
  refine lv_iconst (v := (-1)) hx hb px_d293_17 (by decide) ?_
  refine lv_ixor hx hb px_d293_18 ?_
  refine lv_iand hx hb px_d293_19 ?_
  obtain ⟨m20_21, s20_21, hm20_21, hs20_21, hw⟩ := hw
  obtain ⟨hp20, hw⟩ := hw
  have hPc := hP.part (cx := [(ho, .inr (1, [.ref v8, .ref q_t, .int v10])), (v8, .inl (cc.2.1, v9, .inl v11)), (q_t, .inl (cc.2.1, 182, .inl v12))]) [0, 1, 2] rfl
  have hDc := hD.part (cx := [(ho, .inr (1, [.ref v8, .ref q_t, .int v10])), (v8, .inl (cc.2.1, v9, .inl v11)), (q_t, .inl (cc.2.1, 182, .inl v12))]) [0, 1, 2] (by decide) rfl
  have hFc := va_freeP (cx := [(ho, .inr (1, [.ref v8, .ref q_t, .int v10])), (v8, .inl (cc.2.1, v9, .inl v11)), (q_t, .inl (cc.2.1, 182, .inl v12))]) hD hS hA [0, 1, 2] rfl
  have hKc := hK.sub (tys' := [(cc.2.1, .int), (cc.2.2.2.1, .byte), (cc.2.2.2.2, .long), (cc.1, .object "MatroidDesk$Part"), (cc.2.2.1, (.array .int))]) [0, 1, 2, 3, 4] rfl
  refine va_calli (va_runV (As := [.int z7, .int (r13 &&& (z7 ^^^ (-1)))]) (rest := [.int z7]) ⟨hx, hb, hml, hown, htw⟩ (w261_met l dC dI H.size ho q_t a0x cc cm np ns hm pa sa pp ss m20_21 s20_21 z7 (r13 &&& (z7 ^^^ (-1))) v8 v9 v10 v11 v12 v13 _ hw) (cwV 2 htw (px_gv px_w1446 px_w1333 px_w1334 px_w154 px_g261) rfl rfl rfl (by decide +kernel) ⟨Nat.le_of_ble_eq_true rfl, Nat.le_of_ble_eq_true rfl⟩) ⟨fun a U g mk q => by obtain ⟨q0, q1, qP, qK, qD, qN⟩ := q; exact ⟨q0, q1, qP, va_K.moved (u := U) (U := U.calling g mk a) (Vm.Alike.refl U.vm) qK, qD, qN.same rfl⟩, va_recv hK hP (ci := 10) (q0 := (3 + (13 * a0x + 0))) rfl (px_cg0 rfl hp20), fun U hU hW => ⟨rfl, by rw [hU], by rw [hU]; exact hPc, va_K.moved hW.alike hKc, hDc.weaken (fun _ _ _ _ => trivial), hN.warm hW⟩⟩ rfl rfl hl.1 rfl (lv_room (Nat.le_of_ble_eq_true rfl)) px_d293_20 ⟨hm20_21, hs20_21⟩) hS (fun q _ h => hFc q h) hFc (fun r20 u t H1 locs ht hvm hw hB hz1 hk1 hS => ?_)
  obtain ⟨v15, v16, v17, v18, v19, v20⟩ := u
  obtain ⟨hP1, hK1, hD1⟩ := hB
  rw [ht] at hP1
  obtain ⟨hP, hD⟩ := va_joinP (wr := []) (rx := [(ho, .inr (1, [.ref v15, .ref q_t, .int v17])), (v15, .inl (cc.2.1, v16, .inl v18)), (q_t, .inl (cc.2.1, 182, .inl v19))]) hP hD [0, 1, 2] [] rfl rfl (by decide) (by decide) hk1 hFc hP1 hD1
  generalize H1 = H at hP hS ⊢
  have hP : va_P (dC, dI) vwCl ([(ho, .inr (1, [.ref v15, .ref q_t, .int v17])), (v15, .inl (cc.2.1, v16, .inl v18)), (q_t, .inl (cc.2.1, 182, .inl v19))] ++ px_cp cc ho cm np ns hm pa sa v20 pp ss) H := hP
  have hD : va_D A ([(ho, .inr (1, [.ref v15, .ref q_t, .int v17])), (v15, .inl (cc.2.1, v16, .inl v18)), (q_t, .inl (cc.2.1, 182, .inl v19))] ++ px_cp cc ho cm np ns hm pa sa v20 pp ss) := hD
  refine lv_ior hx hb px_d293_23 ?_
  refine lv_topi (fun z23 ez23 => ?_)
  have hw := hw z23 ez23
  refine lv_istore (lv' := [(4, .int z23), (3, .int z7), (2, .int z6), (0, .ref (hm a0x)), (1, .int a1x)]) hx hb px_d293_24 hl (by decide) rfl (fun ls hl => ?_)
  refine lv_iconst (v := 0) hx hb px_d293_26 (by decide) ?_
  refine lv_istore (lv' := [(5, .int 0), (4, .int z23), (3, .int z7), (2, .int z6), (0, .ref (hm a0x)), (1, .int a1x)]) hx hb px_d293_27 hl (by decide) rfl (fun ls hl => ?_)
  refine lv_iconst (v := 0) hx hb px_d293_29 (by decide) ?_
  refine lv_istore (lv' := [(6, .int 0), (5, .int 0), (4, .int z23), (3, .int z7), (2, .int z6), (0, .ref (hm a0x)), (1, .int a1x)]) hx hb px_d293_30 hl (by decide) rfl (fun ls hl => ?_)
  obtain ⟨k9, hw⟩ := hw
  exact S32 k9 a1x z6 z7 z23 0 0 v15 v16 v17 v18 v19 v20 (0 + m20_21) (0 + s20_21) H locs ls hm20_21 hs20_21 hP hD hS (lv_sub hl [5, 6, 4, 3, 2, 1, 0] rfl) hw

