/-! MatroidDesk$Matroid.chosenColumns(LMatroidDesk$Part;I)I -/
def w313_L65 (K8 : Int32 → Int32 → Int32 → Nat → Nat → Int32 → (Nat → Int32) → (Nat → Int32) → (Nat → px_MR) → Prop) (a0x : Nat) (a1x : Nat) (post : Int32 → Nat → Nat → Int32 → (Nat → Int32) → (Nat → Int32) → (Nat → px_MR) → Prop) (x2 : Int32) (x3 : Int32) (x4 : Int32) (x5 : Int32) (q_o : Nat) (l_o : Nat) (o_reached : Int32) (g_o : Nat → Int32) (g_t : Nat → Int32) (mm : Nat → px_MR) : Prop := ∀ z1 : Int32, z1 = x4 + 1 → K8 x2 x3 z1 q_o l_o o_reached g_o g_t mm
def w313_L31 (K8 : Int32 → Int32 → Int32 → Nat → Nat → Int32 → (Nat → Int32) → (Nat → Int32) → (Nat → px_MR) → Prop) (a0x : Nat) (a1x : Nat) (post : Int32 → Nat → Nat → Int32 → (Nat → Int32) → (Nat → Int32) → (Nat → px_MR) → Prop) (x2 : Int32) (x3 : Int32) (x4 : Int32) (y0 : Int32) (q_o : Nat) (l_o : Nat) (o_reached : Int32) (g_o : Nat → Int32) (g_t : Nat → Int32) (mm : Nat → px_MR) : Prop := a0x < cm ∧ (a0x < cm ∧ (vp_in x4 12 ∧ (((mm a0x).2.2.2.2.2 (Int32.toNatClampNeg x4) = none → w313_L65 K8 a0x a1x post x2 x3 x4 y0 q_o l_o o_reached g_o g_t mm) ∧ (∀ k40_2 : Nat, (mm a0x).2.2.2.2.2 (Int32.toNatClampNeg x4) = some k40_2 → k40_2 < np ∧ a1x < np ∧ ((k40_2 = a1x → a1x < np ∧ ((y0 = ((pp a1x).2.2) → w313_L65 K8 a0x a1x post x2 x3 x4 y0 q_o l_o o_reached g_o g_t mm) ∧ (¬ y0 = ((pp a1x).2.2) → a0x < cm ∧ (a0x < cm ∧ (vp_in x4 (12) ∧ (∀ z3 : Int32, z3 = x3 ||| ((1 : Int32) <<< ((((mm a0x).2.2.2.1 2) (Int32.toNatClampNeg x4)) &&& 31)) → w313_L65 K8 a0x a1x post x2 z3 x4 y0 q_o l_o o_reached g_o g_t mm)))))) ∧ (¬ k40_2 = a1x → w313_L65 K8 a0x a1x post x2 x3 x4 y0 q_o l_o o_reached g_o g_t mm))))))
def w313_L8 (a0x : Nat) (a1x : Nat) (post : Int32 → Nat → Nat → Int32 → (Nat → Int32) → (Nat → Int32) → (Nat → px_MR) → Prop) : Nat → Int32 → Int32 → Int32 → Nat → Nat → Int32 → (Nat → Int32) → (Nat → Int32) → (Nat → px_MR) → Prop
  | 0 => fun _ _ _ _ _ _ _ _ _ => False
  | k + 1 => fun x2 x3 x4 q_o l_o o_reached g_o g_t mm => a0x < cm ∧ ((((mm a0x).2.1 13) ≤ x4 → post x3 q_o l_o o_reached g_o g_t mm) ∧ (¬ ((mm a0x).2.1 13) ≤ x4 → (((x2 >>> (x4 &&& 31)) &&& 1) = 0 → w313_L31 (w313_L8 a0x a1x post k) a0x a1x post x2 x3 x4 0 q_o l_o o_reached g_o g_t mm) ∧ (¬ ((x2 >>> (x4 &&& 31)) &&& 1) = 0 → w313_L31 (w313_L8 a0x a1x post k) a0x a1x post x2 x3 x4 1 q_o l_o o_reached g_o g_t mm)))
def w313_wp (a0x : Nat) (a1x : Nat) (post : Int32 → Nat → Nat → Int32 → (Nat → Int32) → (Nat → Int32) → (Nat → px_MR) → Prop) (a2x : Int32) (q_o : Nat) (l_o : Nat) (o_reached : Int32) (g_o : Nat → Int32) (g_t : Nat → Int32) (mm : Nat → px_MR) : Prop := a1x < np ∧ (∀ z4 : Int32, z4 = (pp a1x).2.1 → ∃ j8, w313_L8 a0x a1x post j8 a2x z4 0 q_o l_o o_reached g_o g_t mm)
set_option maxHeartbeats 8000000 in
set_option maxRecDepth 100000 in
theorem w313_met (l : Launch) (dC : Nat → ClassId) (dI : Nat → Nat → Nat) (sz : Nat) (ho : Nat) (q_t : Nat) (a0x : Nat) (cc : px_CC) (cm : Nat) (np : Nat) (ns : Nat) (hm : Nat → Nat) (pa : Nat → Nat) (sa : Nat → Nat) (pp : Nat → px_PR) (ss : Nat → px_SR) (a1x : Nat) (a2x : Int32) (q_o : Nat) (l_o : Nat) (o_reached : Int32) (g_o : Nat → Int32) (g_t : Nat → Int32) (mm : Nat → px_MR) (post : Int32 → Nat → Nat → Int32 → (Nat → Int32) → (Nat → Int32) → (Nat → px_MR) → Prop) (hw : w313_wp a0x a1x post a2x q_o l_o o_reached g_o g_t mm) : Met l px_y313 px_s313 ({ frames := 0, cells := 0, slots := 0, locals := 0 }) (va_Pc [.ref (hm a0x), .ref (pa a1x), .int a2x] (fun U => U.heap.size = sz ∧ va_P (dC, dI) vwCl ([(ho, .inr (1, [.ref q_o, .ref q_t, .int o_reached])), (q_o, .inl (cc.2.1, l_o, .inl g_o)), (q_t, .inl (cc.2.1, 182, .inl g_t))] ++ px_cp cc ho cm np ns hm pa sa mm pp ss) U.heap ∧ va_K (dC, dI) vwCl [(cc.2.1, .int), (cc.2.2.2.1, .byte), (cc.2.2.2.2, .long), (cc.1, .object "MatroidDesk$Part"), (cc.2.2.1, (.array .int))] U ∧ va_D (fun _ => True) ([(ho, .inr (1, [.ref q_o, .ref q_t, .int o_reached])), (q_o, .inl (cc.2.1, l_o, .inl g_o)), (q_t, .inl (cc.2.1, 182, .inl g_t))] ++ px_cp cc ho cm np ns hm pa sa mm pp ss) ∧ px_N U)) (va_Qi (fun (r : Int32) (u : Nat × Nat × Int32 × (Nat → Int32) × (Nat → Int32) × (Nat → px_MR)) => post r u.1 u.2.1 u.2.2.1 u.2.2.2.1 u.2.2.2.2.1 u.2.2.2.2.2) (fun (u : Nat × Nat × Int32 × (Nat → Int32) × (Nat → Int32) × (Nat → px_MR)) (t : State) => va_P (dC, dI) vwCl ([(ho, .inr (1, [.ref u.1, .ref q_t, .int u.2.2.1])), (u.1, .inl (cc.2.1, u.2.1, .inl u.2.2.2.1)), (q_t, .inl (cc.2.1, 182, .inl u.2.2.2.2.1))] ++ px_cp cc ho cm np ns hm pa sa u.2.2.2.2.2 pp ss) t.heap ∧ va_K (dC, dI) vwCl [(cc.2.1, .int), (cc.2.2.2.1, .byte), (cc.2.2.2.2, .long), (cc.1, .object "MatroidDesk$Part"), (cc.2.2.1, (.array .int))] t ∧ va_D (va_A ([(ho, .inr (1, [.ref q_o, .ref q_t, .int o_reached])), (q_o, .inl (cc.2.1, l_o, .inl g_o)), (q_t, .inl (cc.2.1, 182, .inl g_t))] ++ px_cp cc ho cm np ns hm pa sa mm pp ss) sz) ([(ho, .inr (1, [.ref u.1, .ref q_t, .int u.2.2.1])), (u.1, .inl (cc.2.1, u.2.1, .inl u.2.2.2.1)), (q_t, .inl (cc.2.1, 182, .inl u.2.2.2.2.1))] ++ px_cp cc ho cm np ns hm pa sa u.2.2.2.2.2 pp ss)) (va_A ([(ho, .inr (1, [.ref q_o, .ref q_t, .int o_reached])), (q_o, .inl (cc.2.1, l_o, .inl g_o)), (q_t, .inl (cc.2.1, 182, .inl g_t))] ++ px_cp cc ho cm np ns hm pa sa mm pp ss) sz)) 0 0 (va_A ([(ho, .inr (1, [.ref q_o, .ref q_t, .int o_reached])), (q_o, .inl (cc.2.1, l_o, .inl g_o)), (q_t, .inl (cc.2.1, 182, .inl g_t))] ++ px_cp cc ho cm np ns hm pa sa mm pp ss) sz) := by
  refine Met.ofW (cc := prog_3_method_18_code) (maxL := 6) (ret := (some .int)) (by decide) rfl ?_
  intro p e s m args below meth c s₁ B hml hv
  obtain ⟨rfl, hsz, hP, hK, hD0, hN⟩ := hv
  have hx := B.exec
  have hb := B.bytes
  have hr := B.returns
  have htw : ∀ w ∈ px_all, w.before _ s = true := fun w h => atoms_spec (ws := px_s313) B.pre w (List.mem_cons_of_mem _ h)
  have hown : s.vm.findClass "MatroidDesk$Matroid" = some m.cls := findClass_of_methodNamed B.named
  have hlocks := B.notSynchronized
  subst hsz
  have hD := hD0.self (sz := s.heap.size)
  generalize hAe : va_A ([(ho, .inr (1, [.ref q_o, .ref q_t, .int o_reached])), (q_o, .inl (cc.2.1, l_o, .inl g_o)), (q_t, .inl (cc.2.1, 182, .inl g_t))] ++ px_cp cc ho cm np ns hm pa sa mm pp ss) s.heap.size = A at hD ⊢
  have hA : ∀ q : Nat, s.heap.size ≤ q → A q := fun q h => by rw [← hAe]; exact Or.inr h
  have hS : va_S A s.heap s.heap [] := va_S.rf
  have hP : va_P (dC, dI) vwCl ([(ho, .inr (1, [.ref q_o, .ref q_t, .int o_reached])), (q_o, .inl (cc.2.1, l_o, .inl g_o)), (q_t, .inl (cc.2.1, 182, .inl g_t))] ++ px_cp cc ho cm np ns hm pa sa mm pp ss) s.heap := hP
  have hl := lv_entry ([.ref (hm a0x), .ref (pa a1x), .int a2x]) (n := 6) (Nat.le_of_ble_eq_true rfl)
  rw [lg_entry_eq]
  generalize (lg_sl ([.ref (hm a0x), .ref (pa a1x), .int a2x]) ++ List.replicate (6 - (lg_sl ([.ref (hm a0x), .ref (pa a1x), .int a2x])).length) Slot.unset).toArray = ls at hl ⊢
  have hl : lv_has ls 6 [(0, .ref (hm a0x)), (1, .ref (pa a1x)), (2, .int a2x)] := hl
  generalize hQ : MQ _ _ _ _ _ _ _ = Q
  have S8 : ∀ (k8 : Nat) (x2 : Int32) (x3 : Int32) (x4 : Int32) (q_o : Nat) (l_o : Nat) (o_reached : Int32) (g_o : Nat → Int32) (g_t : Nat → Int32) (mm : Nat → px_MR) (H : Heap) (locs : List Loc) (ls : Array Slot), va_P (dC, dI) vwCl ([(ho, .inr (1, [.ref q_o, .ref q_t, .int o_reached])), (q_o, .inl (cc.2.1, l_o, .inl g_o)), (q_t, .inl (cc.2.1, 182, .inl g_t))] ++ px_cp cc ho cm np ns hm pa sa mm pp ss) H → va_D A ([(ho, .inr (1, [.ref q_o, .ref q_t, .int o_reached])), (q_o, .inl (cc.2.1, l_o, .inl g_o)), (q_t, .inl (cc.2.1, 182, .inl g_t))] ++ px_cp cc ho cm np ns hm pa sa mm pp ss) → va_S A s.heap H locs → lv_has ls 6 [(0, .ref (hm a0x)), (1, .ref (pa a1x)), (2, .int x2), (3, .int x3), (4, .int x4)] → w313_L8 a0x a1x post k8 x2 x3 x4 q_o l_o o_reached g_o g_t mm → W p l e (headSpec px_s313 ({ frames := 0, cells := 0, slots := 0, locals := 0 })).room s m ([.ref (hm a0x), .ref (pa a1x), .int a2x]).toArray below meth c H locs 0 0 Q (F0 m 8 ls []) := by
    intro k8
    induction k8 with
    | zero => intro x2 x3 x4 q_o l_o o_reached g_o g_t mm H locs ls hP hD hS hl hw; exact False.elim hw
    | succ k8 ih8 =>
      have S65 : ∀ (x2 : Int32) (x3 : Int32) (x4 : Int32) (x5 : Int32) (q_o : Nat) (l_o : Nat) (o_reached : Int32) (g_o : Nat → Int32) (g_t : Nat → Int32) (mm : Nat → px_MR) (H : Heap) (locs : List Loc) (ls : Array Slot), va_P (dC, dI) vwCl ([(ho, .inr (1, [.ref q_o, .ref q_t, .int o_reached])), (q_o, .inl (cc.2.1, l_o, .inl g_o)), (q_t, .inl (cc.2.1, 182, .inl g_t))] ++ px_cp cc ho cm np ns hm pa sa mm pp ss) H → va_D A ([(ho, .inr (1, [.ref q_o, .ref q_t, .int o_reached])), (q_o, .inl (cc.2.1, l_o, .inl g_o)), (q_t, .inl (cc.2.1, 182, .inl g_t))] ++ px_cp cc ho cm np ns hm pa sa mm pp ss) → va_S A s.heap H locs → lv_has ls 6 [(0, .ref (hm a0x)), (1, .ref (pa a1x)), (2, .int x2), (3, .int x3), (4, .int x4), (5, .int x5)] → w313_L65 (w313_L8 a0x a1x post k8) a0x a1x post x2 x3 x4 x5 q_o l_o o_reached g_o g_t mm → W p l e (headSpec px_s313 ({ frames := 0, cells := 0, slots := 0, locals := 0 })).room s m ([.ref (hm a0x), .ref (pa a1x), .int a2x]).toArray below meth c H locs 0 0 Q (F0 m 65 ls []) := by
        intro x2 x3 x4 x5 q_o l_o o_reached g_o g_t mm H locs ls hP hD hS hl hw
        unfold w313_L65 at hw
        obtain ⟨z1, ez1⟩ : ∃ y : Int32, y = x4 + 1 := ⟨_, rfl⟩
        have hw := hw z1 ez1
        refine lv_iinc (v := z1) (lv' := [(4, .int z1), (0, .ref (hm a0x)), (1, .ref (pa a1x)), (2, .int x2), (3, .int x3), (5, .int x5)]) hx hb px_d313_65 hl (k := 4) rfl (by rw [ez1]; rfl) (by decide) rfl (fun ls hl => ?_)
        refine lv_goto (tgt := 8) hx hb px_d313_68 (by decide) ?_
        exact ih8 x2 x3 z1 q_o l_o o_reached g_o g_t mm H locs ls hP hD hS (lv_sub hl [1, 2, 3, 4, 0] rfl) hw
      have S31 : ∀ (x2 : Int32) (x3 : Int32) (x4 : Int32) (y0 : Int32) (q_o : Nat) (l_o : Nat) (o_reached : Int32) (g_o : Nat → Int32) (g_t : Nat → Int32) (mm : Nat → px_MR) (H : Heap) (locs : List Loc) (ls : Array Slot), va_P (dC, dI) vwCl ([(ho, .inr (1, [.ref q_o, .ref q_t, .int o_reached])), (q_o, .inl (cc.2.1, l_o, .inl g_o)), (q_t, .inl (cc.2.1, 182, .inl g_t))] ++ px_cp cc ho cm np ns hm pa sa mm pp ss) H → va_D A ([(ho, .inr (1, [.ref q_o, .ref q_t, .int o_reached])), (q_o, .inl (cc.2.1, l_o, .inl g_o)), (q_t, .inl (cc.2.1, 182, .inl g_t))] ++ px_cp cc ho cm np ns hm pa sa mm pp ss) → va_S A s.heap H locs → lv_has ls 6 [(0, .ref (hm a0x)), (1, .ref (pa a1x)), (2, .int x2), (3, .int x3), (4, .int x4)] → w313_L31 (w313_L8 a0x a1x post k8) a0x a1x post x2 x3 x4 y0 q_o l_o o_reached g_o g_t mm → W p l e (headSpec px_s313 ({ frames := 0, cells := 0, slots := 0, locals := 0 })).room s m ([.ref (hm a0x), .ref (pa a1x), .int a2x]).toArray below meth c H locs 0 0 Q (F0 m 31 ls [.int y0]) := by
        intro x2 x3 x4 y0 q_o l_o o_reached g_o g_t mm H locs ls hP hD hS hl hw
        unfold w313_L31 at hw
        refine lv_istore (lv' := [(5, .int y0), (0, .ref (hm a0x)), (1, .ref (pa a1x)), (2, .int x2), (3, .int x3), (4, .int x4)]) hx hb px_d313_31 hl (by decide) rfl (fun ls hl => ?_)
        refine lv_aload_n hx hb px_d313_33 rfl (lv_at hl 1 rfl) ?_
        obtain ⟨hp34, hw⟩ := hw
        refine va_get (D := (dC, dI)) (ci := 10) (v := .ref ((mm a0x).1 1)) (C := "MatroidDesk$Matroid") (T := px_T10) (N := 15) hx hb htw px_in10 hown hK hP (3 + (13 * a0x + 0)) (px_cg0 rfl hp34) rfl 1 (by decide) (htw _ px_w1000) (fun _ h9 => h9) rfl px_d313_34 ?_
        refine lv_iload hx hb px_d313_37 (lv_at hl 5 rfl) ?_
        obtain ⟨hp39, hw⟩ := hw
        obtain ⟨hi39, hw⟩ := hw
        refine va_aldq hx hb hK hP (3 + (13 * a0x + 1)) 3 (px_cg1 rfl hp39) rfl hi39 px_d313_39 ?_
        refine W.eq (g2 := F0 m 40 ls (va_rf (Option.map pa ((mm a0x).2.2.2.2.2 (Int32.toNatClampNeg x4))) :: [])) rfl ?_
        cases hz40_2 : (mm a0x).2.2.2.2.2 (Int32.toNatClampNeg x4) with
        | none =>
          have hw := hw.1 hz40_2
          refine W.eq (g2 := F0 m 40 ls (.null :: [])) rfl ?_
          refine lv_aload_n hx hb px_d313_40 rfl (lv_at hl 2 rfl) ?_
          refine lv_acmp_ne (rx := none) (ry := some (pa a1x)) (tgt := 65) hx hb px_d313_41 (by decide) (fun _ => ?_) (fun h9 => absurd h9 (by simp))
          exact S65 x2 x3 x4 y0 q_o l_o o_reached g_o g_t mm H locs ls hP hD hS (lv_sub hl [1, 2, 3, 4, 5, 0] rfl) hw
        | some k40_2 =>
          have hw := hw.2 k40_2 hz40_2
          refine W.eq (g2 := F0 m 40 ls (.ref (pa k40_2) :: [])) rfl ?_
          refine lv_aload_n hx hb px_d313_40 rfl (lv_at hl 2 rfl) ?_
          obtain ⟨hpp41, hw⟩ := hw
          obtain ⟨hqq41, hw⟩ := hw
          refine lv_acmp_ne (rx := some (pa k40_2)) (ry := some (pa a1x)) (tgt := 65) hx hb px_d313_41 (by decide) (fun c41 => ?_) (fun c41 => ?_)
          · have hw := hw.2 (fun z => c41 (congrArg (fun k => some (pa k)) z))
            exact S65 x2 x3 x4 y0 q_o l_o o_reached g_o g_t mm H locs ls hP hD hS (lv_sub hl [1, 2, 3, 4, 5, 0] rfl) hw
          · have hw := hw.1 (px_painj hD hpp41 hqq41 (Option.some.inj c41))
            refine lv_iload hx hb px_d313_44 (lv_at hl 0 rfl) ?_
            refine lv_aload_n hx hb px_d313_46 rfl (lv_at hl 2 rfl) ?_
            obtain ⟨hpp47, hw⟩ := hw
            refine va_getN (D := (dC, dI)) (ci := 11) (v := .int ((pp a1x).2.2)) (C := "MatroidDesk$Part") (T := px_T11) (N := 3) hx hb htw px_in11 hown hK hP (3 + (13 * cm + a1x)) (px_gp rfl hpp47) rfl 2 (by decide) (va_Nw.use (w := .fieldLinkNest "MatroidDesk$Matroid" 150 "MatroidDesk$Part" "turned" "Z" "MatroidDesk") rfl (hN.1 ("MatroidDesk$Matroid", 150, "MatroidDesk$Part", "turned", "Z", "MatroidDesk") px_nf24)) (fun _ h9 => h9) rfl px_d313_47 ?_
            refine lv_icmp_eq (tgt := 65) hx hb px_d313_50 (by decide) (fun c50 => ?_) (fun c50 => ?_)
            · have hw := hw.1 c50
              exact S65 x2 x3 x4 y0 q_o l_o o_reached g_o g_t mm H locs ls hP hD hS (lv_sub hl [1, 2, 3, 4, 5, 0] rfl) hw
            · have hw := hw.2 c50
              refine lv_iload_n hx hb px_d313_53 rfl (lv_at hl 4 rfl) ?_
              refine lv_iconst (v := 1) hx hb px_d313_54 (by decide) ?_
              refine lv_aload_n hx hb px_d313_55 rfl (lv_at hl 1 rfl) ?_
              obtain ⟨hp56, hw⟩ := hw
              refine va_get (D := (dC, dI)) (ci := 10) (v := .ref ((mm a0x).1 2)) (C := "MatroidDesk$Matroid") (T := px_T10) (N := 15) hx hb htw px_in10 hown hK hP (3 + (13 * a0x + 0)) (px_cg0 rfl hp56) rfl 2 (by decide) (htw _ px_w1001) (fun _ h9 => h9) rfl px_d313_56 ?_
              refine lv_iload hx hb px_d313_59 (lv_at hl 5 rfl) ?_
              obtain ⟨hp61, hw⟩ := hw
              obtain ⟨hi61, hw⟩ := hw
              refine va_iald hx hb hK hP (3 + (13 * a0x + 2)) 0 (px_cg2 rfl hp61) rfl hi61 px_d313_61 ?_
              refine lv_ishl hx hb px_d313_62 ?_
              refine lv_ior hx hb px_d313_63 ?_
              refine lv_topi (fun z3 ez3 => ?_)
              have hw := hw z3 ez3
              refine lv_istore_n (lv' := [(3, .int z3), (5, .int y0), (0, .ref (hm a0x)), (1, .ref (pa a1x)), (2, .int x2), (4, .int x4)]) hx hb px_d313_64 rfl hl (by decide) rfl (fun ls hl => ?_)
              exact S65 x2 z3 x4 y0 q_o l_o o_reached g_o g_t mm H locs ls hP hD hS (lv_sub hl [2, 3, 4, 0, 5, 1] rfl) hw
      intro x2 x3 x4 q_o l_o o_reached g_o g_t mm H locs ls hP hD hS hl hw
      unfold w313_L8 at hw
      refine lv_iload hx hb px_d313_8 (lv_at hl 4 rfl) ?_
      refine lv_aload_n hx hb px_d313_10 rfl (lv_at hl 0 rfl) ?_
      obtain ⟨hp11, hw⟩ := hw
      refine va_get (D := (dC, dI)) (ci := 10) (v := .int ((mm a0x).2.1 13)) (C := "MatroidDesk$Matroid") (T := px_T10) (N := 15) hx hb htw px_in10 hown hK hP (3 + (13 * a0x + 0)) (px_cg0 rfl hp11) rfl 13 (by decide) (htw _ px_w1264) (fun _ h9 => h9) rfl px_d313_11 ?_
      refine lv_icmp_ge (tgt := 71) hx hb px_d313_14 (by decide) (fun c14 => ?_) (fun c14 => ?_)
      · have hw := hw.1 c14
        refine lv_iload_n hx hb px_d313_71 rfl (lv_at hl 3 rfl) ?_
        rw [← hQ]
        exact W.iret (v := x3) hx hb hr (fun t ht hW => ⟨⟨x3, (q_o, l_o, o_reached, g_o, g_t, mm), rfl, hw, by rw [ht]; exact hP, va_K.moved hW.alike hK, hD⟩, hS.F ht⟩) hS.2.2 px_d313_72
      · have hw := hw.2 c14
        refine lv_iload_n hx hb px_d313_17 rfl (lv_at hl 2 rfl) ?_
        refine lv_iload hx hb px_d313_18 (lv_at hl 4 rfl) ?_
        refine lv_ishr hx hb px_d313_20 ?_
        refine lv_iconst (v := 1) hx hb px_d313_21 (by decide) ?_
        refine lv_iand hx hb px_d313_22 ?_
        refine lv_if_eq (tgt := 30) hx hb px_d313_23 (by decide) (fun c23 => ?_) (fun c23 => ?_)
        · have hw := hw.1 c23
          refine lv_iconst (v := 0) hx hb px_d313_30 (by decide) ?_
          exact S31 x2 x3 x4 0 q_o l_o o_reached g_o g_t mm H locs ls hP hD hS (lv_sub hl [0, 1, 2, 3, 4] rfl) hw
        · have hw := hw.2 c23
          refine lv_iconst (v := 1) hx hb px_d313_26 (by decide) ?_
          refine lv_goto (tgt := 31) hx hb px_d313_27 (by decide) ?_
          exact S31 x2 x3 x4 1 q_o l_o o_reached g_o g_t mm H locs ls hP hD hS (lv_sub hl [0, 1, 2, 3, 4] rfl) hw
  unfold w313_wp at hw
  have hS0 := hS
  obtain ⟨H, hH9⟩ : ∃ z, z = s.heap := ⟨_, rfl⟩
  have hP : va_P (dC, dI) vwCl ([(ho, .inr (1, [.ref q_o, .ref q_t, .int o_reached])), (q_o, .inl (cc.2.1, l_o, .inl g_o)), (q_t, .inl (cc.2.1, 182, .inl g_t))] ++ px_cp cc ho cm np ns hm pa sa mm pp ss) H := by rw [hH9]; exact hP
  obtain ⟨locs, hlo9⟩ : ∃ z : List Loc, z = [] := ⟨_, rfl⟩
  have hS : va_S A s.heap H locs := by rw [hH9, hlo9]; exact hS
  suffices hG : W p l e (headSpec px_s313 ({ frames := 0, cells := 0, slots := 0, locals := 0 })).room s m ([.ref (hm a0x), .ref (pa a1x), .int a2x]).toArray below meth c H locs 0 0 Q (F0 m 0 ls []) by rw [hH9, hlo9] at hG; exact hG
  refine lv_aload_n hx hb px_d313_0 rfl (lv_at hl 1 rfl) ?_
  obtain ⟨hpp1, hw⟩ := hw
  refine va_getN (D := (dC, dI)) (ci := 11) (v := .int ((pp a1x).2.1)) (C := "MatroidDesk$Part") (T := px_T11) (N := 3) hx hb htw px_in11 hown hK hP (3 + (13 * cm + a1x)) (px_gp rfl hpp1) rfl 1 (by decide) (va_Nw.use (w := .fieldLinkNest "MatroidDesk$Matroid" 147 "MatroidDesk$Part" "held" "I" "MatroidDesk") rfl (hN.1 ("MatroidDesk$Matroid", 147, "MatroidDesk$Part", "held", "I", "MatroidDesk") px_nf23)) (fun _ h9 => h9) rfl px_d313_1 ?_
  refine lv_topi (fun z4 ez4 => ?_)
  have hw := hw z4 ez4
  refine lv_istore_n (lv' := [(3, .int z4), (0, .ref (hm a0x)), (1, .ref (pa a1x)), (2, .int a2x)]) hx hb px_d313_4 rfl hl (by decide) rfl (fun ls hl => ?_)
  refine lv_iconst (v := 0) hx hb px_d313_5 (by decide) ?_
  refine lv_istore (lv' := [(4, .int 0), (3, .int z4), (0, .ref (hm a0x)), (1, .ref (pa a1x)), (2, .int a2x)]) hx hb px_d313_6 hl (by decide) rfl (fun ls hl => ?_)
  obtain ⟨k9, hw⟩ := hw
  exact S8 k9 a2x z4 0 q_o l_o o_reached g_o g_t mm H locs ls hP hD hS (lv_sub hl [2, 3, 4, 1, 0] rfl) hw

