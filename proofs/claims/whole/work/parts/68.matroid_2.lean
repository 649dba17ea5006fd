/-! MatroidDesk$Matroid.workOutPolynomial()V -/
def w281_L106 (a0x : Nat) (cm : Nat) (np : Nat) (ns : Nat) (pa : Nat → Nat) (sa : Nat → Nat) (pp : Nat → px_PR) (ss : Nat → px_SR) (mc : Nat) (ms : Nat) (post : Nat → Nat → Int32 → (Nat → Int32) → (Nat → Int32) → (Nat → px_MR) → Prop) : Nat → Int32 → Nat → Nat → Int32 → (Nat → Int32) → (Nat → Int32) → (Nat → px_MR) → Nat → Nat → Prop
  | 0 => fun _ _ _ _ _ _ _ _ _ => False
  | k + 1 => fun x1 q_o l_o o_reached g_o g_t mm kc ks => a0x < cm ∧ ((((mm a0x).2.1 14) < x1 → a0x < cm ∧ ((∀ mm1 : Nat → px_MR, mm1 = va_up mm a0x ((mm a0x).1, va_up (mm a0x).2.1 10 1, (mm a0x).2.2) → (post q_o l_o o_reached g_o g_t mm1)))) ∧ (¬ ((mm a0x).2.1 14) < x1 → a0x < cm ∧ (a0x < cm ∧ (a0x < cm ∧ (w283_wp a0x cm np ns pa sa pp ss (fun v2 v3 v4 v5 v6 v7 => ∀ z9 : Int32, z9 = x1 + 1 → (w281_L106 a0x cm np ns pa sa pp ss mc ms post k) z9 v2 v3 v4 v5 v6 v7 kc ks) (x1 * 13) 1 (((mm a0x).2.1 13) - ((mm a0x).2.1 14)) q_o l_o o_reached g_o g_t mm)))))
def w281_L74 (a0x : Nat) (cm : Nat) (np : Nat) (ns : Nat) (pa : Nat → Nat) (sa : Nat → Nat) (pp : Nat → px_PR) (ss : Nat → px_SR) (mc : Nat) (ms : Nat) (post : Nat → Nat → Int32 → (Nat → Int32) → (Nat → Int32) → (Nat → px_MR) → Prop) : Nat → Int32 → Nat → Nat → Int32 → (Nat → Int32) → (Nat → Int32) → (Nat → px_MR) → Nat → Nat → Prop
  | 0 => fun _ _ _ _ _ _ _ _ _ => False
  | k + 1 => fun x1 q_o l_o o_reached g_o g_t mm kc ks => a0x < cm ∧ (a0x < cm ∧ (((((mm a0x).2.1 13) - ((mm a0x).2.1 14)) < x1 → ∃ j106, w281_L106 a0x cm np ns pa sa pp ss mc ms post j106 0 q_o l_o o_reached g_o g_t mm kc ks) ∧ (¬ (((mm a0x).2.1 13) - ((mm a0x).2.1 14)) < x1 → a0x < cm ∧ (a0x < cm ∧ (w283_wp a0x cm np ns pa sa pp ss (fun v10 v11 v12 v13 v14 v15 => ∀ z17 : Int32, z17 = x1 + 1 → (w281_L74 a0x cm np ns pa sa pp ss mc ms post k) z17 v10 v11 v12 v13 v14 v15 kc ks) x1 13 ((mm a0x).2.1 14) q_o l_o o_reached g_o g_t mm)))))
def w281_L27 (a0x : Nat) (cm : Nat) (np : Nat) (ns : Nat) (pa : Nat → Nat) (sa : Nat → Nat) (pp : Nat → px_PR) (ss : Nat → px_SR) (mc : Nat) (ms : Nat) (post : Nat → Nat → Int32 → (Nat → Int32) → (Nat → Int32) → (Nat → px_MR) → Prop) : Nat → Int32 → Nat → Nat → Int32 → (Nat → Int32) → (Nat → Int32) → (Nat → px_MR) → Nat → Nat → Prop
  | 0 => fun _ _ _ _ _ _ _ _ _ => False
  | k + 1 => fun x1 q_o l_o o_reached g_o g_t mm kc ks => a0x < cm ∧ (w249_wp a0x cm np ns pa sa pp ss (fun r29 v18 v19 v20 v21 v22 v23 => (r29 < x1 → ∃ j74, w281_L74 a0x cm np ns pa sa pp ss mc ms post j74 0 v18 v19 v20 v21 v22 v23 kc ks) ∧ (¬ r29 < x1 → ∃ m37_31 s37_31 : Nat, kc + m37_31 ≤ mc ∧ ks + s37_31 ≤ ms ∧ a0x < cm ∧ (w262_wp a0x cm np ns pa sa pp ss m37_31 s37_31 (fun r37 v25 v26 v27 v28 v29 v30 => a0x < cm ∧ (a0x < cm ∧ ((w250_wp (fun r55  => a0x < cm ∧ (vp_in ((((((v30 a0x).2.1 14) - r37) * 13) + r55) - r37) ((v30 a0x).2.2.1 8) ∧ (∀ z34 : Int64, z34 = (((v30 a0x).2.2.2.2.1) (Int32.toNatClampNeg ((((((v30 a0x).2.1 14) - r37) * 13) + r55) - r37))) + 1 → a0x < cm ∧ (vp_in ((((((v30 a0x).2.1 14) - r37) * 13) + r55) - r37) ((v30 a0x).2.2.1 8) ∧ (∀ mm35 : Nat → px_MR, mm35 = va_up v30 a0x ((v30 a0x).1, (v30 a0x).2.1, (v30 a0x).2.2.1, (v30 a0x).2.2.2.1, vp_updL (v30 a0x).2.2.2.2.1 (Int32.toNatClampNeg ((((((v30 a0x).2.1 14) - r37) * 13) + r55) - r37)) z34, (v30 a0x).2.2.2.2.2) → (∀ z36 : Int32, z36 = x1 + 1 → (w281_L27 a0x cm np ns pa sa pp ss mc ms post k) z36 v25 v26 v27 v28 v29 mm35 (kc + m37_31) (ks + s37_31))))))) x1)))) x1 v18 v19 v20 v21 v22 v23))) q_o l_o o_reached g_o g_t mm)
def w281_L17 (a0x : Nat) (cm : Nat) (np : Nat) (ns : Nat) (pa : Nat → Nat) (sa : Nat → Nat) (pp : Nat → px_PR) (ss : Nat → px_SR) (mc : Nat) (ms : Nat) (post : Nat → Nat → Int32 → (Nat → Int32) → (Nat → Int32) → (Nat → px_MR) → Prop) (q_o : Nat) (l_o : Nat) (o_reached : Int32) (g_o : Nat → Int32) (g_t : Nat → Int32) (mm : Nat → px_MR) (kc : Nat) (ks : Nat) : Prop := a0x < cm ∧ (a0x < cm ∧ (w282_wp ((mm a0x).2.2.1 8) (fun v37 => ∀ mm38 : Nat → px_MR, mm38 = va_up mm a0x ((mm a0x).1, (mm a0x).2.1, (mm a0x).2.2.1, (mm a0x).2.2.2.1, v37, (mm a0x).2.2.2.2.2) → (∃ j27, w281_L27 a0x cm np ns pa sa pp ss mc ms post j27 0 q_o l_o o_reached g_o g_t mm38 kc ks)) 0 ((mm a0x).2.2.2.2.1)))
def w281_wp (a0x : Nat) (cm : Nat) (np : Nat) (ns : Nat) (pa : Nat → Nat) (sa : Nat → Nat) (pp : Nat → px_PR) (ss : Nat → px_SR) (mc : Nat) (ms : Nat) (post : Nat → Nat → Int32 → (Nat → Int32) → (Nat → Int32) → (Nat → px_MR) → Prop) (q_o : Nat) (l_o : Nat) (o_reached : Int32) (g_o : Nat → Int32) (g_t : Nat → Int32) (mm : Nat → px_MR) : Prop := a0x < cm ∧ (a0x < cm ∧ ((¬ (nI ((mm a0x).2.2.1 8)) = 0 → w281_L17 a0x cm np ns pa sa pp ss mc ms post q_o l_o o_reached g_o g_t mm 0 0) ∧ ((nI ((mm a0x).2.2.1 8)) = 0 → 0 + 1 ≤ mc ∧ 0 + 169 ≤ ms ∧ (∀ q12_40 : Nat, (a0x < cm ∧ ((∀ mm41 : Nat → px_MR, mm41 = va_up mm a0x (va_up (mm a0x).1 8 q12_40, (mm a0x).2.1, va_up (mm a0x).2.2.1 8 169, (mm a0x).2.2.2.1, (fun _ => 0), (mm a0x).2.2.2.2.2) → (w281_L17 a0x cm np ns pa sa pp ss mc ms post q_o l_o o_reached g_o g_t mm41 (0 + 1) (0 + 169)))))))))
set_option maxHeartbeats 8000000 in
set_option maxRecDepth 100000 in
theorem w281_met (l : Launch) (dC : Nat → ClassId) (dI : Nat → Nat → Nat) (sz : Nat) (ho : Nat) (q_t : Nat) (a0x : Nat) (cc : px_CC) (cm : Nat) (np : Nat) (ns : Nat) (hm : Nat → Nat) (pa : Nat → Nat) (sa : Nat → Nat) (pp : Nat → px_PR) (ss : Nat → px_SR) (mc : Nat) (ms : Nat) (q_o : Nat) (l_o : Nat) (o_reached : Int32) (g_o : Nat → Int32) (g_t : Nat → Int32) (mm : Nat → px_MR) (post : Nat → Nat → Int32 → (Nat → Int32) → (Nat → Int32) → (Nat → px_MR) → Prop) (hw : w281_wp a0x cm np ns pa sa pp ss mc ms post q_o l_o o_reached g_o g_t mm) : Met l px_y281 px_s281 ({ frames := 3, cells := mc, slots := ms, locals := 65 }) (va_Pc [.ref (hm a0x)] (fun U => U.heap.size = sz ∧ va_P (dC, dI) vwCl (([(ho, .inr (1, [.ref q_o, .ref q_t, .int o_reached])), (q_o, .inl (cc.2.1, l_o, .inl g_o)), (q_t, .inl (cc.2.1, 182, .inl g_t))] : va_W) ++ px_cp cc ho cm np ns hm pa sa mm pp ss) U.heap ∧ va_K (dC, dI) vwCl [(cc.2.1, .int), (cc.2.2.2.1, .byte), (cc.2.2.2.2, .long), (cc.1, .object "MatroidDesk$Part"), (cc.2.2.1, (.array .int))] U ∧ va_D (fun _ => True) (([(ho, .inr (1, [.ref q_o, .ref q_t, .int o_reached])), (q_o, .inl (cc.2.1, l_o, .inl g_o)), (q_t, .inl (cc.2.1, 182, .inl g_t))] : va_W) ++ px_cp cc ho cm np ns hm pa sa mm pp ss) ∧ px_N U)) (va_Qv (fun (u : Nat × Nat × Int32 × (Nat → Int32) × (Nat → Int32) × (Nat → px_MR)) => post u.1 u.2.1 u.2.2.1 u.2.2.2.1 u.2.2.2.2.1 u.2.2.2.2.2) (fun (u : Nat × Nat × Int32 × (Nat → Int32) × (Nat → Int32) × (Nat → px_MR)) (t : State) => va_P (dC, dI) vwCl (([(ho, .inr (1, [.ref u.1, .ref q_t, .int u.2.2.1])), (u.1, .inl (cc.2.1, u.2.1, .inl u.2.2.2.1)), (q_t, .inl (cc.2.1, 182, .inl u.2.2.2.2.1))] : va_W) ++ px_cp cc ho cm np ns hm pa sa u.2.2.2.2.2 pp ss) t.heap ∧ va_K (dC, dI) vwCl [(cc.2.1, .int), (cc.2.2.2.1, .byte), (cc.2.2.2.2, .long), (cc.1, .object "MatroidDesk$Part"), (cc.2.2.1, (.array .int))] t ∧ va_D (va_A (([(ho, .inr (1, [.ref q_o, .ref q_t, .int o_reached])), (q_o, .inl (cc.2.1, l_o, .inl g_o)), (q_t, .inl (cc.2.1, 182, .inl g_t))] : va_W) ++ px_cp cc ho cm np ns hm pa sa mm pp ss) sz) (([(ho, .inr (1, [.ref u.1, .ref q_t, .int u.2.2.1])), (u.1, .inl (cc.2.1, u.2.1, .inl u.2.2.2.1)), (q_t, .inl (cc.2.1, 182, .inl u.2.2.2.2.1))] : va_W) ++ px_cp cc ho cm np ns hm pa sa u.2.2.2.2.2 pp ss)) (va_A (([(ho, .inr (1, [.ref q_o, .ref q_t, .int o_reached])), (q_o, .inl (cc.2.1, l_o, .inl g_o)), (q_t, .inl (cc.2.1, 182, .inl g_t))] : va_W) ++ px_cp cc ho cm np ns hm pa sa mm pp ss) sz)) mc ms (va_A (([(ho, .inr (1, [.ref q_o, .ref q_t, .int o_reached])), (q_o, .inl (cc.2.1, l_o, .inl g_o)), (q_t, .inl (cc.2.1, 182, .inl g_t))] : va_W) ++ px_cp cc ho cm np ns hm pa sa mm pp ss) sz) := by
  refine Met.ofW (cc := prog_3_method_29_code) (maxL := 3) (ret := none) (by decide) rfl ?_
  intro p e s m args below meth c s₁ B hml hv
  obtain ⟨rfl, hsz, hP, hK, hD0, hN⟩ := hv
  have hx := B.exec
  have hb := B.bytes
  have hr := B.returns
  have htw : ∀ w ∈ px_all, w.before _ s = true := fun w h => atoms_spec (ws := px_s281) B.pre w (List.mem_cons_of_mem _ h)
  have hown : s.vm.findClass "MatroidDesk$Matroid" = some m.cls := findClass_of_methodNamed B.named
  have hlocks := B.notSynchronized
  subst hsz
  have hD := hD0.self (sz := s.heap.size)
  generalize hAe : va_A (([(ho, .inr (1, [.ref q_o, .ref q_t, .int o_reached])), (q_o, .inl (cc.2.1, l_o, .inl g_o)), (q_t, .inl (cc.2.1, 182, .inl g_t))] : va_W) ++ px_cp cc ho cm np ns hm pa sa mm pp ss) s.heap.size = A at hD ⊢
  have hA : ∀ q : Nat, s.heap.size ≤ q → A q := fun q h => by rw [← hAe]; exact Or.inr h
  have hS : va_S A s.heap s.heap [] := va_S.rf
  have hP : va_P (dC, dI) vwCl (([(ho, .inr (1, [.ref q_o, .ref q_t, .int o_reached])), (q_o, .inl (cc.2.1, l_o, .inl g_o)), (q_t, .inl (cc.2.1, 182, .inl g_t))] : va_W) ++ px_cp cc ho cm np ns hm pa sa mm pp ss) s.heap := hP
  have hl := lv_entry ([.ref (hm a0x)]) (n := 3) (Nat.le_of_ble_eq_true rfl)
  rw [lg_entry_eq]
  generalize (lg_sl ([.ref (hm a0x)]) ++ List.replicate (3 - (lg_sl ([.ref (hm a0x)])).length) Slot.unset).toArray = ls at hl ⊢
  have hl : lv_has ls 3 [(0, .ref (hm a0x))] := hl
  generalize hQ : MQ _ _ _ _ _ _ _ = Q
  have S106 : ∀ (k106 : Nat) (x1 : Int32) (q_o : Nat) (l_o : Nat) (o_reached : Int32) (g_o : Nat → Int32) (g_t : Nat → Int32) (mm : Nat → px_MR) (kc : Nat) (ks : Nat) (H : Heap) (locs : List Loc) (ls : Array Slot), kc ≤ mc → ks ≤ ms → va_P (dC, dI) vwCl (([(ho, .inr (1, [.ref q_o, .ref q_t, .int o_reached])), (q_o, .inl (cc.2.1, l_o, .inl g_o)), (q_t, .inl (cc.2.1, 182, .inl g_t))] : va_W) ++ px_cp cc ho cm np ns hm pa sa mm pp ss) H → va_D A (([(ho, .inr (1, [.ref q_o, .ref q_t, .int o_reached])), (q_o, .inl (cc.2.1, l_o, .inl g_o)), (q_t, .inl (cc.2.1, 182, .inl g_t))] : va_W) ++ px_cp cc ho cm np ns hm pa sa mm pp ss) → va_S A s.heap H locs → lv_has ls 3 [(0, .ref (hm a0x)), (1, .int x1)] → w281_L106 a0x cm np ns pa sa pp ss mc ms post k106 x1 q_o l_o o_reached g_o g_t mm kc ks → W p l e (headSpec px_s281 ({ frames := 3, cells := mc, slots := ms, locals := 65 })).room s m ([.ref (hm a0x)]).toArray below meth c H locs kc ks Q (F0 m 106 ls []) := by
    intro k106
    induction k106 with
    | zero => intro x1 q_o l_o o_reached g_o g_t mm kc ks H locs ls hkc hks hP hD hS hl hw; exact False.elim hw
    | succ k106 ih106 =>
      intro x1 q_o l_o o_reached g_o g_t mm kc ks H locs ls hkc hks hP hD hS hl hw
      unfold w281_L106 at hw
      refine lv_iload_n hx hb px_d281_106 rfl (lv_at hl 1 rfl) ?_
      refine lv_aload_n hx hb px_d281_107 rfl (lv_at hl 0 rfl) ?_
      obtain ⟨hp108, hw⟩ := hw
      refine va_get (D := (dC, dI)) (ci := 10) (v := .int ((mm a0x).2.1 14)) (C := "MatroidDesk$Matroid") (T := px_T10) (N := 15) hx hb htw px_in10 hown hK hP (3 + (13 * a0x + 0)) (px_cg0 rfl hp108) rfl 14 (by decide) (htw _ px_w1267) (fun _ h9 => h9) rfl px_d281_108 ?_
      refine lv_icmp_gt (tgt := 138) hx hb px_d281_111 (by decide) (fun c111 => ?_) (fun c111 => ?_)
      · have hw := hw.1 c111
        refine lv_aload_n hx hb px_d281_138 rfl (lv_at hl 0 rfl) ?_
        refine lv_iconst (v := 1) hx hb px_d281_139 (by decide) ?_
        obtain ⟨hp140, hw⟩ := hw
        obtain ⟨mm1, emm1⟩ : ∃ z : Nat → px_MR, z = va_up mm a0x ((mm a0x).1, va_up (mm a0x).2.1 10 1, (mm a0x).2.2) := ⟨_, rfl⟩
        refine va_put (D := (dC, dI)) (ci := 10) (v := .int 1) (ty := .boolean) (C := "MatroidDesk$Matroid") (T := px_T10) (N := 15) hx hb htw px_in10 px_ty10 px_tyok10 px_nm10 hown hK hP hD hS (3 + (13 * a0x + 0)) (px_cg0 rfl hp140) rfl 10 (by decide) (htw _ px_w1275) (fun _ h9 => h9) rfl (by decide +kernel) (by decide +kernel) (by decide +kernel) (Nat.le_of_ble_eq_true rfl) px_d281_140 (fun H locs hP hD hS => ?_)
        have hP : va_P (dC, dI) vwCl (([(ho, .inr (1, [.ref q_o, .ref q_t, .int o_reached])), (q_o, .inl (cc.2.1, l_o, .inl g_o)), (q_t, .inl (cc.2.1, 182, .inl g_t))] : va_W) ++ px_cp cc ho cm np ns hm pa sa mm1 pp ss) H := px_csP rfl hp140 (by decide) rfl (px_hrI _ _ _) emm1 hP
        have hD : va_D A (([(ho, .inr (1, [.ref q_o, .ref q_t, .int o_reached])), (q_o, .inl (cc.2.1, l_o, .inl g_o)), (q_t, .inl (cc.2.1, 182, .inl g_t))] : va_W) ++ px_cp cc ho cm np ns hm pa sa mm1 pp ss) := px_csD rfl hp140 (by decide) rfl (px_hrI _ _ _) emm1 hD
        have hw := hw mm1 emm1
        refine W.widen (k := mc) (n := ms) hkc hks ?_
        rw [← hQ]
        exact W.vret hx hb hr (fun t ht hW => ⟨⟨(q_o, l_o, o_reached, g_o, g_t, mm1), rfl, hw, by rw [ht]; exact hP, va_K.moved hW.alike hK, hD⟩, hS.F ht⟩) hS.2.2 px_d281_143
      · have hw := hw.2 c111
        refine lv_aload_n hx hb px_d281_114 rfl (lv_at hl 0 rfl) ?_
        refine lv_iload_n hx hb px_d281_115 rfl (lv_at hl 1 rfl) ?_
        refine lv_bipush (v := 13) hx hb px_d281_116 (by decide) ?_
        refine lv_imul hx hb px_d281_118 ?_
        refine lv_iconst (v := 1) hx hb px_d281_119 (by decide) ?_
        refine lv_aload_n hx hb px_d281_120 rfl (lv_at hl 0 rfl) ?_
        obtain ⟨hp121, hw⟩ := hw
        refine va_get (D := (dC, dI)) (ci := 10) (v := .int ((mm a0x).2.1 13)) (C := "MatroidDesk$Matroid") (T := px_T10) (N := 15) hx hb htw px_in10 hown hK hP (3 + (13 * a0x + 0)) (px_cg0 rfl hp121) rfl 13 (by decide) (htw _ px_w1264) (fun _ h9 => h9) rfl px_d281_121 ?_
        refine lv_aload_n hx hb px_d281_124 rfl (lv_at hl 0 rfl) ?_
        obtain ⟨hp125, hw⟩ := hw
        refine va_get (D := (dC, dI)) (ci := 10) (v := .int ((mm a0x).2.1 14)) (C := "MatroidDesk$Matroid") (T := px_T10) (N := 15) hx hb htw px_in10 hown hK hP (3 + (13 * a0x + 0)) (px_cg0 rfl hp125) rfl 14 (by decide) (htw _ px_w1267) (fun _ h9 => h9) rfl px_d281_125 ?_
        refine lv_isub hx hb px_d281_128 ?_
        obtain ⟨hp129, hw⟩ := hw
        have hPc := hP.part (cx := [(ho, .inr (1, [.ref q_o, .ref q_t, .int o_reached])), (q_o, .inl (cc.2.1, l_o, .inl g_o)), (q_t, .inl (cc.2.1, 182, .inl g_t))]) [0, 1, 2] rfl
        have hDc := hD.part (cx := [(ho, .inr (1, [.ref q_o, .ref q_t, .int o_reached])), (q_o, .inl (cc.2.1, l_o, .inl g_o)), (q_t, .inl (cc.2.1, 182, .inl g_t))]) [0, 1, 2] (by decide) rfl
        have hFc := va_freeP (cx := [(ho, .inr (1, [.ref q_o, .ref q_t, .int o_reached])), (q_o, .inl (cc.2.1, l_o, .inl g_o)), (q_t, .inl (cc.2.1, 182, .inl g_t))]) hD hS hA [0, 1, 2] rfl
        have hKc := hK.sub (tys' := [(cc.2.1, .int), (cc.2.2.2.1, .byte), (cc.2.2.2.2, .long), (cc.1, .object "MatroidDesk$Part"), (cc.2.2.1, (.array .int))]) [0, 1, 2, 3, 4] rfl
        refine va_callv (va_runV (As := [.int (x1 * 13), .int 1, .int (((mm a0x).2.1 13) - ((mm a0x).2.1 14))]) (rest := []) ⟨hx, hb, hml, hown, htw⟩ (w283_met l dC dI H.size ho q_t a0x cc cm np ns hm pa sa pp ss (x1 * 13) 1 (((mm a0x).2.1 13) - ((mm a0x).2.1 14)) q_o l_o o_reached g_o g_t mm _ hw) (cwV 3 htw (px_gv px_w1430 px_w1434 px_w1435 px_w154 px_g283) rfl rfl rfl (by decide +kernel) ⟨Nat.le_of_ble_eq_true rfl, Nat.le_of_ble_eq_true rfl⟩) ⟨fun a U g mk q => by obtain ⟨q0, q1, qP, qK, qD, qN⟩ := q; exact ⟨q0, q1, qP, va_K.moved (u := U) (U := U.calling g mk a) (Vm.Alike.refl U.vm) qK, qD, qN.same rfl⟩, va_recv hK hP (ci := 10) (q0 := (3 + (13 * a0x + 0))) rfl (px_cg0 rfl hp129), fun U hU hW => ⟨rfl, by rw [hU], by rw [hU]; exact hPc, va_K.moved hW.alike hKc, hDc.weaken (fun _ _ _ _ => trivial), hN.warm hW⟩⟩ rfl rfl hl.1 rfl (lv_room (Nat.le_of_ble_eq_true rfl)) px_d281_129 ⟨hkc, hks⟩) hS (fun q _ h => hFc q h) hFc (fun u t H1 locs ht hvm hw hB hz1 hk1 hS => ?_)
        obtain ⟨v2, v3, v4, v5, v6, v7⟩ := u
        obtain ⟨hP1, hK1, hD1⟩ := hB
        rw [ht] at hP1
        obtain ⟨hP, hD⟩ := va_joinP (wr := []) (rx := [(ho, .inr (1, [.ref v2, .ref q_t, .int v4])), (v2, .inl (cc.2.1, v3, .inl v5)), (q_t, .inl (cc.2.1, 182, .inl v6))]) hP hD [0, 1, 2] [] rfl rfl (by decide) (by decide) hk1 hFc hP1 hD1
        generalize H1 = H at hP hS ⊢
        have hP : va_P (dC, dI) vwCl (([(ho, .inr (1, [.ref v2, .ref q_t, .int v4])), (v2, .inl (cc.2.1, v3, .inl v5)), (q_t, .inl (cc.2.1, 182, .inl v6))] : va_W) ++ px_cp cc ho cm np ns hm pa sa v7 pp ss) H := hP
        have hD : va_D A (([(ho, .inr (1, [.ref v2, .ref q_t, .int v4])), (v2, .inl (cc.2.1, v3, .inl v5)), (q_t, .inl (cc.2.1, 182, .inl v6))] : va_W) ++ px_cp cc ho cm np ns hm pa sa v7 pp ss) := hD
        obtain ⟨z9, ez9⟩ : ∃ y : Int32, y = x1 + 1 := ⟨_, rfl⟩
        have hw := hw z9 ez9
        refine lv_iinc (v := z9) (lv' := [(1, .int z9), (0, .ref (hm a0x))]) hx hb px_d281_132 hl (k := 1) rfl (by rw [ez9]; rfl) (by decide) rfl (fun ls hl => ?_)
        refine lv_goto (tgt := 106) hx hb px_d281_135 (by decide) ?_
        exact ih106 z9 v2 v3 v4 v5 v6 v7 kc ks H locs ls hkc hks hP hD hS (lv_sub hl [1, 0] rfl) hw
  have S74 : ∀ (k74 : Nat) (x1 : Int32) (q_o : Nat) (l_o : Nat) (o_reached : Int32) (g_o : Nat → Int32) (g_t : Nat → Int32) (mm : Nat → px_MR) (kc : Nat) (ks : Nat) (H : Heap) (locs : List Loc) (ls : Array Slot), kc ≤ mc → ks ≤ ms → va_P (dC, dI) vwCl (([(ho, .inr (1, [.ref q_o, .ref q_t, .int o_reached])), (q_o, .inl (cc.2.1, l_o, .inl g_o)), (q_t, .inl (cc.2.1, 182, .inl g_t))] : va_W) ++ px_cp cc ho cm np ns hm pa sa mm pp ss) H → va_D A (([(ho, .inr (1, [.ref q_o, .ref q_t, .int o_reached])), (q_o, .inl (cc.2.1, l_o, .inl g_o)), (q_t, .inl (cc.2.1, 182, .inl g_t))] : va_W) ++ px_cp cc ho cm np ns hm pa sa mm pp ss) → va_S A s.heap H locs → lv_has ls 3 [(0, .ref (hm a0x)), (1, .int x1)] → w281_L74 a0x cm np ns pa sa pp ss mc ms post k74 x1 q_o l_o o_reached g_o g_t mm kc ks → W p l e (headSpec px_s281 ({ frames := 3, cells := mc, slots := ms, locals := 65 })).room s m ([.ref (hm a0x)]).toArray below meth c H locs kc ks Q (F0 m 74 ls []) := by
    intro k74
    induction k74 with
    | zero => intro x1 q_o l_o o_reached g_o g_t mm kc ks H locs ls hkc hks hP hD hS hl hw; exact False.elim hw
    | succ k74 ih74 =>
      intro x1 q_o l_o o_reached g_o g_t mm kc ks H locs ls hkc hks hP hD hS hl hw
      unfold w281_L74 at hw
      refine lv_iload_n hx hb px_d281_74 rfl (lv_at hl 1 rfl) ?_
      refine lv_aload_n hx hb px_d281_75 rfl (lv_at hl 0 rfl) ?_
      obtain ⟨hp76, hw⟩ := hw
      refine va_get (D := (dC, dI)) (ci := 10) (v := .int ((mm a0x).2.1 13)) (C := "MatroidDesk$Matroid") (T := px_T10) (N := 15) hx hb htw px_in10 hown hK hP (3 + (13 * a0x + 0)) (px_cg0 rfl hp76) rfl 13 (by decide) (htw _ px_w1264) (fun _ h9 => h9) rfl px_d281_76 ?_
      refine lv_aload_n hx hb px_d281_79 rfl (lv_at hl 0 rfl) ?_
      obtain ⟨hp80, hw⟩ := hw
      refine va_get (D := (dC, dI)) (ci := 10) (v := .int ((mm a0x).2.1 14)) (C := "MatroidDesk$Matroid") (T := px_T10) (N := 15) hx hb htw px_in10 hown hK hP (3 + (13 * a0x + 0)) (px_cg0 rfl hp80) rfl 14 (by decide) (htw _ px_w1267) (fun _ h9 => h9) rfl px_d281_80 ?_
      refine lv_isub hx hb px_d281_83 ?_
      refine lv_icmp_gt (tgt := 104) hx hb px_d281_84 (by decide) (fun c84 => ?_) (fun c84 => ?_)
      · have hw := hw.1 c84
        refine lv_iconst (v := 0) hx hb px_d281_104 (by decide) ?_
        refine lv_istore_n (lv' := [(1, .int 0), (0, .ref (hm a0x))]) hx hb px_d281_105 rfl hl (by decide) rfl (fun ls hl => ?_)
        obtain ⟨k9, hw⟩ := hw
        exact S106 k9 0 q_o l_o o_reached g_o g_t mm kc ks H locs ls hkc hks hP hD hS (lv_sub hl [1, 0] rfl) hw
      · have hw := hw.2 c84
        refine lv_aload_n hx hb px_d281_87 rfl (lv_at hl 0 rfl) ?_
        refine lv_iload_n hx hb px_d281_88 rfl (lv_at hl 1 rfl) ?_
        refine lv_bipush (v := 13) hx hb px_d281_89 (by decide) ?_
        refine lv_aload_n hx hb px_d281_91 rfl (lv_at hl 0 rfl) ?_
        obtain ⟨hp92, hw⟩ := hw
        refine va_get (D := (dC, dI)) (ci := 10) (v := .int ((mm a0x).2.1 14)) (C := "MatroidDesk$Matroid") (T := px_T10) (N := 15) hx hb htw px_in10 hown hK hP (3 + (13 * a0x + 0)) (px_cg0 rfl hp92) rfl 14 (by decide) (htw _ px_w1267) (fun _ h9 => h9) rfl px_d281_92 ?_
        obtain ⟨hp95, hw⟩ := hw
        have hPc := hP.part (cx := [(ho, .inr (1, [.ref q_o, .ref q_t, .int o_reached])), (q_o, .inl (cc.2.1, l_o, .inl g_o)), (q_t, .inl (cc.2.1, 182, .inl g_t))]) [0, 1, 2] rfl
        have hDc := hD.part (cx := [(ho, .inr (1, [.ref q_o, .ref q_t, .int o_reached])), (q_o, .inl (cc.2.1, l_o, .inl g_o)), (q_t, .inl (cc.2.1, 182, .inl g_t))]) [0, 1, 2] (by decide) rfl
        have hFc := va_freeP (cx := [(ho, .inr (1, [.ref q_o, .ref q_t, .int o_reached])), (q_o, .inl (cc.2.1, l_o, .inl g_o)), (q_t, .inl (cc.2.1, 182, .inl g_t))]) hD hS hA [0, 1, 2] rfl
        have hKc := hK.sub (tys' := [(cc.2.1, .int), (cc.2.2.2.1, .byte), (cc.2.2.2.2, .long), (cc.1, .object "MatroidDesk$Part"), (cc.2.2.1, (.array .int))]) [0, 1, 2, 3, 4] rfl
        refine va_callv (va_runV (As := [.int x1, .int 13, .int ((mm a0x).2.1 14)]) (rest := []) ⟨hx, hb, hml, hown, htw⟩ (w283_met l dC dI H.size ho q_t a0x cc cm np ns hm pa sa pp ss x1 13 ((mm a0x).2.1 14) q_o l_o o_reached g_o g_t mm _ hw) (cwV 3 htw (px_gv px_w1430 px_w1434 px_w1435 px_w154 px_g283) rfl rfl rfl (by decide +kernel) ⟨Nat.le_of_ble_eq_true rfl, Nat.le_of_ble_eq_true rfl⟩) ⟨fun a U g mk q => by obtain ⟨q0, q1, qP, qK, qD, qN⟩ := q; exact ⟨q0, q1, qP, va_K.moved (u := U) (U := U.calling g mk a) (Vm.Alike.refl U.vm) qK, qD, qN.same rfl⟩, va_recv hK hP (ci := 10) (q0 := (3 + (13 * a0x + 0))) rfl (px_cg0 rfl hp95), fun U hU hW => ⟨rfl, by rw [hU], by rw [hU]; exact hPc, va_K.moved hW.alike hKc, hDc.weaken (fun _ _ _ _ => trivial), hN.warm hW⟩⟩ rfl rfl hl.1 rfl (lv_room (Nat.le_of_ble_eq_true rfl)) px_d281_95 ⟨hkc, hks⟩) hS (fun q _ h => hFc q h) hFc (fun u t H1 locs ht hvm hw hB hz1 hk1 hS => ?_)
        obtain ⟨v10, v11, v12, v13, v14, v15⟩ := u
        obtain ⟨hP1, hK1, hD1⟩ := hB
        rw [ht] at hP1
        obtain ⟨hP, hD⟩ := va_joinP (wr := []) (rx := [(ho, .inr (1, [.ref v10, .ref q_t, .int v12])), (v10, .inl (cc.2.1, v11, .inl v13)), (q_t, .inl (cc.2.1, 182, .inl v14))]) hP hD [0, 1, 2] [] rfl rfl (by decide) (by decide) hk1 hFc hP1 hD1
        generalize H1 = H at hP hS ⊢
        have hP : va_P (dC, dI) vwCl (([(ho, .inr (1, [.ref v10, .ref q_t, .int v12])), (v10, .inl (cc.2.1, v11, .inl v13)), (q_t, .inl (cc.2.1, 182, .inl v14))] : va_W) ++ px_cp cc ho cm np ns hm pa sa v15 pp ss) H := hP
        have hD : va_D A (([(ho, .inr (1, [.ref v10, .ref q_t, .int v12])), (v10, .inl (cc.2.1, v11, .inl v13)), (q_t, .inl (cc.2.1, 182, .inl v14))] : va_W) ++ px_cp cc ho cm np ns hm pa sa v15 pp ss) := hD
        obtain ⟨z17, ez17⟩ : ∃ y : Int32, y = x1 + 1 := ⟨_, rfl⟩
        have hw := hw z17 ez17
        refine lv_iinc (v := z17) (lv' := [(1, .int z17), (0, .ref (hm a0x))]) hx hb px_d281_98 hl (k := 1) rfl (by rw [ez17]; rfl) (by decide) rfl (fun ls hl => ?_)
        refine lv_goto (tgt := 74) hx hb px_d281_101 (by decide) ?_
        exact ih74 z17 v10 v11 v12 v13 v14 v15 kc ks H locs ls hkc hks hP hD hS (lv_sub hl [1, 0] rfl) hw
  have S27 : ∀ (k27 : Nat) (x1 : Int32) (q_o : Nat) (l_o : Nat) (o_reached : Int32) (g_o : Nat → Int32) (g_t : Nat → Int32) (mm : Nat → px_MR) (kc : Nat) (ks : Nat) (H : Heap) (locs : List Loc) (ls : Array Slot), kc ≤ mc → ks ≤ ms → va_P (dC, dI) vwCl (([(ho, .inr (1, [.ref q_o, .ref q_t, .int o_reached])), (q_o, .inl (cc.2.1, l_o, .inl g_o)), (q_t, .inl (cc.2.1, 182, .inl g_t))] : va_W) ++ px_cp cc ho cm np ns hm pa sa mm pp ss) H → va_D A (([(ho, .inr (1, [.ref q_o, .ref q_t, .int o_reached])), (q_o, .inl (cc.2.1, l_o, .inl g_o)), (q_t, .inl (cc.2.1, 182, .inl g_t))] : va_W) ++ px_cp cc ho cm np ns hm pa sa mm pp ss) → va_S A s.heap H locs → lv_has ls 3 [(0, .ref (hm a0x)), (1, .int x1)] → w281_L27 a0x cm np ns pa sa pp ss mc ms post k27 x1 q_o l_o o_reached g_o g_t mm kc ks → W p l e (headSpec px_s281 ({ frames := 3, cells := mc, slots := ms, locals := 65 })).room s m ([.ref (hm a0x)]).toArray below meth c H locs kc ks Q (F0 m 27 ls []) := by
    intro k27
    induction k27 with
    | zero => intro x1 q_o l_o o_reached g_o g_t mm kc ks H locs ls hkc hks hP hD hS hl hw; exact False.elim hw
    | succ k27 ih27 =>
      intro x1 q_o l_o o_reached g_o g_t mm kc ks H locs ls hkc hks hP hD hS hl hw
      unfold w281_L27 at hw
      refine lv_iload_n hx hb px_d281_27 rfl (lv_at hl 1 rfl) ?_
      refine lv_aload_n hx hb px_d281_28 rfl (lv_at hl 0 rfl) ?_
      obtain ⟨hp29, hw⟩ := hw
      have hPc := hP.part (cx := [(ho, .inr (1, [.ref q_o, .ref q_t, .int o_reached])), (q_o, .inl (cc.2.1, l_o, .inl g_o)), (q_t, .inl (cc.2.1, 182, .inl g_t))]) [0, 1, 2] rfl
      have hDc := hD.part (cx := [(ho, .inr (1, [.ref q_o, .ref q_t, .int o_reached])), (q_o, .inl (cc.2.1, l_o, .inl g_o)), (q_t, .inl (cc.2.1, 182, .inl g_t))]) [0, 1, 2] (by decide) rfl
      have hFc := va_freeP (cx := [(ho, .inr (1, [.ref q_o, .ref q_t, .int o_reached])), (q_o, .inl (cc.2.1, l_o, .inl g_o)), (q_t, .inl (cc.2.1, 182, .inl g_t))]) hD hS hA [0, 1, 2] rfl
      have hKc := hK.sub (tys' := [(cc.2.1, .int), (cc.2.2.2.1, .byte), (cc.2.2.2.2, .long), (cc.1, .object "MatroidDesk$Part"), (cc.2.2.1, (.array .int))]) [0, 1, 2, 3, 4] rfl
      refine va_calli (va_runV (As := []) (rest := [.int x1]) ⟨hx, hb, hml, hown, htw⟩ (w249_met l dC dI H.size ho q_t a0x cc cm np ns hm pa sa pp ss q_o l_o o_reached g_o g_t mm _ hw) (cwV 0 htw (px_gv px_w1265 px_w1287 px_w1288 px_w154 px_g249) rfl rfl rfl (by decide +kernel) ⟨Nat.le_of_ble_eq_true rfl, Nat.le_of_ble_eq_true rfl⟩) ⟨fun a U g mk q => by obtain ⟨q0, q1, qP, qK, qD, qN⟩ := q; exact ⟨q0, q1, qP, va_K.moved (u := U) (U := U.calling g mk a) (Vm.Alike.refl U.vm) qK, qD, qN.same rfl⟩, va_recv hK hP (ci := 10) (q0 := (3 + (13 * a0x + 0))) rfl (px_cg0 rfl hp29), fun U hU hW => ⟨rfl, by rw [hU], by rw [hU]; exact hPc, va_K.moved hW.alike hKc, hDc.weaken (fun _ _ _ _ => trivial), hN.warm hW⟩⟩ rfl rfl hl.1 rfl (lv_room (Nat.le_of_ble_eq_true rfl)) px_d281_29 ⟨hkc, hks⟩) hS (fun q _ h => hFc q h) hFc (fun r29 u t H1 locs ht hvm hw hB hz1 hk1 hS => ?_)
      obtain ⟨v18, v19, v20, v21, v22, v23⟩ := u
      obtain ⟨hP1, hK1, hD1⟩ := hB
      rw [ht] at hP1
      obtain ⟨hP, hD⟩ := va_joinP (wr := []) (rx := [(ho, .inr (1, [.ref v18, .ref q_t, .int v20])), (v18, .inl (cc.2.1, v19, .inl v21)), (q_t, .inl (cc.2.1, 182, .inl v22))]) hP hD [0, 1, 2] [] rfl rfl (by decide) (by decide) hk1 hFc hP1 hD1
      generalize H1 = H at hP hS ⊢
      have hP : va_P (dC, dI) vwCl (([(ho, .inr (1, [.ref v18, .ref q_t, .int v20])), (v18, .inl (cc.2.1, v19, .inl v21)), (q_t, .inl (cc.2.1, 182, .inl v22))] : va_W) ++ px_cp cc ho cm np ns hm pa sa v23 pp ss) H := hP
      have hD : va_D A (([(ho, .inr (1, [.ref v18, .ref q_t, .int v20])), (v18, .inl (cc.2.1, v19, .inl v21)), (q_t, .inl (cc.2.1, 182, .inl v22))] : va_W) ++ px_cp cc ho cm np ns hm pa sa v23 pp ss) := hD
      refine lv_icmp_gt (tgt := 72) hx hb px_d281_32 (by decide) (fun c32 => ?_) (fun c32 => ?_)
      · have hw := hw.1 c32
        refine lv_iconst (v := 0) hx hb px_d281_72 (by decide) ?_
        refine lv_istore_n (lv' := [(1, .int 0), (0, .ref (hm a0x))]) hx hb px_d281_73 rfl hl (by decide) rfl (fun ls hl => ?_)
        obtain ⟨k9, hw⟩ := hw
        exact S74 k9 0 v18 v19 v20 v21 v22 v23 kc ks H locs ls hkc hks hP hD hS (lv_sub hl [1, 0] rfl) hw
      · have hw := hw.2 c32
        refine lv_aload_n hx hb px_d281_35 rfl (lv_at hl 0 rfl) ?_
        refine lv_iload_n hx hb px_d281_36 rfl (lv_at hl 1 rfl) ?_
        obtain ⟨m37_31, s37_31, hm37_31, hs37_31, hw⟩ := hw
        obtain ⟨hp37, hw⟩ := hw
        have hPc := hP.part (cx := [(ho, .inr (1, [.ref v18, .ref q_t, .int v20])), (v18, .inl (cc.2.1, v19, .inl v21)), (q_t, .inl (cc.2.1, 182, .inl v22))]) [0, 1, 2] rfl
        have hDc := hD.part (cx := [(ho, .inr (1, [.ref v18, .ref q_t, .int v20])), (v18, .inl (cc.2.1, v19, .inl v21)), (q_t, .inl (cc.2.1, 182, .inl v22))]) [0, 1, 2] (by decide) rfl
        have hFc := va_freeP (cx := [(ho, .inr (1, [.ref v18, .ref q_t, .int v20])), (v18, .inl (cc.2.1, v19, .inl v21)), (q_t, .inl (cc.2.1, 182, .inl v22))]) hD hS hA [0, 1, 2] rfl
        have hKc := hK.sub (tys' := [(cc.2.1, .int), (cc.2.2.2.1, .byte), (cc.2.2.2.2, .long), (cc.1, .object "MatroidDesk$Part"), (cc.2.2.1, (.array .int))]) [0, 1, 2, 3, 4] rfl
        refine va_calli (va_runV (As := [.int x1]) (rest := []) ⟨hx, hb, hml, hown, htw⟩ (w262_met l dC dI H.size ho q_t a0x cc cm np ns hm pa sa pp ss m37_31 s37_31 x1 v18 v19 v20 v21 v22 v23 _ hw) (cwV 1 htw (px_gv px_w1335 px_w1337 px_w1338 px_w154 px_g262) rfl rfl rfl (by decide +kernel) ⟨Nat.le_of_ble_eq_true rfl, Nat.le_of_ble_eq_true rfl⟩) ⟨fun a U g mk q => by obtain ⟨q0, q1, qP, qK, qD, qN⟩ := q; exact ⟨q0, q1, qP, va_K.moved (u := U) (U := U.calling g mk a) (Vm.Alike.refl U.vm) qK, qD, qN.same rfl⟩, va_recv hK hP (ci := 10) (q0 := (3 + (13 * a0x + 0))) rfl (px_cg0 rfl hp37), fun U hU hW => ⟨rfl, by rw [hU], by rw [hU]; exact hPc, va_K.moved hW.alike hKc, hDc.weaken (fun _ _ _ _ => trivial), hN.warm hW⟩⟩ rfl rfl hl.1 rfl (lv_room (Nat.le_of_ble_eq_true rfl)) px_d281_37 ⟨hm37_31, hs37_31⟩) hS (fun q _ h => hFc q h) hFc (fun r37 u t H1 locs ht hvm hw hB hz1 hk1 hS => ?_)
        obtain ⟨v25, v26, v27, v28, v29, v30⟩ := u
        obtain ⟨hP1, hK1, hD1⟩ := hB
        rw [ht] at hP1
        obtain ⟨hP, hD⟩ := va_joinP (wr := []) (rx := [(ho, .inr (1, [.ref v25, .ref q_t, .int v27])), (v25, .inl (cc.2.1, v26, .inl v28)), (q_t, .inl (cc.2.1, 182, .inl v29))]) hP hD [0, 1, 2] [] rfl rfl (by decide) (by decide) hk1 hFc hP1 hD1
        generalize H1 = H at hP hS ⊢
        have hP : va_P (dC, dI) vwCl (([(ho, .inr (1, [.ref v25, .ref q_t, .int v27])), (v25, .inl (cc.2.1, v26, .inl v28)), (q_t, .inl (cc.2.1, 182, .inl v29))] : va_W) ++ px_cp cc ho cm np ns hm pa sa v30 pp ss) H := hP
        have hD : va_D A (([(ho, .inr (1, [.ref v25, .ref q_t, .int v27])), (v25, .inl (cc.2.1, v26, .inl v28)), (q_t, .inl (cc.2.1, 182, .inl v29))] : va_W) ++ px_cp cc ho cm np ns hm pa sa v30 pp ss) := hD
        refine lv_istore_n (lv' := [(2, .int r37), (0, .ref (hm a0x)), (1, .int x1)]) hx hb px_d281_40 rfl hl (by decide) rfl (fun ls hl => ?_)
        refine lv_aload_n hx hb px_d281_41 rfl (lv_at hl 1 rfl) ?_
        obtain ⟨hp42, hw⟩ := hw
        refine va_get (D := (dC, dI)) (ci := 10) (v := .ref ((v30 a0x).1 8)) (C := "MatroidDesk$Matroid") (T := px_T10) (N := 15) hx hb htw px_in10 hown hK hP (3 + (13 * a0x + 0)) (px_cg0 rfl hp42) rfl 8 (by decide) (htw _ px_w1007) (fun _ h9 => h9) rfl px_d281_42 ?_
        refine lv_aload_n hx hb px_d281_45 rfl (lv_at hl 1 rfl) ?_
        obtain ⟨hp46, hw⟩ := hw
        refine va_get (D := (dC, dI)) (ci := 10) (v := .int ((v30 a0x).2.1 14)) (C := "MatroidDesk$Matroid") (T := px_T10) (N := 15) hx hb htw px_in10 hown hK hP (3 + (13 * a0x + 0)) (px_cg0 rfl hp46) rfl 14 (by decide) (htw _ px_w1267) (fun _ h9 => h9) rfl px_d281_46 ?_
        refine lv_iload_n hx hb px_d281_49 rfl (lv_at hl 0 rfl) ?_
        refine lv_isub hx hb px_d281_50 ?_
        refine lv_bipush (v := 13) hx hb px_d281_51 (by decide) ?_
        refine lv_imul hx hb px_d281_53 ?_
        refine lv_iload_n hx hb px_d281_54 rfl (lv_at hl 2 rfl) ?_
        have hPc := hP.sub (ws' := []) [] rfl
        have hDc := hD.sub (ws' := []) [] (by decide) rfl
        have hFc := va_free (wc := []) hD hS hA [] rfl
        have hKc := hK.sub (tys' := []) [] rfl
        refine va_calli (va_runS (As := [.int x1]) (rest := [.int ((((v30 a0x).2.1 14) - r37) * 13), .ref ((v30 a0x).1 8)]) ⟨hx, hb, hml, hown, htw⟩ (w250_met l dC dI H.size x1 _ hw) (va_cwS 1 htw (px_gs2 px_w1266 px_w1290 px_w1764 px_g250) rfl rfl rfl (by decide +kernel) ⟨Nat.le_of_ble_eq_true rfl, Nat.le_of_ble_eq_true rfl⟩) ⟨fun a U g mk q => by obtain ⟨q0, q1, qP, qK, qD, qN⟩ := q; exact ⟨q0, q1, qP, va_K.moved (u := U) (U := U.calling g mk a) (Vm.Alike.refl U.vm) qK, qD, qN.same rfl⟩, fun U hU hW => ⟨rfl, by rw [hU], by rw [hU]; exact hPc, va_K.moved hW.alike hKc, hDc.weaken (fun _ _ _ _ => trivial), hN.warm hW⟩⟩ rfl rfl hl.1 rfl (lv_room (Nat.le_of_ble_eq_true rfl)) px_d281_55 ⟨hm37_31, hs37_31⟩) hS (fun q _ h => hFc q h) hFc (fun r55 u t H1 locs ht hvm hw hB hz1 hk1 hS => ?_)
        obtain ⟨hP1, hK1, hD1⟩ := hB
        rw [ht] at hP1
        obtain ⟨hP, hD⟩ := va_joinQ (wr := [(ho, .inr (1, [.ref v25, .ref q_t, .int v27])), (v25, .inl (cc.2.1, v26, .inl v28)), (q_t, .inl (cc.2.1, 182, .inl v29))]) (w1 := []) hP hD [] [0, 1, 2] rfl rfl (by decide) (by decide) hk1 hFc hP1 hD1
        generalize H1 = H at hP hS ⊢
        have hP : va_P (dC, dI) vwCl (([(ho, .inr (1, [.ref v25, .ref q_t, .int v27])), (v25, .inl (cc.2.1, v26, .inl v28)), (q_t, .inl (cc.2.1, 182, .inl v29))] : va_W) ++ px_cp cc ho cm np ns hm pa sa v30 pp ss) H := hP
        have hD : va_D A (([(ho, .inr (1, [.ref v25, .ref q_t, .int v27])), (v25, .inl (cc.2.1, v26, .inl v28)), (q_t, .inl (cc.2.1, 182, .inl v29))] : va_W) ++ px_cp cc ho cm np ns hm pa sa v30 pp ss) := hD
        refine lv_iadd hx hb px_d281_58 ?_
        refine lv_iload_n hx hb px_d281_59 rfl (lv_at hl 0 rfl) ?_
        refine lv_isub hx hb px_d281_60 ?_
        refine lv_dup2_11 hx hb px_d281_61 rfl rfl ?_
        obtain ⟨hp62, hw⟩ := hw
        obtain ⟨hi62, hw⟩ := hw
        refine va_lald hx hb hK hP (3 + (13 * a0x + 8)) 2 (px_cg8 rfl hp62) rfl hi62 px_d281_62 ?_
        refine lv_lconst (v := 1) hx hb px_d281_63 (by decide) ?_
        refine lv_ladd hx hb px_d281_64 ?_
        refine lv_topl (fun z34 ez34 => ?_)
        have hw := hw z34 ez34
        obtain ⟨hp65, hw⟩ := hw
        obtain ⟨hi65, hw⟩ := hw
        obtain ⟨mm35, emm35⟩ : ∃ z : Nat → px_MR, z = va_up v30 a0x ((v30 a0x).1, (v30 a0x).2.1, (v30 a0x).2.2.1, (v30 a0x).2.2.2.1, vp_updL (v30 a0x).2.2.2.2.1 (Int32.toNatClampNeg ((((((v30 a0x).2.1 14) - r37) * 13) + r55) - r37)) z34, (v30 a0x).2.2.2.2.2) := ⟨_, rfl⟩
        refine va_last hx hb hK hP hD hS (3 + (13 * a0x + 8)) 2 (px_cg8 rfl hp65) rfl hi65 px_d281_65 (fun H locs hP hD hS => ?_)
        have hP : va_P (dC, dI) vwCl (([(ho, .inr (1, [.ref v25, .ref q_t, .int v27])), (v25, .inl (cc.2.1, v26, .inl v28)), (q_t, .inl (cc.2.1, 182, .inl v29))] : va_W) ++ px_cp cc ho cm np ns hm pa sa mm35 pp ss) H := px_csP rfl hp65 (by decide) rfl (px_hr8 _ _ _) emm35 hP
        have hD : va_D A (([(ho, .inr (1, [.ref v25, .ref q_t, .int v27])), (v25, .inl (cc.2.1, v26, .inl v28)), (q_t, .inl (cc.2.1, 182, .inl v29))] : va_W) ++ px_cp cc ho cm np ns hm pa sa mm35 pp ss) := px_csD rfl hp65 (by decide) rfl (px_hr8 _ _ _) emm35 hD
        have hw := hw mm35 emm35
        obtain ⟨z36, ez36⟩ : ∃ y : Int32, y = x1 + 1 := ⟨_, rfl⟩
        have hw := hw z36 ez36
        refine lv_iinc (v := z36) (lv' := [(1, .int z36), (2, .int r37), (0, .ref (hm a0x))]) hx hb px_d281_66 hl (k := 2) rfl (by rw [ez36]; rfl) (by decide) rfl (fun ls hl => ?_)
        refine lv_goto (tgt := 27) hx hb px_d281_69 (by decide) ?_
        exact ih27 z36 v25 v26 v27 v28 v29 mm35 (kc + m37_31) (ks + s37_31) H locs ls hm37_31 hs37_31 hP hD hS (lv_sub hl [2, 0] rfl) hw
  have S17 : ∀ (q_o : Nat) (l_o : Nat) (o_reached : Int32) (g_o : Nat → Int32) (g_t : Nat → Int32) (mm : Nat → px_MR) (kc : Nat) (ks : Nat) (H : Heap) (locs : List Loc) (ls : Array Slot), kc ≤ mc → ks ≤ ms → va_P (dC, dI) vwCl (([(ho, .inr (1, [.ref q_o, .ref q_t, .int o_reached])), (q_o, .inl (cc.2.1, l_o, .inl g_o)), (q_t, .inl (cc.2.1, 182, .inl g_t))] : va_W) ++ px_cp cc ho cm np ns hm pa sa mm pp ss) H → va_D A (([(ho, .inr (1, [.ref q_o, .ref q_t, .int o_reached])), (q_o, .inl (cc.2.1, l_o, .inl g_o)), (q_t, .inl (cc.2.1, 182, .inl g_t))] : va_W) ++ px_cp cc ho cm np ns hm pa sa mm pp ss) → va_S A s.heap H locs → lv_has ls 3 [(0, .ref (hm a0x))] → w281_L17 a0x cm np ns pa sa pp ss mc ms post q_o l_o o_reached g_o g_t mm kc ks → W p l e (headSpec px_s281 ({ frames := 3, cells := mc, slots := ms, locals := 65 })).room s m ([.ref (hm a0x)]).toArray below meth c H locs kc ks Q (F0 m 17 ls []) := by
    intro q_o l_o o_reached g_o g_t mm kc ks H locs ls hkc hks hP hD hS hl hw
    unfold w281_L17 at hw
    refine lv_aload_n hx hb px_d281_17 rfl (lv_at hl 0 rfl) ?_
    obtain ⟨hp18, hw⟩ := hw
    refine va_get (D := (dC, dI)) (ci := 10) (v := .ref ((mm a0x).1 8)) (C := "MatroidDesk$Matroid") (T := px_T10) (N := 15) hx hb htw px_in10 hown hK hP (3 + (13 * a0x + 0)) (px_cg0 rfl hp18) rfl 8 (by decide) (htw _ px_w1007) (fun _ h9 => h9) rfl px_d281_18 ?_
    refine lv_lconst (v := 0) hx hb px_d281_21 (by decide) ?_
    obtain ⟨hp22, hw⟩ := hw
    have hPc : va_P (dC, dI) vwCl [((mm a0x).1 8, .inl (cc.2.2.2.2, ((mm a0x).2.2.1 8), .inr (.inl ((mm a0x).2.2.2.2.1))))] H := px_cutP hP (k := 3 + (13 * a0x + 8)) (px_cg8 rfl hp22)
    have hDc : va_D A [((mm a0x).1 8, .inl (cc.2.2.2.2, ((mm a0x).2.2.1 8), .inr (.inl ((mm a0x).2.2.2.2.1))))] := px_cutD hD (k := 3 + (13 * a0x + 8)) (px_cg8 rfl hp22)
    have hFc : ∀ q, va_A [((mm a0x).1 8, .inl (cc.2.2.2.2, ((mm a0x).2.2.1 8), .inr (.inl ((mm a0x).2.2.2.2.1))))] H.size q → A q := px_cutF hD hS hA (k := 3 + (13 * a0x + 8)) (px_cg8 rfl hp22)
    have hKc := hK.sub (tys' := [(cc.2.2.2.2, .long)]) [2] rfl
    refine va_callv (va_runS (As := [.ref ((mm a0x).1 8), .long 0]) (rest := []) ⟨hx, hb, hml, hown, htw⟩ (w282_met l dC dI H.size ((mm a0x).1 8) ((mm a0x).2.2.1 8) cc.2.2.2.2 0 ((mm a0x).2.2.2.2.1) _ hw) (va_cwS 2 htw (px_gs2 px_w1429 px_w1432 px_w1752 px_g282) rfl rfl rfl (by decide +kernel) ⟨Nat.le_of_ble_eq_true rfl, Nat.le_of_ble_eq_true rfl⟩) ⟨fun a U g mk q => by obtain ⟨q0, q1, qP, qK, qD, qN⟩ := q; exact ⟨q0, q1, qP, va_K.moved (u := U) (U := U.calling g mk a) (Vm.Alike.refl U.vm) qK, qD, qN.same rfl⟩, fun U hU hW => ⟨rfl, by rw [hU], by rw [hU]; exact hPc, va_K.moved hW.alike hKc, hDc.weaken (fun _ _ _ _ => trivial), hN.warm hW⟩⟩ rfl rfl hl.1 rfl (lv_room (Nat.le_of_ble_eq_true rfl)) px_d281_22 ⟨hkc, hks⟩) hS (fun q _ h => hFc q h) hFc (fun u t H1 locs ht hvm hw hB hz1 hk1 hS => ?_)
    obtain ⟨v37, rfl⟩ : ∃ z, z = u := ⟨_, rfl⟩
    obtain ⟨hP1, hK1, hD1⟩ := hB
    rw [ht] at hP1
    obtain ⟨hP, hD⟩ := px_cutJ hP hD (k := 3 + (13 * a0x + 8)) (px_cg8 rfl hp22) hk1 hP1 rfl
    obtain ⟨mm38, emm38⟩ : ∃ z : Nat → px_MR, z = va_up mm a0x ((mm a0x).1, (mm a0x).2.1, (mm a0x).2.2.1, (mm a0x).2.2.2.1, v37, (mm a0x).2.2.2.2.2) := ⟨_, rfl⟩
    have hP : va_P (dC, dI) vwCl (([(ho, .inr (1, [.ref q_o, .ref q_t, .int o_reached])), (q_o, .inl (cc.2.1, l_o, .inl g_o)), (q_t, .inl (cc.2.1, 182, .inl g_t))] : va_W) ++ px_cp cc ho cm np ns hm pa sa mm38 pp ss) H1 := px_csP rfl hp22 (by decide) rfl (px_hr8 _ _ _) emm38 hP
    have hD : va_D A (([(ho, .inr (1, [.ref q_o, .ref q_t, .int o_reached])), (q_o, .inl (cc.2.1, l_o, .inl g_o)), (q_t, .inl (cc.2.1, 182, .inl g_t))] : va_W) ++ px_cp cc ho cm np ns hm pa sa mm38 pp ss) := px_csD rfl hp22 (by decide) rfl (px_hr8 _ _ _) emm38 hD
    have hw := hw mm38 emm38
    generalize H1 = H at hP hS ⊢
    have hP : va_P (dC, dI) vwCl (([(ho, .inr (1, [.ref q_o, .ref q_t, .int o_reached])), (q_o, .inl (cc.2.1, l_o, .inl g_o)), (q_t, .inl (cc.2.1, 182, .inl g_t))] : va_W) ++ px_cp cc ho cm np ns hm pa sa mm38 pp ss) H := hP
    have hD : va_D A (([(ho, .inr (1, [.ref q_o, .ref q_t, .int o_reached])), (q_o, .inl (cc.2.1, l_o, .inl g_o)), (q_t, .inl (cc.2.1, 182, .inl g_t))] : va_W) ++ px_cp cc ho cm np ns hm pa sa mm38 pp ss) := hD
    refine lv_iconst (v := 0) hx hb px_d281_25 (by decide) ?_
    refine lv_istore_n (lv' := [(1, .int 0), (0, .ref (hm a0x))]) hx hb px_d281_26 rfl hl (by decide) rfl (fun ls hl => ?_)
    obtain ⟨k9, hw⟩ := hw
    exact S27 k9 0 q_o l_o o_reached g_o g_t mm38 kc ks H locs ls hkc hks hP hD hS (lv_sub hl [1, 0] rfl) hw
  unfold w281_wp at hw
  have hS0 := hS
  obtain ⟨H, hH9⟩ : ∃ z, z = s.heap := ⟨_, rfl⟩
  have hP : va_P (dC, dI) vwCl (([(ho, .inr (1, [.ref q_o, .ref q_t, .int o_reached])), (q_o, .inl (cc.2.1, l_o, .inl g_o)), (q_t, .inl (cc.2.1, 182, .inl g_t))] : va_W) ++ px_cp cc ho cm np ns hm pa sa mm pp ss) H := by rw [hH9]; exact hP
  obtain ⟨locs, hlo9⟩ : ∃ z : List Loc, z = [] := ⟨_, rfl⟩
  have hS : va_S A s.heap H locs := by rw [hH9, hlo9]; exact hS
  suffices hG : W p l e (headSpec px_s281 ({ frames := 3, cells := mc, slots := ms, locals := 65 })).room s m ([.ref (hm a0x)]).toArray below meth c H locs 0 0 Q (F0 m 0 ls []) by rw [hH9, hlo9] at hG; exact hG
  refine lv_aload_n hx hb px_d281_0 rfl (lv_at hl 0 rfl) ?_
  obtain ⟨hp1, hw⟩ := hw
  refine va_get (D := (dC, dI)) (ci := 10) (v := .ref ((mm a0x).1 8)) (C := "MatroidDesk$Matroid") (T := px_T10) (N := 15) hx hb htw px_in10 hown hK hP (3 + (13 * a0x + 0)) (px_cg0 rfl hp1) rfl 8 (by decide) (htw _ px_w1007) (fun _ h9 => h9) rfl px_d281_1 ?_
  obtain ⟨hp4, hw⟩ := hw
  refine va_alen (v := nI ((mm a0x).2.2.1 8)) hx hb hK hP (3 + (13 * a0x + 8)) 2 (px_cg8 rfl hp4) rfl rfl px_d281_4 ?_
  refine lv_if_ne (tgt := 17) hx hb px_d281_5 (by decide) (fun c5 => ?_) (fun c5 => ?_)
  · have hw := hw.1 c5
    exact S17 q_o l_o o_reached g_o g_t mm 0 0 H locs ls (Nat.zero_le mc) (Nat.zero_le ms) hP hD hS (lv_sub hl [0] rfl) hw
  · have hw := hw.2 c5
    refine lv_aload_n hx hb px_d281_8 rfl (lv_at hl 0 rfl) ?_
    refine lv_sipush (v := 169) hx hb px_d281_9 (by decide) ?_
    obtain ⟨hc12_40, hs12_40, hw⟩ := hw
    refine va_newa (atype := .long) (ty := .long) (n := 169) (N' := 169) (a0 := (169, .inr (.inl (fun _ => 0)))) hx hb (htw _ px_w4) rfl hK hP hD hS hA (fun _ => rfl) (by decide +kernel) (by decide +kernel) (by decide +kernel) hc12_40 hs12_40 px_d281_12 (fun q12_40 cA9 H hK9 hP hD hS => ?_)
    have e9 := px_cAeq hK9 hK 2 rfl
    rw [e9] at hP hD
    have hw := hw q12_40
    have hP := hP.swap
    have hD := hD.swap
    have hP : va_P (dC, dI) vwCl (([(ho, .inr (1, [.ref q_o, .ref q_t, .int o_reached])), (q_o, .inl (cc.2.1, l_o, .inl g_o)), (q_t, .inl (cc.2.1, 182, .inl g_t)), (q12_40, .inl (cc.2.2.2.2, 169, .inr (.inl (fun _ => 0))))] : va_W) ++ px_cp cc ho cm np ns hm pa sa mm pp ss) H := hP
    have hD : va_D A (([(ho, .inr (1, [.ref q_o, .ref q_t, .int o_reached])), (q_o, .inl (cc.2.1, l_o, .inl g_o)), (q_t, .inl (cc.2.1, 182, .inl g_t)), (q12_40, .inl (cc.2.2.2.2, 169, .inr (.inl (fun _ => 0))))] : va_W) ++ px_cp cc ho cm np ns hm pa sa mm pp ss) := hD
    obtain ⟨hp14, hw⟩ := hw
    obtain ⟨mm41, emm41⟩ : ∃ z : Nat → px_MR, z = va_up mm a0x (va_up (mm a0x).1 8 q12_40, (mm a0x).2.1, va_up (mm a0x).2.2.1 8 169, (mm a0x).2.2.2.1, (fun _ => 0), (mm a0x).2.2.2.2.2) := ⟨_, rfl⟩
    refine va_put (D := (dC, dI)) (ci := 10) (v := .ref q12_40) (ty := (.array .long)) (C := "MatroidDesk$Matroid") (T := px_T10) (N := 15) hx hb htw px_in10 px_ty10 px_tyok10 px_nm10 hown hK hP hD hS (4 + (13 * a0x + 0)) (px_cg0 rfl hp14) rfl 8 (by decide) (htw _ px_w1007) (fun _ h9 => h9) rfl (by decide +kernel) rfl rfl (Nat.le_of_ble_eq_true rfl) px_d281_14 (fun H locs hP hD hS => ?_)
    have hP : va_P (dC, dI) vwCl (([(ho, .inr (1, [.ref q_o, .ref q_t, .int o_reached])), (q_o, .inl (cc.2.1, l_o, .inl g_o)), (q_t, .inl (cc.2.1, 182, .inl g_t))] : va_W) ++ px_cp cc ho cm np ns hm pa sa mm41 pp ss) H := px_mswP (X := [(ho, .inr (1, [.ref q_o, .ref q_t, .int o_reached])), (q_o, .inl (cc.2.1, l_o, .inl g_o)), (q_t, .inl (cc.2.1, 182, .inl g_t))]) rfl hp14 (by decide) (by decide) (by decide) rfl rfl (px_hs8 _ _ _ _ _) emm41 hP
    have hD : va_D A (([(ho, .inr (1, [.ref q_o, .ref q_t, .int o_reached])), (q_o, .inl (cc.2.1, l_o, .inl g_o)), (q_t, .inl (cc.2.1, 182, .inl g_t))] : va_W) ++ px_cp cc ho cm np ns hm pa sa mm41 pp ss) := px_mswD (X := [(ho, .inr (1, [.ref q_o, .ref q_t, .int o_reached])), (q_o, .inl (cc.2.1, l_o, .inl g_o)), (q_t, .inl (cc.2.1, 182, .inl g_t))]) rfl hp14 (by decide) (by decide) (by decide) rfl rfl (px_hs8 _ _ _ _ _) emm41 hD
    have hw := hw mm41 emm41
    exact S17 q_o l_o o_reached g_o g_t mm41 (0 + 1) (0 + 169) H locs ls hc12_40 hs12_40 hP hD hS (lv_sub hl [0] rfl) hw

/-! MatroidDesk$Matroid.coefficient(II)J -/
def w280_L42 (a0x : Nat) (cm : Nat) (np : Nat) (ns : Nat) (pa : Nat → Nat) (sa : Nat → Nat) (pp : Nat → px_PR) (ss : Nat → px_SR) (mc : Nat) (ms : Nat) (post : Int64 → Nat → Nat → Int32 → (Nat → Int32) → (Nat → Int32) → (Nat → px_MR) → Prop) (x1 : Int32) (x2 : Int32) (q_o : Nat) (l_o : Nat) (o_reached : Int32) (g_o : Nat → Int32) (g_t : Nat → Int32) (mm : Nat → px_MR) (kc : Nat) (ks : Nat) : Prop := a0x < cm ∧ (a0x < cm ∧ (vp_in ((x1 * 13) + x2) ((mm a0x).2.2.1 8) ∧ (post (((mm a0x).2.2.2.2.1) (Int32.toNatClampNeg ((x1 * 13) + x2))) q_o l_o o_reached g_o g_t mm)))
def w280_L29 (a0x : Nat) (cm : Nat) (np : Nat) (ns : Nat) (pa : Nat → Nat) (sa : Nat → Nat) (pp : Nat → px_PR) (ss : Nat → px_SR) (mc : Nat) (ms : Nat) (post : Int64 → Nat → Nat → Int32 → (Nat → Int32) → (Nat → Int32) → (Nat → px_MR) → Prop) (x1 : Int32) (x2 : Int32) (q_o : Nat) (l_o : Nat) (o_reached : Int32) (g_o : Nat → Int32) (g_t : Nat → Int32) (mm : Nat → px_MR) (kc : Nat) (ks : Nat) : Prop := post 0 q_o l_o o_reached g_o g_t mm
def w280_wp (a0x : Nat) (cm : Nat) (np : Nat) (ns : Nat) (pa : Nat → Nat) (sa : Nat → Nat) (pp : Nat → px_PR) (ss : Nat → px_SR) (mc : Nat) (ms : Nat) (post : Int64 → Nat → Nat → Int32 → (Nat → Int32) → (Nat → Int32) → (Nat → px_MR) → Prop) (a1x : Int32) (a2x : Int32) (q_o : Nat) (l_o : Nat) (o_reached : Int32) (g_o : Nat → Int32) (g_t : Nat → Int32) (mm : Nat → px_MR) : Prop := (a1x < 0 → w280_L29 a0x cm np ns pa sa pp ss mc ms post a1x a2x q_o l_o o_reached g_o g_t mm 0 0) ∧ (¬ a1x < 0 → a0x < cm ∧ ((((mm a0x).2.1 14) < a1x → w280_L29 a0x cm np ns pa sa pp ss mc ms post a1x a2x q_o l_o o_reached g_o g_t mm 0 0) ∧ (¬ ((mm a0x).2.1 14) < a1x → (a2x < 0 → w280_L29 a0x cm np ns pa sa pp ss mc ms post a1x a2x q_o l_o o_reached g_o g_t mm 0 0) ∧ (¬ a2x < 0 → a0x < cm ∧ (a0x < cm ∧ ((a2x ≤ (((mm a0x).2.1 13) - ((mm a0x).2.1 14)) → a0x < cm ∧ ((¬ ((mm a0x).2.1 10) = 0 → w280_L42 a0x cm np ns pa sa pp ss mc ms post a1x a2x q_o l_o o_reached g_o g_t mm 0 0) ∧ (((mm a0x).2.1 10) = 0 → ∃ m39_7 s39_7 : Nat, 0 + m39_7 ≤ mc ∧ 0 + s39_7 ≤ ms ∧ a0x < cm ∧ (w281_wp a0x cm np ns pa sa pp ss m39_7 s39_7 (fun v1 v2 v3 v4 v5 v6 => w280_L42 a0x cm np ns pa sa pp ss mc ms post a1x a2x v1 v2 v3 v4 v5 v6 (0 + m39_7) (0 + s39_7)) q_o l_o o_reached g_o g_t mm)))) ∧ (¬ a2x ≤ (((mm a0x).2.1 13) - ((mm a0x).2.1 14)) → w280_L29 a0x cm np ns pa sa pp ss mc ms post a1x a2x q_o l_o o_reached g_o g_t mm 0 0)))))))
set_option maxHeartbeats 8000000 in
set_option maxRecDepth 100000 in
theorem w280_met (l : Launch) (dC : Nat → ClassId) (dI : Nat → Nat → Nat) (sz : Nat) (ho : Nat) (q_t : Nat) (a0x : Nat) (cc : px_CC) (cm : Nat) (np : Nat) (ns : Nat) (hm : Nat → Nat) (pa : Nat → Nat) (sa : Nat → Nat) (pp : Nat → px_PR) (ss : Nat → px_SR) (mc : Nat) (ms : Nat) (a1x : Int32) (a2x : Int32) (q_o : Nat) (l_o : Nat) (o_reached : Int32) (g_o : Nat → Int32) (g_t : Nat → Int32) (mm : Nat → px_MR) (post : Int64 → Nat → Nat → Int32 → (Nat → Int32) → (Nat → Int32) → (Nat → px_MR) → Prop) (hw : w280_wp a0x cm np ns pa sa pp ss mc ms post a1x a2x q_o l_o o_reached g_o g_t mm) : Met l px_y280 px_s280 ({ frames := 4, cells := mc, slots := ms, locals := 87 }) (va_Pc [.ref (hm a0x), .int a1x, .int a2x] (fun U => U.heap.size = sz ∧ va_P (dC, dI) vwCl (([(ho, .inr (1, [.ref q_o, .ref q_t, .int o_reached])), (q_o, .inl (cc.2.1, l_o, .inl g_o)), (q_t, .inl (cc.2.1, 182, .inl g_t))] : va_W) ++ px_cp cc ho cm np ns hm pa sa mm pp ss) U.heap ∧ va_K (dC, dI) vwCl [(cc.2.1, .int), (cc.2.2.2.1, .byte), (cc.2.2.2.2, .long), (cc.1, .object "MatroidDesk$Part"), (cc.2.2.1, (.array .int))] U ∧ va_D (fun _ => True) (([(ho, .inr (1, [.ref q_o, .ref q_t, .int o_reached])), (q_o, .inl (cc.2.1, l_o, .inl g_o)), (q_t, .inl (cc.2.1, 182, .inl g_t))] : va_W) ++ px_cp cc ho cm np ns hm pa sa mm pp ss) ∧ px_N U)) (va_Ql (fun (r : Int64) (u : Nat × Nat × Int32 × (Nat → Int32) × (Nat → Int32) × (Nat → px_MR)) => post r u.1 u.2.1 u.2.2.1 u.2.2.2.1 u.2.2.2.2.1 u.2.2.2.2.2) (fun (u : Nat × Nat × Int32 × (Nat → Int32) × (Nat → Int32) × (Nat → px_MR)) (t : State) => va_P (dC, dI) vwCl (([(ho, .inr (1, [.ref u.1, .ref q_t, .int u.2.2.1])), (u.1, .inl (cc.2.1, u.2.1, .inl u.2.2.2.1)), (q_t, .inl (cc.2.1, 182, .inl u.2.2.2.2.1))] : va_W) ++ px_cp cc ho cm np ns hm pa sa u.2.2.2.2.2 pp ss) t.heap ∧ va_K (dC, dI) vwCl [(cc.2.1, .int), (cc.2.2.2.1, .byte), (cc.2.2.2.2, .long), (cc.1, .object "MatroidDesk$Part"), (cc.2.2.1, (.array .int))] t ∧ va_D (va_A (([(ho, .inr (1, [.ref q_o, .ref q_t, .int o_reached])), (q_o, .inl (cc.2.1, l_o, .inl g_o)), (q_t, .inl (cc.2.1, 182, .inl g_t))] : va_W) ++ px_cp cc ho cm np ns hm pa sa mm pp ss) sz) (([(ho, .inr (1, [.ref u.1, .ref q_t, .int u.2.2.1])), (u.1, .inl (cc.2.1, u.2.1, .inl u.2.2.2.1)), (q_t, .inl (cc.2.1, 182, .inl u.2.2.2.2.1))] : va_W) ++ px_cp cc ho cm np ns hm pa sa u.2.2.2.2.2 pp ss)) (va_A (([(ho, .inr (1, [.ref q_o, .ref q_t, .int o_reached])), (q_o, .inl (cc.2.1, l_o, .inl g_o)), (q_t, .inl (cc.2.1, 182, .inl g_t))] : va_W) ++ px_cp cc ho cm np ns hm pa sa mm pp ss) sz)) mc ms (va_A (([(ho, .inr (1, [.ref q_o, .ref q_t, .int o_reached])), (q_o, .inl (cc.2.1, l_o, .inl g_o)), (q_t, .inl (cc.2.1, 182, .inl g_t))] : va_W) ++ px_cp cc ho cm np ns hm pa sa mm pp ss) sz) := by
  refine Met.ofW (cc := prog_3_method_11_code) (maxL := 3) (ret := (some .long)) (by decide) rfl ?_
  intro p e s m args below meth c s₁ B hml hv
  obtain ⟨rfl, hsz, hP, hK, hD0, hN⟩ := hv
  have hx := B.exec
  have hb := B.bytes
  have hr := B.returns
  have htw : ∀ w ∈ px_all, w.before _ s = true := fun w h => atoms_spec (ws := px_s280) B.pre w (List.mem_cons_of_mem _ h)
  have hown : s.vm.findClass "MatroidDesk$Matroid" = some m.cls := findClass_of_methodNamed B.named
  have hlocks := B.notSynchronized
  subst hsz
  have hD := hD0.self (sz := s.heap.size)
  generalize hAe : va_A (([(ho, .inr (1, [.ref q_o, .ref q_t, .int o_reached])), (q_o, .inl (cc.2.1, l_o, .inl g_o)), (q_t, .inl (cc.2.1, 182, .inl g_t))] : va_W) ++ px_cp cc ho cm np ns hm pa sa mm pp ss) s.heap.size = A at hD ⊢
  have hA : ∀ q : Nat, s.heap.size ≤ q → A q := fun q h => by rw [← hAe]; exact Or.inr h
  have hS : va_S A s.heap s.heap [] := va_S.rf
  have hP : va_P (dC, dI) vwCl (([(ho, .inr (1, [.ref q_o, .ref q_t, .int o_reached])), (q_o, .inl (cc.2.1, l_o, .inl g_o)), (q_t, .inl (cc.2.1, 182, .inl g_t))] : va_W) ++ px_cp cc ho cm np ns hm pa sa mm pp ss) s.heap := hP
  have hl := lv_entry ([.ref (hm a0x), .int a1x, .int a2x]) (n := 3) (Nat.le_of_ble_eq_true rfl)
  rw [lg_entry_eq]
  generalize (lg_sl ([.ref (hm a0x), .int a1x, .int a2x]) ++ List.replicate (3 - (lg_sl ([.ref (hm a0x), .int a1x, .int a2x])).length) Slot.unset).toArray = ls at hl ⊢
  have hl : lv_has ls 3 [(0, .ref (hm a0x)), (1, .int a1x), (2, .int a2x)] := hl
  generalize hQ : MQ _ _ _ _ _ _ _ = Q
  have S42 : ∀ (x1 : Int32) (x2 : Int32) (q_o : Nat) (l_o : Nat) (o_reached : Int32) (g_o : Nat → Int32) (g_t : Nat → Int32) (mm : Nat → px_MR) (kc : Nat) (ks : Nat) (H : Heap) (locs : List Loc) (ls : Array Slot), kc ≤ mc → ks ≤ ms → va_P (dC, dI) vwCl (([(ho, .inr (1, [.ref q_o, .ref q_t, .int o_reached])), (q_o, .inl (cc.2.1, l_o, .inl g_o)), (q_t, .inl (cc.2.1, 182, .inl g_t))] : va_W) ++ px_cp cc ho cm np ns hm pa sa mm pp ss) H → va_D A (([(ho, .inr (1, [.ref q_o, .ref q_t, .int o_reached])), (q_o, .inl (cc.2.1, l_o, .inl g_o)), (q_t, .inl (cc.2.1, 182, .inl g_t))] : va_W) ++ px_cp cc ho cm np ns hm pa sa mm pp ss) → va_S A s.heap H locs → lv_has ls 3 [(0, .ref (hm a0x)), (1, .int x1), (2, .int x2)] → w280_L42 a0x cm np ns pa sa pp ss mc ms post x1 x2 q_o l_o o_reached g_o g_t mm kc ks → W p l e (headSpec px_s280 ({ frames := 4, cells := mc, slots := ms, locals := 87 })).room s m ([.ref (hm a0x), .int a1x, .int a2x]).toArray below meth c H locs kc ks Q (F0 m 42 ls []) := by
    intro x1 x2 q_o l_o o_reached g_o g_t mm kc ks H locs ls hkc hks hP hD hS hl hw
    unfold w280_L42 at hw
    refine lv_aload_n hx hb px_d280_42 rfl (lv_at hl 0 rfl) ?_
    obtain ⟨hp43, hw⟩ := hw
    refine va_get (D := (dC, dI)) (ci := 10) (v := .ref ((mm a0x).1 8)) (C := "MatroidDesk$Matroid") (T := px_T10) (N := 15) hx hb htw px_in10 hown hK hP (3 + (13 * a0x + 0)) (px_cg0 rfl hp43) rfl 8 (by decide) (htw _ px_w1007) (fun _ h9 => h9) rfl px_d280_43 ?_
    refine lv_iload_n hx hb px_d280_46 rfl (lv_at hl 1 rfl) ?_
    refine lv_bipush (v := 13) hx hb px_d280_47 (by decide) ?_
    refine lv_imul hx hb px_d280_49 ?_
    refine lv_iload_n hx hb px_d280_50 rfl (lv_at hl 2 rfl) ?_
    refine lv_iadd hx hb px_d280_51 ?_
    obtain ⟨hp52, hw⟩ := hw
    obtain ⟨hi52, hw⟩ := hw
    refine va_lald hx hb hK hP (3 + (13 * a0x + 8)) 2 (px_cg8 rfl hp52) rfl hi52 px_d280_52 ?_
    refine W.widen (k := mc) (n := ms) hkc hks ?_
    rw [← hQ]
    exact W.lret (v := ((mm a0x).2.2.2.2.1) (Int32.toNatClampNeg ((x1 * 13) + x2))) hx hb hr (fun t ht hW => ⟨⟨((mm a0x).2.2.2.2.1) (Int32.toNatClampNeg ((x1 * 13) + x2)), (q_o, l_o, o_reached, g_o, g_t, mm), rfl, hw, by rw [ht]; exact hP, va_K.moved hW.alike hK, hD⟩, hS.F ht⟩) hS.2.2 px_d280_53
  have S29 : ∀ (x1 : Int32) (x2 : Int32) (q_o : Nat) (l_o : Nat) (o_reached : Int32) (g_o : Nat → Int32) (g_t : Nat → Int32) (mm : Nat → px_MR) (kc : Nat) (ks : Nat) (H : Heap) (locs : List Loc) (ls : Array Slot), kc ≤ mc → ks ≤ ms → va_P (dC, dI) vwCl (([(ho, .inr (1, [.ref q_o, .ref q_t, .int o_reached])), (q_o, .inl (cc.2.1, l_o, .inl g_o)), (q_t, .inl (cc.2.1, 182, .inl g_t))] : va_W) ++ px_cp cc ho cm np ns hm pa sa mm pp ss) H → va_D A (([(ho, .inr (1, [.ref q_o, .ref q_t, .int o_reached])), (q_o, .inl (cc.2.1, l_o, .inl g_o)), (q_t, .inl (cc.2.1, 182, .inl g_t))] : va_W) ++ px_cp cc ho cm np ns hm pa sa mm pp ss) → va_S A s.heap H locs → lv_has ls 3 [(0, .ref (hm a0x)), (1, .int x1), (2, .int x2)] → w280_L29 a0x cm np ns pa sa pp ss mc ms post x1 x2 q_o l_o o_reached g_o g_t mm kc ks → W p l e (headSpec px_s280 ({ frames := 4, cells := mc, slots := ms, locals := 87 })).room s m ([.ref (hm a0x), .int a1x, .int a2x]).toArray below meth c H locs kc ks Q (F0 m 29 ls []) := by
    intro x1 x2 q_o l_o o_reached g_o g_t mm kc ks H locs ls hkc hks hP hD hS hl hw
    unfold w280_L29 at hw
    refine lv_lconst (v := 0) hx hb px_d280_29 (by decide) ?_
    refine W.widen (k := mc) (n := ms) hkc hks ?_
    rw [← hQ]
    exact W.lret (v := 0) hx hb hr (fun t ht hW => ⟨⟨0, (q_o, l_o, o_reached, g_o, g_t, mm), rfl, hw, by rw [ht]; exact hP, va_K.moved hW.alike hK, hD⟩, hS.F ht⟩) hS.2.2 px_d280_30
  unfold w280_wp at hw
  have hS0 := hS
  obtain ⟨H, hH9⟩ : ∃ z, z = s.heap := ⟨_, rfl⟩
  have hP : va_P (dC, dI) vwCl (([(ho, .inr (1, [.ref q_o, .ref q_t, .int o_reached])), (q_o, .inl (cc.2.1, l_o, .inl g_o)), (q_t, .inl (cc.2.1, 182, .inl g_t))] : va_W) ++ px_cp cc ho cm np ns hm pa sa mm pp ss) H := by rw [hH9]; exact hP
  obtain ⟨locs, hlo9⟩ : ∃ z : List Loc, z = [] := ⟨_, rfl⟩
  have hS : va_S A s.heap H locs := by rw [hH9, hlo9]; exact hS
  suffices hG : W p l e (headSpec px_s280 ({ frames := 4, cells := mc, slots := ms, locals := 87 })).room s m ([.ref (hm a0x), .int a1x, .int a2x]).toArray below meth c H locs 0 0 Q (F0 m 0 ls []) by rw [hH9, hlo9] at hG; exact hG
  refine lv_iload_n hx hb px_d280_0 rfl (lv_at hl 1 rfl) ?_
  refine lv_if_lt (tgt := 29) hx hb px_d280_1 (by decide) (fun c1 => ?_) (fun c1 => ?_)
  · have hw := hw.1 c1
    exact S29 a1x a2x q_o l_o o_reached g_o g_t mm 0 0 H locs ls (Nat.zero_le mc) (Nat.zero_le ms) hP hD hS (lv_sub hl [0, 1, 2] rfl) hw
  · have hw := hw.2 c1
    refine lv_iload_n hx hb px_d280_4 rfl (lv_at hl 1 rfl) ?_
    refine lv_aload_n hx hb px_d280_5 rfl (lv_at hl 0 rfl) ?_
    obtain ⟨hp6, hw⟩ := hw
    refine va_get (D := (dC, dI)) (ci := 10) (v := .int ((mm a0x).2.1 14)) (C := "MatroidDesk$Matroid") (T := px_T10) (N := 15) hx hb htw px_in10 hown hK hP (3 + (13 * a0x + 0)) (px_cg0 rfl hp6) rfl 14 (by decide) (htw _ px_w1267) (fun _ h9 => h9) rfl px_d280_6 ?_
    refine lv_icmp_gt (tgt := 29) hx hb px_d280_9 (by decide) (fun c9 => ?_) (fun c9 => ?_)
    · have hw := hw.1 c9
      exact S29 a1x a2x q_o l_o o_reached g_o g_t mm 0 0 H locs ls (Nat.zero_le mc) (Nat.zero_le ms) hP hD hS (lv_sub hl [0, 1, 2] rfl) hw
    · have hw := hw.2 c9
      refine lv_iload_n hx hb px_d280_12 rfl (lv_at hl 2 rfl) ?_
      refine lv_if_lt (tgt := 29) hx hb px_d280_13 (by decide) (fun c13 => ?_) (fun c13 => ?_)
      · have hw := hw.1 c13
        exact S29 a1x a2x q_o l_o o_reached g_o g_t mm 0 0 H locs ls (Nat.zero_le mc) (Nat.zero_le ms) hP hD hS (lv_sub hl [0, 1, 2] rfl) hw
      · have hw := hw.2 c13
        refine lv_iload_n hx hb px_d280_16 rfl (lv_at hl 2 rfl) ?_
        refine lv_aload_n hx hb px_d280_17 rfl (lv_at hl 0 rfl) ?_
        obtain ⟨hp18, hw⟩ := hw
        refine va_get (D := (dC, dI)) (ci := 10) (v := .int ((mm a0x).2.1 13)) (C := "MatroidDesk$Matroid") (T := px_T10) (N := 15) hx hb htw px_in10 hown hK hP (3 + (13 * a0x + 0)) (px_cg0 rfl hp18) rfl 13 (by decide) (htw _ px_w1264) (fun _ h9 => h9) rfl px_d280_18 ?_
        refine lv_aload_n hx hb px_d280_21 rfl (lv_at hl 0 rfl) ?_
        obtain ⟨hp22, hw⟩ := hw
        refine va_get (D := (dC, dI)) (ci := 10) (v := .int ((mm a0x).2.1 14)) (C := "MatroidDesk$Matroid") (T := px_T10) (N := 15) hx hb htw px_in10 hown hK hP (3 + (13 * a0x + 0)) (px_cg0 rfl hp22) rfl 14 (by decide) (htw _ px_w1267) (fun _ h9 => h9) rfl px_d280_22 ?_
        refine lv_isub hx hb px_d280_25 ?_
        refine lv_icmp_le (tgt := 31) hx hb px_d280_26 (by decide) (fun c26 => ?_) (fun c26 => ?_)
        · have hw := hw.1 c26
          refine lv_aload_n hx hb px_d280_31 rfl (lv_at hl 0 rfl) ?_
          obtain ⟨hp32, hw⟩ := hw
          refine va_get (D := (dC, dI)) (ci := 10) (v := .int ((mm a0x).2.1 10)) (C := "MatroidDesk$Matroid") (T := px_T10) (N := 15) hx hb htw px_in10 hown hK hP (3 + (13 * a0x + 0)) (px_cg0 rfl hp32) rfl 10 (by decide) (htw _ px_w1275) (fun _ h9 => h9) rfl px_d280_32 ?_
          refine lv_if_ne (tgt := 42) hx hb px_d280_35 (by decide) (fun c35 => ?_) (fun c35 => ?_)
          · have hw := hw.1 c35
            exact S42 a1x a2x q_o l_o o_reached g_o g_t mm 0 0 H locs ls (Nat.zero_le mc) (Nat.zero_le ms) hP hD hS (lv_sub hl [0, 1, 2] rfl) hw
          · have hw := hw.2 c35
            refine lv_aload_n hx hb px_d280_38 rfl (lv_at hl 0 rfl) ?_
            obtain ⟨m39_7, s39_7, hm39_7, hs39_7, hw⟩ := hw
            obtain ⟨hp39, hw⟩ := hw
            have hPc := hP.part (cx := [(ho, .inr (1, [.ref q_o, .ref q_t, .int o_reached])), (q_o, .inl (cc.2.1, l_o, .inl g_o)), (q_t, .inl (cc.2.1, 182, .inl g_t))]) [0, 1, 2] rfl
            have hDc := hD.part (cx := [(ho, .inr (1, [.ref q_o, .ref q_t, .int o_reached])), (q_o, .inl (cc.2.1, l_o, .inl g_o)), (q_t, .inl (cc.2.1, 182, .inl g_t))]) [0, 1, 2] (by decide) rfl
            have hFc := va_freeP (cx := [(ho, .inr (1, [.ref q_o, .ref q_t, .int o_reached])), (q_o, .inl (cc.2.1, l_o, .inl g_o)), (q_t, .inl (cc.2.1, 182, .inl g_t))]) hD hS hA [0, 1, 2] rfl
            have hKc := hK.sub (tys' := [(cc.2.1, .int), (cc.2.2.2.1, .byte), (cc.2.2.2.2, .long), (cc.1, .object "MatroidDesk$Part"), (cc.2.2.1, (.array .int))]) [0, 1, 2, 3, 4] rfl
            refine va_callv (va_runV (As := []) (rest := []) ⟨hx, hb, hml, hown, htw⟩ (w281_met l dC dI H.size ho q_t a0x cc cm np ns hm pa sa pp ss m39_7 s39_7 q_o l_o o_reached g_o g_t mm _ hw) (cwV 0 htw (px_gv px_w1425 px_w1427 px_w1428 px_w154 px_g281) rfl rfl rfl (by decide +kernel) ⟨Nat.le_of_ble_eq_true rfl, Nat.le_of_ble_eq_true rfl⟩) ⟨fun a U g mk q => by obtain ⟨q0, q1, qP, qK, qD, qN⟩ := q; exact ⟨q0, q1, qP, va_K.moved (u := U) (U := U.calling g mk a) (Vm.Alike.refl U.vm) qK, qD, qN.same rfl⟩, va_recv hK hP (ci := 10) (q0 := (3 + (13 * a0x + 0))) rfl (px_cg0 rfl hp39), fun U hU hW => ⟨rfl, by rw [hU], by rw [hU]; exact hPc, va_K.moved hW.alike hKc, hDc.weaken (fun _ _ _ _ => trivial), hN.warm hW⟩⟩ rfl rfl hl.1 rfl (lv_room (Nat.le_of_ble_eq_true rfl)) px_d280_39 ⟨hm39_7, hs39_7⟩) hS (fun q _ h => hFc q h) hFc (fun u t H1 locs ht hvm hw hB hz1 hk1 hS => ?_)
            obtain ⟨v1, v2, v3, v4, v5, v6⟩ := u
            obtain ⟨hP1, hK1, hD1⟩ := hB
            rw [ht] at hP1
            obtain ⟨hP, hD⟩ := va_joinP (wr := []) (rx := [(ho, .inr (1, [.ref v1, .ref q_t, .int v3])), (v1, .inl (cc.2.1, v2, .inl v4)), (q_t, .inl (cc.2.1, 182, .inl v5))]) hP hD [0, 1, 2] [] rfl rfl (by decide) (by decide) hk1 hFc hP1 hD1
            generalize H1 = H at hP hS ⊢
            have hP : va_P (dC, dI) vwCl (([(ho, .inr (1, [.ref v1, .ref q_t, .int v3])), (v1, .inl (cc.2.1, v2, .inl v4)), (q_t, .inl (cc.2.1, 182, .inl v5))] : va_W) ++ px_cp cc ho cm np ns hm pa sa v6 pp ss) H := hP
            have hD : va_D A (([(ho, .inr (1, [.ref v1, .ref q_t, .int v3])), (v1, .inl (cc.2.1, v2, .inl v4)), (q_t, .inl (cc.2.1, 182, .inl v5))] : va_W) ++ px_cp cc ho cm np ns hm pa sa v6 pp ss) := hD
            exact S42 a1x a2x v1 v2 v3 v4 v5 v6 (0 + m39_7) (0 + s39_7) H locs ls hm39_7 hs39_7 hP hD hS (lv_sub hl [0, 1, 2] rfl) hw
        · have hw := hw.2 c26
          exact S29 a1x a2x q_o l_o o_reached g_o g_t mm 0 0 H locs ls (Nat.zero_le mc) (Nat.zero_le ms) hP hD hS (lv_sub hl [0, 1, 2] rfl) hw

/-! MatroidDesk$Matroid.raisers(II)I -/
def w261_L43 (K5 : Int32 → Int32 → Int32 → Int32 → Nat → Nat → Int32 → (Nat → Int32) → (Nat → Int32) → (Nat → px_MR) → Nat → Nat → Prop) (a0x : Nat) (cm : Nat) (np : Nat) (ns : Nat) (pa : Nat → Nat) (sa : Nat → Nat) (pp : Nat → px_PR) (ss : Nat → px_SR) (mc : Nat) (ms : Nat) (post : Int32 → Nat → Nat → Int32 → (Nat → Int32) → (Nat → Int32) → (Nat → px_MR) → Prop) (x1 : Int32) (x2 : Int32) (x3 : Int32) (x4 : Int32) (x5 : Int32) (q_o : Nat) (l_o : Nat) (o_reached : Int32) (g_o : Nat → Int32) (g_t : Nat → Int32) (mm : Nat → px_MR) (kc : Nat) (ks : Nat) : Prop := ∀ z1 : Int32, z1 = x4 + 1 → K5 x1 x2 x3 z1 q_o l_o o_reached g_o g_t mm kc ks
def w261_L5 (a0x : Nat) (cm : Nat) (np : Nat) (ns : Nat) (pa : Nat → Nat) (sa : Nat → Nat) (pp : Nat → px_PR) (ss : Nat → px_SR) (mc : Nat) (ms : Nat) (post : Int32 → Nat → Nat → Int32 → (Nat → Int32) → (Nat → Int32) → (Nat → px_MR) → Prop) : Nat → Int32 → Int32 → Int32 → Int32 → Nat → Nat → Int32 → (Nat → Int32) → (Nat → Int32) → (Nat → px_MR) → Nat → Nat → Prop
  | 0 => fun _ _ _ _ _ _ _ _ _ _ _ _ => False
  | k + 1 => fun x1 x2 x3 x4 q_o l_o o_reached g_o g_t mm kc ks => a0x < cm ∧ ((((mm a0x).2.1 13) ≤ x4 → post (x3 &&& x2) q_o l_o o_reached g_o g_t mm) ∧ (¬ ((mm a0x).2.1 13) ≤ x4 → ∀ z2 : Int32, z2 = x2 &&& ((1 : Int32) <<< (x4 &&& 31)) → ∃ m27_9 s27_9 : Nat, kc + m27_9 ≤ mc ∧ ks + s27_9 ≤ ms ∧ a0x < cm ∧ (w262_wp a0x cm np ns pa sa pp ss m27_9 s27_9 (fun r27 v3 v4 v5 v6 v7 v8 => ∃ m32_17 s32_17 : Nat, kc + m27_9 + m32_17 ≤ mc ∧ ks + s27_9 + s32_17 ≤ ms ∧ a0x < cm ∧ (w262_wp a0x cm np ns pa sa pp ss m32_17 s32_17 (fun r32 v11 v12 v13 v14 v15 v16 => (r27 ≤ r32 → w261_L43 (w261_L5 a0x cm np ns pa sa pp ss mc ms post k) a0x cm np ns pa sa pp ss mc ms post x1 x2 x3 x4 z2 v11 v12 v13 v14 v15 v16 (kc + m27_9 + m32_17) (ks + s27_9 + s32_17)) ∧ (¬ r27 ≤ r32 → ∀ z19 : Int32, z19 = x3 ||| z2 → w261_L43 (w261_L5 a0x cm np ns pa sa pp ss mc ms post k) a0x cm np ns pa sa pp ss mc ms post x1 x2 z19 x4 z2 v11 v12 v13 v14 v15 v16 (kc + m27_9 + m32_17) (ks + s27_9 + s32_17))) x3 v3 v4 v5 v6 v7 v8)) (x3 ||| z2) q_o l_o o_reached g_o g_t mm)))
def w261_wp (a0x : Nat) (cm : Nat) (np : Nat) (ns : Nat) (pa : Nat → Nat) (sa : Nat → Nat) (pp : Nat → px_PR) (ss : Nat → px_SR) (mc : Nat) (ms : Nat) (post : Int32 → Nat → Nat → Int32 → (Nat → Int32) → (Nat → Int32) → (Nat → px_MR) → Prop) (a1x : Int32) (a2x : Int32) (q_o : Nat) (l_o : Nat) (o_reached : Int32) (g_o : Nat → Int32) (g_t : Nat → Int32) (mm : Nat → px_MR) : Prop := ∃ j5, w261_L5 a0x cm np ns pa sa pp ss mc ms post j5 a1x a2x a1x 0 q_o l_o o_reached g_o g_t mm 0 0
set_option maxHeartbeats 8000000 in
set_option maxRecDepth 100000 in
theorem w261_met (l : Launch) (dC : Nat → ClassId) (dI : Nat → Nat → Nat) (sz : Nat) (ho : Nat) (q_t : Nat) (a0x : Nat) (cc : px_CC) (cm : Nat) (np : Nat) (ns : Nat) (hm : Nat → Nat) (pa : Nat → Nat) (sa : Nat → Nat) (pp : Nat → px_PR) (ss : Nat → px_SR) (mc : Nat) (ms : Nat) (a1x : Int32) (a2x : Int32) (q_o : Nat) (l_o : Nat) (o_reached : Int32) (g_o : Nat → Int32) (g_t : Nat → Int32) (mm : Nat → px_MR) (post : Int32 → Nat → Nat → Int32 → (Nat → Int32) → (Nat → Int32) → (Nat → px_MR) → Prop) (hw : w261_wp a0x cm np ns pa sa pp ss mc ms post a1x a2x q_o l_o o_reached g_o g_t mm) : Met l px_y261 px_s261 ({ frames := 3, cells := mc, slots := ms, locals := 65 }) (va_Pc [.ref (hm a0x), .int a1x, .int a2x] (fun U => U.heap.size = sz ∧ va_P (dC, dI) vwCl (([(ho, .inr (1, [.ref q_o, .ref q_t, .int o_reached])), (q_o, .inl (cc.2.1, l_o, .inl g_o)), (q_t, .inl (cc.2.1, 182, .inl g_t))] : va_W) ++ px_cp cc ho cm np ns hm pa sa mm pp ss) U.heap ∧ va_K (dC, dI) vwCl [(cc.2.1, .int), (cc.2.2.2.1, .byte), (cc.2.2.2.2, .long), (cc.1, .object "MatroidDesk$Part"), (cc.2.2.1, (.array .int))] U ∧ va_D (fun _ => True) (([(ho, .inr (1, [.ref q_o, .ref q_t, .int o_reached])), (q_o, .inl (cc.2.1, l_o, .inl g_o)), (q_t, .inl (cc.2.1, 182, .inl g_t))] : va_W) ++ px_cp cc ho cm np ns hm pa sa mm pp ss) ∧ px_N U)) (va_Qi (fun (r : Int32) (u : Nat × Nat × Int32 × (Nat → Int32) × (Nat → Int32) × (Nat → px_MR)) => post r u.1 u.2.1 u.2.2.1 u.2.2.2.1 u.2.2.2.2.1 u.2.2.2.2.2) (fun (u : Nat × Nat × Int32 × (Nat → Int32) × (Nat → Int32) × (Nat → px_MR)) (t : State) => va_P (dC, dI) vwCl (([(ho, .inr (1, [.ref u.1, .ref q_t, .int u.2.2.1])), (u.1, .inl (cc.2.1, u.2.1, .inl u.2.2.2.1)), (q_t, .inl (cc.2.1, 182, .inl u.2.2.2.2.1))] : va_W) ++ px_cp cc ho cm np ns hm pa sa u.2.2.2.2.2 pp ss) t.heap ∧ va_K (dC, dI) vwCl [(cc.2.1, .int), (cc.2.2.2.1, .byte), (cc.2.2.2.2, .long), (cc.1, .object "MatroidDesk$Part"), (cc.2.2.1, (.array .int))] t ∧ va_D (va_A (([(ho, .inr (1, [.ref q_o, .ref q_t, .int o_reached])), (q_o, .inl (cc.2.1, l_o, .inl g_o)), (q_t, .inl (cc.2.1, 182, .inl g_t))] : va_W) ++ px_cp cc ho cm np ns hm pa sa mm pp ss) sz) (([(ho, .inr (1, [.ref u.1, .ref q_t, .int u.2.2.1])), (u.1, .inl (cc.2.1, u.2.1, .inl u.2.2.2.1)), (q_t, .inl (cc.2.1, 182, .inl u.2.2.2.2.1))] : va_W) ++ px_cp cc ho cm np ns hm pa sa u.2.2.2.2.2 pp ss)) (va_A (([(ho, .inr (1, [.ref q_o, .ref q_t, .int o_reached])), (q_o, .inl (cc.2.1, l_o, .inl g_o)), (q_t, .inl (cc.2.1, 182, .inl g_t))] : va_W) ++ px_cp cc ho cm np ns hm pa sa mm pp ss) sz)) mc ms (va_A (([(ho, .inr (1, [.ref q_o, .ref q_t, .int o_reached])), (q_o, .inl (cc.2.1, l_o, .inl g_o)), (q_t, .inl (cc.2.1, 182, .inl g_t))] : va_W) ++ px_cp cc ho cm np ns hm pa sa mm pp ss) sz) := by
  refine Met.ofW (cc := prog_3_method_12_code) (maxL := 6) (ret := (some .int)) (by decide) rfl ?_
  intro p e s m args below meth c s₁ B hml hv
  obtain ⟨rfl, hsz, hP, hK, hD0, hN⟩ := hv
  have hx := B.exec
  have hb := B.bytes
  have hr := B.returns
  have htw : ∀ w ∈ px_all, w.before _ s = true := fun w h => atoms_spec (ws := px_s261) B.pre w (List.mem_cons_of_mem _ h)
  have hown : s.vm.findClass "MatroidDesk$Matroid" = some m.cls := findClass_of_methodNamed B.named
  have hlocks := B.notSynchronized
  subst hsz
  have hD := hD0.self (sz := s.heap.size)
  generalize hAe : va_A (([(ho, .inr (1, [.ref q_o, .ref q_t, .int o_reached])), (q_o, .inl (cc.2.1, l_o, .inl g_o)), (q_t, .inl (cc.2.1, 182, .inl g_t))] : va_W) ++ px_cp cc ho cm np ns hm pa sa mm pp ss) s.heap.size = A at hD ⊢
  have hA : ∀ q : Nat, s.heap.size ≤ q → A q := fun q h => by rw [← hAe]; exact Or.inr h
  have hS : va_S A s.heap s.heap [] := va_S.rf
  have hP : va_P (dC, dI) vwCl (([(ho, .inr (1, [.ref q_o, .ref q_t, .int o_reached])), (q_o, .inl (cc.2.1, l_o, .inl g_o)), (q_t, .inl (cc.2.1, 182, .inl g_t))] : va_W) ++ px_cp cc ho cm np ns hm pa sa mm pp ss) s.heap := hP
  have hl := lv_entry ([.ref (hm a0x), .int a1x, .int a2x]) (n := 6) (Nat.le_of_ble_eq_true rfl)
  rw [lg_entry_eq]
  generalize (lg_sl ([.ref (hm a0x), .int a1x, .int a2x]) ++ List.replicate (6 - (lg_sl ([.ref (hm a0x), .int a1x, .int a2x])).length) Slot.unset).toArray = ls at hl ⊢
  have hl : lv_has ls 6 [(0, .ref (hm a0x)), (1, .int a1x), (2, .int a2x)] := hl
  generalize hQ : MQ _ _ _ _ _ _ _ = Q
  have S5 : ∀ (k5 : Nat) (x1 : Int32) (x2 : Int32) (x3 : Int32) (x4 : Int32) (q_o : Nat) (l_o : Nat) (o_reached : Int32) (g_o : Nat → Int32) (g_t : Nat → Int32) (mm : Nat → px_MR) (kc : Nat) (ks : Nat) (H : Heap) (locs : List Loc) (ls : Array Slot), kc ≤ mc → ks ≤ ms → va_P (dC, dI) vwCl (([(ho, .inr (1, [.ref q_o, .ref q_t, .int o_reached])), (q_o, .inl (cc.2.1, l_o, .inl g_o)), (q_t, .inl (cc.2.1, 182, .inl g_t))] : va_W) ++ px_cp cc ho cm np ns hm pa sa mm pp ss) H → va_D A (([(ho, .inr (1, [.ref q_o, .ref q_t, .int o_reached])), (q_o, .inl (cc.2.1, l_o, .inl g_o)), (q_t, .inl (cc.2.1, 182, .inl g_t))] : va_W) ++ px_cp cc ho cm np ns hm pa sa mm pp ss) → va_S A s.heap H locs → lv_has ls 6 [(0, .ref (hm a0x)), (1, .int x1), (2, .int x2), (3, .int x3), (4, .int x4)] → w261_L5 a0x cm np ns pa sa pp ss mc ms post k5 x1 x2 x3 x4 q_o l_o o_reached g_o g_t mm kc ks → W p l e (headSpec px_s261 ({ frames := 3, cells := mc, slots := ms, locals := 65 })).room s m ([.ref (hm a0x), .int a1x, .int a2x]).toArray below meth c H locs kc ks Q (F0 m 5 ls []) := by
    intro k5
    induction k5 with
    | zero => intro x1 x2 x3 x4 q_o l_o o_reached g_o g_t mm kc ks H locs ls hkc hks hP hD hS hl hw; exact False.elim hw
    | succ k5 ih5 =>
      have S43 : ∀ (x1 : Int32) (x2 : Int32) (x3 : Int32) (x4 : Int32) (x5 : Int32) (q_o : Nat) (l_o : Nat) (o_reached : Int32) (g_o : Nat → Int32) (g_t : Nat → Int32) (mm : Nat → px_MR) (kc : Nat) (ks : Nat) (H : Heap) (locs : List Loc) (ls : Array Slot), kc ≤ mc → ks ≤ ms → va_P (dC, dI) vwCl (([(ho, .inr (1, [.ref q_o, .ref q_t, .int o_reached])), (q_o, .inl (cc.2.1, l_o, .inl g_o)), (q_t, .inl (cc.2.1, 182, .inl g_t))] : va_W) ++ px_cp cc ho cm np ns hm pa sa mm pp ss) H → va_D A (([(ho, .inr (1, [.ref q_o, .ref q_t, .int o_reached])), (q_o, .inl (cc.2.1, l_o, .inl g_o)), (q_t, .inl (cc.2.1, 182, .inl g_t))] : va_W) ++ px_cp cc ho cm np ns hm pa sa mm pp ss) → va_S A s.heap H locs → lv_has ls 6 [(0, .ref (hm a0x)), (1, .int x1), (2, .int x2), (3, .int x3), (4, .int x4), (5, .int x5)] → w261_L43 (w261_L5 a0x cm np ns pa sa pp ss mc ms post k5) a0x cm np ns pa sa pp ss mc ms post x1 x2 x3 x4 x5 q_o l_o o_reached g_o g_t mm kc ks → W p l e (headSpec px_s261 ({ frames := 3, cells := mc, slots := ms, locals := 65 })).room s m ([.ref (hm a0x), .int a1x, .int a2x]).toArray below meth c H locs kc ks Q (F0 m 43 ls []) := by
        intro x1 x2 x3 x4 x5 q_o l_o o_reached g_o g_t mm kc ks H locs ls hkc hks hP hD hS hl hw
        unfold w261_L43 at hw
        obtain ⟨z1, ez1⟩ : ∃ y : Int32, y = x4 + 1 := ⟨_, rfl⟩
        have hw := hw z1 ez1
        refine lv_iinc (v := z1) (lv' := [(4, .int z1), (0, .ref (hm a0x)), (1, .int x1), (2, .int x2), (3, .int x3), (5, .int x5)]) hx hb px_d261_43 hl (k := 4) rfl (by rw [ez1]; rfl) (by decide) rfl (fun ls hl => ?_)
        refine lv_goto (tgt := 5) hx hb px_d261_46 (by decide) ?_
        exact ih5 x1 x2 x3 z1 q_o l_o o_reached g_o g_t mm kc ks H locs ls hkc hks hP hD hS (lv_sub hl [1, 2, 3, 4, 0] rfl) hw
      intro x1 x2 x3 x4 q_o l_o o_reached g_o g_t mm kc ks H locs ls hkc hks hP hD hS hl hw
      unfold w261_L5 at hw
      refine lv_iload hx hb px_d261_5 (lv_at hl 4 rfl) ?_
      refine lv_aload_n hx hb px_d261_7 rfl (lv_at hl 0 rfl) ?_
      obtain ⟨hp8, hw⟩ := hw
      refine va_get (D := (dC, dI)) (ci := 10) (v := .int ((mm a0x).2.1 13)) (C := "MatroidDesk$Matroid") (T := px_T10) (N := 15) hx hb htw px_in10 hown hK hP (3 + (13 * a0x + 0)) (px_cg0 rfl hp8) rfl 13 (by decide) (htw _ px_w1264) (fun _ h9 => h9) rfl px_d261_8 ?_
      refine lv_icmp_ge (tgt := 49) hx hb px_d261_11 (by decide) (fun c11 => ?_) (fun c11 => ?_)
      · have hw := hw.1 c11
        refine lv_iload_n hx hb px_d261_49 rfl (lv_at hl 3 rfl) ?_
        refine lv_iload_n hx hb px_d261_50 rfl (lv_at hl 2 rfl) ?_
        refine lv_iand hx hb px_d261_51 ?_
        refine W.widen (k := mc) (n := ms) hkc hks ?_
        rw [← hQ]
        exact W.iret (v := x3 &&& x2) hx hb hr (fun t ht hW => ⟨⟨x3 &&& x2, (q_o, l_o, o_reached, g_o, g_t, mm), rfl, hw, by rw [ht]; exact hP, va_K.moved hW.alike hK, hD⟩, hS.F ht⟩) hS.2.2 px_d261_52
      · have hw := hw.2 c11
        refine lv_iload_n hx hb px_d261_14 rfl (lv_at hl 2 rfl) ?_
        refine lv_iconst (v := 1) hx hb px_d261_15 (by decide) ?_
        refine lv_iload hx hb px_d261_16 (lv_at hl 4 rfl) ?_
        refine lv_ishl hx hb px_d261_18 ?_
        refine lv_iand hx hb px_d261_19 ?_
        refine lv_topi (fun z2 ez2 => ?_)
        have hw := hw z2 ez2
        refine lv_istore (lv' := [(5, .int z2), (0, .ref (hm a0x)), (1, .int x1), (2, .int x2), (3, .int x3), (4, .int x4)]) hx hb px_d261_20 hl (by decide) rfl (fun ls hl => ?_)
        refine lv_aload_n hx hb px_d261_22 rfl (lv_at hl 1 rfl) ?_
        refine lv_iload_n hx hb px_d261_23 rfl (lv_at hl 4 rfl) ?_
        refine lv_iload hx hb px_d261_24 (lv_at hl 0 rfl) ?_
        refine lv_ior hx hb px_d261_26 ?_
        obtain ⟨m27_9, s27_9, hm27_9, hs27_9, hw⟩ := hw
        obtain ⟨hp27, hw⟩ := hw
        have hPc := hP.part (cx := [(ho, .inr (1, [.ref q_o, .ref q_t, .int o_reached])), (q_o, .inl (cc.2.1, l_o, .inl g_o)), (q_t, .inl (cc.2.1, 182, .inl g_t))]) [0, 1, 2] rfl
        have hDc := hD.part (cx := [(ho, .inr (1, [.ref q_o, .ref q_t, .int o_reached])), (q_o, .inl (cc.2.1, l_o, .inl g_o)), (q_t, .inl (cc.2.1, 182, .inl g_t))]) [0, 1, 2] (by decide) rfl
        have hFc := va_freeP (cx := [(ho, .inr (1, [.ref q_o, .ref q_t, .int o_reached])), (q_o, .inl (cc.2.1, l_o, .inl g_o)), (q_t, .inl (cc.2.1, 182, .inl g_t))]) hD hS hA [0, 1, 2] rfl
        have hKc := hK.sub (tys' := [(cc.2.1, .int), (cc.2.2.2.1, .byte), (cc.2.2.2.2, .long), (cc.1, .object "MatroidDesk$Part"), (cc.2.2.1, (.array .int))]) [0, 1, 2, 3, 4] rfl
        refine va_calli (va_runV (As := [.int (x3 ||| z2)]) (rest := []) ⟨hx, hb, hml, hown, htw⟩ (w262_met l dC dI H.size ho q_t a0x cc cm np ns hm pa sa pp ss m27_9 s27_9 (x3 ||| z2) q_o l_o o_reached g_o g_t mm _ hw) (cwV 1 htw (px_gv px_w1335 px_w1337 px_w1338 px_w154 px_g262) rfl rfl rfl (by decide +kernel) ⟨Nat.le_of_ble_eq_true rfl, Nat.le_of_ble_eq_true rfl⟩) ⟨fun a U g mk q => by obtain ⟨q0, q1, qP, qK, qD, qN⟩ := q; exact ⟨q0, q1, qP, va_K.moved (u := U) (U := U.calling g mk a) (Vm.Alike.refl U.vm) qK, qD, qN.same rfl⟩, va_recv hK hP (ci := 10) (q0 := (3 + (13 * a0x + 0))) rfl (px_cg0 rfl hp27), fun U hU hW => ⟨rfl, by rw [hU], by rw [hU]; exact hPc, va_K.moved hW.alike hKc, hDc.weaken (fun _ _ _ _ => trivial), hN.warm hW⟩⟩ rfl rfl hl.1 rfl (lv_room (Nat.le_of_ble_eq_true rfl)) px_d261_27 ⟨hm27_9, hs27_9⟩) hS (fun q _ h => hFc q h) hFc (fun r27 u t H1 locs ht hvm hw hB hz1 hk1 hS => ?_)
        obtain ⟨v3, v4, v5, v6, v7, v8⟩ := u
        obtain ⟨hP1, hK1, hD1⟩ := hB
        rw [ht] at hP1
        obtain ⟨hP, hD⟩ := va_joinP (wr := []) (rx := [(ho, .inr (1, [.ref v3, .ref q_t, .int v5])), (v3, .inl (cc.2.1, v4, .inl v6)), (q_t, .inl (cc.2.1, 182, .inl v7))]) hP hD [0, 1, 2] [] rfl rfl (by decide) (by decide) hk1 hFc hP1 hD1
        generalize H1 = H at hP hS ⊢
        have hP : va_P (dC, dI) vwCl (([(ho, .inr (1, [.ref v3, .ref q_t, .int v5])), (v3, .inl (cc.2.1, v4, .inl v6)), (q_t, .inl (cc.2.1, 182, .inl v7))] : va_W) ++ px_cp cc ho cm np ns hm pa sa v8 pp ss) H := hP
        have hD : va_D A (([(ho, .inr (1, [.ref v3, .ref q_t, .int v5])), (v3, .inl (cc.2.1, v4, .inl v6)), (q_t, .inl (cc.2.1, 182, .inl v7))] : va_W) ++ px_cp cc ho cm np ns hm pa sa v8 pp ss) := hD
        refine lv_aload_n hx hb px_d261_30 rfl (lv_at hl 1 rfl) ?_
        refine lv_iload_n hx hb px_d261_31 rfl (lv_at hl 4 rfl) ?_
        obtain ⟨m32_17, s32_17, hm32_17, hs32_17, hw⟩ := hw
        obtain ⟨hp32, hw⟩ := hw
        have hPc := hP.part (cx := [(ho, .inr (1, [.ref v3, .ref q_t, .int v5])), (v3, .inl (cc.2.1, v4, .inl v6)), (q_t, .inl (cc.2.1, 182, .inl v7))]) [0, 1, 2] rfl
        have hDc := hD.part (cx := [(ho, .inr (1, [.ref v3, .ref q_t, .int v5])), (v3, .inl (cc.2.1, v4, .inl v6)), (q_t, .inl (cc.2.1, 182, .inl v7))]) [0, 1, 2] (by decide) rfl
        have hFc := va_freeP (cx := [(ho, .inr (1, [.ref v3, .ref q_t, .int v5])), (v3, .inl (cc.2.1, v4, .inl v6)), (q_t, .inl (cc.2.1, 182, .inl v7))]) hD hS hA [0, 1, 2] rfl
        have hKc := hK.sub (tys' := [(cc.2.1, .int), (cc.2.2.2.1, .byte), (cc.2.2.2.2, .long), (cc.1, .object "MatroidDesk$Part"), (cc.2.2.1, (.array .int))]) [0, 1, 2, 3, 4] rfl
        refine va_calli (va_runV (As := [.int x3]) (rest := [.int r27]) ⟨hx, hb, hml, hown, htw⟩ (w262_met l dC dI H.size ho q_t a0x cc cm np ns hm pa sa pp ss m32_17 s32_17 x3 v3 v4 v5 v6 v7 v8 _ hw) (cwV 1 htw (px_gv px_w1335 px_w1337 px_w1338 px_w154 px_g262) rfl rfl rfl (by decide +kernel) ⟨Nat.le_of_ble_eq_true rfl, Nat.le_of_ble_eq_true rfl⟩) ⟨fun a U g mk q => by obtain ⟨q0, q1, qP, qK, qD, qN⟩ := q; exact ⟨q0, q1, qP, va_K.moved (u := U) (U := U.calling g mk a) (Vm.Alike.refl U.vm) qK, qD, qN.same rfl⟩, va_recv hK hP (ci := 10) (q0 := (3 + (13 * a0x + 0))) rfl (px_cg0 rfl hp32), fun U hU hW => ⟨rfl, by rw [hU], by rw [hU]; exact hPc, va_K.moved hW.alike hKc, hDc.weaken (fun _ _ _ _ => trivial), hN.warm hW⟩⟩ rfl rfl hl.1 rfl (lv_room (Nat.le_of_ble_eq_true rfl)) px_d261_32 ⟨hm32_17, hs32_17⟩) hS (fun q _ h => hFc q h) hFc (fun r32 u t H1 locs ht hvm hw hB hz1 hk1 hS => ?_)
        obtain ⟨v11, v12, v13, v14, v15, v16⟩ := u
        obtain ⟨hP1, hK1, hD1⟩ := hB
        rw [ht] at hP1
        obtain ⟨hP, hD⟩ := va_joinP (wr := []) (rx := [(ho, .inr (1, [.ref v11, .ref q_t, .int v13])), (v11, .inl (cc.2.1, v12, .inl v14)), (q_t, .inl (cc.2.1, 182, .inl v15))]) hP hD [0, 1, 2] [] rfl rfl (by decide) (by decide) hk1 hFc hP1 hD1
        generalize H1 = H at hP hS ⊢
        have hP : va_P (dC, dI) vwCl (([(ho, .inr (1, [.ref v11, .ref q_t, .int v13])), (v11, .inl (cc.2.1, v12, .inl v14)), (q_t, .inl (cc.2.1, 182, .inl v15))] : va_W) ++ px_cp cc ho cm np ns hm pa sa v16 pp ss) H := hP
        have hD : va_D A (([(ho, .inr (1, [.ref v11, .ref q_t, .int v13])), (v11, .inl (cc.2.1, v12, .inl v14)), (q_t, .inl (cc.2.1, 182, .inl v15))] : va_W) ++ px_cp cc ho cm np ns hm pa sa v16 pp ss) := hD
        refine lv_icmp_le (tgt := 43) hx hb px_d261_35 (by decide) (fun c35 => ?_) (fun c35 => ?_)
        · have hw := hw.1 c35
          exact S43 x1 x2 x3 x4 z2 v11 v12 v13 v14 v15 v16 (kc + m27_9 + m32_17) (ks + s27_9 + s32_17) H locs ls hm32_17 hs32_17 hP hD hS (lv_sub hl [1, 2, 3, 4, 5, 0] rfl) hw
        · have hw := hw.2 c35
          refine lv_iload_n hx hb px_d261_38 rfl (lv_at hl 4 rfl) ?_
          refine lv_iload hx hb px_d261_39 (lv_at hl 0 rfl) ?_
          refine lv_ior hx hb px_d261_41 ?_
          refine lv_topi (fun z19 ez19 => ?_)
          have hw := hw z19 ez19
          refine lv_istore_n (lv' := [(3, .int z19), (5, .int z2), (0, .ref (hm a0x)), (1, .int x1), (2, .int x2), (4, .int x4)]) hx hb px_d261_42 rfl hl (by decide) rfl (fun ls hl => ?_)
          exact S43 x1 x2 z19 x4 z2 v11 v12 v13 v14 v15 v16 (kc + m27_9 + m32_17) (ks + s27_9 + s32_17) H locs ls hm32_17 hs32_17 hP hD hS (lv_sub hl [2, 3, 4, 0, 5, 1] rfl) hw
  unfold w261_wp at hw
  have hS0 := hS
  obtain ⟨H, hH9⟩ : ∃ z, z = s.heap := ⟨_, rfl⟩
  have hP : va_P (dC, dI) vwCl (([(ho, .inr (1, [.ref q_o, .ref q_t, .int o_reached])), (q_o, .inl (cc.2.1, l_o, .inl g_o)), (q_t, .inl (cc.2.1, 182, .inl g_t))] : va_W) ++ px_cp cc ho cm np ns hm pa sa mm pp ss) H := by rw [hH9]; exact hP
  obtain ⟨locs, hlo9⟩ : ∃ z : List Loc, z = [] := ⟨_, rfl⟩
  have hS : va_S A s.heap H locs := by rw [hH9, hlo9]; exact hS
  suffices hG : W p l e (headSpec px_s261 ({ frames := 3, cells := mc, slots := ms, locals := 65 })).room s m ([.ref (hm a0x), .int a1x, .int a2x]).toArray below meth c H locs 0 0 Q (F0 m 0 ls []) by rw [hH9, hlo9] at hG; exact hG
  refine lv_iload_n hx hb px_d261_0 rfl (lv_at hl 1 rfl) ?_
  refine lv_istore_n (lv' := [(3, .int a1x), (0, .ref (hm a0x)), (1, .int a1x), (2, .int a2x)]) hx hb px_d261_1 rfl hl (by decide) rfl (fun ls hl => ?_)
  refine lv_iconst (v := 0) hx hb px_d261_2 (by decide) ?_
  refine lv_istore (lv' := [(4, .int 0), (3, .int a1x), (0, .ref (hm a0x)), (1, .int a1x), (2, .int a2x)]) hx hb px_d261_3 hl (by decide) rfl (fun ls hl => ?_)
  obtain ⟨k9, hw⟩ := hw
  exact S5 k9 a1x a2x a1x 0 q_o l_o o_reached g_o g_t mm 0 0 H locs ls (Nat.zero_le mc) (Nat.zero_le ms) hP hD hS (lv_sub hl [2, 3, 4, 1, 0] rfl) hw

/-! MatroidDesk$Matroid.firstBasis()I -/
def w311_wp (a0x : Nat) (cm : Nat) (np : Nat) (ns : Nat) (pa : Nat → Nat) (sa : Nat → Nat) (pp : Nat → px_PR) (ss : Nat → px_SR) (mc : Nat) (ms : Nat) (post : Int32 → Nat → Nat → Int32 → (Nat → Int32) → (Nat → Int32) → (Nat → px_MR) → Prop) (q_o : Nat) (l_o : Nat) (o_reached : Int32) (g_o : Nat → Int32) (g_t : Nat → Int32) (mm : Nat → px_MR) : Prop := a0x < cm ∧ (w249_wp a0x cm np ns pa sa pp ss (fun r3 v1 v2 v3 v4 v5 v6 => ∃ m6_14 s6_14 : Nat, 0 + m6_14 ≤ mc ∧ 0 + s6_14 ≤ ms ∧ a0x < cm ∧ (w261_wp a0x cm np ns pa sa pp ss m6_14 s6_14 (fun r6 v8 v9 v10 v11 v12 v13 => post r6 v8 v9 v10 v11 v12 v13) 0 r3 v1 v2 v3 v4 v5 v6)) q_o l_o o_reached g_o g_t mm)
set_option maxHeartbeats 8000000 in
set_option maxRecDepth 100000 in
theorem w311_met (l : Launch) (dC : Nat → ClassId) (dI : Nat → Nat → Nat) (sz : Nat) (ho : Nat) (q_t : Nat) (a0x : Nat) (cc : px_CC) (cm : Nat) (np : Nat) (ns : Nat) (hm : Nat → Nat) (pa : Nat → Nat) (sa : Nat → Nat) (pp : Nat → px_PR) (ss : Nat → px_SR) (mc : Nat) (ms : Nat) (q_o : Nat) (l_o : Nat) (o_reached : Int32) (g_o : Nat → Int32) (g_t : Nat → Int32) (mm : Nat → px_MR) (post : Int32 → Nat → Nat → Int32 → (Nat → Int32) → (Nat → Int32) → (Nat → px_MR) → Prop) (hw : w311_wp a0x cm np ns pa sa pp ss mc ms post q_o l_o o_reached g_o g_t mm) : Met l px_y311 px_s311 ({ frames := 4, cells := mc, slots := ms, locals := 90 }) (va_Pc [.ref (hm a0x)] (fun U => U.heap.size = sz ∧ va_P (dC, dI) vwCl (([(ho, .inr (1, [.ref q_o, .ref q_t, .int o_reached])), (q_o, .inl (cc.2.1, l_o, .inl g_o)), (q_t, .inl (cc.2.1, 182, .inl g_t))] : va_W) ++ px_cp cc ho cm np ns hm pa sa mm pp ss) U.heap ∧ va_K (dC, dI) vwCl [(cc.2.1, .int), (cc.2.2.2.1, .byte), (cc.2.2.2.2, .long), (cc.1, .object "MatroidDesk$Part"), (cc.2.2.1, (.array .int))] U ∧ va_D (fun _ => True) (([(ho, .inr (1, [.ref q_o, .ref q_t, .int o_reached])), (q_o, .inl (cc.2.1, l_o, .inl g_o)), (q_t, .inl (cc.2.1, 182, .inl g_t))] : va_W) ++ px_cp cc ho cm np ns hm pa sa mm pp ss) ∧ px_N U)) (va_Qi (fun (r : Int32) (u : Nat × Nat × Int32 × (Nat → Int32) × (Nat → Int32) × (Nat → px_MR)) => post r u.1 u.2.1 u.2.2.1 u.2.2.2.1 u.2.2.2.2.1 u.2.2.2.2.2) (fun (u : Nat × Nat × Int32 × (Nat → Int32) × (Nat → Int32) × (Nat → px_MR)) (t : State) => va_P (dC, dI) vwCl (([(ho, .inr (1, [.ref u.1, .ref q_t, .int u.2.2.1])), (u.1, .inl (cc.2.1, u.2.1, .inl u.2.2.2.1)), (q_t, .inl (cc.2.1, 182, .inl u.2.2.2.2.1))] : va_W) ++ px_cp cc ho cm np ns hm pa sa u.2.2.2.2.2 pp ss) t.heap ∧ va_K (dC, dI) vwCl [(cc.2.1, .int), (cc.2.2.2.1, .byte), (cc.2.2.2.2, .long), (cc.1, .object "MatroidDesk$Part"), (cc.2.2.1, (.array .int))] t ∧ va_D (va_A (([(ho, .inr (1, [.ref q_o, .ref q_t, .int o_reached])), (q_o, .inl (cc.2.1, l_o, .inl g_o)), (q_t, .inl (cc.2.1, 182, .inl g_t))] : va_W) ++ px_cp cc ho cm np ns hm pa sa mm pp ss) sz) (([(ho, .inr (1, [.ref u.1, .ref q_t, .int u.2.2.1])), (u.1, .inl (cc.2.1, u.2.1, .inl u.2.2.2.1)), (q_t, .inl (cc.2.1, 182, .inl u.2.2.2.2.1))] : va_W) ++ px_cp cc ho cm np ns hm pa sa u.2.2.2.2.2 pp ss)) (va_A (([(ho, .inr (1, [.ref q_o, .ref q_t, .int o_reached])), (q_o, .inl (cc.2.1, l_o, .inl g_o)), (q_t, .inl (cc.2.1, 182, .inl g_t))] : va_W) ++ px_cp cc ho cm np ns hm pa sa mm pp ss) sz)) mc ms (va_A (([(ho, .inr (1, [.ref q_o, .ref q_t, .int o_reached])), (q_o, .inl (cc.2.1, l_o, .inl g_o)), (q_t, .inl (cc.2.1, 182, .inl g_t))] : va_W) ++ px_cp cc ho cm np ns hm pa sa mm pp ss) sz) := by
  refine Met.ofW (cc := prog_3_method_13_code) (maxL := 1) (ret := (some .int)) (by decide) rfl ?_
  intro p e s m args below meth c s₁ B hml hv
  obtain ⟨rfl, hsz, hP, hK, hD0, hN⟩ := hv
  have hx := B.exec
  have hb := B.bytes
  have hr := B.returns
  have htw : ∀ w ∈ px_all, w.before _ s = true := fun w h => atoms_spec (ws := px_s311) B.pre w (List.mem_cons_of_mem _ h)
  have hown : s.vm.findClass "MatroidDesk$Matroid" = some m.cls := findClass_of_methodNamed B.named
  have hlocks := B.notSynchronized
  subst hsz
  have hD := hD0.self (sz := s.heap.size)
  generalize hAe : va_A (([(ho, .inr (1, [.ref q_o, .ref q_t, .int o_reached])), (q_o, .inl (cc.2.1, l_o, .inl g_o)), (q_t, .inl (cc.2.1, 182, .inl g_t))] : va_W) ++ px_cp cc ho cm np ns hm pa sa mm pp ss) s.heap.size = A at hD ⊢
  have hA : ∀ q : Nat, s.heap.size ≤ q → A q := fun q h => by rw [← hAe]; exact Or.inr h
  have hS : va_S A s.heap s.heap [] := va_S.rf
  have hP : va_P (dC, dI) vwCl (([(ho, .inr (1, [.ref q_o, .ref q_t, .int o_reached])), (q_o, .inl (cc.2.1, l_o, .inl g_o)), (q_t, .inl (cc.2.1, 182, .inl g_t))] : va_W) ++ px_cp cc ho cm np ns hm pa sa mm pp ss) s.heap := hP
  have hl := lv_entry ([.ref (hm a0x)]) (n := 1) (Nat.le_of_ble_eq_true rfl)
  rw [lg_entry_eq]
  generalize (lg_sl ([.ref (hm a0x)]) ++ List.replicate (1 - (lg_sl ([.ref (hm a0x)])).length) Slot.unset).toArray = ls at hl ⊢
  have hl : lv_has ls 1 [(0, .ref (hm a0x))] := hl
  generalize hQ : MQ _ _ _ _ _ _ _ = Q
  unfold w311_wp at hw
  have hS0 := hS
  obtain ⟨H, hH9⟩ : ∃ z, z = s.heap := ⟨_, rfl⟩
  have hP : va_P (dC, dI) vwCl (([(ho, .inr (1, [.ref q_o, .ref q_t, .int o_reached])), (q_o, .inl (cc.2.1, l_o, .inl g_o)), (q_t, .inl (cc.2.1, 182, .inl g_t))] : va_W) ++ px_cp cc ho cm np ns hm pa sa mm pp ss) H := by rw [hH9]; exact hP
  obtain ⟨locs, hlo9⟩ : ∃ z : List Loc, z = [] := ⟨_, rfl⟩
  have hS : va_S A s.heap H locs := by rw [hH9, hlo9]; exact hS
  suffices hG : W p l e (headSpec px_s311 ({ frames := 4, cells := mc, slots := ms, locals := 90 })).room s m ([.ref (hm a0x)]).toArray below meth c H locs 0 0 Q (F0 m 0 ls []) by rw [hH9, hlo9] at hG; exact hG
  refine lv_aload_n hx hb px_d311_0 rfl (lv_at hl 0 rfl) ?_
  refine lv_iconst (v := 0) hx hb px_d311_1 (by decide) ?_
  refine lv_aload_n hx hb px_d311_2 rfl (lv_at hl 0 rfl) ?_
  obtain ⟨hp3, hw⟩ := hw
  have hPc := hP.part (cx := [(ho, .inr (1, [.ref q_o, .ref q_t, .int o_reached])), (q_o, .inl (cc.2.1, l_o, .inl g_o)), (q_t, .inl (cc.2.1, 182, .inl g_t))]) [0, 1, 2] rfl
  have hDc := hD.part (cx := [(ho, .inr (1, [.ref q_o, .ref q_t, .int o_reached])), (q_o, .inl (cc.2.1, l_o, .inl g_o)), (q_t, .inl (cc.2.1, 182, .inl g_t))]) [0, 1, 2] (by decide) rfl
  have hFc := va_freeP (cx := [(ho, .inr (1, [.ref q_o, .ref q_t, .int o_reached])), (q_o, .inl (cc.2.1, l_o, .inl g_o)), (q_t, .inl (cc.2.1, 182, .inl g_t))]) hD hS hA [0, 1, 2] rfl
  have hKc := hK.sub (tys' := [(cc.2.1, .int), (cc.2.2.2.1, .byte), (cc.2.2.2.2, .long), (cc.1, .object "MatroidDesk$Part"), (cc.2.2.1, (.array .int))]) [0, 1, 2, 3, 4] rfl
  refine va_calli (va_runV (As := []) (rest := [.int 0, .ref (hm a0x)]) ⟨hx, hb, hml, hown, htw⟩ (w249_met l dC dI H.size ho q_t a0x cc cm np ns hm pa sa pp ss q_o l_o o_reached g_o g_t mm _ hw) (cwV 0 htw (px_gv px_w1265 px_w1287 px_w1288 px_w154 px_g249) rfl rfl rfl (by decide +kernel) ⟨Nat.le_of_ble_eq_true rfl, Nat.le_of_ble_eq_true rfl⟩) ⟨fun a U g mk q => by obtain ⟨q0, q1, qP, qK, qD, qN⟩ := q; exact ⟨q0, q1, qP, va_K.moved (u := U) (U := U.calling g mk a) (Vm.Alike.refl U.vm) qK, qD, qN.same rfl⟩, va_recv hK hP (ci := 10) (q0 := (3 + (13 * a0x + 0))) rfl (px_cg0 rfl hp3), fun U hU hW => ⟨rfl, by rw [hU], by rw [hU]; exact hPc, va_K.moved hW.alike hKc, hDc.weaken (fun _ _ _ _ => trivial), hN.warm hW⟩⟩ rfl rfl hl.1 rfl (lv_room (Nat.le_of_ble_eq_true rfl)) px_d311_3 ⟨(Nat.zero_le mc), (Nat.zero_le ms)⟩) hS (fun q _ h => hFc q h) hFc (fun r3 u t H1 locs ht hvm hw hB hz1 hk1 hS => ?_)
  obtain ⟨v1, v2, v3, v4, v5, v6⟩ := u
  obtain ⟨hP1, hK1, hD1⟩ := hB
  rw [ht] at hP1
  obtain ⟨hP, hD⟩ := va_joinP (wr := []) (rx := [(ho, .inr (1, [.ref v1, .ref q_t, .int v3])), (v1, .inl (cc.2.1, v2, .inl v4)), (q_t, .inl (cc.2.1, 182, .inl v5))]) hP hD [0, 1, 2] [] rfl rfl (by decide) (by decide) hk1 hFc hP1 hD1
  generalize H1 = H at hP hS ⊢
  have hP : va_P (dC, dI) vwCl (([(ho, .inr (1, [.ref v1, .ref q_t, .int v3])), (v1, .inl (cc.2.1, v2, .inl v4)), (q_t, .inl (cc.2.1, 182, .inl v5))] : va_W) ++ px_cp cc ho cm np ns hm pa sa v6 pp ss) H := hP
  have hD : va_D A (([(ho, .inr (1, [.ref v1, .ref q_t, .int v3])), (v1, .inl (cc.2.1, v2, .inl v4)), (q_t, .inl (cc.2.1, 182, .inl v5))] : va_W) ++ px_cp cc ho cm np ns hm pa sa v6 pp ss) := hD
  obtain ⟨m6_14, s6_14, hm6_14, hs6_14, hw⟩ := hw
  obtain ⟨hp6, hw⟩ := hw
  have hPc := hP.part (cx := [(ho, .inr (1, [.ref v1, .ref q_t, .int v3])), (v1, .inl (cc.2.1, v2, .inl v4)), (q_t, .inl (cc.2.1, 182, .inl v5))]) [0, 1, 2] rfl
  have hDc := hD.part (cx := [(ho, .inr (1, [.ref v1, .ref q_t, .int v3])), (v1, .inl (cc.2.1, v2, .inl v4)), (q_t, .inl (cc.2.1, 182, .inl v5))]) [0, 1, 2] (by decide) rfl
  have hFc := va_freeP (cx := [(ho, .inr (1, [.ref v1, .ref q_t, .int v3])), (v1, .inl (cc.2.1, v2, .inl v4)), (q_t, .inl (cc.2.1, 182, .inl v5))]) hD hS hA [0, 1, 2] rfl
  have hKc := hK.sub (tys' := [(cc.2.1, .int), (cc.2.2.2.1, .byte), (cc.2.2.2.2, .long), (cc.1, .object "MatroidDesk$Part"), (cc.2.2.1, (.array .int))]) [0, 1, 2, 3, 4] rfl
  refine va_calli (va_runV (As := [.int 0, .int r3]) (rest := []) ⟨hx, hb, hml, hown, htw⟩ (w261_met l dC dI H.size ho q_t a0x cc cm np ns hm pa sa pp ss m6_14 s6_14 0 r3 v1 v2 v3 v4 v5 v6 _ hw) (cwV 2 htw (px_gv px_w1446 px_w1333 px_w1334 px_w154 px_g261) rfl rfl rfl (by decide +kernel) ⟨Nat.le_of_ble_eq_true rfl, Nat.le_of_ble_eq_true rfl⟩) ⟨fun a U g mk q => by obtain ⟨q0, q1, qP, qK, qD, qN⟩ := q; exact ⟨q0, q1, qP, va_K.moved (u := U) (U := U.calling g mk a) (Vm.Alike.refl U.vm) qK, qD, qN.same rfl⟩, va_recv hK hP (ci := 10) (q0 := (3 + (13 * a0x + 0))) rfl (px_cg0 rfl hp6), fun U hU hW => ⟨rfl, by rw [hU], by rw [hU]; exact hPc, va_K.moved hW.alike hKc, hDc.weaken (fun _ _ _ _ => trivial), hN.warm hW⟩⟩ rfl rfl hl.1 rfl (lv_room (Nat.le_of_ble_eq_true rfl)) px_d311_6 ⟨hm6_14, hs6_14⟩) hS (fun q _ h => hFc q h) hFc (fun r6 u t H1 locs ht hvm hw hB hz1 hk1 hS => ?_)
  obtain ⟨v8, v9, v10, v11, v12, v13⟩ := u
  obtain ⟨hP1, hK1, hD1⟩ := hB
  rw [ht] at hP1
  obtain ⟨hP, hD⟩ := va_joinP (wr := []) (rx := [(ho, .inr (1, [.ref v8, .ref q_t, .int v10])), (v8, .inl (cc.2.1, v9, .inl v11)), (q_t, .inl (cc.2.1, 182, .inl v12))]) hP hD [0, 1, 2] [] rfl rfl (by decide) (by decide) hk1 hFc hP1 hD1
  generalize H1 = H at hP hS ⊢
  have hP : va_P (dC, dI) vwCl (([(ho, .inr (1, [.ref v8, .ref q_t, .int v10])), (v8, .inl (cc.2.1, v9, .inl v11)), (q_t, .inl (cc.2.1, 182, .inl v12))] : va_W) ++ px_cp cc ho cm np ns hm pa sa v13 pp ss) H := hP
  have hD : va_D A (([(ho, .inr (1, [.ref v8, .ref q_t, .int v10])), (v8, .inl (cc.2.1, v9, .inl v11)), (q_t, .inl (cc.2.1, 182, .inl v12))] : va_W) ++ px_cp cc ho cm np ns hm pa sa v13 pp ss) := hD
  refine W.widen (k := mc) (n := ms) hm6_14 hs6_14 ?_
  rw [← hQ]
  exact W.iret (v := r6) hx hb hr (fun t ht hW => ⟨⟨r6, (v8, v9, v10, v11, v12, v13), rfl, hw, by rw [ht]; exact hP, va_K.moved hW.alike hK, hD⟩, hS.F ht⟩) hS.2.2 px_d311_9

