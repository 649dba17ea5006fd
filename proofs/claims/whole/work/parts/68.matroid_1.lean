/-! MatroidDesk$Matroid.interleavesOdd(II)Z -/
def w265_L48 (a0x : Nat) (cm : Nat) (np : Nat) (ns : Nat) (pa : Nat → Nat) (sa : Nat → Nat) (pp : Nat → px_PR) (ss : Nat → px_SR) (post : Int32 → Nat → Nat → Int32 → (Nat → Int32) → (Nat → Int32) → (Nat → px_MR) → Prop) (x1 : Int32) (x2 : Int32) (x3 : Int32) (x4 : Int32) (y0 : Int32) (q_o : Nat) (l_o : Nat) (o_reached : Int32) (g_o : Nat → Int32) (g_t : Nat → Int32) (mm : Nat → px_MR) : Prop := narrow .boolean (.int y0) = .int y0 ∧ post y0 q_o l_o o_reached g_o g_t mm
def w265_L31 (K5 : Int32 → Int32 → Int32 → Int32 → Nat → Nat → Int32 → (Nat → Int32) → (Nat → Int32) → (Nat → px_MR) → Prop) (a0x : Nat) (cm : Nat) (np : Nat) (ns : Nat) (pa : Nat → Nat) (sa : Nat → Nat) (pp : Nat → px_PR) (ss : Nat → px_SR) (post : Int32 → Nat → Nat → Int32 → (Nat → Int32) → (Nat → Int32) → (Nat → px_MR) → Prop) (x1 : Int32) (x2 : Int32) (x3 : Int32) (x4 : Int32) (q_o : Nat) (l_o : Nat) (o_reached : Int32) (g_o : Nat → Int32) (g_t : Nat → Int32) (mm : Nat → px_MR) : Prop := ∀ z1 : Int32, z1 = x4 + 1 → K5 x1 x2 x3 z1 q_o l_o o_reached g_o g_t mm
def w265_L5 (a0x : Nat) (cm : Nat) (np : Nat) (ns : Nat) (pa : Nat → Nat) (sa : Nat → Nat) (pp : Nat → px_PR) (ss : Nat → px_SR) (post : Int32 → Nat → Nat → Int32 → (Nat → Int32) → (Nat → Int32) → (Nat → px_MR) → Prop) : Nat → Int32 → Int32 → Int32 → Int32 → Nat → Nat → Int32 → (Nat → Int32) → (Nat → Int32) → (Nat → px_MR) → Prop
  | 0 => fun _ _ _ _ _ _ _ _ _ _ => False
  | k + 1 => fun x1 x2 x3 x4 q_o l_o o_reached g_o g_t mm => (12 ≤ x4 → ((x3 &&& 1) = 0 → w265_L48 a0x cm np ns pa sa pp ss post x1 x2 x3 x4 0 q_o l_o o_reached g_o g_t mm) ∧ (¬ (x3 &&& 1) = 0 → w265_L48 a0x cm np ns pa sa pp ss post x1 x2 x3 x4 1 q_o l_o o_reached g_o g_t mm)) ∧ (¬ 12 ≤ x4 → (((x2 >>> (x4 &&& 31)) &&& 1) = 0 → w265_L31 (w265_L5 a0x cm np ns pa sa pp ss post k) a0x cm np ns pa sa pp ss post x1 x2 x3 x4 q_o l_o o_reached g_o g_t mm) ∧ (¬ ((x2 >>> (x4 &&& 31)) &&& 1) = 0 → (w250_wp (fun r26  => ∀ z3 : Int32, z3 = x3 + r26 → w265_L31 (w265_L5 a0x cm np ns pa sa pp ss post k) a0x cm np ns pa sa pp ss post x1 x2 z3 x4 q_o l_o o_reached g_o g_t mm) (x1 >>> (x4 &&& 31)))))
def w265_wp (a0x : Nat) (cm : Nat) (np : Nat) (ns : Nat) (pa : Nat → Nat) (sa : Nat → Nat) (pp : Nat → px_PR) (ss : Nat → px_SR) (post : Int32 → Nat → Nat → Int32 → (Nat → Int32) → (Nat → Int32) → (Nat → px_MR) → Prop) (a1x : Int32) (a2x : Int32) (q_o : Nat) (l_o : Nat) (o_reached : Int32) (g_o : Nat → Int32) (g_t : Nat → Int32) (mm : Nat → px_MR) : Prop := ∃ j5, w265_L5 a0x cm np ns pa sa pp ss post j5 a1x a2x 0 0 q_o l_o o_reached g_o g_t mm
set_option maxHeartbeats 8000000 in
set_option maxRecDepth 100000 in
theorem w265_met (l : Launch) (dC : Nat → ClassId) (dI : Nat → Nat → Nat) (sz : Nat) (ho : Nat) (q_t : Nat) (a0x : Nat) (cc : px_CC) (cm : Nat) (np : Nat) (ns : Nat) (hm : Nat → Nat) (pa : Nat → Nat) (sa : Nat → Nat) (pp : Nat → px_PR) (ss : Nat → px_SR) (a1x : Int32) (a2x : Int32) (q_o : Nat) (l_o : Nat) (o_reached : Int32) (g_o : Nat → Int32) (g_t : Nat → Int32) (mm : Nat → px_MR) (post : Int32 → Nat → Nat → Int32 → (Nat → Int32) → (Nat → Int32) → (Nat → px_MR) → Prop) (hw : w265_wp a0x cm np ns pa sa pp ss post a1x a2x q_o l_o o_reached g_o g_t mm) : Met l px_y265 px_s265 ({ frames := 1, cells := 0, slots := 0, locals := 20 }) (va_Pc [.ref (hm a0x), .int a1x, .int a2x] (fun U => U.heap.size = sz ∧ va_P (dC, dI) vwCl (([(ho, .inr (1, [.ref q_o, .ref q_t, .int o_reached])), (q_o, .inl (cc.2.1, l_o, .inl g_o)), (q_t, .inl (cc.2.1, 182, .inl g_t))] : va_W) ++ px_cp cc ho cm np ns hm pa sa mm pp ss) U.heap ∧ va_K (dC, dI) vwCl [(cc.2.1, .int), (cc.2.2.2.1, .byte), (cc.2.2.2.2, .long), (cc.1, .object "MatroidDesk$Part"), (cc.2.2.1, (.array .int))] U ∧ va_D (fun _ => True) (([(ho, .inr (1, [.ref q_o, .ref q_t, .int o_reached])), (q_o, .inl (cc.2.1, l_o, .inl g_o)), (q_t, .inl (cc.2.1, 182, .inl g_t))] : va_W) ++ px_cp cc ho cm np ns hm pa sa mm pp ss) ∧ px_N U)) (va_Qi (fun (r : Int32) (u : Nat × Nat × Int32 × (Nat → Int32) × (Nat → Int32) × (Nat → px_MR)) => post r u.1 u.2.1 u.2.2.1 u.2.2.2.1 u.2.2.2.2.1 u.2.2.2.2.2) (fun (u : Nat × Nat × Int32 × (Nat → Int32) × (Nat → Int32) × (Nat → px_MR)) (t : State) => va_P (dC, dI) vwCl (([(ho, .inr (1, [.ref u.1, .ref q_t, .int u.2.2.1])), (u.1, .inl (cc.2.1, u.2.1, .inl u.2.2.2.1)), (q_t, .inl (cc.2.1, 182, .inl u.2.2.2.2.1))] : va_W) ++ px_cp cc ho cm np ns hm pa sa u.2.2.2.2.2 pp ss) t.heap ∧ va_K (dC, dI) vwCl [(cc.2.1, .int), (cc.2.2.2.1, .byte), (cc.2.2.2.2, .long), (cc.1, .object "MatroidDesk$Part"), (cc.2.2.1, (.array .int))] t ∧ va_D (va_A (([(ho, .inr (1, [.ref q_o, .ref q_t, .int o_reached])), (q_o, .inl (cc.2.1, l_o, .inl g_o)), (q_t, .inl (cc.2.1, 182, .inl g_t))] : va_W) ++ px_cp cc ho cm np ns hm pa sa mm pp ss) sz) (([(ho, .inr (1, [.ref u.1, .ref q_t, .int u.2.2.1])), (u.1, .inl (cc.2.1, u.2.1, .inl u.2.2.2.1)), (q_t, .inl (cc.2.1, 182, .inl u.2.2.2.2.1))] : va_W) ++ px_cp cc ho cm np ns hm pa sa u.2.2.2.2.2 pp ss)) (va_A (([(ho, .inr (1, [.ref q_o, .ref q_t, .int o_reached])), (q_o, .inl (cc.2.1, l_o, .inl g_o)), (q_t, .inl (cc.2.1, 182, .inl g_t))] : va_W) ++ px_cp cc ho cm np ns hm pa sa mm pp ss) sz)) 0 0 (va_A (([(ho, .inr (1, [.ref q_o, .ref q_t, .int o_reached])), (q_o, .inl (cc.2.1, l_o, .inl g_o)), (q_t, .inl (cc.2.1, 182, .inl g_t))] : va_W) ++ px_cp cc ho cm np ns hm pa sa mm pp ss) sz) := by
  refine Met.ofW (cc := prog_3_method_22_code) (maxL := 5) (ret := (some .boolean)) (by decide) rfl ?_
  intro p e s m args below meth c s₁ B hml hv
  obtain ⟨rfl, hsz, hP, hK, hD0, hN⟩ := hv
  have hx := B.exec
  have hb := B.bytes
  have hr := B.returns
  have htw : ∀ w ∈ px_all, w.before _ s = true := fun w h => atoms_spec (ws := px_s265) B.pre w (List.mem_cons_of_mem _ h)
  have hown : s.vm.findClass "MatroidDesk$Matroid" = some m.cls := findClass_of_methodNamed B.named
  have hlocks := B.notSynchronized
  subst hsz
  have hD := hD0.self (sz := s.heap.size)
  generalize hAe : va_A (([(ho, .inr (1, [.ref q_o, .ref q_t, .int o_reached])), (q_o, .inl (cc.2.1, l_o, .inl g_o)), (q_t, .inl (cc.2.1, 182, .inl g_t))] : va_W) ++ px_cp cc ho cm np ns hm pa sa mm pp ss) s.heap.size = A at hD ⊢
  have hA : ∀ q : Nat, s.heap.size ≤ q → A q := fun q h => by rw [← hAe]; exact Or.inr h
  have hS : va_S A s.heap s.heap [] := va_S.rf
  have hP : va_P (dC, dI) vwCl (([(ho, .inr (1, [.ref q_o, .ref q_t, .int o_reached])), (q_o, .inl (cc.2.1, l_o, .inl g_o)), (q_t, .inl (cc.2.1, 182, .inl g_t))] : va_W) ++ px_cp cc ho cm np ns hm pa sa mm pp ss) s.heap := hP
  have hl := lv_entry ([.ref (hm a0x), .int a1x, .int a2x]) (n := 5) (Nat.le_of_ble_eq_true rfl)
  rw [lg_entry_eq]
  generalize (lg_sl ([.ref (hm a0x), .int a1x, .int a2x]) ++ List.replicate (5 - (lg_sl ([.ref (hm a0x), .int a1x, .int a2x])).length) Slot.unset).toArray = ls at hl ⊢
  have hl : lv_has ls 5 [(0, .ref (hm a0x)), (1, .int a1x), (2, .int a2x)] := hl
  generalize hQ : MQ _ _ _ _ _ _ _ = Q
  have S48 : ∀ (x1 : Int32) (x2 : Int32) (x3 : Int32) (x4 : Int32) (y0 : Int32) (q_o : Nat) (l_o : Nat) (o_reached : Int32) (g_o : Nat → Int32) (g_t : Nat → Int32) (mm : Nat → px_MR) (H : Heap) (locs : List Loc) (ls : Array Slot), va_P (dC, dI) vwCl (([(ho, .inr (1, [.ref q_o, .ref q_t, .int o_reached])), (q_o, .inl (cc.2.1, l_o, .inl g_o)), (q_t, .inl (cc.2.1, 182, .inl g_t))] : va_W) ++ px_cp cc ho cm np ns hm pa sa mm pp ss) H → va_D A (([(ho, .inr (1, [.ref q_o, .ref q_t, .int o_reached])), (q_o, .inl (cc.2.1, l_o, .inl g_o)), (q_t, .inl (cc.2.1, 182, .inl g_t))] : va_W) ++ px_cp cc ho cm np ns hm pa sa mm pp ss) → va_S A s.heap H locs → lv_has ls 5 [(0, .ref (hm a0x)), (1, .int x1), (2, .int x2), (3, .int x3), (4, .int x4)] → w265_L48 a0x cm np ns pa sa pp ss post x1 x2 x3 x4 y0 q_o l_o o_reached g_o g_t mm → W p l e (headSpec px_s265 ({ frames := 1, cells := 0, slots := 0, locals := 20 })).room s m ([.ref (hm a0x), .int a1x, .int a2x]).toArray below meth c H locs 0 0 Q (F0 m 48 ls [.int y0]) := by
    intro x1 x2 x3 x4 y0 q_o l_o o_reached g_o g_t mm H locs ls hP hD hS hl hw
    unfold w265_L48 at hw
    obtain ⟨hz9, hw⟩ := hw
    rw [← hQ]
    exact W.zret (v := y0) hx hb hr hz9 (fun t ht hW => ⟨⟨y0, (q_o, l_o, o_reached, g_o, g_t, mm), rfl, hw, by rw [ht]; exact hP, va_K.moved hW.alike hK, hD⟩, hS.F ht⟩) hS.2.2 px_d265_48
  have S5 : ∀ (k5 : Nat) (x1 : Int32) (x2 : Int32) (x3 : Int32) (x4 : Int32) (q_o : Nat) (l_o : Nat) (o_reached : Int32) (g_o : Nat → Int32) (g_t : Nat → Int32) (mm : Nat → px_MR) (H : Heap) (locs : List Loc) (ls : Array Slot), va_P (dC, dI) vwCl (([(ho, .inr (1, [.ref q_o, .ref q_t, .int o_reached])), (q_o, .inl (cc.2.1, l_o, .inl g_o)), (q_t, .inl (cc.2.1, 182, .inl g_t))] : va_W) ++ px_cp cc ho cm np ns hm pa sa mm pp ss) H → va_D A (([(ho, .inr (1, [.ref q_o, .ref q_t, .int o_reached])), (q_o, .inl (cc.2.1, l_o, .inl g_o)), (q_t, .inl (cc.2.1, 182, .inl g_t))] : va_W) ++ px_cp cc ho cm np ns hm pa sa mm pp ss) → va_S A s.heap H locs → lv_has ls 5 [(0, .ref (hm a0x)), (1, .int x1), (2, .int x2), (3, .int x3), (4, .int x4)] → w265_L5 a0x cm np ns pa sa pp ss post k5 x1 x2 x3 x4 q_o l_o o_reached g_o g_t mm → W p l e (headSpec px_s265 ({ frames := 1, cells := 0, slots := 0, locals := 20 })).room s m ([.ref (hm a0x), .int a1x, .int a2x]).toArray below meth c H locs 0 0 Q (F0 m 5 ls []) := by
    intro k5
    induction k5 with
    | zero => intro x1 x2 x3 x4 q_o l_o o_reached g_o g_t mm H locs ls hP hD hS hl hw; exact False.elim hw
    | succ k5 ih5 =>
      have S31 : ∀ (x1 : Int32) (x2 : Int32) (x3 : Int32) (x4 : Int32) (q_o : Nat) (l_o : Nat) (o_reached : Int32) (g_o : Nat → Int32) (g_t : Nat → Int32) (mm : Nat → px_MR) (H : Heap) (locs : List Loc) (ls : Array Slot), va_P (dC, dI) vwCl (([(ho, .inr (1, [.ref q_o, .ref q_t, .int o_reached])), (q_o, .inl (cc.2.1, l_o, .inl g_o)), (q_t, .inl (cc.2.1, 182, .inl g_t))] : va_W) ++ px_cp cc ho cm np ns hm pa sa mm pp ss) H → va_D A (([(ho, .inr (1, [.ref q_o, .ref q_t, .int o_reached])), (q_o, .inl (cc.2.1, l_o, .inl g_o)), (q_t, .inl (cc.2.1, 182, .inl g_t))] : va_W) ++ px_cp cc ho cm np ns hm pa sa mm pp ss) → va_S A s.heap H locs → lv_has ls 5 [(0, .ref (hm a0x)), (1, .int x1), (2, .int x2), (3, .int x3), (4, .int x4)] → w265_L31 (w265_L5 a0x cm np ns pa sa pp ss post k5) a0x cm np ns pa sa pp ss post x1 x2 x3 x4 q_o l_o o_reached g_o g_t mm → W p l e (headSpec px_s265 ({ frames := 1, cells := 0, slots := 0, locals := 20 })).room s m ([.ref (hm a0x), .int a1x, .int a2x]).toArray below meth c H locs 0 0 Q (F0 m 31 ls []) := by
        intro x1 x2 x3 x4 q_o l_o o_reached g_o g_t mm H locs ls hP hD hS hl hw
        unfold w265_L31 at hw
        obtain ⟨z1, ez1⟩ : ∃ y : Int32, y = x4 + 1 := ⟨_, rfl⟩
        have hw := hw z1 ez1
        refine lv_iinc (v := z1) (lv' := [(4, .int z1), (0, .ref (hm a0x)), (1, .int x1), (2, .int x2), (3, .int x3)]) hx hb px_d265_31 hl (k := 4) rfl (by rw [ez1]; rfl) (by decide) rfl (fun ls hl => ?_)
        refine lv_goto (tgt := 5) hx hb px_d265_34 (by decide) ?_
        exact ih5 x1 x2 x3 z1 q_o l_o o_reached g_o g_t mm H locs ls hP hD hS (lv_sub hl [1, 2, 3, 4, 0] rfl) hw
      intro x1 x2 x3 x4 q_o l_o o_reached g_o g_t mm H locs ls hP hD hS hl hw
      unfold w265_L5 at hw
      refine lv_iload hx hb px_d265_5 (lv_at hl 4 rfl) ?_
      refine lv_bipush (v := 12) hx hb px_d265_7 (by decide) ?_
      refine lv_icmp_ge (tgt := 37) hx hb px_d265_9 (by decide) (fun c9 => ?_) (fun c9 => ?_)
      · have hw := hw.1 c9
        refine lv_iload_n hx hb px_d265_37 rfl (lv_at hl 3 rfl) ?_
        refine lv_iconst (v := 1) hx hb px_d265_38 (by decide) ?_
        refine lv_iand hx hb px_d265_39 ?_
        refine lv_if_eq (tgt := 47) hx hb px_d265_40 (by decide) (fun c40 => ?_) (fun c40 => ?_)
        · have hw := hw.1 c40
          refine lv_iconst (v := 0) hx hb px_d265_47 (by decide) ?_
          exact S48 x1 x2 x3 x4 0 q_o l_o o_reached g_o g_t mm H locs ls hP hD hS (lv_sub hl [0, 1, 2, 3, 4] rfl) hw
        · have hw := hw.2 c40
          refine lv_iconst (v := 1) hx hb px_d265_43 (by decide) ?_
          refine lv_goto (tgt := 48) hx hb px_d265_44 (by decide) ?_
          exact S48 x1 x2 x3 x4 1 q_o l_o o_reached g_o g_t mm H locs ls hP hD hS (lv_sub hl [0, 1, 2, 3, 4] rfl) hw
      · have hw := hw.2 c9
        refine lv_iload_n hx hb px_d265_12 rfl (lv_at hl 2 rfl) ?_
        refine lv_iload hx hb px_d265_13 (lv_at hl 4 rfl) ?_
        refine lv_ishr hx hb px_d265_15 ?_
        refine lv_iconst (v := 1) hx hb px_d265_16 (by decide) ?_
        refine lv_iand hx hb px_d265_17 ?_
        refine lv_if_eq (tgt := 31) hx hb px_d265_18 (by decide) (fun c18 => ?_) (fun c18 => ?_)
        · have hw := hw.1 c18
          exact S31 x1 x2 x3 x4 q_o l_o o_reached g_o g_t mm H locs ls hP hD hS (lv_sub hl [0, 1, 2, 3, 4] rfl) hw
        · have hw := hw.2 c18
          refine lv_iload_n hx hb px_d265_21 rfl (lv_at hl 3 rfl) ?_
          refine lv_iload_n hx hb px_d265_22 rfl (lv_at hl 1 rfl) ?_
          refine lv_iload hx hb px_d265_23 (lv_at hl 4 rfl) ?_
          refine lv_ishr hx hb px_d265_25 ?_
          have hPc := hP.sub (ws' := []) [] rfl
          have hDc := hD.sub (ws' := []) [] (by decide) rfl
          have hFc := va_free (wc := []) hD hS hA [] rfl
          have hKc := hK.sub (tys' := []) [] rfl
          refine va_calli (va_runS (As := [.int (x1 >>> (x4 &&& 31))]) (rest := [.int x3]) ⟨hx, hb, hml, hown, htw⟩ (w250_met l dC dI H.size (x1 >>> (x4 &&& 31)) _ hw) (va_cwS 1 htw (px_gs2 px_w1266 px_w1290 px_w1764 px_g250) rfl rfl rfl (by decide +kernel) ⟨Nat.le_of_ble_eq_true rfl, Nat.le_of_ble_eq_true rfl⟩) ⟨fun a U g mk q => by obtain ⟨q0, q1, qP, qK, qD, qN⟩ := q; exact ⟨q0, q1, qP, va_K.moved (u := U) (U := U.calling g mk a) (Vm.Alike.refl U.vm) qK, qD, qN.same rfl⟩, fun U hU hW => ⟨rfl, by rw [hU], by rw [hU]; exact hPc, va_K.moved hW.alike hKc, hDc.weaken (fun _ _ _ _ => trivial), hN.warm hW⟩⟩ rfl rfl hl.1 rfl (lv_room (Nat.le_of_ble_eq_true rfl)) px_d265_26 ⟨(Nat.le_of_ble_eq_true rfl), (Nat.le_of_ble_eq_true rfl)⟩) hS (fun q _ h => hFc q h) hFc (fun r26 u t H1 locs ht hvm hw hB hz1 hk1 hS => ?_)
          obtain ⟨hP1, hK1, hD1⟩ := hB
          rw [ht] at hP1
          obtain ⟨hP, hD⟩ := va_joinQ (wr := [(ho, .inr (1, [.ref q_o, .ref q_t, .int o_reached])), (q_o, .inl (cc.2.1, l_o, .inl g_o)), (q_t, .inl (cc.2.1, 182, .inl g_t))]) (w1 := []) hP hD [] [0, 1, 2] rfl rfl (by decide) (by decide) hk1 hFc hP1 hD1
          generalize H1 = H at hP hS ⊢
          have hP : va_P (dC, dI) vwCl (([(ho, .inr (1, [.ref q_o, .ref q_t, .int o_reached])), (q_o, .inl (cc.2.1, l_o, .inl g_o)), (q_t, .inl (cc.2.1, 182, .inl g_t))] : va_W) ++ px_cp cc ho cm np ns hm pa sa mm pp ss) H := hP
          have hD : va_D A (([(ho, .inr (1, [.ref q_o, .ref q_t, .int o_reached])), (q_o, .inl (cc.2.1, l_o, .inl g_o)), (q_t, .inl (cc.2.1, 182, .inl g_t))] : va_W) ++ px_cp cc ho cm np ns hm pa sa mm pp ss) := hD
          refine lv_iadd hx hb px_d265_29 ?_
          refine lv_topi (fun z3 ez3 => ?_)
          have hw := hw z3 ez3
          refine lv_istore_n (lv' := [(3, .int z3), (0, .ref (hm a0x)), (1, .int x1), (2, .int x2), (4, .int x4)]) hx hb px_d265_30 rfl hl (by decide) rfl (fun ls hl => ?_)
          exact S31 x1 x2 z3 x4 q_o l_o o_reached g_o g_t mm H locs ls hP hD hS (lv_sub hl [1, 2, 3, 0, 4] rfl) hw
  unfold w265_wp at hw
  have hS0 := hS
  obtain ⟨H, hH9⟩ : ∃ z, z = s.heap := ⟨_, rfl⟩
  have hP : va_P (dC, dI) vwCl (([(ho, .inr (1, [.ref q_o, .ref q_t, .int o_reached])), (q_o, .inl (cc.2.1, l_o, .inl g_o)), (q_t, .inl (cc.2.1, 182, .inl g_t))] : va_W) ++ px_cp cc ho cm np ns hm pa sa mm pp ss) H := by rw [hH9]; exact hP
  obtain ⟨locs, hlo9⟩ : ∃ z : List Loc, z = [] := ⟨_, rfl⟩
  have hS : va_S A s.heap H locs := by rw [hH9, hlo9]; exact hS
  suffices hG : W p l e (headSpec px_s265 ({ frames := 1, cells := 0, slots := 0, locals := 20 })).room s m ([.ref (hm a0x), .int a1x, .int a2x]).toArray below meth c H locs 0 0 Q (F0 m 0 ls []) by rw [hH9, hlo9] at hG; exact hG
  refine lv_iconst (v := 0) hx hb px_d265_0 (by decide) ?_
  refine lv_istore_n (lv' := [(3, .int 0), (0, .ref (hm a0x)), (1, .int a1x), (2, .int a2x)]) hx hb px_d265_1 rfl hl (by decide) rfl (fun ls hl => ?_)
  refine lv_iconst (v := 0) hx hb px_d265_2 (by decide) ?_
  refine lv_istore (lv' := [(4, .int 0), (3, .int 0), (0, .ref (hm a0x)), (1, .int a1x), (2, .int a2x)]) hx hb px_d265_3 hl (by decide) rfl (fun ls hl => ?_)
  obtain ⟨k9, hw⟩ := hw
  exact S5 k9 a1x a2x 0 0 q_o l_o o_reached g_o g_t mm H locs ls hP hD hS (lv_sub hl [2, 3, 4, 1, 0] rfl) hw

/-! MatroidDesk$Matroid.lowerVariable(III)V -/
def w283_L14 (K3 : Int32 → Int32 → Int32 → Int32 → Nat → Nat → Int32 → (Nat → Int32) → (Nat → Int32) → (Nat → px_MR) → Prop) (a0x : Nat) (cm : Nat) (np : Nat) (ns : Nat) (pa : Nat → Nat) (sa : Nat → Nat) (pp : Nat → px_PR) (ss : Nat → px_SR) (post : Nat → Nat → Int32 → (Nat → Int32) → (Nat → Int32) → (Nat → px_MR) → Prop) : Nat → Int32 → Int32 → Int32 → Int32 → Int32 → Nat → Nat → Int32 → (Nat → Int32) → (Nat → Int32) → (Nat → px_MR) → Prop
  | 0 => fun _ _ _ _ _ _ _ _ _ _ _ => False
  | k + 1 => fun x1 x2 x3 x4 x5 q_o l_o o_reached g_o g_t mm => (x5 < x4 → ∀ z1 : Int32, z1 = x4 + 1 → K3 x1 x2 x3 z1 q_o l_o o_reached g_o g_t mm) ∧ (¬ x5 < x4 → a0x < cm ∧ (a0x < cm ∧ (vp_in (x1 + (x5 * x2)) ((mm a0x).2.2.1 8) ∧ (a0x < cm ∧ (a0x < cm ∧ (vp_in (x1 + ((x5 + 1) * x2)) ((mm a0x).2.2.1 8) ∧ (∀ z2 : Int64, z2 = (((mm a0x).2.2.2.2.1) (Int32.toNatClampNeg (x1 + (x5 * x2)))) - (((mm a0x).2.2.2.2.1) (Int32.toNatClampNeg (x1 + ((x5 + 1) * x2)))) → a0x < cm ∧ (vp_in (x1 + (x5 * x2)) ((mm a0x).2.2.1 8) ∧ (∀ mm3 : Nat → px_MR, mm3 = va_up mm a0x ((mm a0x).1, (mm a0x).2.1, (mm a0x).2.2.1, (mm a0x).2.2.2.1, vp_updL (mm a0x).2.2.2.2.1 (Int32.toNatClampNeg (x1 + (x5 * x2))) z2, (mm a0x).2.2.2.2.2) → (∀ z4 : Int32, z4 = x5 + (-1) → (w283_L14 K3 a0x cm np ns pa sa pp ss post k) x1 x2 x3 x4 z4 q_o l_o o_reached g_o g_t mm3))))))))))
def w283_L3 (a0x : Nat) (cm : Nat) (np : Nat) (ns : Nat) (pa : Nat → Nat) (sa : Nat → Nat) (pp : Nat → px_PR) (ss : Nat → px_SR) (post : Nat → Nat → Int32 → (Nat → Int32) → (Nat → Int32) → (Nat → px_MR) → Prop) : Nat → Int32 → Int32 → Int32 → Int32 → Nat → Nat → Int32 → (Nat → Int32) → (Nat → Int32) → (Nat → px_MR) → Prop
  | 0 => fun _ _ _ _ _ _ _ _ _ _ => False
  | k + 1 => fun x1 x2 x3 x4 q_o l_o o_reached g_o g_t mm => (x3 ≤ x4 → post q_o l_o o_reached g_o g_t mm) ∧ (¬ x3 ≤ x4 → ∀ z5 : Int32, z5 = x3 - 1 → ∃ j14, w283_L14 (w283_L3 a0x cm np ns pa sa pp ss post k) a0x cm np ns pa sa pp ss post j14 x1 x2 x3 x4 z5 q_o l_o o_reached g_o g_t mm)
def w283_wp (a0x : Nat) (cm : Nat) (np : Nat) (ns : Nat) (pa : Nat → Nat) (sa : Nat → Nat) (pp : Nat → px_PR) (ss : Nat → px_SR) (post : Nat → Nat → Int32 → (Nat → Int32) → (Nat → Int32) → (Nat → px_MR) → Prop) (a1x : Int32) (a2x : Int32) (a3x : Int32) (q_o : Nat) (l_o : Nat) (o_reached : Int32) (g_o : Nat → Int32) (g_t : Nat → Int32) (mm : Nat → px_MR) : Prop := ∃ j3, w283_L3 a0x cm np ns pa sa pp ss post j3 a1x a2x a3x 0 q_o l_o o_reached g_o g_t mm
set_option maxHeartbeats 8000000 in
set_option maxRecDepth 100000 in
theorem w283_met (l : Launch) (dC : Nat → ClassId) (dI : Nat → Nat → Nat) (sz : Nat) (ho : Nat) (q_t : Nat) (a0x : Nat) (cc : px_CC) (cm : Nat) (np : Nat) (ns : Nat) (hm : Nat → Nat) (pa : Nat → Nat) (sa : Nat → Nat) (pp : Nat → px_PR) (ss : Nat → px_SR) (a1x : Int32) (a2x : Int32) (a3x : Int32) (q_o : Nat) (l_o : Nat) (o_reached : Int32) (g_o : Nat → Int32) (g_t : Nat → Int32) (mm : Nat → px_MR) (post : Nat → Nat → Int32 → (Nat → Int32) → (Nat → Int32) → (Nat → px_MR) → Prop) (hw : w283_wp a0x cm np ns pa sa pp ss post a1x a2x a3x q_o l_o o_reached g_o g_t mm) : Met l px_y283 px_s283 ({ frames := 0, cells := 0, slots := 0, locals := 0 }) (va_Pc [.ref (hm a0x), .int a1x, .int a2x, .int a3x] (fun U => U.heap.size = sz ∧ va_P (dC, dI) vwCl (([(ho, .inr (1, [.ref q_o, .ref q_t, .int o_reached])), (q_o, .inl (cc.2.1, l_o, .inl g_o)), (q_t, .inl (cc.2.1, 182, .inl g_t))] : va_W) ++ px_cp cc ho cm np ns hm pa sa mm pp ss) U.heap ∧ va_K (dC, dI) vwCl [(cc.2.1, .int), (cc.2.2.2.1, .byte), (cc.2.2.2.2, .long), (cc.1, .object "MatroidDesk$Part"), (cc.2.2.1, (.array .int))] U ∧ va_D (fun _ => True) (([(ho, .inr (1, [.ref q_o, .ref q_t, .int o_reached])), (q_o, .inl (cc.2.1, l_o, .inl g_o)), (q_t, .inl (cc.2.1, 182, .inl g_t))] : va_W) ++ px_cp cc ho cm np ns hm pa sa mm pp ss) ∧ px_N U)) (va_Qv (fun (u : Nat × Nat × Int32 × (Nat → Int32) × (Nat → Int32) × (Nat → px_MR)) => post u.1 u.2.1 u.2.2.1 u.2.2.2.1 u.2.2.2.2.1 u.2.2.2.2.2) (fun (u : Nat × Nat × Int32 × (Nat → Int32) × (Nat → Int32) × (Nat → px_MR)) (t : State) => va_P (dC, dI) vwCl (([(ho, .inr (1, [.ref u.1, .ref q_t, .int u.2.2.1])), (u.1, .inl (cc.2.1, u.2.1, .inl u.2.2.2.1)), (q_t, .inl (cc.2.1, 182, .inl u.2.2.2.2.1))] : va_W) ++ px_cp cc ho cm np ns hm pa sa u.2.2.2.2.2 pp ss) t.heap ∧ va_K (dC, dI) vwCl [(cc.2.1, .int), (cc.2.2.2.1, .byte), (cc.2.2.2.2, .long), (cc.1, .object "MatroidDesk$Part"), (cc.2.2.1, (.array .int))] t ∧ va_D (va_A (([(ho, .inr (1, [.ref q_o, .ref q_t, .int o_reached])), (q_o, .inl (cc.2.1, l_o, .inl g_o)), (q_t, .inl (cc.2.1, 182, .inl g_t))] : va_W) ++ px_cp cc ho cm np ns hm pa sa mm pp ss) sz) (([(ho, .inr (1, [.ref u.1, .ref q_t, .int u.2.2.1])), (u.1, .inl (cc.2.1, u.2.1, .inl u.2.2.2.1)), (q_t, .inl (cc.2.1, 182, .inl u.2.2.2.2.1))] : va_W) ++ px_cp cc ho cm np ns hm pa sa u.2.2.2.2.2 pp ss)) (va_A (([(ho, .inr (1, [.ref q_o, .ref q_t, .int o_reached])), (q_o, .inl (cc.2.1, l_o, .inl g_o)), (q_t, .inl (cc.2.1, 182, .inl g_t))] : va_W) ++ px_cp cc ho cm np ns hm pa sa mm pp ss) sz)) 0 0 (va_A (([(ho, .inr (1, [.ref q_o, .ref q_t, .int o_reached])), (q_o, .inl (cc.2.1, l_o, .inl g_o)), (q_t, .inl (cc.2.1, 182, .inl g_t))] : va_W) ++ px_cp cc ho cm np ns hm pa sa mm pp ss) sz) := by
  refine Met.ofW (cc := prog_3_method_30_code) (maxL := 6) (ret := none) (by decide) rfl ?_
  intro p e s m args below meth c s₁ B hml hv
  obtain ⟨rfl, hsz, hP, hK, hD0, hN⟩ := hv
  have hx := B.exec
  have hb := B.bytes
  have hr := B.returns
  have htw : ∀ w ∈ px_all, w.before _ s = true := fun w h => atoms_spec (ws := px_s283) B.pre w (List.mem_cons_of_mem _ h)
  have hown : s.vm.findClass "MatroidDesk$Matroid" = some m.cls := findClass_of_methodNamed B.named
  have hlocks := B.notSynchronized
  subst hsz
  have hD := hD0.self (sz := s.heap.size)
  generalize hAe : va_A (([(ho, .inr (1, [.ref q_o, .ref q_t, .int o_reached])), (q_o, .inl (cc.2.1, l_o, .inl g_o)), (q_t, .inl (cc.2.1, 182, .inl g_t))] : va_W) ++ px_cp cc ho cm np ns hm pa sa mm pp ss) s.heap.size = A at hD ⊢
  have hA : ∀ q : Nat, s.heap.size ≤ q → A q := fun q h => by rw [← hAe]; exact Or.inr h
  have hS : va_S A s.heap s.heap [] := va_S.rf
  have hP : va_P (dC, dI) vwCl (([(ho, .inr (1, [.ref q_o, .ref q_t, .int o_reached])), (q_o, .inl (cc.2.1, l_o, .inl g_o)), (q_t, .inl (cc.2.1, 182, .inl g_t))] : va_W) ++ px_cp cc ho cm np ns hm pa sa mm pp ss) s.heap := hP
  have hl := lv_entry ([.ref (hm a0x), .int a1x, .int a2x, .int a3x]) (n := 6) (Nat.le_of_ble_eq_true rfl)
  rw [lg_entry_eq]
  generalize (lg_sl ([.ref (hm a0x), .int a1x, .int a2x, .int a3x]) ++ List.replicate (6 - (lg_sl ([.ref (hm a0x), .int a1x, .int a2x, .int a3x])).length) Slot.unset).toArray = ls at hl ⊢
  have hl : lv_has ls 6 [(0, .ref (hm a0x)), (1, .int a1x), (2, .int a2x), (3, .int a3x)] := hl
  generalize hQ : MQ _ _ _ _ _ _ _ = Q
  have S3 : ∀ (k3 : Nat) (x1 : Int32) (x2 : Int32) (x3 : Int32) (x4 : Int32) (q_o : Nat) (l_o : Nat) (o_reached : Int32) (g_o : Nat → Int32) (g_t : Nat → Int32) (mm : Nat → px_MR) (H : Heap) (locs : List Loc) (ls : Array Slot), va_P (dC, dI) vwCl (([(ho, .inr (1, [.ref q_o, .ref q_t, .int o_reached])), (q_o, .inl (cc.2.1, l_o, .inl g_o)), (q_t, .inl (cc.2.1, 182, .inl g_t))] : va_W) ++ px_cp cc ho cm np ns hm pa sa mm pp ss) H → va_D A (([(ho, .inr (1, [.ref q_o, .ref q_t, .int o_reached])), (q_o, .inl (cc.2.1, l_o, .inl g_o)), (q_t, .inl (cc.2.1, 182, .inl g_t))] : va_W) ++ px_cp cc ho cm np ns hm pa sa mm pp ss) → va_S A s.heap H locs → lv_has ls 6 [(0, .ref (hm a0x)), (1, .int x1), (2, .int x2), (3, .int x3), (4, .int x4)] → w283_L3 a0x cm np ns pa sa pp ss post k3 x1 x2 x3 x4 q_o l_o o_reached g_o g_t mm → W p l e (headSpec px_s283 ({ frames := 0, cells := 0, slots := 0, locals := 0 })).room s m ([.ref (hm a0x), .int a1x, .int a2x, .int a3x]).toArray below meth c H locs 0 0 Q (F0 m 3 ls []) := by
    intro k3
    induction k3 with
    | zero => intro x1 x2 x3 x4 q_o l_o o_reached g_o g_t mm H locs ls hP hD hS hl hw; exact False.elim hw
    | succ k3 ih3 =>
      have S14 : ∀ (k14 : Nat) (x1 : Int32) (x2 : Int32) (x3 : Int32) (x4 : Int32) (x5 : Int32) (q_o : Nat) (l_o : Nat) (o_reached : Int32) (g_o : Nat → Int32) (g_t : Nat → Int32) (mm : Nat → px_MR) (H : Heap) (locs : List Loc) (ls : Array Slot), va_P (dC, dI) vwCl (([(ho, .inr (1, [.ref q_o, .ref q_t, .int o_reached])), (q_o, .inl (cc.2.1, l_o, .inl g_o)), (q_t, .inl (cc.2.1, 182, .inl g_t))] : va_W) ++ px_cp cc ho cm np ns hm pa sa mm pp ss) H → va_D A (([(ho, .inr (1, [.ref q_o, .ref q_t, .int o_reached])), (q_o, .inl (cc.2.1, l_o, .inl g_o)), (q_t, .inl (cc.2.1, 182, .inl g_t))] : va_W) ++ px_cp cc ho cm np ns hm pa sa mm pp ss) → va_S A s.heap H locs → lv_has ls 6 [(0, .ref (hm a0x)), (1, .int x1), (2, .int x2), (3, .int x3), (4, .int x4), (5, .int x5)] → w283_L14 (w283_L3 a0x cm np ns pa sa pp ss post k3) a0x cm np ns pa sa pp ss post k14 x1 x2 x3 x4 x5 q_o l_o o_reached g_o g_t mm → W p l e (headSpec px_s283 ({ frames := 0, cells := 0, slots := 0, locals := 0 })).room s m ([.ref (hm a0x), .int a1x, .int a2x, .int a3x]).toArray below meth c H locs 0 0 Q (F0 m 14 ls []) := by
        intro k14
        induction k14 with
        | zero => intro x1 x2 x3 x4 x5 q_o l_o o_reached g_o g_t mm H locs ls hP hD hS hl hw; exact False.elim hw
        | succ k14 ih14 =>
          intro x1 x2 x3 x4 x5 q_o l_o o_reached g_o g_t mm H locs ls hP hD hS hl hw
          unfold w283_L14 at hw
          refine lv_iload hx hb px_d283_14 (lv_at hl 5 rfl) ?_
          refine lv_iload hx hb px_d283_16 (lv_at hl 4 rfl) ?_
          refine lv_icmp_lt (tgt := 54) hx hb px_d283_18 (by decide) (fun c18 => ?_) (fun c18 => ?_)
          · have hw := hw.1 c18
            obtain ⟨z1, ez1⟩ : ∃ y : Int32, y = x4 + 1 := ⟨_, rfl⟩
            have hw := hw z1 ez1
            refine lv_iinc (v := z1) (lv' := [(4, .int z1), (0, .ref (hm a0x)), (1, .int x1), (2, .int x2), (3, .int x3), (5, .int x5)]) hx hb px_d283_54 hl (k := 4) rfl (by rw [ez1]; rfl) (by decide) rfl (fun ls hl => ?_)
            refine lv_goto (tgt := 3) hx hb px_d283_57 (by decide) ?_
            exact ih3 x1 x2 x3 z1 q_o l_o o_reached g_o g_t mm H locs ls hP hD hS (lv_sub hl [1, 2, 3, 4, 0] rfl) hw
          · have hw := hw.2 c18
            refine lv_aload_n hx hb px_d283_21 rfl (lv_at hl 0 rfl) ?_
            obtain ⟨hp22, hw⟩ := hw
            refine va_get (D := (dC, dI)) (ci := 10) (v := .ref ((mm a0x).1 8)) (C := "MatroidDesk$Matroid") (T := px_T10) (N := 15) hx hb htw px_in10 hown hK hP (3 + (13 * a0x + 0)) (px_cg0 rfl hp22) rfl 8 (by decide) (htw _ px_w1007) (fun _ h9 => h9) rfl px_d283_22 ?_
            refine lv_iload_n hx hb px_d283_25 rfl (lv_at hl 1 rfl) ?_
            refine lv_iload hx hb px_d283_26 (lv_at hl 5 rfl) ?_
            refine lv_iload_n hx hb px_d283_28 rfl (lv_at hl 2 rfl) ?_
            refine lv_imul hx hb px_d283_29 ?_
            refine lv_iadd hx hb px_d283_30 ?_
            refine lv_dup2_11 hx hb px_d283_31 rfl rfl ?_
            obtain ⟨hp32, hw⟩ := hw
            obtain ⟨hi32, hw⟩ := hw
            refine va_lald hx hb hK hP (3 + (13 * a0x + 8)) 2 (px_cg8 rfl hp32) rfl hi32 px_d283_32 ?_
            refine lv_aload_n hx hb px_d283_33 rfl (lv_at hl 0 rfl) ?_
            obtain ⟨hp34, hw⟩ := hw
            refine va_get (D := (dC, dI)) (ci := 10) (v := .ref ((mm a0x).1 8)) (C := "MatroidDesk$Matroid") (T := px_T10) (N := 15) hx hb htw px_in10 hown hK hP (3 + (13 * a0x + 0)) (px_cg0 rfl hp34) rfl 8 (by decide) (htw _ px_w1007) (fun _ h9 => h9) rfl px_d283_34 ?_
            refine lv_iload_n hx hb px_d283_37 rfl (lv_at hl 1 rfl) ?_
            refine lv_iload hx hb px_d283_38 (lv_at hl 5 rfl) ?_
            refine lv_iconst (v := 1) hx hb px_d283_40 (by decide) ?_
            refine lv_iadd hx hb px_d283_41 ?_
            refine lv_iload_n hx hb px_d283_42 rfl (lv_at hl 2 rfl) ?_
            refine lv_imul hx hb px_d283_43 ?_
            refine lv_iadd hx hb px_d283_44 ?_
            obtain ⟨hp45, hw⟩ := hw
            obtain ⟨hi45, hw⟩ := hw
            refine va_lald hx hb hK hP (3 + (13 * a0x + 8)) 2 (px_cg8 rfl hp45) rfl hi45 px_d283_45 ?_
            refine lv_lsub hx hb px_d283_46 ?_
            refine lv_topl (fun z2 ez2 => ?_)
            have hw := hw z2 ez2
            obtain ⟨hp47, hw⟩ := hw
            obtain ⟨hi47, hw⟩ := hw
            obtain ⟨mm3, emm3⟩ : ∃ z : Nat → px_MR, z = va_up mm a0x ((mm a0x).1, (mm a0x).2.1, (mm a0x).2.2.1, (mm a0x).2.2.2.1, vp_updL (mm a0x).2.2.2.2.1 (Int32.toNatClampNeg (x1 + (x5 * x2))) z2, (mm a0x).2.2.2.2.2) := ⟨_, rfl⟩
            refine va_last hx hb hK hP hD hS (3 + (13 * a0x + 8)) 2 (px_cg8 rfl hp47) rfl hi47 px_d283_47 (fun H locs hP hD hS => ?_)
            have hP : va_P (dC, dI) vwCl (([(ho, .inr (1, [.ref q_o, .ref q_t, .int o_reached])), (q_o, .inl (cc.2.1, l_o, .inl g_o)), (q_t, .inl (cc.2.1, 182, .inl g_t))] : va_W) ++ px_cp cc ho cm np ns hm pa sa mm3 pp ss) H := px_csP rfl hp47 (by decide) rfl (px_hr8 _ _ _) emm3 hP
            have hD : va_D A (([(ho, .inr (1, [.ref q_o, .ref q_t, .int o_reached])), (q_o, .inl (cc.2.1, l_o, .inl g_o)), (q_t, .inl (cc.2.1, 182, .inl g_t))] : va_W) ++ px_cp cc ho cm np ns hm pa sa mm3 pp ss) := px_csD rfl hp47 (by decide) rfl (px_hr8 _ _ _) emm3 hD
            have hw := hw mm3 emm3
            obtain ⟨z4, ez4⟩ : ∃ y : Int32, y = x5 + (-1) := ⟨_, rfl⟩
            have hw := hw z4 ez4
            refine lv_iinc (v := z4) (lv' := [(5, .int z4), (0, .ref (hm a0x)), (1, .int x1), (2, .int x2), (3, .int x3), (4, .int x4)]) hx hb px_d283_48 hl (k := 5) rfl (by rw [ez4]; rfl) (by decide) rfl (fun ls hl => ?_)
            refine lv_goto (tgt := 14) hx hb px_d283_51 (by decide) ?_
            exact ih14 x1 x2 x3 x4 z4 q_o l_o o_reached g_o g_t mm3 H locs ls hP hD hS (lv_sub hl [1, 2, 3, 4, 5, 0] rfl) hw
      intro x1 x2 x3 x4 q_o l_o o_reached g_o g_t mm H locs ls hP hD hS hl hw
      unfold w283_L3 at hw
      refine lv_iload hx hb px_d283_3 (lv_at hl 4 rfl) ?_
      refine lv_iload_n hx hb px_d283_5 rfl (lv_at hl 3 rfl) ?_
      refine lv_icmp_ge (tgt := 60) hx hb px_d283_6 (by decide) (fun c6 => ?_) (fun c6 => ?_)
      · have hw := hw.1 c6
        rw [← hQ]
        exact W.vret hx hb hr (fun t ht hW => ⟨⟨(q_o, l_o, o_reached, g_o, g_t, mm), rfl, hw, by rw [ht]; exact hP, va_K.moved hW.alike hK, hD⟩, hS.F ht⟩) hS.2.2 px_d283_60
      · have hw := hw.2 c6
        refine lv_iload_n hx hb px_d283_9 rfl (lv_at hl 3 rfl) ?_
        refine lv_iconst (v := 1) hx hb px_d283_10 (by decide) ?_
        refine lv_isub hx hb px_d283_11 ?_
        refine lv_topi (fun z5 ez5 => ?_)
        have hw := hw z5 ez5
        refine lv_istore (lv' := [(5, .int z5), (0, .ref (hm a0x)), (1, .int x1), (2, .int x2), (3, .int x3), (4, .int x4)]) hx hb px_d283_12 hl (by decide) rfl (fun ls hl => ?_)
        obtain ⟨k9, hw⟩ := hw
        exact S14 k9 x1 x2 x3 x4 z5 q_o l_o o_reached g_o g_t mm H locs ls hP hD hS (lv_sub hl [1, 2, 3, 4, 5, 0] rfl) hw
  unfold w283_wp at hw
  have hS0 := hS
  obtain ⟨H, hH9⟩ : ∃ z, z = s.heap := ⟨_, rfl⟩
  have hP : va_P (dC, dI) vwCl (([(ho, .inr (1, [.ref q_o, .ref q_t, .int o_reached])), (q_o, .inl (cc.2.1, l_o, .inl g_o)), (q_t, .inl (cc.2.1, 182, .inl g_t))] : va_W) ++ px_cp cc ho cm np ns hm pa sa mm pp ss) H := by rw [hH9]; exact hP
  obtain ⟨locs, hlo9⟩ : ∃ z : List Loc, z = [] := ⟨_, rfl⟩
  have hS : va_S A s.heap H locs := by rw [hH9, hlo9]; exact hS
  suffices hG : W p l e (headSpec px_s283 ({ frames := 0, cells := 0, slots := 0, locals := 0 })).room s m ([.ref (hm a0x), .int a1x, .int a2x, .int a3x]).toArray below meth c H locs 0 0 Q (F0 m 0 ls []) by rw [hH9, hlo9] at hG; exact hG
  refine lv_iconst (v := 0) hx hb px_d283_0 (by decide) ?_
  refine lv_istore (lv' := [(4, .int 0), (0, .ref (hm a0x)), (1, .int a1x), (2, .int a2x), (3, .int a3x)]) hx hb px_d283_1 hl (by decide) rfl (fun ls hl => ?_)
  obtain ⟨k9, hw⟩ := hw
  exact S3 k9 a1x a2x a3x 0 q_o l_o o_reached g_o g_t mm H locs ls hP hD hS (lv_sub hl [1, 2, 3, 4, 0] rfl) hw

/-! MatroidDesk$Matroid.workOutRanks()V -/
def w263_L149 (K139 : Int32 → Int32 → Nat → Nat → Int32 → (Nat → Int32) → (Nat → Int32) → (Nat → px_MR) → Nat → Nat → Prop) (a0x : Nat) (cm : Nat) (np : Nat) (ns : Nat) (pa : Nat → Nat) (sa : Nat → Nat) (pp : Nat → px_PR) (ss : Nat → px_SR) (mc : Nat) (ms : Nat) (post : Nat → Nat → Int32 → (Nat → Int32) → (Nat → Int32) → (Nat → px_MR) → Prop) : Nat → Int32 → Int32 → Int32 → Nat → Nat → Int32 → (Nat → Int32) → (Nat → Int32) → (Nat → px_MR) → Nat → Nat → Prop
  | 0 => fun _ _ _ _ _ _ _ _ _ _ _ => False
  | k + 1 => fun x1 x2 x3 q_o l_o o_reached g_o g_t mm kc ks => (x1 ≤ x3 → ∀ z1 : Int32, z1 = x2 + 1 → K139 x1 z1 q_o l_o o_reached g_o g_t mm kc ks) ∧ (¬ x1 ≤ x3 → a0x < cm ∧ (a0x < cm ∧ (a0x < cm ∧ (vp_in x3 ((mm a0x).2.2.1 7) ∧ (a0x < cm ∧ (a0x < cm ∧ (vp_in (x3 &&& (((1 : Int32) <<< (x2 &&& 31)) ^^^ (-1))) ((mm a0x).2.2.1 7) ∧ ((w185_wp (fun r177  => ∀ z3 : Int32, z3 = r177.toInt8.toInt32 → a0x < cm ∧ (vp_in x3 ((mm a0x).2.2.1 7) ∧ (∀ mm4 : Nat → px_MR, mm4 = va_up mm a0x ((mm a0x).1, (mm a0x).2.1, (mm a0x).2.2.1, va_up (mm a0x).2.2.2.1 7 (upd ((mm a0x).2.2.2.1 7) (Int32.toNatClampNeg x3) (vp_nar .byte z3)), (mm a0x).2.2.2.2) → (∀ z5 : Int32, z5 = x3 + 1 → (w263_L149 K139 a0x cm np ns pa sa pp ss mc ms post k) x1 x2 z5 q_o l_o o_reached g_o g_t mm4 kc ks)))) (((mm a0x).2.2.2.1 7) (Int32.toNatClampNeg x3)) (((mm a0x).2.2.2.1 7) (Int32.toNatClampNeg (x3 &&& (((1 : Int32) <<< (x2 &&& 31)) ^^^ (-1))))))))))))))
def w263_L139 (a0x : Nat) (cm : Nat) (np : Nat) (ns : Nat) (pa : Nat → Nat) (sa : Nat → Nat) (pp : Nat → px_PR) (ss : Nat → px_SR) (mc : Nat) (ms : Nat) (post : Nat → Nat → Int32 → (Nat → Int32) → (Nat → Int32) → (Nat → px_MR) → Prop) : Nat → Int32 → Int32 → Nat → Nat → Int32 → (Nat → Int32) → (Nat → Int32) → (Nat → px_MR) → Nat → Nat → Prop
  | 0 => fun _ _ _ _ _ _ _ _ _ _ => False
  | k + 1 => fun x1 x2 q_o l_o o_reached g_o g_t mm kc ks => a0x < cm ∧ ((((mm a0x).2.1 13) ≤ x2 → a0x < cm ∧ ((∀ mm6 : Nat → px_MR, mm6 = va_up mm a0x ((mm a0x).1, va_up (mm a0x).2.1 9 1, (mm a0x).2.2) → (post q_o l_o o_reached g_o g_t mm6)))) ∧ (¬ ((mm a0x).2.1 13) ≤ x2 → ∃ j149, w263_L149 (w263_L139 a0x cm np ns pa sa pp ss mc ms post k) a0x cm np ns pa sa pp ss mc ms post j149 x1 x2 0 q_o l_o o_reached g_o g_t mm kc ks))
def w263_L108 (a0x : Nat) (cm : Nat) (np : Nat) (ns : Nat) (pa : Nat → Nat) (sa : Nat → Nat) (pp : Nat → px_PR) (ss : Nat → px_SR) (mc : Nat) (ms : Nat) (post : Nat → Nat → Int32 → (Nat → Int32) → (Nat → Int32) → (Nat → px_MR) → Prop) : Nat → Int32 → Int32 → Nat → Nat → Int32 → (Nat → Int32) → (Nat → Int32) → (Nat → px_MR) → Nat → Nat → Prop
  | 0 => fun _ _ _ _ _ _ _ _ _ _ => False
  | k + 1 => fun x1 x2 q_o l_o o_reached g_o g_t mm kc ks => (x1 ≤ x2 → ∃ j139, w263_L139 a0x cm np ns pa sa pp ss mc ms post j139 x1 0 q_o l_o o_reached g_o g_t mm kc ks) ∧ (¬ x1 ≤ x2 → a0x < cm ∧ (a0x < cm ∧ (a0x < cm ∧ (vp_in x2 ((mm a0x).2.2.1 7) ∧ ((w250_wp (fun r125  => ∀ z8 : Int32, z8 = ((((mm a0x).2.2.2.1 7) (Int32.toNatClampNeg x2)) * r125).toInt8.toInt32 → a0x < cm ∧ (vp_in x2 ((mm a0x).2.2.1 7) ∧ (∀ mm9 : Nat → px_MR, mm9 = va_up mm a0x ((mm a0x).1, (mm a0x).2.1, (mm a0x).2.2.1, va_up (mm a0x).2.2.2.1 7 (upd ((mm a0x).2.2.2.1 7) (Int32.toNatClampNeg x2) (vp_nar .byte z8)), (mm a0x).2.2.2.2) → (∀ z10 : Int32, z10 = x2 + 1 → (w263_L108 a0x cm np ns pa sa pp ss mc ms post k) x1 z10 q_o l_o o_reached g_o g_t mm9 kc ks)))) x2))))))
def w263_L69 (K59 : Int32 → Int32 → Nat → Nat → Int32 → (Nat → Int32) → (Nat → Int32) → (Nat → px_MR) → Nat → Nat → Prop) (a0x : Nat) (cm : Nat) (np : Nat) (ns : Nat) (pa : Nat → Nat) (sa : Nat → Nat) (pp : Nat → px_PR) (ss : Nat → px_SR) (mc : Nat) (ms : Nat) (post : Nat → Nat → Int32 → (Nat → Int32) → (Nat → Int32) → (Nat → px_MR) → Prop) : Nat → Int32 → Int32 → Int32 → Nat → Nat → Int32 → (Nat → Int32) → (Nat → Int32) → (Nat → px_MR) → Nat → Nat → Prop
  | 0 => fun _ _ _ _ _ _ _ _ _ _ _ => False
  | k + 1 => fun x1 x2 x3 q_o l_o o_reached g_o g_t mm kc ks => (x1 ≤ x3 → ∀ z11 : Int32, z11 = x2 + 1 → K59 x1 z11 q_o l_o o_reached g_o g_t mm kc ks) ∧ (¬ x1 ≤ x3 → a0x < cm ∧ (a0x < cm ∧ (vp_in x3 ((mm a0x).2.2.1 7) ∧ (a0x < cm ∧ (a0x < cm ∧ (vp_in (x3 ||| ((1 : Int32) <<< (x2 &&& 31))) ((mm a0x).2.2.1 7) ∧ (∀ z12 : Int32, z12 = ((((mm a0x).2.2.2.1 7) (Int32.toNatClampNeg x3)) ||| (((mm a0x).2.2.2.1 7) (Int32.toNatClampNeg (x3 ||| ((1 : Int32) <<< (x2 &&& 31)))))).toInt8.toInt32 → a0x < cm ∧ (vp_in x3 ((mm a0x).2.2.1 7) ∧ (∀ mm13 : Nat → px_MR, mm13 = va_up mm a0x ((mm a0x).1, (mm a0x).2.1, (mm a0x).2.2.1, va_up (mm a0x).2.2.2.1 7 (upd ((mm a0x).2.2.2.1 7) (Int32.toNatClampNeg x3) (vp_nar .byte z12)), (mm a0x).2.2.2.2) → (∀ z14 : Int32, z14 = x3 + 1 → (w263_L69 K59 a0x cm np ns pa sa pp ss mc ms post k) x1 x2 z14 q_o l_o o_reached g_o g_t mm13 kc ks))))))))))
def w263_L59 (a0x : Nat) (cm : Nat) (np : Nat) (ns : Nat) (pa : Nat → Nat) (sa : Nat → Nat) (pp : Nat → px_PR) (ss : Nat → px_SR) (mc : Nat) (ms : Nat) (post : Nat → Nat → Int32 → (Nat → Int32) → (Nat → Int32) → (Nat → px_MR) → Prop) : Nat → Int32 → Int32 → Nat → Nat → Int32 → (Nat → Int32) → (Nat → Int32) → (Nat → px_MR) → Nat → Nat → Prop
  | 0 => fun _ _ _ _ _ _ _ _ _ _ => False
  | k + 1 => fun x1 x2 q_o l_o o_reached g_o g_t mm kc ks => a0x < cm ∧ ((((mm a0x).2.1 13) ≤ x2 → ∃ j108, w263_L108 a0x cm np ns pa sa pp ss mc ms post j108 x1 0 q_o l_o o_reached g_o g_t mm kc ks) ∧ (¬ ((mm a0x).2.1 13) ≤ x2 → ∃ j69, w263_L69 (w263_L59 a0x cm np ns pa sa pp ss mc ms post k) a0x cm np ns pa sa pp ss mc ms post j69 x1 x2 0 q_o l_o o_reached g_o g_t mm kc ks))
def w263_L49 (K25 : Int32 → Int32 → Nat → Nat → Int32 → (Nat → Int32) → (Nat → Int32) → (Nat → px_MR) → Nat → Nat → Prop) (a0x : Nat) (cm : Nat) (np : Nat) (ns : Nat) (pa : Nat → Nat) (sa : Nat → Nat) (pp : Nat → px_PR) (ss : Nat → px_SR) (mc : Nat) (ms : Nat) (post : Nat → Nat → Int32 → (Nat → Int32) → (Nat → Int32) → (Nat → px_MR) → Prop) (x1 : Int32) (x2 : Int32) (y0 : Int32) (y1 : Int32) (q_o : Nat) (l_o : Nat) (o_reached : Int32) (g_o : Nat → Int32) (g_t : Nat → Int32) (mm : Nat → px_MR) (kc : Nat) (ks : Nat) : Prop := ∀ z15 : Int32, z15 = y0.toInt8.toInt32 → a0x < cm ∧ (vp_in y1 ((mm a0x).2.2.1 7) ∧ (∀ mm16 : Nat → px_MR, mm16 = va_up mm a0x ((mm a0x).1, (mm a0x).2.1, (mm a0x).2.2.1, va_up (mm a0x).2.2.2.1 7 (upd ((mm a0x).2.2.2.1 7) (Int32.toNatClampNeg y1) (vp_nar .byte z15)), (mm a0x).2.2.2.2) → (∀ z17 : Int32, z17 = x2 + 1 → K25 x1 z17 q_o l_o o_reached g_o g_t mm16 kc ks)))
def w263_L25 (a0x : Nat) (cm : Nat) (np : Nat) (ns : Nat) (pa : Nat → Nat) (sa : Nat → Nat) (pp : Nat → px_PR) (ss : Nat → px_SR) (mc : Nat) (ms : Nat) (post : Nat → Nat → Int32 → (Nat → Int32) → (Nat → Int32) → (Nat → px_MR) → Prop) : Nat → Int32 → Int32 → Nat → Nat → Int32 → (Nat → Int32) → (Nat → Int32) → (Nat → px_MR) → Nat → Nat → Prop
  | 0 => fun _ _ _ _ _ _ _ _ _ _ => False
  | k + 1 => fun x1 x2 q_o l_o o_reached g_o g_t mm kc ks => (x1 ≤ x2 → ∃ j59, w263_L59 a0x cm np ns pa sa pp ss mc ms post j59 x1 0 q_o l_o o_reached g_o g_t mm kc ks) ∧ (¬ x1 ≤ x2 → a0x < cm ∧ (a0x < cm ∧ (a0x < cm ∧ (vp_in x2 ((mm a0x).2.2.1 6) ∧ ((¬ (((mm a0x).2.2.2.1 6) (Int32.toNatClampNeg x2)) = 0 → w263_L49 (w263_L25 a0x cm np ns pa sa pp ss mc ms post k) a0x cm np ns pa sa pp ss mc ms post x1 x2 1 x2 q_o l_o o_reached g_o g_t mm kc ks) ∧ ((((mm a0x).2.2.2.1 6) (Int32.toNatClampNeg x2)) = 0 → w263_L49 (w263_L25 a0x cm np ns pa sa pp ss mc ms post k) a0x cm np ns pa sa pp ss mc ms post x1 x2 0 x2 q_o l_o o_reached g_o g_t mm kc ks))))))
def w263_L23 (a0x : Nat) (cm : Nat) (np : Nat) (ns : Nat) (pa : Nat → Nat) (sa : Nat → Nat) (pp : Nat → px_PR) (ss : Nat → px_SR) (mc : Nat) (ms : Nat) (post : Nat → Nat → Int32 → (Nat → Int32) → (Nat → Int32) → (Nat → px_MR) → Prop) (x1 : Int32) (q_o : Nat) (l_o : Nat) (o_reached : Int32) (g_o : Nat → Int32) (g_t : Nat → Int32) (mm : Nat → px_MR) (kc : Nat) (ks : Nat) : Prop := ∃ j25, w263_L25 a0x cm np ns pa sa pp ss mc ms post j25 x1 0 q_o l_o o_reached g_o g_t mm kc ks
def w263_wp (a0x : Nat) (cm : Nat) (np : Nat) (ns : Nat) (pa : Nat → Nat) (sa : Nat → Nat) (pp : Nat → px_PR) (ss : Nat → px_SR) (mc : Nat) (ms : Nat) (post : Nat → Nat → Int32 → (Nat → Int32) → (Nat → Int32) → (Nat → px_MR) → Prop) (q_o : Nat) (l_o : Nat) (o_reached : Int32) (g_o : Nat → Int32) (g_t : Nat → Int32) (mm : Nat → px_MR) : Prop := a0x < cm ∧ (∀ z18 : Int32, z18 = (1 : Int32) <<< (((mm a0x).2.1 13) &&& 31) → a0x < cm ∧ (a0x < cm ∧ ((z18 ≤ (nI ((mm a0x).2.2.1 7)) → w263_L23 a0x cm np ns pa sa pp ss mc ms post z18 q_o l_o o_reached g_o g_t mm 0 0) ∧ (¬ z18 ≤ (nI ((mm a0x).2.2.1 7)) → ¬ z18 < 0 ∧ (Int32.toNatClampNeg z18) * 1 ≤ 536870912 ∧ 0 + 1 ≤ mc ∧ 0 + (Int32.toNatClampNeg z18) ≤ ms ∧ (∀ q18_19 : Nat, (a0x < cm ∧ ((∀ mm20 : Nat → px_MR, mm20 = va_up mm a0x (va_up (mm a0x).1 7 q18_19, (mm a0x).2.1, va_up (mm a0x).2.2.1 7 (Int32.toNatClampNeg z18), va_up (mm a0x).2.2.2.1 7 (fun _ => 0), (mm a0x).2.2.2.2) → (w263_L23 a0x cm np ns pa sa pp ss mc ms post z18 q_o l_o o_reached g_o g_t mm20 (0 + 1) (0 + (Int32.toNatClampNeg z18)))))))))))
set_option maxHeartbeats 8000000 in
set_option maxRecDepth 100000 in
theorem w263_met (l : Launch) (dC : Nat → ClassId) (dI : Nat → Nat → Nat) (sz : Nat) (ho : Nat) (q_t : Nat) (a0x : Nat) (cc : px_CC) (cm : Nat) (np : Nat) (ns : Nat) (hm : Nat → Nat) (pa : Nat → Nat) (sa : Nat → Nat) (pp : Nat → px_PR) (ss : Nat → px_SR) (mc : Nat) (ms : Nat) (q_o : Nat) (l_o : Nat) (o_reached : Int32) (g_o : Nat → Int32) (g_t : Nat → Int32) (mm : Nat → px_MR) (post : Nat → Nat → Int32 → (Nat → Int32) → (Nat → Int32) → (Nat → px_MR) → Prop) (hw : w263_wp a0x cm np ns pa sa pp ss mc ms post q_o l_o o_reached g_o g_t mm) : Met l px_y263 px_s263 ({ frames := 1, cells := mc, slots := ms, locals := 21 }) (va_Pc [.ref (hm a0x)] (fun U => U.heap.size = sz ∧ va_P (dC, dI) vwCl (([(ho, .inr (1, [.ref q_o, .ref q_t, .int o_reached])), (q_o, .inl (cc.2.1, l_o, .inl g_o)), (q_t, .inl (cc.2.1, 182, .inl g_t))] : va_W) ++ px_cp cc ho cm np ns hm pa sa mm pp ss) U.heap ∧ va_K (dC, dI) vwCl [(cc.2.1, .int), (cc.2.2.2.1, .byte), (cc.2.2.2.2, .long), (cc.1, .object "MatroidDesk$Part"), (cc.2.2.1, (.array .int))] U ∧ va_D (fun _ => True) (([(ho, .inr (1, [.ref q_o, .ref q_t, .int o_reached])), (q_o, .inl (cc.2.1, l_o, .inl g_o)), (q_t, .inl (cc.2.1, 182, .inl g_t))] : va_W) ++ px_cp cc ho cm np ns hm pa sa mm pp ss) ∧ px_N U)) (va_Qv (fun (u : Nat × Nat × Int32 × (Nat → Int32) × (Nat → Int32) × (Nat → px_MR)) => post u.1 u.2.1 u.2.2.1 u.2.2.2.1 u.2.2.2.2.1 u.2.2.2.2.2) (fun (u : Nat × Nat × Int32 × (Nat → Int32) × (Nat → Int32) × (Nat → px_MR)) (t : State) => va_P (dC, dI) vwCl (([(ho, .inr (1, [.ref u.1, .ref q_t, .int u.2.2.1])), (u.1, .inl (cc.2.1, u.2.1, .inl u.2.2.2.1)), (q_t, .inl (cc.2.1, 182, .inl u.2.2.2.2.1))] : va_W) ++ px_cp cc ho cm np ns hm pa sa u.2.2.2.2.2 pp ss) t.heap ∧ va_K (dC, dI) vwCl [(cc.2.1, .int), (cc.2.2.2.1, .byte), (cc.2.2.2.2, .long), (cc.1, .object "MatroidDesk$Part"), (cc.2.2.1, (.array .int))] t ∧ va_D (va_A (([(ho, .inr (1, [.ref q_o, .ref q_t, .int o_reached])), (q_o, .inl (cc.2.1, l_o, .inl g_o)), (q_t, .inl (cc.2.1, 182, .inl g_t))] : va_W) ++ px_cp cc ho cm np ns hm pa sa mm pp ss) sz) (([(ho, .inr (1, [.ref u.1, .ref q_t, .int u.2.2.1])), (u.1, .inl (cc.2.1, u.2.1, .inl u.2.2.2.1)), (q_t, .inl (cc.2.1, 182, .inl u.2.2.2.2.1))] : va_W) ++ px_cp cc ho cm np ns hm pa sa u.2.2.2.2.2 pp ss)) (va_A (([(ho, .inr (1, [.ref q_o, .ref q_t, .int o_reached])), (q_o, .inl (cc.2.1, l_o, .inl g_o)), (q_t, .inl (cc.2.1, 182, .inl g_t))] : va_W) ++ px_cp cc ho cm np ns hm pa sa mm pp ss) sz)) mc ms (va_A (([(ho, .inr (1, [.ref q_o, .ref q_t, .int o_reached])), (q_o, .inl (cc.2.1, l_o, .inl g_o)), (q_t, .inl (cc.2.1, 182, .inl g_t))] : va_W) ++ px_cp cc ho cm np ns hm pa sa mm pp ss) sz) := by
  refine Met.ofW (cc := prog_3_method_24_code) (maxL := 4) (ret := none) (by decide) rfl ?_
  intro p e s m args below meth c s₁ B hml hv
  obtain ⟨rfl, hsz, hP, hK, hD0, hN⟩ := hv
  have hx := B.exec
  have hb := B.bytes
  have hr := B.returns
  have htw : ∀ w ∈ px_all, w.before _ s = true := fun w h => atoms_spec (ws := px_s263) B.pre w (List.mem_cons_of_mem _ h)
  have hown : s.vm.findClass "MatroidDesk$Matroid" = some m.cls := findClass_of_methodNamed B.named
  have hlocks := B.notSynchronized
  subst hsz
  have hD := hD0.self (sz := s.heap.size)
  generalize hAe : va_A (([(ho, .inr (1, [.ref q_o, .ref q_t, .int o_reached])), (q_o, .inl (cc.2.1, l_o, .inl g_o)), (q_t, .inl (cc.2.1, 182, .inl g_t))] : va_W) ++ px_cp cc ho cm np ns hm pa sa mm pp ss) s.heap.size = A at hD ⊢
  have hA : ∀ q : Nat, s.heap.size ≤ q → A q := fun q h => by rw [← hAe]; exact Or.inr h
  have hS : va_S A s.heap s.heap [] := va_S.rf
  have hP : va_P (dC, dI) vwCl (([(ho, .inr (1, [.ref q_o, .ref q_t, .int o_reached])), (q_o, .inl (cc.2.1, l_o, .inl g_o)), (q_t, .inl (cc.2.1, 182, .inl g_t))] : va_W) ++ px_cp cc ho cm np ns hm pa sa mm pp ss) s.heap := hP
  have hl := lv_entry ([.ref (hm a0x)]) (n := 4) (Nat.le_of_ble_eq_true rfl)
  rw [lg_entry_eq]
  generalize (lg_sl ([.ref (hm a0x)]) ++ List.replicate (4 - (lg_sl ([.ref (hm a0x)])).length) Slot.unset).toArray = ls at hl ⊢
  have hl : lv_has ls 4 [(0, .ref (hm a0x))] := hl
  generalize hQ : MQ _ _ _ _ _ _ _ = Q
  have S139 : ∀ (k139 : Nat) (x1 : Int32) (x2 : Int32) (q_o : Nat) (l_o : Nat) (o_reached : Int32) (g_o : Nat → Int32) (g_t : Nat → Int32) (mm : Nat → px_MR) (kc : Nat) (ks : Nat) (H : Heap) (locs : List Loc) (ls : Array Slot), kc ≤ mc → ks ≤ ms → va_P (dC, dI) vwCl (([(ho, .inr (1, [.ref q_o, .ref q_t, .int o_reached])), (q_o, .inl (cc.2.1, l_o, .inl g_o)), (q_t, .inl (cc.2.1, 182, .inl g_t))] : va_W) ++ px_cp cc ho cm np ns hm pa sa mm pp ss) H → va_D A (([(ho, .inr (1, [.ref q_o, .ref q_t, .int o_reached])), (q_o, .inl (cc.2.1, l_o, .inl g_o)), (q_t, .inl (cc.2.1, 182, .inl g_t))] : va_W) ++ px_cp cc ho cm np ns hm pa sa mm pp ss) → va_S A s.heap H locs → lv_has ls 4 [(0, .ref (hm a0x)), (1, .int x1), (2, .int x2)] → w263_L139 a0x cm np ns pa sa pp ss mc ms post k139 x1 x2 q_o l_o o_reached g_o g_t mm kc ks → W p l e (headSpec px_s263 ({ frames := 1, cells := mc, slots := ms, locals := 21 })).room s m ([.ref (hm a0x)]).toArray below meth c H locs kc ks Q (F0 m 139 ls []) := by
    intro k139
    induction k139 with
    | zero => intro x1 x2 q_o l_o o_reached g_o g_t mm kc ks H locs ls hkc hks hP hD hS hl hw; exact False.elim hw
    | succ k139 ih139 =>
      have S149 : ∀ (k149 : Nat) (x1 : Int32) (x2 : Int32) (x3 : Int32) (q_o : Nat) (l_o : Nat) (o_reached : Int32) (g_o : Nat → Int32) (g_t : Nat → Int32) (mm : Nat → px_MR) (kc : Nat) (ks : Nat) (H : Heap) (locs : List Loc) (ls : Array Slot), kc ≤ mc → ks ≤ ms → va_P (dC, dI) vwCl (([(ho, .inr (1, [.ref q_o, .ref q_t, .int o_reached])), (q_o, .inl (cc.2.1, l_o, .inl g_o)), (q_t, .inl (cc.2.1, 182, .inl g_t))] : va_W) ++ px_cp cc ho cm np ns hm pa sa mm pp ss) H → va_D A (([(ho, .inr (1, [.ref q_o, .ref q_t, .int o_reached])), (q_o, .inl (cc.2.1, l_o, .inl g_o)), (q_t, .inl (cc.2.1, 182, .inl g_t))] : va_W) ++ px_cp cc ho cm np ns hm pa sa mm pp ss) → va_S A s.heap H locs → lv_has ls 4 [(0, .ref (hm a0x)), (1, .int x1), (2, .int x2), (3, .int x3)] → w263_L149 (w263_L139 a0x cm np ns pa sa pp ss mc ms post k139) a0x cm np ns pa sa pp ss mc ms post k149 x1 x2 x3 q_o l_o o_reached g_o g_t mm kc ks → W p l e (headSpec px_s263 ({ frames := 1, cells := mc, slots := ms, locals := 21 })).room s m ([.ref (hm a0x)]).toArray below meth c H locs kc ks Q (F0 m 149 ls []) := by
        intro k149
        induction k149 with
        | zero => intro x1 x2 x3 q_o l_o o_reached g_o g_t mm kc ks H locs ls hkc hks hP hD hS hl hw; exact False.elim hw
        | succ k149 ih149 =>
          intro x1 x2 x3 q_o l_o o_reached g_o g_t mm kc ks H locs ls hkc hks hP hD hS hl hw
          unfold w263_L149 at hw
          refine lv_iload_n hx hb px_d263_149 rfl (lv_at hl 3 rfl) ?_
          refine lv_iload_n hx hb px_d263_150 rfl (lv_at hl 1 rfl) ?_
          refine lv_icmp_ge (tgt := 188) hx hb px_d263_151 (by decide) (fun c151 => ?_) (fun c151 => ?_)
          · have hw := hw.1 c151
            obtain ⟨z1, ez1⟩ : ∃ y : Int32, y = x2 + 1 := ⟨_, rfl⟩
            have hw := hw z1 ez1
            refine lv_iinc (v := z1) (lv' := [(2, .int z1), (0, .ref (hm a0x)), (1, .int x1), (3, .int x3)]) hx hb px_d263_188 hl (k := 2) rfl (by rw [ez1]; rfl) (by decide) rfl (fun ls hl => ?_)
            refine lv_goto (tgt := 139) hx hb px_d263_191 (by decide) ?_
            exact ih139 x1 z1 q_o l_o o_reached g_o g_t mm kc ks H locs ls hkc hks hP hD hS (lv_sub hl [1, 2, 0] rfl) hw
          · have hw := hw.2 c151
            refine lv_aload_n hx hb px_d263_154 rfl (lv_at hl 0 rfl) ?_
            obtain ⟨hp155, hw⟩ := hw
            refine va_get (D := (dC, dI)) (ci := 10) (v := .ref ((mm a0x).1 7)) (C := "MatroidDesk$Matroid") (T := px_T10) (N := 15) hx hb htw px_in10 hown hK hP (3 + (13 * a0x + 0)) (px_cg0 rfl hp155) rfl 7 (by decide) (htw _ px_w1006) (fun _ h9 => h9) rfl px_d263_155 ?_
            refine lv_iload_n hx hb px_d263_158 rfl (lv_at hl 3 rfl) ?_
            refine lv_aload_n hx hb px_d263_159 rfl (lv_at hl 0 rfl) ?_
            obtain ⟨hp160, hw⟩ := hw
            refine va_get (D := (dC, dI)) (ci := 10) (v := .ref ((mm a0x).1 7)) (C := "MatroidDesk$Matroid") (T := px_T10) (N := 15) hx hb htw px_in10 hown hK hP (3 + (13 * a0x + 0)) (px_cg0 rfl hp160) rfl 7 (by decide) (htw _ px_w1006) (fun _ h9 => h9) rfl px_d263_160 ?_
            refine lv_iload_n hx hb px_d263_163 rfl (lv_at hl 3 rfl) ?_
            obtain ⟨hp164, hw⟩ := hw
            obtain ⟨hi164, hw⟩ := hw
            refine va_bald hx hb hK hP (3 + (13 * a0x + 7)) 1 (px_cg7 rfl hp164) rfl hi164 px_d263_164 ?_
            refine lv_aload_n hx hb px_d263_165 rfl (lv_at hl 0 rfl) ?_
            obtain ⟨hp166, hw⟩ := hw
            refine va_get (D := (dC, dI)) (ci := 10) (v := .ref ((mm a0x).1 7)) (C := "MatroidDesk$Matroid") (T := px_T10) (N := 15) hx hb htw px_in10 hown hK hP (3 + (13 * a0x + 0)) (px_cg0 rfl hp166) rfl 7 (by decide) (htw _ px_w1006) (fun _ h9 => h9) rfl px_d263_166 ?_
            refine lv_iload_n hx hb px_d263_169 rfl (lv_at hl 3 rfl) ?_
            refine lv_iconst (v := 1) hx hb px_d263_170 (by decide) ?_
            refine lv_iload_n hx hb px_d263_171 rfl (lv_at hl 2 rfl) ?_
            refine lv_ishl hx hb px_d263_172 ?_
            refine lv_iconst (v := (-1)) hx hb px_d263_173 (by decide) ?_
            refine lv_ixor hx hb px_d263_174 ?_
            refine lv_iand hx hb px_d263_175 ?_
            obtain ⟨hp176, hw⟩ := hw
            obtain ⟨hi176, hw⟩ := hw
            refine va_bald hx hb hK hP (3 + (13 * a0x + 7)) 1 (px_cg7 rfl hp176) rfl hi176 px_d263_176 ?_
            have hPc := hP.sub (ws' := []) [] rfl
            have hDc := hD.sub (ws' := []) [] (by decide) rfl
            have hFc := va_free (wc := []) hD hS hA [] rfl
            have hKc := hK.sub (tys' := []) [] rfl
            refine va_calli (va_runS (As := [.int (((mm a0x).2.2.2.1 7) (Int32.toNatClampNeg x3)), .int (((mm a0x).2.2.2.1 7) (Int32.toNatClampNeg (x3 &&& (((1 : Int32) <<< (x2 &&& 31)) ^^^ (-1)))))]) (rest := [.int x3, .ref ((mm a0x).1 7)]) ⟨hx, hb, hml, hown, htw⟩ (w185_met l dC dI H.size (((mm a0x).2.2.2.1 7) (Int32.toNatClampNeg x3)) (((mm a0x).2.2.2.1 7) (Int32.toNatClampNeg (x3 &&& (((1 : Int32) <<< (x2 &&& 31)) ^^^ (-1))))) _ hw) (va_cwS 2 htw (px_gs2 px_w1343 px_w1048 px_w1753 px_g185) rfl rfl rfl (by decide +kernel) ⟨Nat.le_of_ble_eq_true rfl, Nat.le_of_ble_eq_true rfl⟩) ⟨fun a U g mk q => by obtain ⟨q0, q1, qP, qK, qD, qN⟩ := q; exact ⟨q0, q1, qP, va_K.moved (u := U) (U := U.calling g mk a) (Vm.Alike.refl U.vm) qK, qD, qN.same rfl⟩, fun U hU hW => ⟨rfl, by rw [hU], by rw [hU]; exact hPc, va_K.moved hW.alike hKc, hDc.weaken (fun _ _ _ _ => trivial), hN.warm hW⟩⟩ rfl rfl hl.1 rfl (lv_room (Nat.le_of_ble_eq_true rfl)) px_d263_177 ⟨hkc, hks⟩) hS (fun q _ h => hFc q h) hFc (fun r177 u t H1 locs ht hvm hw hB hz1 hk1 hS => ?_)
            obtain ⟨hP1, hK1, hD1⟩ := hB
            rw [ht] at hP1
            obtain ⟨hP, hD⟩ := va_joinQ (wr := [(ho, .inr (1, [.ref q_o, .ref q_t, .int o_reached])), (q_o, .inl (cc.2.1, l_o, .inl g_o)), (q_t, .inl (cc.2.1, 182, .inl g_t))]) (w1 := []) hP hD [] [0, 1, 2] rfl rfl (by decide) (by decide) hk1 hFc hP1 hD1
            generalize H1 = H at hP hS ⊢
            have hP : va_P (dC, dI) vwCl (([(ho, .inr (1, [.ref q_o, .ref q_t, .int o_reached])), (q_o, .inl (cc.2.1, l_o, .inl g_o)), (q_t, .inl (cc.2.1, 182, .inl g_t))] : va_W) ++ px_cp cc ho cm np ns hm pa sa mm pp ss) H := hP
            have hD : va_D A (([(ho, .inr (1, [.ref q_o, .ref q_t, .int o_reached])), (q_o, .inl (cc.2.1, l_o, .inl g_o)), (q_t, .inl (cc.2.1, 182, .inl g_t))] : va_W) ++ px_cp cc ho cm np ns hm pa sa mm pp ss) := hD
            refine lv_i2b (v := r177.toInt8.toInt32) hx hb px_d263_180 rfl ?_
            refine lv_topi (fun z3 ez3 => ?_)
            have hw := hw z3 ez3
            obtain ⟨hp181, hw⟩ := hw
            obtain ⟨hi181, hw⟩ := hw
            obtain ⟨mm4, emm4⟩ : ∃ z : Nat → px_MR, z = va_up mm a0x ((mm a0x).1, (mm a0x).2.1, (mm a0x).2.2.1, va_up (mm a0x).2.2.2.1 7 (upd ((mm a0x).2.2.2.1 7) (Int32.toNatClampNeg x3) (vp_nar .byte z3)), (mm a0x).2.2.2.2) := ⟨_, rfl⟩
            refine va_bast hx hb hK hP hD hS (3 + (13 * a0x + 7)) 1 (px_cg7 rfl hp181) rfl hi181 px_d263_181 (fun H locs hP hD hS => ?_)
            have hP : va_P (dC, dI) vwCl (([(ho, .inr (1, [.ref q_o, .ref q_t, .int o_reached])), (q_o, .inl (cc.2.1, l_o, .inl g_o)), (q_t, .inl (cc.2.1, 182, .inl g_t))] : va_W) ++ px_cp cc ho cm np ns hm pa sa mm4 pp ss) H := px_csP rfl hp181 (by decide) rfl (px_hr7 _ _ _) emm4 hP
            have hD : va_D A (([(ho, .inr (1, [.ref q_o, .ref q_t, .int o_reached])), (q_o, .inl (cc.2.1, l_o, .inl g_o)), (q_t, .inl (cc.2.1, 182, .inl g_t))] : va_W) ++ px_cp cc ho cm np ns hm pa sa mm4 pp ss) := px_csD rfl hp181 (by decide) rfl (px_hr7 _ _ _) emm4 hD
            have hw := hw mm4 emm4
            obtain ⟨z5, ez5⟩ : ∃ y : Int32, y = x3 + 1 := ⟨_, rfl⟩
            have hw := hw z5 ez5
            refine lv_iinc (v := z5) (lv' := [(3, .int z5), (0, .ref (hm a0x)), (1, .int x1), (2, .int x2)]) hx hb px_d263_182 hl (k := 3) rfl (by rw [ez5]; rfl) (by decide) rfl (fun ls hl => ?_)
            refine lv_goto (tgt := 149) hx hb px_d263_185 (by decide) ?_
            exact ih149 x1 x2 z5 q_o l_o o_reached g_o g_t mm4 kc ks H locs ls hkc hks hP hD hS (lv_sub hl [1, 2, 3, 0] rfl) hw
      intro x1 x2 q_o l_o o_reached g_o g_t mm kc ks H locs ls hkc hks hP hD hS hl hw
      unfold w263_L139 at hw
      refine lv_iload_n hx hb px_d263_139 rfl (lv_at hl 2 rfl) ?_
      refine lv_aload_n hx hb px_d263_140 rfl (lv_at hl 0 rfl) ?_
      obtain ⟨hp141, hw⟩ := hw
      refine va_get (D := (dC, dI)) (ci := 10) (v := .int ((mm a0x).2.1 13)) (C := "MatroidDesk$Matroid") (T := px_T10) (N := 15) hx hb htw px_in10 hown hK hP (3 + (13 * a0x + 0)) (px_cg0 rfl hp141) rfl 13 (by decide) (htw _ px_w1264) (fun _ h9 => h9) rfl px_d263_141 ?_
      refine lv_icmp_ge (tgt := 194) hx hb px_d263_144 (by decide) (fun c144 => ?_) (fun c144 => ?_)
      · have hw := hw.1 c144
        refine lv_aload_n hx hb px_d263_194 rfl (lv_at hl 0 rfl) ?_
        refine lv_iconst (v := 1) hx hb px_d263_195 (by decide) ?_
        obtain ⟨hp196, hw⟩ := hw
        obtain ⟨mm6, emm6⟩ : ∃ z : Nat → px_MR, z = va_up mm a0x ((mm a0x).1, va_up (mm a0x).2.1 9 1, (mm a0x).2.2) := ⟨_, rfl⟩
        refine va_put (D := (dC, dI)) (ci := 10) (v := .int 1) (ty := .boolean) (C := "MatroidDesk$Matroid") (T := px_T10) (N := 15) hx hb htw px_in10 px_ty10 px_tyok10 px_nm10 hown hK hP hD hS (3 + (13 * a0x + 0)) (px_cg0 rfl hp196) rfl 9 (by decide) (htw _ px_w1274) (fun _ h9 => h9) rfl (by decide +kernel) (by decide +kernel) (by decide +kernel) (Nat.le_of_ble_eq_true rfl) px_d263_196 (fun H locs hP hD hS => ?_)
        have hP : va_P (dC, dI) vwCl (([(ho, .inr (1, [.ref q_o, .ref q_t, .int o_reached])), (q_o, .inl (cc.2.1, l_o, .inl g_o)), (q_t, .inl (cc.2.1, 182, .inl g_t))] : va_W) ++ px_cp cc ho cm np ns hm pa sa mm6 pp ss) H := px_csP rfl hp196 (by decide) rfl (px_hrI _ _ _) emm6 hP
        have hD : va_D A (([(ho, .inr (1, [.ref q_o, .ref q_t, .int o_reached])), (q_o, .inl (cc.2.1, l_o, .inl g_o)), (q_t, .inl (cc.2.1, 182, .inl g_t))] : va_W) ++ px_cp cc ho cm np ns hm pa sa mm6 pp ss) := px_csD rfl hp196 (by decide) rfl (px_hrI _ _ _) emm6 hD
        have hw := hw mm6 emm6
        refine W.widen (k := mc) (n := ms) hkc hks ?_
        rw [← hQ]
        exact W.vret hx hb hr (fun t ht hW => ⟨⟨(q_o, l_o, o_reached, g_o, g_t, mm6), rfl, hw, by rw [ht]; exact hP, va_K.moved hW.alike hK, hD⟩, hS.F ht⟩) hS.2.2 px_d263_199
      · have hw := hw.2 c144
        refine lv_iconst (v := 0) hx hb px_d263_147 (by decide) ?_
        refine lv_istore_n (lv' := [(3, .int 0), (0, .ref (hm a0x)), (1, .int x1), (2, .int x2)]) hx hb px_d263_148 rfl hl (by decide) rfl (fun ls hl => ?_)
        obtain ⟨k9, hw⟩ := hw
        exact S149 k9 x1 x2 0 q_o l_o o_reached g_o g_t mm kc ks H locs ls hkc hks hP hD hS (lv_sub hl [1, 2, 3, 0] rfl) hw
  have S108 : ∀ (k108 : Nat) (x1 : Int32) (x2 : Int32) (q_o : Nat) (l_o : Nat) (o_reached : Int32) (g_o : Nat → Int32) (g_t : Nat → Int32) (mm : Nat → px_MR) (kc : Nat) (ks : Nat) (H : Heap) (locs : List Loc) (ls : Array Slot), kc ≤ mc → ks ≤ ms → va_P (dC, dI) vwCl (([(ho, .inr (1, [.ref q_o, .ref q_t, .int o_reached])), (q_o, .inl (cc.2.1, l_o, .inl g_o)), (q_t, .inl (cc.2.1, 182, .inl g_t))] : va_W) ++ px_cp cc ho cm np ns hm pa sa mm pp ss) H → va_D A (([(ho, .inr (1, [.ref q_o, .ref q_t, .int o_reached])), (q_o, .inl (cc.2.1, l_o, .inl g_o)), (q_t, .inl (cc.2.1, 182, .inl g_t))] : va_W) ++ px_cp cc ho cm np ns hm pa sa mm pp ss) → va_S A s.heap H locs → lv_has ls 4 [(0, .ref (hm a0x)), (1, .int x1), (2, .int x2)] → w263_L108 a0x cm np ns pa sa pp ss mc ms post k108 x1 x2 q_o l_o o_reached g_o g_t mm kc ks → W p l e (headSpec px_s263 ({ frames := 1, cells := mc, slots := ms, locals := 21 })).room s m ([.ref (hm a0x)]).toArray below meth c H locs kc ks Q (F0 m 108 ls []) := by
    intro k108
    induction k108 with
    | zero => intro x1 x2 q_o l_o o_reached g_o g_t mm kc ks H locs ls hkc hks hP hD hS hl hw; exact False.elim hw
    | succ k108 ih108 =>
      intro x1 x2 q_o l_o o_reached g_o g_t mm kc ks H locs ls hkc hks hP hD hS hl hw
      unfold w263_L108 at hw
      refine lv_iload_n hx hb px_d263_108 rfl (lv_at hl 2 rfl) ?_
      refine lv_iload_n hx hb px_d263_109 rfl (lv_at hl 1 rfl) ?_
      refine lv_icmp_ge (tgt := 137) hx hb px_d263_110 (by decide) (fun c110 => ?_) (fun c110 => ?_)
      · have hw := hw.1 c110
        refine lv_iconst (v := 0) hx hb px_d263_137 (by decide) ?_
        refine lv_istore_n (lv' := [(2, .int 0), (0, .ref (hm a0x)), (1, .int x1)]) hx hb px_d263_138 rfl hl (by decide) rfl (fun ls hl => ?_)
        obtain ⟨k9, hw⟩ := hw
        exact S139 k9 x1 0 q_o l_o o_reached g_o g_t mm kc ks H locs ls hkc hks hP hD hS (lv_sub hl [1, 2, 0] rfl) hw
      · have hw := hw.2 c110
        refine lv_aload_n hx hb px_d263_113 rfl (lv_at hl 0 rfl) ?_
        obtain ⟨hp114, hw⟩ := hw
        refine va_get (D := (dC, dI)) (ci := 10) (v := .ref ((mm a0x).1 7)) (C := "MatroidDesk$Matroid") (T := px_T10) (N := 15) hx hb htw px_in10 hown hK hP (3 + (13 * a0x + 0)) (px_cg0 rfl hp114) rfl 7 (by decide) (htw _ px_w1006) (fun _ h9 => h9) rfl px_d263_114 ?_
        refine lv_iload_n hx hb px_d263_117 rfl (lv_at hl 2 rfl) ?_
        refine lv_aload_n hx hb px_d263_118 rfl (lv_at hl 0 rfl) ?_
        obtain ⟨hp119, hw⟩ := hw
        refine va_get (D := (dC, dI)) (ci := 10) (v := .ref ((mm a0x).1 7)) (C := "MatroidDesk$Matroid") (T := px_T10) (N := 15) hx hb htw px_in10 hown hK hP (3 + (13 * a0x + 0)) (px_cg0 rfl hp119) rfl 7 (by decide) (htw _ px_w1006) (fun _ h9 => h9) rfl px_d263_119 ?_
        refine lv_iload_n hx hb px_d263_122 rfl (lv_at hl 2 rfl) ?_
        obtain ⟨hp123, hw⟩ := hw
        obtain ⟨hi123, hw⟩ := hw
        refine va_bald hx hb hK hP (3 + (13 * a0x + 7)) 1 (px_cg7 rfl hp123) rfl hi123 px_d263_123 ?_
        refine lv_iload_n hx hb px_d263_124 rfl (lv_at hl 2 rfl) ?_
        have hPc := hP.sub (ws' := []) [] rfl
        have hDc := hD.sub (ws' := []) [] (by decide) rfl
        have hFc := va_free (wc := []) hD hS hA [] rfl
        have hKc := hK.sub (tys' := []) [] rfl
        refine va_calli (va_runS (As := [.int x2]) (rest := [.int (((mm a0x).2.2.2.1 7) (Int32.toNatClampNeg x2)), .int x2, .ref ((mm a0x).1 7)]) ⟨hx, hb, hml, hown, htw⟩ (w250_met l dC dI H.size x2 _ hw) (va_cwS 1 htw (px_gs2 px_w1266 px_w1290 px_w1764 px_g250) rfl rfl rfl (by decide +kernel) ⟨Nat.le_of_ble_eq_true rfl, Nat.le_of_ble_eq_true rfl⟩) ⟨fun a U g mk q => by obtain ⟨q0, q1, qP, qK, qD, qN⟩ := q; exact ⟨q0, q1, qP, va_K.moved (u := U) (U := U.calling g mk a) (Vm.Alike.refl U.vm) qK, qD, qN.same rfl⟩, fun U hU hW => ⟨rfl, by rw [hU], by rw [hU]; exact hPc, va_K.moved hW.alike hKc, hDc.weaken (fun _ _ _ _ => trivial), hN.warm hW⟩⟩ rfl rfl hl.1 rfl (lv_room (Nat.le_of_ble_eq_true rfl)) px_d263_125 ⟨hkc, hks⟩) hS (fun q _ h => hFc q h) hFc (fun r125 u t H1 locs ht hvm hw hB hz1 hk1 hS => ?_)
        obtain ⟨hP1, hK1, hD1⟩ := hB
        rw [ht] at hP1
        obtain ⟨hP, hD⟩ := va_joinQ (wr := [(ho, .inr (1, [.ref q_o, .ref q_t, .int o_reached])), (q_o, .inl (cc.2.1, l_o, .inl g_o)), (q_t, .inl (cc.2.1, 182, .inl g_t))]) (w1 := []) hP hD [] [0, 1, 2] rfl rfl (by decide) (by decide) hk1 hFc hP1 hD1
        generalize H1 = H at hP hS ⊢
        have hP : va_P (dC, dI) vwCl (([(ho, .inr (1, [.ref q_o, .ref q_t, .int o_reached])), (q_o, .inl (cc.2.1, l_o, .inl g_o)), (q_t, .inl (cc.2.1, 182, .inl g_t))] : va_W) ++ px_cp cc ho cm np ns hm pa sa mm pp ss) H := hP
        have hD : va_D A (([(ho, .inr (1, [.ref q_o, .ref q_t, .int o_reached])), (q_o, .inl (cc.2.1, l_o, .inl g_o)), (q_t, .inl (cc.2.1, 182, .inl g_t))] : va_W) ++ px_cp cc ho cm np ns hm pa sa mm pp ss) := hD
        refine lv_imul hx hb px_d263_128 ?_
        refine lv_i2b (v := ((((mm a0x).2.2.2.1 7) (Int32.toNatClampNeg x2)) * r125).toInt8.toInt32) hx hb px_d263_129 rfl ?_
        refine lv_topi (fun z8 ez8 => ?_)
        have hw := hw z8 ez8
        obtain ⟨hp130, hw⟩ := hw
        obtain ⟨hi130, hw⟩ := hw
        obtain ⟨mm9, emm9⟩ : ∃ z : Nat → px_MR, z = va_up mm a0x ((mm a0x).1, (mm a0x).2.1, (mm a0x).2.2.1, va_up (mm a0x).2.2.2.1 7 (upd ((mm a0x).2.2.2.1 7) (Int32.toNatClampNeg x2) (vp_nar .byte z8)), (mm a0x).2.2.2.2) := ⟨_, rfl⟩
        refine va_bast hx hb hK hP hD hS (3 + (13 * a0x + 7)) 1 (px_cg7 rfl hp130) rfl hi130 px_d263_130 (fun H locs hP hD hS => ?_)
        have hP : va_P (dC, dI) vwCl (([(ho, .inr (1, [.ref q_o, .ref q_t, .int o_reached])), (q_o, .inl (cc.2.1, l_o, .inl g_o)), (q_t, .inl (cc.2.1, 182, .inl g_t))] : va_W) ++ px_cp cc ho cm np ns hm pa sa mm9 pp ss) H := px_csP rfl hp130 (by decide) rfl (px_hr7 _ _ _) emm9 hP
        have hD : va_D A (([(ho, .inr (1, [.ref q_o, .ref q_t, .int o_reached])), (q_o, .inl (cc.2.1, l_o, .inl g_o)), (q_t, .inl (cc.2.1, 182, .inl g_t))] : va_W) ++ px_cp cc ho cm np ns hm pa sa mm9 pp ss) := px_csD rfl hp130 (by decide) rfl (px_hr7 _ _ _) emm9 hD
        have hw := hw mm9 emm9
        obtain ⟨z10, ez10⟩ : ∃ y : Int32, y = x2 + 1 := ⟨_, rfl⟩
        have hw := hw z10 ez10
        refine lv_iinc (v := z10) (lv' := [(2, .int z10), (0, .ref (hm a0x)), (1, .int x1)]) hx hb px_d263_131 hl (k := 2) rfl (by rw [ez10]; rfl) (by decide) rfl (fun ls hl => ?_)
        refine lv_goto (tgt := 108) hx hb px_d263_134 (by decide) ?_
        exact ih108 x1 z10 q_o l_o o_reached g_o g_t mm9 kc ks H locs ls hkc hks hP hD hS (lv_sub hl [1, 2, 0] rfl) hw
  have S59 : ∀ (k59 : Nat) (x1 : Int32) (x2 : Int32) (q_o : Nat) (l_o : Nat) (o_reached : Int32) (g_o : Nat → Int32) (g_t : Nat → Int32) (mm : Nat → px_MR) (kc : Nat) (ks : Nat) (H : Heap) (locs : List Loc) (ls : Array Slot), kc ≤ mc → ks ≤ ms → va_P (dC, dI) vwCl (([(ho, .inr (1, [.ref q_o, .ref q_t, .int o_reached])), (q_o, .inl (cc.2.1, l_o, .inl g_o)), (q_t, .inl (cc.2.1, 182, .inl g_t))] : va_W) ++ px_cp cc ho cm np ns hm pa sa mm pp ss) H → va_D A (([(ho, .inr (1, [.ref q_o, .ref q_t, .int o_reached])), (q_o, .inl (cc.2.1, l_o, .inl g_o)), (q_t, .inl (cc.2.1, 182, .inl g_t))] : va_W) ++ px_cp cc ho cm np ns hm pa sa mm pp ss) → va_S A s.heap H locs → lv_has ls 4 [(0, .ref (hm a0x)), (1, .int x1), (2, .int x2)] → w263_L59 a0x cm np ns pa sa pp ss mc ms post k59 x1 x2 q_o l_o o_reached g_o g_t mm kc ks → W p l e (headSpec px_s263 ({ frames := 1, cells := mc, slots := ms, locals := 21 })).room s m ([.ref (hm a0x)]).toArray below meth c H locs kc ks Q (F0 m 59 ls []) := by
    intro k59
    induction k59 with
    | zero => intro x1 x2 q_o l_o o_reached g_o g_t mm kc ks H locs ls hkc hks hP hD hS hl hw; exact False.elim hw
    | succ k59 ih59 =>
      have S69 : ∀ (k69 : Nat) (x1 : Int32) (x2 : Int32) (x3 : Int32) (q_o : Nat) (l_o : Nat) (o_reached : Int32) (g_o : Nat → Int32) (g_t : Nat → Int32) (mm : Nat → px_MR) (kc : Nat) (ks : Nat) (H : Heap) (locs : List Loc) (ls : Array Slot), kc ≤ mc → ks ≤ ms → va_P (dC, dI) vwCl (([(ho, .inr (1, [.ref q_o, .ref q_t, .int o_reached])), (q_o, .inl (cc.2.1, l_o, .inl g_o)), (q_t, .inl (cc.2.1, 182, .inl g_t))] : va_W) ++ px_cp cc ho cm np ns hm pa sa mm pp ss) H → va_D A (([(ho, .inr (1, [.ref q_o, .ref q_t, .int o_reached])), (q_o, .inl (cc.2.1, l_o, .inl g_o)), (q_t, .inl (cc.2.1, 182, .inl g_t))] : va_W) ++ px_cp cc ho cm np ns hm pa sa mm pp ss) → va_S A s.heap H locs → lv_has ls 4 [(0, .ref (hm a0x)), (1, .int x1), (2, .int x2), (3, .int x3)] → w263_L69 (w263_L59 a0x cm np ns pa sa pp ss mc ms post k59) a0x cm np ns pa sa pp ss mc ms post k69 x1 x2 x3 q_o l_o o_reached g_o g_t mm kc ks → W p l e (headSpec px_s263 ({ frames := 1, cells := mc, slots := ms, locals := 21 })).room s m ([.ref (hm a0x)]).toArray below meth c H locs kc ks Q (F0 m 69 ls []) := by
        intro k69
        induction k69 with
        | zero => intro x1 x2 x3 q_o l_o o_reached g_o g_t mm kc ks H locs ls hkc hks hP hD hS hl hw; exact False.elim hw
        | succ k69 ih69 =>
          intro x1 x2 x3 q_o l_o o_reached g_o g_t mm kc ks H locs ls hkc hks hP hD hS hl hw
          unfold w263_L69 at hw
          refine lv_iload_n hx hb px_d263_69 rfl (lv_at hl 3 rfl) ?_
          refine lv_iload_n hx hb px_d263_70 rfl (lv_at hl 1 rfl) ?_
          refine lv_icmp_ge (tgt := 100) hx hb px_d263_71 (by decide) (fun c71 => ?_) (fun c71 => ?_)
          · have hw := hw.1 c71
            obtain ⟨z11, ez11⟩ : ∃ y : Int32, y = x2 + 1 := ⟨_, rfl⟩
            have hw := hw z11 ez11
            refine lv_iinc (v := z11) (lv' := [(2, .int z11), (0, .ref (hm a0x)), (1, .int x1), (3, .int x3)]) hx hb px_d263_100 hl (k := 2) rfl (by rw [ez11]; rfl) (by decide) rfl (fun ls hl => ?_)
            refine lv_goto (tgt := 59) hx hb px_d263_103 (by decide) ?_
            exact ih59 x1 z11 q_o l_o o_reached g_o g_t mm kc ks H locs ls hkc hks hP hD hS (lv_sub hl [1, 2, 0] rfl) hw
          · have hw := hw.2 c71
            refine lv_aload_n hx hb px_d263_74 rfl (lv_at hl 0 rfl) ?_
            obtain ⟨hp75, hw⟩ := hw
            refine va_get (D := (dC, dI)) (ci := 10) (v := .ref ((mm a0x).1 7)) (C := "MatroidDesk$Matroid") (T := px_T10) (N := 15) hx hb htw px_in10 hown hK hP (3 + (13 * a0x + 0)) (px_cg0 rfl hp75) rfl 7 (by decide) (htw _ px_w1006) (fun _ h9 => h9) rfl px_d263_75 ?_
            refine lv_iload_n hx hb px_d263_78 rfl (lv_at hl 3 rfl) ?_
            refine lv_dup2_11 hx hb px_d263_79 rfl rfl ?_
            obtain ⟨hp80, hw⟩ := hw
            obtain ⟨hi80, hw⟩ := hw
            refine va_bald hx hb hK hP (3 + (13 * a0x + 7)) 1 (px_cg7 rfl hp80) rfl hi80 px_d263_80 ?_
            refine lv_aload_n hx hb px_d263_81 rfl (lv_at hl 0 rfl) ?_
            obtain ⟨hp82, hw⟩ := hw
            refine va_get (D := (dC, dI)) (ci := 10) (v := .ref ((mm a0x).1 7)) (C := "MatroidDesk$Matroid") (T := px_T10) (N := 15) hx hb htw px_in10 hown hK hP (3 + (13 * a0x + 0)) (px_cg0 rfl hp82) rfl 7 (by decide) (htw _ px_w1006) (fun _ h9 => h9) rfl px_d263_82 ?_
            refine lv_iload_n hx hb px_d263_85 rfl (lv_at hl 3 rfl) ?_
            refine lv_iconst (v := 1) hx hb px_d263_86 (by decide) ?_
            refine lv_iload_n hx hb px_d263_87 rfl (lv_at hl 2 rfl) ?_
            refine lv_ishl hx hb px_d263_88 ?_
            refine lv_ior hx hb px_d263_89 ?_
            obtain ⟨hp90, hw⟩ := hw
            obtain ⟨hi90, hw⟩ := hw
            refine va_bald hx hb hK hP (3 + (13 * a0x + 7)) 1 (px_cg7 rfl hp90) rfl hi90 px_d263_90 ?_
            refine lv_ior hx hb px_d263_91 ?_
            refine lv_i2b (v := ((((mm a0x).2.2.2.1 7) (Int32.toNatClampNeg x3)) ||| (((mm a0x).2.2.2.1 7) (Int32.toNatClampNeg (x3 ||| ((1 : Int32) <<< (x2 &&& 31)))))).toInt8.toInt32) hx hb px_d263_92 rfl ?_
            refine lv_topi (fun z12 ez12 => ?_)
            have hw := hw z12 ez12
            obtain ⟨hp93, hw⟩ := hw
            obtain ⟨hi93, hw⟩ := hw
            obtain ⟨mm13, emm13⟩ : ∃ z : Nat → px_MR, z = va_up mm a0x ((mm a0x).1, (mm a0x).2.1, (mm a0x).2.2.1, va_up (mm a0x).2.2.2.1 7 (upd ((mm a0x).2.2.2.1 7) (Int32.toNatClampNeg x3) (vp_nar .byte z12)), (mm a0x).2.2.2.2) := ⟨_, rfl⟩
            refine va_bast hx hb hK hP hD hS (3 + (13 * a0x + 7)) 1 (px_cg7 rfl hp93) rfl hi93 px_d263_93 (fun H locs hP hD hS => ?_)
            have hP : va_P (dC, dI) vwCl (([(ho, .inr (1, [.ref q_o, .ref q_t, .int o_reached])), (q_o, .inl (cc.2.1, l_o, .inl g_o)), (q_t, .inl (cc.2.1, 182, .inl g_t))] : va_W) ++ px_cp cc ho cm np ns hm pa sa mm13 pp ss) H := px_csP rfl hp93 (by decide) rfl (px_hr7 _ _ _) emm13 hP
            have hD : va_D A (([(ho, .inr (1, [.ref q_o, .ref q_t, .int o_reached])), (q_o, .inl (cc.2.1, l_o, .inl g_o)), (q_t, .inl (cc.2.1, 182, .inl g_t))] : va_W) ++ px_cp cc ho cm np ns hm pa sa mm13 pp ss) := px_csD rfl hp93 (by decide) rfl (px_hr7 _ _ _) emm13 hD
            have hw := hw mm13 emm13
            obtain ⟨z14, ez14⟩ : ∃ y : Int32, y = x3 + 1 := ⟨_, rfl⟩
            have hw := hw z14 ez14
            refine lv_iinc (v := z14) (lv' := [(3, .int z14), (0, .ref (hm a0x)), (1, .int x1), (2, .int x2)]) hx hb px_d263_94 hl (k := 3) rfl (by rw [ez14]; rfl) (by decide) rfl (fun ls hl => ?_)
            refine lv_goto (tgt := 69) hx hb px_d263_97 (by decide) ?_
            exact ih69 x1 x2 z14 q_o l_o o_reached g_o g_t mm13 kc ks H locs ls hkc hks hP hD hS (lv_sub hl [1, 2, 3, 0] rfl) hw
      intro x1 x2 q_o l_o o_reached g_o g_t mm kc ks H locs ls hkc hks hP hD hS hl hw
      unfold w263_L59 at hw
      refine lv_iload_n hx hb px_d263_59 rfl (lv_at hl 2 rfl) ?_
      refine lv_aload_n hx hb px_d263_60 rfl (lv_at hl 0 rfl) ?_
      obtain ⟨hp61, hw⟩ := hw
      refine va_get (D := (dC, dI)) (ci := 10) (v := .int ((mm a0x).2.1 13)) (C := "MatroidDesk$Matroid") (T := px_T10) (N := 15) hx hb htw px_in10 hown hK hP (3 + (13 * a0x + 0)) (px_cg0 rfl hp61) rfl 13 (by decide) (htw _ px_w1264) (fun _ h9 => h9) rfl px_d263_61 ?_
      refine lv_icmp_ge (tgt := 106) hx hb px_d263_64 (by decide) (fun c64 => ?_) (fun c64 => ?_)
      · have hw := hw.1 c64
        refine lv_iconst (v := 0) hx hb px_d263_106 (by decide) ?_
        refine lv_istore_n (lv' := [(2, .int 0), (0, .ref (hm a0x)), (1, .int x1)]) hx hb px_d263_107 rfl hl (by decide) rfl (fun ls hl => ?_)
        obtain ⟨k9, hw⟩ := hw
        exact S108 k9 x1 0 q_o l_o o_reached g_o g_t mm kc ks H locs ls hkc hks hP hD hS (lv_sub hl [1, 2, 0] rfl) hw
      · have hw := hw.2 c64
        refine lv_iconst (v := 0) hx hb px_d263_67 (by decide) ?_
        refine lv_istore_n (lv' := [(3, .int 0), (0, .ref (hm a0x)), (1, .int x1), (2, .int x2)]) hx hb px_d263_68 rfl hl (by decide) rfl (fun ls hl => ?_)
        obtain ⟨k9, hw⟩ := hw
        exact S69 k9 x1 x2 0 q_o l_o o_reached g_o g_t mm kc ks H locs ls hkc hks hP hD hS (lv_sub hl [1, 2, 3, 0] rfl) hw
  have S25 : ∀ (k25 : Nat) (x1 : Int32) (x2 : Int32) (q_o : Nat) (l_o : Nat) (o_reached : Int32) (g_o : Nat → Int32) (g_t : Nat → Int32) (mm : Nat → px_MR) (kc : Nat) (ks : Nat) (H : Heap) (locs : List Loc) (ls : Array Slot), kc ≤ mc → ks ≤ ms → va_P (dC, dI) vwCl (([(ho, .inr (1, [.ref q_o, .ref q_t, .int o_reached])), (q_o, .inl (cc.2.1, l_o, .inl g_o)), (q_t, .inl (cc.2.1, 182, .inl g_t))] : va_W) ++ px_cp cc ho cm np ns hm pa sa mm pp ss) H → va_D A (([(ho, .inr (1, [.ref q_o, .ref q_t, .int o_reached])), (q_o, .inl (cc.2.1, l_o, .inl g_o)), (q_t, .inl (cc.2.1, 182, .inl g_t))] : va_W) ++ px_cp cc ho cm np ns hm pa sa mm pp ss) → va_S A s.heap H locs → lv_has ls 4 [(0, .ref (hm a0x)), (1, .int x1), (2, .int x2)] → w263_L25 a0x cm np ns pa sa pp ss mc ms post k25 x1 x2 q_o l_o o_reached g_o g_t mm kc ks → W p l e (headSpec px_s263 ({ frames := 1, cells := mc, slots := ms, locals := 21 })).room s m ([.ref (hm a0x)]).toArray below meth c H locs kc ks Q (F0 m 25 ls []) := by
    intro k25
    induction k25 with
    | zero => intro x1 x2 q_o l_o o_reached g_o g_t mm kc ks H locs ls hkc hks hP hD hS hl hw; exact False.elim hw
    | succ k25 ih25 =>
      have S49 : ∀ (x1 : Int32) (x2 : Int32) (y0 : Int32) (y1 : Int32) (q_o : Nat) (l_o : Nat) (o_reached : Int32) (g_o : Nat → Int32) (g_t : Nat → Int32) (mm : Nat → px_MR) (kc : Nat) (ks : Nat) (H : Heap) (locs : List Loc) (ls : Array Slot), kc ≤ mc → ks ≤ ms → va_P (dC, dI) vwCl (([(ho, .inr (1, [.ref q_o, .ref q_t, .int o_reached])), (q_o, .inl (cc.2.1, l_o, .inl g_o)), (q_t, .inl (cc.2.1, 182, .inl g_t))] : va_W) ++ px_cp cc ho cm np ns hm pa sa mm pp ss) H → va_D A (([(ho, .inr (1, [.ref q_o, .ref q_t, .int o_reached])), (q_o, .inl (cc.2.1, l_o, .inl g_o)), (q_t, .inl (cc.2.1, 182, .inl g_t))] : va_W) ++ px_cp cc ho cm np ns hm pa sa mm pp ss) → va_S A s.heap H locs → lv_has ls 4 [(0, .ref (hm a0x)), (1, .int x1), (2, .int x2)] → w263_L49 (w263_L25 a0x cm np ns pa sa pp ss mc ms post k25) a0x cm np ns pa sa pp ss mc ms post x1 x2 y0 y1 q_o l_o o_reached g_o g_t mm kc ks → W p l e (headSpec px_s263 ({ frames := 1, cells := mc, slots := ms, locals := 21 })).room s m ([.ref (hm a0x)]).toArray below meth c H locs kc ks Q (F0 m 49 ls [.int y0, .int y1, .ref ((mm a0x).1 7)]) := by
        intro x1 x2 y0 y1 q_o l_o o_reached g_o g_t mm kc ks H locs ls hkc hks hP hD hS hl hw
        unfold w263_L49 at hw
        refine lv_i2b (v := y0.toInt8.toInt32) hx hb px_d263_49 rfl ?_
        refine lv_topi (fun z15 ez15 => ?_)
        have hw := hw z15 ez15
        obtain ⟨hp50, hw⟩ := hw
        obtain ⟨hi50, hw⟩ := hw
        obtain ⟨mm16, emm16⟩ : ∃ z : Nat → px_MR, z = va_up mm a0x ((mm a0x).1, (mm a0x).2.1, (mm a0x).2.2.1, va_up (mm a0x).2.2.2.1 7 (upd ((mm a0x).2.2.2.1 7) (Int32.toNatClampNeg y1) (vp_nar .byte z15)), (mm a0x).2.2.2.2) := ⟨_, rfl⟩
        refine va_bast hx hb hK hP hD hS (3 + (13 * a0x + 7)) 1 (px_cg7 rfl hp50) rfl hi50 px_d263_50 (fun H locs hP hD hS => ?_)
        have hP : va_P (dC, dI) vwCl (([(ho, .inr (1, [.ref q_o, .ref q_t, .int o_reached])), (q_o, .inl (cc.2.1, l_o, .inl g_o)), (q_t, .inl (cc.2.1, 182, .inl g_t))] : va_W) ++ px_cp cc ho cm np ns hm pa sa mm16 pp ss) H := px_csP rfl hp50 (by decide) rfl (px_hr7 _ _ _) emm16 hP
        have hD : va_D A (([(ho, .inr (1, [.ref q_o, .ref q_t, .int o_reached])), (q_o, .inl (cc.2.1, l_o, .inl g_o)), (q_t, .inl (cc.2.1, 182, .inl g_t))] : va_W) ++ px_cp cc ho cm np ns hm pa sa mm16 pp ss) := px_csD rfl hp50 (by decide) rfl (px_hr7 _ _ _) emm16 hD
        have hw := hw mm16 emm16
        obtain ⟨z17, ez17⟩ : ∃ y : Int32, y = x2 + 1 := ⟨_, rfl⟩
        have hw := hw z17 ez17
        refine lv_iinc (v := z17) (lv' := [(2, .int z17), (0, .ref (hm a0x)), (1, .int x1)]) hx hb px_d263_51 hl (k := 2) rfl (by rw [ez17]; rfl) (by decide) rfl (fun ls hl => ?_)
        refine lv_goto (tgt := 25) hx hb px_d263_54 (by decide) ?_
        exact ih25 x1 z17 q_o l_o o_reached g_o g_t mm16 kc ks H locs ls hkc hks hP hD hS (lv_sub hl [1, 2, 0] rfl) hw
      intro x1 x2 q_o l_o o_reached g_o g_t mm kc ks H locs ls hkc hks hP hD hS hl hw
      unfold w263_L25 at hw
      refine lv_iload_n hx hb px_d263_25 rfl (lv_at hl 2 rfl) ?_
      refine lv_iload_n hx hb px_d263_26 rfl (lv_at hl 1 rfl) ?_
      refine lv_icmp_ge (tgt := 57) hx hb px_d263_27 (by decide) (fun c27 => ?_) (fun c27 => ?_)
      · have hw := hw.1 c27
        refine lv_iconst (v := 0) hx hb px_d263_57 (by decide) ?_
        refine lv_istore_n (lv' := [(2, .int 0), (0, .ref (hm a0x)), (1, .int x1)]) hx hb px_d263_58 rfl hl (by decide) rfl (fun ls hl => ?_)
        obtain ⟨k9, hw⟩ := hw
        exact S59 k9 x1 0 q_o l_o o_reached g_o g_t mm kc ks H locs ls hkc hks hP hD hS (lv_sub hl [1, 2, 0] rfl) hw
      · have hw := hw.2 c27
        refine lv_aload_n hx hb px_d263_30 rfl (lv_at hl 0 rfl) ?_
        obtain ⟨hp31, hw⟩ := hw
        refine va_get (D := (dC, dI)) (ci := 10) (v := .ref ((mm a0x).1 7)) (C := "MatroidDesk$Matroid") (T := px_T10) (N := 15) hx hb htw px_in10 hown hK hP (3 + (13 * a0x + 0)) (px_cg0 rfl hp31) rfl 7 (by decide) (htw _ px_w1006) (fun _ h9 => h9) rfl px_d263_31 ?_
        refine lv_iload_n hx hb px_d263_34 rfl (lv_at hl 2 rfl) ?_
        refine lv_aload_n hx hb px_d263_35 rfl (lv_at hl 0 rfl) ?_
        obtain ⟨hp36, hw⟩ := hw
        refine va_get (D := (dC, dI)) (ci := 10) (v := .ref ((mm a0x).1 6)) (C := "MatroidDesk$Matroid") (T := px_T10) (N := 15) hx hb htw px_in10 hown hK hP (3 + (13 * a0x + 0)) (px_cg0 rfl hp36) rfl 6 (by decide) (htw _ px_w1005) (fun _ h9 => h9) rfl px_d263_36 ?_
        refine lv_iload_n hx hb px_d263_39 rfl (lv_at hl 2 rfl) ?_
        obtain ⟨hp40, hw⟩ := hw
        obtain ⟨hi40, hw⟩ := hw
        refine va_bald hx hb hK hP (3 + (13 * a0x + 6)) 1 (px_cg6 rfl hp40) rfl hi40 px_d263_40 ?_
        refine lv_if_ne (tgt := 48) hx hb px_d263_41 (by decide) (fun c41 => ?_) (fun c41 => ?_)
        · have hw := hw.1 c41
          refine lv_iconst (v := 1) hx hb px_d263_48 (by decide) ?_
          exact S49 x1 x2 1 x2 q_o l_o o_reached g_o g_t mm kc ks H locs ls hkc hks hP hD hS (lv_sub hl [0, 1, 2] rfl) hw
        · have hw := hw.2 c41
          refine lv_iconst (v := 0) hx hb px_d263_44 (by decide) ?_
          refine lv_goto (tgt := 49) hx hb px_d263_45 (by decide) ?_
          exact S49 x1 x2 0 x2 q_o l_o o_reached g_o g_t mm kc ks H locs ls hkc hks hP hD hS (lv_sub hl [0, 1, 2] rfl) hw
  have S23 : ∀ (x1 : Int32) (q_o : Nat) (l_o : Nat) (o_reached : Int32) (g_o : Nat → Int32) (g_t : Nat → Int32) (mm : Nat → px_MR) (kc : Nat) (ks : Nat) (H : Heap) (locs : List Loc) (ls : Array Slot), kc ≤ mc → ks ≤ ms → va_P (dC, dI) vwCl (([(ho, .inr (1, [.ref q_o, .ref q_t, .int o_reached])), (q_o, .inl (cc.2.1, l_o, .inl g_o)), (q_t, .inl (cc.2.1, 182, .inl g_t))] : va_W) ++ px_cp cc ho cm np ns hm pa sa mm pp ss) H → va_D A (([(ho, .inr (1, [.ref q_o, .ref q_t, .int o_reached])), (q_o, .inl (cc.2.1, l_o, .inl g_o)), (q_t, .inl (cc.2.1, 182, .inl g_t))] : va_W) ++ px_cp cc ho cm np ns hm pa sa mm pp ss) → va_S A s.heap H locs → lv_has ls 4 [(0, .ref (hm a0x)), (1, .int x1)] → w263_L23 a0x cm np ns pa sa pp ss mc ms post x1 q_o l_o o_reached g_o g_t mm kc ks → W p l e (headSpec px_s263 ({ frames := 1, cells := mc, slots := ms, locals := 21 })).room s m ([.ref (hm a0x)]).toArray below meth c H locs kc ks Q (F0 m 23 ls []) := by
    intro x1 q_o l_o o_reached g_o g_t mm kc ks H locs ls hkc hks hP hD hS hl hw
    unfold w263_L23 at hw
    refine lv_iconst (v := 0) hx hb px_d263_23 (by decide) ?_
    refine lv_istore_n (lv' := [(2, .int 0), (0, .ref (hm a0x)), (1, .int x1)]) hx hb px_d263_24 rfl hl (by decide) rfl (fun ls hl => ?_)
    obtain ⟨k9, hw⟩ := hw
    exact S25 k9 x1 0 q_o l_o o_reached g_o g_t mm kc ks H locs ls hkc hks hP hD hS (lv_sub hl [1, 2, 0] rfl) hw
  unfold w263_wp at hw
  have hS0 := hS
  obtain ⟨H, hH9⟩ : ∃ z, z = s.heap := ⟨_, rfl⟩
  have hP : va_P (dC, dI) vwCl (([(ho, .inr (1, [.ref q_o, .ref q_t, .int o_reached])), (q_o, .inl (cc.2.1, l_o, .inl g_o)), (q_t, .inl (cc.2.1, 182, .inl g_t))] : va_W) ++ px_cp cc ho cm np ns hm pa sa mm pp ss) H := by rw [hH9]; exact hP
  obtain ⟨locs, hlo9⟩ : ∃ z : List Loc, z = [] := ⟨_, rfl⟩
  have hS : va_S A s.heap H locs := by rw [hH9, hlo9]; exact hS
  suffices hG : W p l e (headSpec px_s263 ({ frames := 1, cells := mc, slots := ms, locals := 21 })).room s m ([.ref (hm a0x)]).toArray below meth c H locs 0 0 Q (F0 m 0 ls []) by rw [hH9, hlo9] at hG; exact hG
  refine lv_iconst (v := 1) hx hb px_d263_0 (by decide) ?_
  refine lv_aload_n hx hb px_d263_1 rfl (lv_at hl 0 rfl) ?_
  obtain ⟨hp2, hw⟩ := hw
  refine va_get (D := (dC, dI)) (ci := 10) (v := .int ((mm a0x).2.1 13)) (C := "MatroidDesk$Matroid") (T := px_T10) (N := 15) hx hb htw px_in10 hown hK hP (3 + (13 * a0x + 0)) (px_cg0 rfl hp2) rfl 13 (by decide) (htw _ px_w1264) (fun _ h9 => h9) rfl px_d263_2 ?_
  refine lv_ishl hx hb px_d263_5 ?_
  refine lv_topi (fun z18 ez18 => ?_)
  have hw := hw z18 ez18
  refine lv_istore_n (lv' := [(1, .int z18), (0, .ref (hm a0x))]) hx hb px_d263_6 rfl hl (by decide) rfl (fun ls hl => ?_)
  refine lv_aload_n hx hb px_d263_7 rfl (lv_at hl 1 rfl) ?_
  obtain ⟨hp8, hw⟩ := hw
  refine va_get (D := (dC, dI)) (ci := 10) (v := .ref ((mm a0x).1 7)) (C := "MatroidDesk$Matroid") (T := px_T10) (N := 15) hx hb htw px_in10 hown hK hP (3 + (13 * a0x + 0)) (px_cg0 rfl hp8) rfl 7 (by decide) (htw _ px_w1006) (fun _ h9 => h9) rfl px_d263_8 ?_
  obtain ⟨hp11, hw⟩ := hw
  refine va_alen (v := nI ((mm a0x).2.2.1 7)) hx hb hK hP (3 + (13 * a0x + 7)) 1 (px_cg7 rfl hp11) rfl rfl px_d263_11 ?_
  refine lv_iload_n hx hb px_d263_12 rfl (lv_at hl 0 rfl) ?_
  refine lv_icmp_ge (tgt := 23) hx hb px_d263_13 (by decide) (fun c13 => ?_) (fun c13 => ?_)
  · have hw := hw.1 c13
    exact S23 z18 q_o l_o o_reached g_o g_t mm 0 0 H locs ls (Nat.zero_le mc) (Nat.zero_le ms) hP hD hS (lv_sub hl [1, 0] rfl) hw
  · have hw := hw.2 c13
    refine lv_aload_n hx hb px_d263_16 rfl (lv_at hl 1 rfl) ?_
    refine lv_iload_n hx hb px_d263_17 rfl (lv_at hl 0 rfl) ?_
    obtain ⟨hn18_19, hb18_19, hc18_19, hs18_19, hw⟩ := hw
    refine va_newa (atype := .byte) (ty := .byte) (n := z18) (N' := Int32.toNatClampNeg z18) (a0 := (Int32.toNatClampNeg z18, .inl (fun _ => 0))) hx hb (htw _ px_w3) rfl hK hP hD hS hA (fun _ => rfl) hn18_19 rfl hb18_19 hc18_19 hs18_19 px_d263_18 (fun q18_19 cA9 H hK9 hP hD hS => ?_)
    have e9 := px_cAeq hK9 hK 1 rfl
    rw [e9] at hP hD
    have hw := hw q18_19
    have hP := hP.swap
    have hD := hD.swap
    have hP : va_P (dC, dI) vwCl (([(ho, .inr (1, [.ref q_o, .ref q_t, .int o_reached])), (q_o, .inl (cc.2.1, l_o, .inl g_o)), (q_t, .inl (cc.2.1, 182, .inl g_t)), (q18_19, .inl (cc.2.2.2.1, Int32.toNatClampNeg z18, .inl (fun _ => 0)))] : va_W) ++ px_cp cc ho cm np ns hm pa sa mm pp ss) H := hP
    have hD : va_D A (([(ho, .inr (1, [.ref q_o, .ref q_t, .int o_reached])), (q_o, .inl (cc.2.1, l_o, .inl g_o)), (q_t, .inl (cc.2.1, 182, .inl g_t)), (q18_19, .inl (cc.2.2.2.1, Int32.toNatClampNeg z18, .inl (fun _ => 0)))] : va_W) ++ px_cp cc ho cm np ns hm pa sa mm pp ss) := hD
    obtain ⟨hp20, hw⟩ := hw
    obtain ⟨mm20, emm20⟩ : ∃ z : Nat → px_MR, z = va_up mm a0x (va_up (mm a0x).1 7 q18_19, (mm a0x).2.1, va_up (mm a0x).2.2.1 7 (Int32.toNatClampNeg z18), va_up (mm a0x).2.2.2.1 7 (fun _ => 0), (mm a0x).2.2.2.2) := ⟨_, rfl⟩
    refine va_put (D := (dC, dI)) (ci := 10) (v := .ref q18_19) (ty := (.array .byte)) (C := "MatroidDesk$Matroid") (T := px_T10) (N := 15) hx hb htw px_in10 px_ty10 px_tyok10 px_nm10 hown hK hP hD hS (4 + (13 * a0x + 0)) (px_cg0 rfl hp20) rfl 7 (by decide) (htw _ px_w1006) (fun _ h9 => h9) rfl (by decide +kernel) rfl rfl (Nat.le_of_ble_eq_true rfl) px_d263_20 (fun H locs hP hD hS => ?_)
    have hP : va_P (dC, dI) vwCl (([(ho, .inr (1, [.ref q_o, .ref q_t, .int o_reached])), (q_o, .inl (cc.2.1, l_o, .inl g_o)), (q_t, .inl (cc.2.1, 182, .inl g_t))] : va_W) ++ px_cp cc ho cm np ns hm pa sa mm20 pp ss) H := px_mswP (X := [(ho, .inr (1, [.ref q_o, .ref q_t, .int o_reached])), (q_o, .inl (cc.2.1, l_o, .inl g_o)), (q_t, .inl (cc.2.1, 182, .inl g_t))]) rfl hp20 (by decide) (by decide) (by decide) rfl rfl (px_hs7 _ _ _ _ _) emm20 hP
    have hD : va_D A (([(ho, .inr (1, [.ref q_o, .ref q_t, .int o_reached])), (q_o, .inl (cc.2.1, l_o, .inl g_o)), (q_t, .inl (cc.2.1, 182, .inl g_t))] : va_W) ++ px_cp cc ho cm np ns hm pa sa mm20 pp ss) := px_mswD (X := [(ho, .inr (1, [.ref q_o, .ref q_t, .int o_reached])), (q_o, .inl (cc.2.1, l_o, .inl g_o)), (q_t, .inl (cc.2.1, 182, .inl g_t))]) rfl hp20 (by decide) (by decide) (by decide) rfl rfl (px_hs7 _ _ _ _ _) emm20 hD
    have hw := hw mm20 emm20
    exact S23 z18 q_o l_o o_reached g_o g_t mm20 (0 + 1) (0 + (Int32.toNatClampNeg z18)) H locs ls hc18_19 hs18_19 hP hD hS (lv_sub hl [1, 0] rfl) hw

/-! MatroidDesk$Matroid.rankOf(I)I -/
def w262_L11 (a0x : Nat) (cm : Nat) (np : Nat) (ns : Nat) (pa : Nat → Nat) (sa : Nat → Nat) (pp : Nat → px_PR) (ss : Nat → px_SR) (mc : Nat) (ms : Nat) (post : Int32 → Nat → Nat → Int32 → (Nat → Int32) → (Nat → Int32) → (Nat → px_MR) → Prop) (x1 : Int32) (q_o : Nat) (l_o : Nat) (o_reached : Int32) (g_o : Nat → Int32) (g_t : Nat → Int32) (mm : Nat → px_MR) (kc : Nat) (ks : Nat) : Prop := a0x < cm ∧ (a0x < cm ∧ (vp_in x1 ((mm a0x).2.2.1 7) ∧ (post (((mm a0x).2.2.2.1 7) (Int32.toNatClampNeg x1)) q_o l_o o_reached g_o g_t mm)))
def w262_wp (a0x : Nat) (cm : Nat) (np : Nat) (ns : Nat) (pa : Nat → Nat) (sa : Nat → Nat) (pp : Nat → px_PR) (ss : Nat → px_SR) (mc : Nat) (ms : Nat) (post : Int32 → Nat → Nat → Int32 → (Nat → Int32) → (Nat → Int32) → (Nat → px_MR) → Prop) (a1x : Int32) (q_o : Nat) (l_o : Nat) (o_reached : Int32) (g_o : Nat → Int32) (g_t : Nat → Int32) (mm : Nat → px_MR) : Prop := a0x < cm ∧ ((¬ ((mm a0x).2.1 9) = 0 → w262_L11 a0x cm np ns pa sa pp ss mc ms post a1x q_o l_o o_reached g_o g_t mm 0 0) ∧ (((mm a0x).2.1 9) = 0 → ∃ m8_7 s8_7 : Nat, 0 + m8_7 ≤ mc ∧ 0 + s8_7 ≤ ms ∧ a0x < cm ∧ (w263_wp a0x cm np ns pa sa pp ss m8_7 s8_7 (fun v1 v2 v3 v4 v5 v6 => w262_L11 a0x cm np ns pa sa pp ss mc ms post a1x v1 v2 v3 v4 v5 v6 (0 + m8_7) (0 + s8_7)) q_o l_o o_reached g_o g_t mm)))
set_option maxHeartbeats 8000000 in
set_option maxRecDepth 100000 in
theorem w262_met (l : Launch) (dC : Nat → ClassId) (dI : Nat → Nat → Nat) (sz : Nat) (ho : Nat) (q_t : Nat) (a0x : Nat) (cc : px_CC) (cm : Nat) (np : Nat) (ns : Nat) (hm : Nat → Nat) (pa : Nat → Nat) (sa : Nat → Nat) (pp : Nat → px_PR) (ss : Nat → px_SR) (mc : Nat) (ms : Nat) (a1x : Int32) (q_o : Nat) (l_o : Nat) (o_reached : Int32) (g_o : Nat → Int32) (g_t : Nat → Int32) (mm : Nat → px_MR) (post : Int32 → Nat → Nat → Int32 → (Nat → Int32) → (Nat → Int32) → (Nat → px_MR) → Prop) (hw : w262_wp a0x cm np ns pa sa pp ss mc ms post a1x q_o l_o o_reached g_o g_t mm) : Met l px_y262 px_s262 ({ frames := 2, cells := mc, slots := ms, locals := 44 }) (va_Pc [.ref (hm a0x), .int a1x] (fun U => U.heap.size = sz ∧ va_P (dC, dI) vwCl (([(ho, .inr (1, [.ref q_o, .ref q_t, .int o_reached])), (q_o, .inl (cc.2.1, l_o, .inl g_o)), (q_t, .inl (cc.2.1, 182, .inl g_t))] : va_W) ++ px_cp cc ho cm np ns hm pa sa mm pp ss) U.heap ∧ va_K (dC, dI) vwCl [(cc.2.1, .int), (cc.2.2.2.1, .byte), (cc.2.2.2.2, .long), (cc.1, .object "MatroidDesk$Part"), (cc.2.2.1, (.array .int))] U ∧ va_D (fun _ => True) (([(ho, .inr (1, [.ref q_o, .ref q_t, .int o_reached])), (q_o, .inl (cc.2.1, l_o, .inl g_o)), (q_t, .inl (cc.2.1, 182, .inl g_t))] : va_W) ++ px_cp cc ho cm np ns hm pa sa mm pp ss) ∧ px_N U)) (va_Qi (fun (r : Int32) (u : Nat × Nat × Int32 × (Nat → Int32) × (Nat → Int32) × (Nat → px_MR)) => post r u.1 u.2.1 u.2.2.1 u.2.2.2.1 u.2.2.2.2.1 u.2.2.2.2.2) (fun (u : Nat × Nat × Int32 × (Nat → Int32) × (Nat → Int32) × (Nat → px_MR)) (t : State) => va_P (dC, dI) vwCl (([(ho, .inr (1, [.ref u.1, .ref q_t, .int u.2.2.1])), (u.1, .inl (cc.2.1, u.2.1, .inl u.2.2.2.1)), (q_t, .inl (cc.2.1, 182, .inl u.2.2.2.2.1))] : va_W) ++ px_cp cc ho cm np ns hm pa sa u.2.2.2.2.2 pp ss) t.heap ∧ va_K (dC, dI) vwCl [(cc.2.1, .int), (cc.2.2.2.1, .byte), (cc.2.2.2.2, .long), (cc.1, .object "MatroidDesk$Part"), (cc.2.2.1, (.array .int))] t ∧ va_D (va_A (([(ho, .inr (1, [.ref q_o, .ref q_t, .int o_reached])), (q_o, .inl (cc.2.1, l_o, .inl g_o)), (q_t, .inl (cc.2.1, 182, .inl g_t))] : va_W) ++ px_cp cc ho cm np ns hm pa sa mm pp ss) sz) (([(ho, .inr (1, [.ref u.1, .ref q_t, .int u.2.2.1])), (u.1, .inl (cc.2.1, u.2.1, .inl u.2.2.2.1)), (q_t, .inl (cc.2.1, 182, .inl u.2.2.2.2.1))] : va_W) ++ px_cp cc ho cm np ns hm pa sa u.2.2.2.2.2 pp ss)) (va_A (([(ho, .inr (1, [.ref q_o, .ref q_t, .int o_reached])), (q_o, .inl (cc.2.1, l_o, .inl g_o)), (q_t, .inl (cc.2.1, 182, .inl g_t))] : va_W) ++ px_cp cc ho cm np ns hm pa sa mm pp ss) sz)) mc ms (va_A (([(ho, .inr (1, [.ref q_o, .ref q_t, .int o_reached])), (q_o, .inl (cc.2.1, l_o, .inl g_o)), (q_t, .inl (cc.2.1, 182, .inl g_t))] : va_W) ++ px_cp cc ho cm np ns hm pa sa mm pp ss) sz) := by
  refine Met.ofW (cc := prog_3_method_9_code) (maxL := 2) (ret := (some .int)) (by decide) rfl ?_
  intro p e s m args below meth c s₁ B hml hv
  obtain ⟨rfl, hsz, hP, hK, hD0, hN⟩ := hv
  have hx := B.exec
  have hb := B.bytes
  have hr := B.returns
  have htw : ∀ w ∈ px_all, w.before _ s = true := fun w h => atoms_spec (ws := px_s262) B.pre w (List.mem_cons_of_mem _ h)
  have hown : s.vm.findClass "MatroidDesk$Matroid" = some m.cls := findClass_of_methodNamed B.named
  have hlocks := B.notSynchronized
  subst hsz
  have hD := hD0.self (sz := s.heap.size)
  generalize hAe : va_A (([(ho, .inr (1, [.ref q_o, .ref q_t, .int o_reached])), (q_o, .inl (cc.2.1, l_o, .inl g_o)), (q_t, .inl (cc.2.1, 182, .inl g_t))] : va_W) ++ px_cp cc ho cm np ns hm pa sa mm pp ss) s.heap.size = A at hD ⊢
  have hA : ∀ q : Nat, s.heap.size ≤ q → A q := fun q h => by rw [← hAe]; exact Or.inr h
  have hS : va_S A s.heap s.heap [] := va_S.rf
  have hP : va_P (dC, dI) vwCl (([(ho, .inr (1, [.ref q_o, .ref q_t, .int o_reached])), (q_o, .inl (cc.2.1, l_o, .inl g_o)), (q_t, .inl (cc.2.1, 182, .inl g_t))] : va_W) ++ px_cp cc ho cm np ns hm pa sa mm pp ss) s.heap := hP
  have hl := lv_entry ([.ref (hm a0x), .int a1x]) (n := 2) (Nat.le_of_ble_eq_true rfl)
  rw [lg_entry_eq]
  generalize (lg_sl ([.ref (hm a0x), .int a1x]) ++ List.replicate (2 - (lg_sl ([.ref (hm a0x), .int a1x])).length) Slot.unset).toArray = ls at hl ⊢
  have hl : lv_has ls 2 [(0, .ref (hm a0x)), (1, .int a1x)] := hl
  generalize hQ : MQ _ _ _ _ _ _ _ = Q
  have S11 : ∀ (x1 : Int32) (q_o : Nat) (l_o : Nat) (o_reached : Int32) (g_o : Nat → Int32) (g_t : Nat → Int32) (mm : Nat → px_MR) (kc : Nat) (ks : Nat) (H : Heap) (locs : List Loc) (ls : Array Slot), kc ≤ mc → ks ≤ ms → va_P (dC, dI) vwCl (([(ho, .inr (1, [.ref q_o, .ref q_t, .int o_reached])), (q_o, .inl (cc.2.1, l_o, .inl g_o)), (q_t, .inl (cc.2.1, 182, .inl g_t))] : va_W) ++ px_cp cc ho cm np ns hm pa sa mm pp ss) H → va_D A (([(ho, .inr (1, [.ref q_o, .ref q_t, .int o_reached])), (q_o, .inl (cc.2.1, l_o, .inl g_o)), (q_t, .inl (cc.2.1, 182, .inl g_t))] : va_W) ++ px_cp cc ho cm np ns hm pa sa mm pp ss) → va_S A s.heap H locs → lv_has ls 2 [(0, .ref (hm a0x)), (1, .int x1)] → w262_L11 a0x cm np ns pa sa pp ss mc ms post x1 q_o l_o o_reached g_o g_t mm kc ks → W p l e (headSpec px_s262 ({ frames := 2, cells := mc, slots := ms, locals := 44 })).room s m ([.ref (hm a0x), .int a1x]).toArray below meth c H locs kc ks Q (F0 m 11 ls []) := by
    intro x1 q_o l_o o_reached g_o g_t mm kc ks H locs ls hkc hks hP hD hS hl hw
    unfold w262_L11 at hw
    refine lv_aload_n hx hb px_d262_11 rfl (lv_at hl 0 rfl) ?_
    obtain ⟨hp12, hw⟩ := hw
    refine va_get (D := (dC, dI)) (ci := 10) (v := .ref ((mm a0x).1 7)) (C := "MatroidDesk$Matroid") (T := px_T10) (N := 15) hx hb htw px_in10 hown hK hP (3 + (13 * a0x + 0)) (px_cg0 rfl hp12) rfl 7 (by decide) (htw _ px_w1006) (fun _ h9 => h9) rfl px_d262_12 ?_
    refine lv_iload_n hx hb px_d262_15 rfl (lv_at hl 1 rfl) ?_
    obtain ⟨hp16, hw⟩ := hw
    obtain ⟨hi16, hw⟩ := hw
    refine va_bald hx hb hK hP (3 + (13 * a0x + 7)) 1 (px_cg7 rfl hp16) rfl hi16 px_d262_16 ?_
    refine W.widen (k := mc) (n := ms) hkc hks ?_
    rw [← hQ]
    exact W.iret (v := ((mm a0x).2.2.2.1 7) (Int32.toNatClampNeg x1)) hx hb hr (fun t ht hW => ⟨⟨((mm a0x).2.2.2.1 7) (Int32.toNatClampNeg x1), (q_o, l_o, o_reached, g_o, g_t, mm), rfl, hw, by rw [ht]; exact hP, va_K.moved hW.alike hK, hD⟩, hS.F ht⟩) hS.2.2 px_d262_17
  unfold w262_wp at hw
  have hS0 := hS
  obtain ⟨H, hH9⟩ : ∃ z, z = s.heap := ⟨_, rfl⟩
  have hP : va_P (dC, dI) vwCl (([(ho, .inr (1, [.ref q_o, .ref q_t, .int o_reached])), (q_o, .inl (cc.2.1, l_o, .inl g_o)), (q_t, .inl (cc.2.1, 182, .inl g_t))] : va_W) ++ px_cp cc ho cm np ns hm pa sa mm pp ss) H := by rw [hH9]; exact hP
  obtain ⟨locs, hlo9⟩ : ∃ z : List Loc, z = [] := ⟨_, rfl⟩
  have hS : va_S A s.heap H locs := by rw [hH9, hlo9]; exact hS
  suffices hG : W p l e (headSpec px_s262 ({ frames := 2, cells := mc, slots := ms, locals := 44 })).room s m ([.ref (hm a0x), .int a1x]).toArray below meth c H locs 0 0 Q (F0 m 0 ls []) by rw [hH9, hlo9] at hG; exact hG
  refine lv_aload_n hx hb px_d262_0 rfl (lv_at hl 0 rfl) ?_
  obtain ⟨hp1, hw⟩ := hw
  refine va_get (D := (dC, dI)) (ci := 10) (v := .int ((mm a0x).2.1 9)) (C := "MatroidDesk$Matroid") (T := px_T10) (N := 15) hx hb htw px_in10 hown hK hP (3 + (13 * a0x + 0)) (px_cg0 rfl hp1) rfl 9 (by decide) (htw _ px_w1274) (fun _ h9 => h9) rfl px_d262_1 ?_
  refine lv_if_ne (tgt := 11) hx hb px_d262_4 (by decide) (fun c4 => ?_) (fun c4 => ?_)
  · have hw := hw.1 c4
    exact S11 a1x q_o l_o o_reached g_o g_t mm 0 0 H locs ls (Nat.zero_le mc) (Nat.zero_le ms) hP hD hS (lv_sub hl [0, 1] rfl) hw
  · have hw := hw.2 c4
    refine lv_aload_n hx hb px_d262_7 rfl (lv_at hl 0 rfl) ?_
    obtain ⟨m8_7, s8_7, hm8_7, hs8_7, hw⟩ := hw
    obtain ⟨hp8, hw⟩ := hw
    have hPc := hP.part (cx := [(ho, .inr (1, [.ref q_o, .ref q_t, .int o_reached])), (q_o, .inl (cc.2.1, l_o, .inl g_o)), (q_t, .inl (cc.2.1, 182, .inl g_t))]) [0, 1, 2] rfl
    have hDc := hD.part (cx := [(ho, .inr (1, [.ref q_o, .ref q_t, .int o_reached])), (q_o, .inl (cc.2.1, l_o, .inl g_o)), (q_t, .inl (cc.2.1, 182, .inl g_t))]) [0, 1, 2] (by decide) rfl
    have hFc := va_freeP (cx := [(ho, .inr (1, [.ref q_o, .ref q_t, .int o_reached])), (q_o, .inl (cc.2.1, l_o, .inl g_o)), (q_t, .inl (cc.2.1, 182, .inl g_t))]) hD hS hA [0, 1, 2] rfl
    have hKc := hK.sub (tys' := [(cc.2.1, .int), (cc.2.2.2.1, .byte), (cc.2.2.2.2, .long), (cc.1, .object "MatroidDesk$Part"), (cc.2.2.1, (.array .int))]) [0, 1, 2, 3, 4] rfl
    refine va_callv (va_runV (As := []) (rest := []) ⟨hx, hb, hml, hown, htw⟩ (w263_met l dC dI H.size ho q_t a0x cc cm np ns hm pa sa pp ss m8_7 s8_7 q_o l_o o_reached g_o g_t mm _ hw) (cwV 0 htw (px_gv px_w1339 px_w1341 px_w1342 px_w154 px_g263) rfl rfl rfl (by decide +kernel) ⟨Nat.le_of_ble_eq_true rfl, Nat.le_of_ble_eq_true rfl⟩) ⟨fun a U g mk q => by obtain ⟨q0, q1, qP, qK, qD, qN⟩ := q; exact ⟨q0, q1, qP, va_K.moved (u := U) (U := U.calling g mk a) (Vm.Alike.refl U.vm) qK, qD, qN.same rfl⟩, va_recv hK hP (ci := 10) (q0 := (3 + (13 * a0x + 0))) rfl (px_cg0 rfl hp8), fun U hU hW => ⟨rfl, by rw [hU], by rw [hU]; exact hPc, va_K.moved hW.alike hKc, hDc.weaken (fun _ _ _ _ => trivial), hN.warm hW⟩⟩ rfl rfl hl.1 rfl (lv_room (Nat.le_of_ble_eq_true rfl)) px_d262_8 ⟨hm8_7, hs8_7⟩) hS (fun q _ h => hFc q h) hFc (fun u t H1 locs ht hvm hw hB hz1 hk1 hS => ?_)
    obtain ⟨v1, v2, v3, v4, v5, v6⟩ := u
    obtain ⟨hP1, hK1, hD1⟩ := hB
    rw [ht] at hP1
    obtain ⟨hP, hD⟩ := va_joinP (wr := []) (rx := [(ho, .inr (1, [.ref v1, .ref q_t, .int v3])), (v1, .inl (cc.2.1, v2, .inl v4)), (q_t, .inl (cc.2.1, 182, .inl v5))]) hP hD [0, 1, 2] [] rfl rfl (by decide) (by decide) hk1 hFc hP1 hD1
    generalize H1 = H at hP hS ⊢
    have hP : va_P (dC, dI) vwCl (([(ho, .inr (1, [.ref v1, .ref q_t, .int v3])), (v1, .inl (cc.2.1, v2, .inl v4)), (q_t, .inl (cc.2.1, 182, .inl v5))] : va_W) ++ px_cp cc ho cm np ns hm pa sa v6 pp ss) H := hP
    have hD : va_D A (([(ho, .inr (1, [.ref v1, .ref q_t, .int v3])), (v1, .inl (cc.2.1, v2, .inl v4)), (q_t, .inl (cc.2.1, 182, .inl v5))] : va_W) ++ px_cp cc ho cm np ns hm pa sa v6 pp ss) := hD
    exact S11 a1x v1 v2 v3 v4 v5 v6 (0 + m8_7) (0 + s8_7) H locs ls hm8_7 hs8_7 hP hD hS (lv_sub hl [0, 1] rfl) hw

