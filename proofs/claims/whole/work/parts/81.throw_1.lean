abbrev px_s355 : List Cond := Cond.codeWith px_y355 method_3_code 7 (some .int) [(0, 11, 14, 13)] :: px_all

abbrev px_s359 : List Cond := Cond.codeWith px_y359 method_4_code 4 (some .int) [(0, 9, 12, 19)] :: px_all

/-! MatroidDeskLaw.feed(LMatroidDesk;IIIII)I  -/
def w355_wp (d_lm : Nat → Option Nat) (cm : Nat) (np : Nat) (ns : Nat) (pa : Nat → Nat) (sa : Nat → Nat) (pp : Nat → px_PR) (ss : Nat → px_SR) (mc : Nat) (ms : Nat) (post : Int32 → Int32 → Int32 → Int32 → Int32 → Option Nat → Nat → Nat → (Nat → Int32) → Nat → Nat → Int32 → (Nat → Int32) → (Nat → Int32) → (Nat → px_MR) → Prop) (a1x : Int32) (a2x : Int32) (a3x : Int32) (a4x : Int32) (a5x : Int32) (d_fed : Int32) (d_refusedAt : Int32) (d_reason : Int32) (d_stamps : Int32) (d_spare : Option Nat) (q_y : Nat) (l_y : Nat) (g_y : Nat → Int32) (q_o : Nat) (l_o : Nat) (o_reached : Int32) (g_o : Nat → Int32) (g_t : Nat → Int32) (mm : Nat → px_MR) : Prop := ∃ m8_15 s8_15 : Nat, 0 + m8_15 ≤ mc ∧ 0 + s8_15 ≤ ms ∧ (w356_wp d_lm cm np ns pa sa pp ss m8_15 s8_15 (fun v1 v2 v3 v4 v5 v6 v7 v8 v9 v10 v11 v12 v13 v14 => post 0 v1 v2 v3 v4 v5 v6 v7 v8 v9 v10 v11 v12 v13 v14) a1x a2x a3x a4x a5x d_fed d_refusedAt d_reason d_stamps d_spare q_y l_y g_y q_o l_o o_reached g_o g_t mm)
set_option maxHeartbeats 8000000 in
set_option maxRecDepth 100000 in
theorem w355_met (l : Launch) (dC : Nat → ClassId) (dI : Nat → Nat → Nat) (sz : Nat) (h_d : Nat) (q_ms : Nat) (q_e : Nat) (h_m : Nat) (h_w : Nat) (h_t : Nat) (h_s : Nat) (h_p : Nat) (ho : Nat) (d_lm : Nat → Option Nat) (q_t : Nat) (cc : px_CC) (cm : Nat) (np : Nat) (ns : Nat) (hm : Nat → Nat) (pa : Nat → Nat) (sa : Nat → Nat) (pp : Nat → px_PR) (ss : Nat → px_SR) (c_ms : ClassId) (mc : Nat) (ms : Nat) (a1x : Int32) (a2x : Int32) (a3x : Int32) (a4x : Int32) (a5x : Int32) (d_fed : Int32) (d_refusedAt : Int32) (d_reason : Int32) (d_stamps : Int32) (d_spare : Option Nat) (q_y : Nat) (l_y : Nat) (g_y : Nat → Int32) (q_o : Nat) (l_o : Nat) (o_reached : Int32) (g_o : Nat → Int32) (g_t : Nat → Int32) (mm : Nat → px_MR) (post : Int32 → Int32 → Int32 → Int32 → Int32 → Option Nat → Nat → Nat → (Nat → Int32) → Nat → Nat → Int32 → (Nat → Int32) → (Nat → Int32) → (Nat → px_MR) → Prop) (hw : w355_wp d_lm cm np ns pa sa pp ss mc ms post a1x a2x a3x a4x a5x d_fed d_refusedAt d_reason d_stamps d_spare q_y l_y g_y q_o l_o o_reached g_o g_t mm) : Met l px_y355 px_s355 ({ frames := 3, cells := mc, slots := ms, locals := 68 }) (va_Pc [.ref h_d, .int a1x, .int a2x, .int a3x, .int a4x, .int a5x] (fun U => U.heap.size = sz ∧ va_P (dC, dI) vwCl (([(h_d, .inr (0, [.ref q_y, .int d_fed, .int d_refusedAt, .int d_reason, .int d_stamps, va_rf (Option.map hm d_spare), .ref q_ms, .ref q_e, .ref ho, .ref h_m, .ref h_w, .ref h_t, .ref h_s, .ref h_p])), (q_ms, .inl (c_ms, 26, .inr (.inr (.inr (.inr (px_mo hm d_lm)))))), (q_y, .inl (cc.2.2.2.1, l_y, .inl g_y)), (ho, .inr (1, [.ref q_o, .ref q_t, .int o_reached])), (q_o, .inl (cc.2.1, l_o, .inl g_o)), (q_t, .inl (cc.2.1, 182, .inl g_t))] : va_W) ++ px_cp cc ho cm np ns hm pa sa mm pp ss) U.heap ∧ va_K (dC, dI) vwCl [(cc.2.1, .int), (cc.2.2.2.1, .byte), (cc.2.2.2.2, .long), (cc.1, .object "MatroidDesk$Part"), (cc.2.2.1, (.array .int)), (c_ms, .object "MatroidDesk$Matroid")] U ∧ va_D (fun _ => True) (([(h_d, .inr (0, [.ref q_y, .int d_fed, .int d_refusedAt, .int d_reason, .int d_stamps, va_rf (Option.map hm d_spare), .ref q_ms, .ref q_e, .ref ho, .ref h_m, .ref h_w, .ref h_t, .ref h_s, .ref h_p])), (q_ms, .inl (c_ms, 26, .inr (.inr (.inr (.inr (px_mo hm d_lm)))))), (q_y, .inl (cc.2.2.2.1, l_y, .inl g_y)), (ho, .inr (1, [.ref q_o, .ref q_t, .int o_reached])), (q_o, .inl (cc.2.1, l_o, .inl g_o)), (q_t, .inl (cc.2.1, 182, .inl g_t))] : va_W) ++ px_cp cc ho cm np ns hm pa sa mm pp ss) ∧ px_N U)) (va_Qi (fun (r : Int32) (u : Int32 × Int32 × Int32 × Int32 × Option Nat × Nat × Nat × (Nat → Int32) × Nat × Nat × Int32 × (Nat → Int32) × (Nat → Int32) × (Nat → px_MR)) => post r u.1 u.2.1 u.2.2.1 u.2.2.2.1 u.2.2.2.2.1 u.2.2.2.2.2.1 u.2.2.2.2.2.2.1 u.2.2.2.2.2.2.2.1 u.2.2.2.2.2.2.2.2.1 u.2.2.2.2.2.2.2.2.2.1 u.2.2.2.2.2.2.2.2.2.2.1 u.2.2.2.2.2.2.2.2.2.2.2.1 u.2.2.2.2.2.2.2.2.2.2.2.2.1 u.2.2.2.2.2.2.2.2.2.2.2.2.2) (fun (u : Int32 × Int32 × Int32 × Int32 × Option Nat × Nat × Nat × (Nat → Int32) × Nat × Nat × Int32 × (Nat → Int32) × (Nat → Int32) × (Nat → px_MR)) (t : State) => va_P (dC, dI) vwCl (([(h_d, .inr (0, [.ref u.2.2.2.2.2.1, .int u.1, .int u.2.1, .int u.2.2.1, .int u.2.2.2.1, va_rf (Option.map hm u.2.2.2.2.1), .ref q_ms, .ref q_e, .ref ho, .ref h_m, .ref h_w, .ref h_t, .ref h_s, .ref h_p])), (q_ms, .inl (c_ms, 26, .inr (.inr (.inr (.inr (px_mo hm d_lm)))))), (u.2.2.2.2.2.1, .inl (cc.2.2.2.1, u.2.2.2.2.2.2.1, .inl u.2.2.2.2.2.2.2.1)), (ho, .inr (1, [.ref u.2.2.2.2.2.2.2.2.1, .ref q_t, .int u.2.2.2.2.2.2.2.2.2.2.1])), (u.2.2.2.2.2.2.2.2.1, .inl (cc.2.1, u.2.2.2.2.2.2.2.2.2.1, .inl u.2.2.2.2.2.2.2.2.2.2.2.1)), (q_t, .inl (cc.2.1, 182, .inl u.2.2.2.2.2.2.2.2.2.2.2.2.1))] : va_W) ++ px_cp cc ho cm np ns hm pa sa u.2.2.2.2.2.2.2.2.2.2.2.2.2 pp ss) t.heap ∧ va_K (dC, dI) vwCl [(cc.2.1, .int), (cc.2.2.2.1, .byte), (cc.2.2.2.2, .long), (cc.1, .object "MatroidDesk$Part"), (cc.2.2.1, (.array .int)), (c_ms, .object "MatroidDesk$Matroid")] t ∧ va_D (va_A (([(h_d, .inr (0, [.ref q_y, .int d_fed, .int d_refusedAt, .int d_reason, .int d_stamps, va_rf (Option.map hm d_spare), .ref q_ms, .ref q_e, .ref ho, .ref h_m, .ref h_w, .ref h_t, .ref h_s, .ref h_p])), (q_ms, .inl (c_ms, 26, .inr (.inr (.inr (.inr (px_mo hm d_lm)))))), (q_y, .inl (cc.2.2.2.1, l_y, .inl g_y)), (ho, .inr (1, [.ref q_o, .ref q_t, .int o_reached])), (q_o, .inl (cc.2.1, l_o, .inl g_o)), (q_t, .inl (cc.2.1, 182, .inl g_t))] : va_W) ++ px_cp cc ho cm np ns hm pa sa mm pp ss) sz) (([(h_d, .inr (0, [.ref u.2.2.2.2.2.1, .int u.1, .int u.2.1, .int u.2.2.1, .int u.2.2.2.1, va_rf (Option.map hm u.2.2.2.2.1), .ref q_ms, .ref q_e, .ref ho, .ref h_m, .ref h_w, .ref h_t, .ref h_s, .ref h_p])), (q_ms, .inl (c_ms, 26, .inr (.inr (.inr (.inr (px_mo hm d_lm)))))), (u.2.2.2.2.2.1, .inl (cc.2.2.2.1, u.2.2.2.2.2.2.1, .inl u.2.2.2.2.2.2.2.1)), (ho, .inr (1, [.ref u.2.2.2.2.2.2.2.2.1, .ref q_t, .int u.2.2.2.2.2.2.2.2.2.2.1])), (u.2.2.2.2.2.2.2.2.1, .inl (cc.2.1, u.2.2.2.2.2.2.2.2.2.1, .inl u.2.2.2.2.2.2.2.2.2.2.2.1)), (q_t, .inl (cc.2.1, 182, .inl u.2.2.2.2.2.2.2.2.2.2.2.2.1))] : va_W) ++ px_cp cc ho cm np ns hm pa sa u.2.2.2.2.2.2.2.2.2.2.2.2.2 pp ss)) (va_A (([(h_d, .inr (0, [.ref q_y, .int d_fed, .int d_refusedAt, .int d_reason, .int d_stamps, va_rf (Option.map hm d_spare), .ref q_ms, .ref q_e, .ref ho, .ref h_m, .ref h_w, .ref h_t, .ref h_s, .ref h_p])), (q_ms, .inl (c_ms, 26, .inr (.inr (.inr (.inr (px_mo hm d_lm)))))), (q_y, .inl (cc.2.2.2.1, l_y, .inl g_y)), (ho, .inr (1, [.ref q_o, .ref q_t, .int o_reached])), (q_o, .inl (cc.2.1, l_o, .inl g_o)), (q_t, .inl (cc.2.1, 182, .inl g_t))] : va_W) ++ px_cp cc ho cm np ns hm pa sa mm pp ss) sz)) mc ms (va_A (([(h_d, .inr (0, [.ref q_y, .int d_fed, .int d_refusedAt, .int d_reason, .int d_stamps, va_rf (Option.map hm d_spare), .ref q_ms, .ref q_e, .ref ho, .ref h_m, .ref h_w, .ref h_t, .ref h_s, .ref h_p])), (q_ms, .inl (c_ms, 26, .inr (.inr (.inr (.inr (px_mo hm d_lm)))))), (q_y, .inl (cc.2.2.2.1, l_y, .inl g_y)), (ho, .inr (1, [.ref q_o, .ref q_t, .int o_reached])), (q_o, .inl (cc.2.1, l_o, .inl g_o)), (q_t, .inl (cc.2.1, 182, .inl g_t))] : va_W) ++ px_cp cc ho cm np ns hm pa sa mm pp ss) sz) := by
  refine px_ofW (cc := method_3_code) (maxL := 7) (ret := (some .int)) (hs := [(0, 11, 14, 13)]) (by decide) rfl ?_
  intro p e s m args below meth c s₁ B hml htab hv
  obtain ⟨rfl, hsz, hP, hK, hD0, hN⟩ := hv
  have hx := B.exec
  have hb := B.bytes
  have hr := B.returns
  have htw : ∀ w ∈ px_all, w.before _ s = true := fun w h => atoms_spec (ws := px_s355) B.pre w (List.mem_cons_of_mem _ h)
  have hown : s.vm.findClass "MatroidDeskLaw" = some m.cls := findClass_of_methodNamed B.named
  have hlocks := B.notSynchronized
  subst hsz
  have hD := hD0.self (sz := s.heap.size)
  generalize hAe : va_A (([(h_d, .inr (0, [.ref q_y, .int d_fed, .int d_refusedAt, .int d_reason, .int d_stamps, va_rf (Option.map hm d_spare), .ref q_ms, .ref q_e, .ref ho, .ref h_m, .ref h_w, .ref h_t, .ref h_s, .ref h_p])), (q_ms, .inl (c_ms, 26, .inr (.inr (.inr (.inr (px_mo hm d_lm)))))), (q_y, .inl (cc.2.2.2.1, l_y, .inl g_y)), (ho, .inr (1, [.ref q_o, .ref q_t, .int o_reached])), (q_o, .inl (cc.2.1, l_o, .inl g_o)), (q_t, .inl (cc.2.1, 182, .inl g_t))] : va_W) ++ px_cp cc ho cm np ns hm pa sa mm pp ss) s.heap.size = A at hD ⊢
  have hA : ∀ q : Nat, s.heap.size ≤ q → A q := fun q h => by rw [← hAe]; exact Or.inr h
  have hS : va_S A s.heap s.heap [] := va_S.rf
  have hP : va_P (dC, dI) vwCl (([(h_d, .inr (0, [.ref q_y, .int d_fed, .int d_refusedAt, .int d_reason, .int d_stamps, va_rf (Option.map hm d_spare), .ref q_ms, .ref q_e, .ref ho, .ref h_m, .ref h_w, .ref h_t, .ref h_s, .ref h_p])), (q_ms, .inl (c_ms, 26, .inr (.inr (.inr (.inr (px_mo hm d_lm)))))), (q_y, .inl (cc.2.2.2.1, l_y, .inl g_y)), (ho, .inr (1, [.ref q_o, .ref q_t, .int o_reached])), (q_o, .inl (cc.2.1, l_o, .inl g_o)), (q_t, .inl (cc.2.1, 182, .inl g_t))] : va_W) ++ px_cp cc ho cm np ns hm pa sa mm pp ss) s.heap := hP
  have hl := lv_entry ([.ref h_d, .int a1x, .int a2x, .int a3x, .int a4x, .int a5x]) (n := 7) (Nat.le_of_ble_eq_true rfl)
  rw [lg_entry_eq]
  generalize (lg_sl ([.ref h_d, .int a1x, .int a2x, .int a3x, .int a4x, .int a5x]) ++ List.replicate (7 - (lg_sl ([.ref h_d, .int a1x, .int a2x, .int a3x, .int a4x, .int a5x])).length) Slot.unset).toArray = ls at hl ⊢
  have hl : lv_has ls 7 [(0, .ref h_d), (1, .int a1x), (2, .int a2x), (3, .int a3x), (4, .int a4x), (5, .int a5x)] := hl
  generalize hQ : MQ _ _ _ _ _ _ _ = Q
  unfold w355_wp at hw
  have hS0 := hS
  obtain ⟨H, hH9⟩ : ∃ z, z = s.heap := ⟨_, rfl⟩
  have hP : va_P (dC, dI) vwCl (([(h_d, .inr (0, [.ref q_y, .int d_fed, .int d_refusedAt, .int d_reason, .int d_stamps, va_rf (Option.map hm d_spare), .ref q_ms, .ref q_e, .ref ho, .ref h_m, .ref h_w, .ref h_t, .ref h_s, .ref h_p])), (q_ms, .inl (c_ms, 26, .inr (.inr (.inr (.inr (px_mo hm d_lm)))))), (q_y, .inl (cc.2.2.2.1, l_y, .inl g_y)), (ho, .inr (1, [.ref q_o, .ref q_t, .int o_reached])), (q_o, .inl (cc.2.1, l_o, .inl g_o)), (q_t, .inl (cc.2.1, 182, .inl g_t))] : va_W) ++ px_cp cc ho cm np ns hm pa sa mm pp ss) H := by rw [hH9]; exact hP
  obtain ⟨locs, hlo9⟩ : ∃ z : List Loc, z = [] := ⟨_, rfl⟩
  have hS : va_S A s.heap H locs := by rw [hH9, hlo9]; exact hS
  suffices hG : W p l e (headSpec px_s355 ({ frames := 3, cells := mc, slots := ms, locals := 68 })).room s m ([.ref h_d, .int a1x, .int a2x, .int a3x, .int a4x, .int a5x]).toArray below meth c H locs 0 0 Q (F0 m 0 ls []) by rw [hH9, hlo9] at hG; exact hG
  refine lv_aload_n hx hb px_d355_0 rfl (lv_at hl 0 rfl) ?_
  refine lv_iload_n hx hb px_d355_1 rfl (lv_at hl 1 rfl) ?_
  refine lv_iload_n hx hb px_d355_2 rfl (lv_at hl 2 rfl) ?_
  refine lv_iload_n hx hb px_d355_3 rfl (lv_at hl 3 rfl) ?_
  refine lv_iload hx hb px_d355_4 (lv_at hl 4 rfl) ?_
  refine lv_iload hx hb px_d355_6 (lv_at hl 5 rfl) ?_
  obtain ⟨m8_15, s8_15, hm8_15, hs8_15, hw⟩ := hw
  have hPc := hP.part (cx := [(h_d, .inr (0, [.ref q_y, .int d_fed, .int d_refusedAt, .int d_reason, .int d_stamps, va_rf (Option.map hm d_spare), .ref q_ms, .ref q_e, .ref ho, .ref h_m, .ref h_w, .ref h_t, .ref h_s, .ref h_p])), (q_ms, .inl (c_ms, 26, .inr (.inr (.inr (.inr (px_mo hm d_lm)))))), (q_y, .inl (cc.2.2.2.1, l_y, .inl g_y)), (ho, .inr (1, [.ref q_o, .ref q_t, .int o_reached])), (q_o, .inl (cc.2.1, l_o, .inl g_o)), (q_t, .inl (cc.2.1, 182, .inl g_t))]) [0, 1, 2, 3, 4, 5] rfl
  have hDc := hD.part (cx := [(h_d, .inr (0, [.ref q_y, .int d_fed, .int d_refusedAt, .int d_reason, .int d_stamps, va_rf (Option.map hm d_spare), .ref q_ms, .ref q_e, .ref ho, .ref h_m, .ref h_w, .ref h_t, .ref h_s, .ref h_p])), (q_ms, .inl (c_ms, 26, .inr (.inr (.inr (.inr (px_mo hm d_lm)))))), (q_y, .inl (cc.2.2.2.1, l_y, .inl g_y)), (ho, .inr (1, [.ref q_o, .ref q_t, .int o_reached])), (q_o, .inl (cc.2.1, l_o, .inl g_o)), (q_t, .inl (cc.2.1, 182, .inl g_t))]) [0, 1, 2, 3, 4, 5] (by decide) rfl
  have hFc := va_freeP (cx := [(h_d, .inr (0, [.ref q_y, .int d_fed, .int d_refusedAt, .int d_reason, .int d_stamps, va_rf (Option.map hm d_spare), .ref q_ms, .ref q_e, .ref ho, .ref h_m, .ref h_w, .ref h_t, .ref h_s, .ref h_p])), (q_ms, .inl (c_ms, 26, .inr (.inr (.inr (.inr (px_mo hm d_lm)))))), (q_y, .inl (cc.2.2.2.1, l_y, .inl g_y)), (ho, .inr (1, [.ref q_o, .ref q_t, .int o_reached])), (q_o, .inl (cc.2.1, l_o, .inl g_o)), (q_t, .inl (cc.2.1, 182, .inl g_t))]) hD hS hA [0, 1, 2, 3, 4, 5] rfl
  have hKc := hK.sub (tys' := [(cc.2.1, .int), (cc.2.2.2.1, .byte), (cc.2.2.2.2, .long), (cc.1, .object "MatroidDesk$Part"), (cc.2.2.1, (.array .int)), (c_ms, .object "MatroidDesk$Matroid")]) [0, 1, 2, 3, 4, 5] rfl
  refine va_callv (va_runV (As := [.int a1x, .int a2x, .int a3x, .int a4x, .int a5x]) (rest := []) ⟨hx, hb, hml, hown, htw⟩ (w356_met l dC dI H.size h_d q_ms q_e h_m h_w h_t h_s h_p ho d_lm q_t cc cm np ns hm pa sa pp ss c_ms m8_15 s8_15 a1x a2x a3x a4x a5x d_fed d_refusedAt d_reason d_stamps d_spare q_y l_y g_y q_o l_o o_reached g_o g_t mm _ hw) (cwV 5 htw (px_gv px_w1725 px_w1727 px_w1728 px_w6 px_g356) rfl rfl rfl (by decide +kernel) ⟨Nat.le_of_ble_eq_true rfl, Nat.le_of_ble_eq_true rfl⟩) ⟨fun a U g mk q => by obtain ⟨q0, q1, qP, qK, qD, qN⟩ := q; exact ⟨q0, q1, qP, va_K.moved (u := U) (U := U.calling g mk a) (Vm.Alike.refl U.vm) qK, qD, qN.same rfl⟩, va_recv hK hP (ci := 0) (q0 := 0) rfl rfl, fun U hU hW => ⟨rfl, by rw [hU], by rw [hU]; exact hPc, va_K.moved hW.alike hKc, hDc.weaken (fun _ _ _ _ => trivial), hN.warm hW⟩⟩ rfl rfl hl.1 rfl (lv_room (Nat.le_of_ble_eq_true rfl)) px_d355_8 ⟨hm8_15, hs8_15⟩) hS (fun q _ h => hFc q h) hFc (fun u t H1 locs ht hvm hw hB hz1 hk1 hS => ?_)
  obtain ⟨v1, v2, v3, v4, v5, v6, v7, v8, v9, v10, v11, v12, v13, v14⟩ := u
  obtain ⟨hP1, hK1, hD1⟩ := hB
  rw [ht] at hP1
  obtain ⟨hP, hD⟩ := va_joinP (wr := []) (rx := [(h_d, .inr (0, [.ref v6, .int v1, .int v2, .int v3, .int v4, va_rf (Option.map hm v5), .ref q_ms, .ref q_e, .ref ho, .ref h_m, .ref h_w, .ref h_t, .ref h_s, .ref h_p])), (q_ms, .inl (c_ms, 26, .inr (.inr (.inr (.inr (px_mo hm d_lm)))))), (v6, .inl (cc.2.2.2.1, v7, .inl v8)), (ho, .inr (1, [.ref v9, .ref q_t, .int v11])), (v9, .inl (cc.2.1, v10, .inl v12)), (q_t, .inl (cc.2.1, 182, .inl v13))]) hP hD [0, 1, 2, 3, 4, 5] [] rfl rfl (by decide) (by decide) hk1 hFc hP1 hD1
  generalize H1 = H at hP hS ⊢
  have hP : va_P (dC, dI) vwCl (([(h_d, .inr (0, [.ref v6, .int v1, .int v2, .int v3, .int v4, va_rf (Option.map hm v5), .ref q_ms, .ref q_e, .ref ho, .ref h_m, .ref h_w, .ref h_t, .ref h_s, .ref h_p])), (q_ms, .inl (c_ms, 26, .inr (.inr (.inr (.inr (px_mo hm d_lm)))))), (v6, .inl (cc.2.2.2.1, v7, .inl v8)), (ho, .inr (1, [.ref v9, .ref q_t, .int v11])), (v9, .inl (cc.2.1, v10, .inl v12)), (q_t, .inl (cc.2.1, 182, .inl v13))] : va_W) ++ px_cp cc ho cm np ns hm pa sa v14 pp ss) H := hP
  have hD : va_D A (([(h_d, .inr (0, [.ref v6, .int v1, .int v2, .int v3, .int v4, va_rf (Option.map hm v5), .ref q_ms, .ref q_e, .ref ho, .ref h_m, .ref h_w, .ref h_t, .ref h_s, .ref h_p])), (q_ms, .inl (c_ms, 26, .inr (.inr (.inr (.inr (px_mo hm d_lm)))))), (v6, .inl (cc.2.2.2.1, v7, .inl v8)), (ho, .inr (1, [.ref v9, .ref q_t, .int v11])), (v9, .inl (cc.2.1, v10, .inl v12)), (q_t, .inl (cc.2.1, 182, .inl v13))] : va_W) ++ px_cp cc ho cm np ns hm pa sa v14 pp ss) := hD
  refine lv_goto (tgt := 18) hx hb px_d355_11 (by decide) ?_
  refine lv_iconst (v := 0) hx hb px_d355_18 (by decide) ?_
  refine W.widen (k := mc) (n := ms) hm8_15 hs8_15 ?_
  rw [← hQ]
  exact W.iret (v := 0) hx hb hr (fun t ht hW => ⟨⟨0, (v1, v2, v3, v4, v5, v6, v7, v8, v9, v10, v11, v12, v13, v14), rfl, hw, by rw [ht]; exact hP, va_K.moved hW.alike hK, hD⟩, hS.F ht⟩) hS.2.2 px_d355_19

/-! MatroidDeskLaw.end(LMatroidDesk;I[J)I  -/
def w359_wp (post : Int32 → Int32 → Int32 → Int32 → Int32 → Option Nat → (Nat → Int64) → Prop) (a1x : Int32) (d_fed : Int32) (d_refusedAt : Int32) (d_reason : Int32) (d_stamps : Int32) (d_spare : Option Nat) (g_ot : Nat → Int64) : Prop := w360_wp (fun r4 v1 v2 v3 v4 v5 => ∀ z6 : Int64, z6 = r4.toInt64 → vp_in 0 1 ∧ (post 0 v1 v2 v3 v4 v5 (vp_updL g_ot (Int32.toNatClampNeg 0) z6))) a1x d_fed d_refusedAt d_reason d_stamps d_spare
set_option maxHeartbeats 8000000 in
set_option maxRecDepth 100000 in
theorem w359_met (l : Launch) (dC : Nat → ClassId) (dI : Nat → Nat → Nat) (sz : Nat) (h_d : Nat) (q_y : Nat) (q_ms : Nat) (q_e : Nat) (h_m : Nat) (h_w : Nat) (h_t : Nat) (h_s : Nat) (h_p : Nat) (ho : Nat) (hm : Nat → Nat) (r_o : Nat) (c_l : ClassId) (a1x : Int32) (d_fed : Int32) (d_refusedAt : Int32) (d_reason : Int32) (d_stamps : Int32) (d_spare : Option Nat) (g_ot : Nat → Int64) (post : Int32 → Int32 → Int32 → Int32 → Int32 → Option Nat → (Nat → Int64) → Prop) (hw : w359_wp post a1x d_fed d_refusedAt d_reason d_stamps d_spare g_ot) : Met l px_y359 px_s359 ({ frames := 1, cells := 0, slots := 0, locals := 22 }) (va_Pc [.ref h_d, .int a1x, .ref r_o] (fun U => U.heap.size = sz ∧ va_P (dC, dI) vwCl [(h_d, .inr (0, [.ref q_y, .int d_fed, .int d_refusedAt, .int d_reason, .int d_stamps, va_rf (Option.map hm d_spare), .ref q_ms, .ref q_e, .ref ho, .ref h_m, .ref h_w, .ref h_t, .ref h_s, .ref h_p])), (r_o, .inl (c_l, 1, .inr (.inl g_ot)))] U.heap ∧ va_K (dC, dI) vwCl [(c_l, .long)] U ∧ va_D (fun _ => True) [(h_d, .inr (0, [.ref q_y, .int d_fed, .int d_refusedAt, .int d_reason, .int d_stamps, va_rf (Option.map hm d_spare), .ref q_ms, .ref q_e, .ref ho, .ref h_m, .ref h_w, .ref h_t, .ref h_s, .ref h_p])), (r_o, .inl (c_l, 1, .inr (.inl g_ot)))] ∧ px_N U)) (va_Qi (fun (r : Int32) (u : Int32 × Int32 × Int32 × Int32 × Option Nat × (Nat → Int64)) => post r u.1 u.2.1 u.2.2.1 u.2.2.2.1 u.2.2.2.2.1 u.2.2.2.2.2) (fun (u : Int32 × Int32 × Int32 × Int32 × Option Nat × (Nat → Int64)) (t : State) => va_P (dC, dI) vwCl [(h_d, .inr (0, [.ref q_y, .int u.1, .int u.2.1, .int u.2.2.1, .int u.2.2.2.1, va_rf (Option.map hm u.2.2.2.2.1), .ref q_ms, .ref q_e, .ref ho, .ref h_m, .ref h_w, .ref h_t, .ref h_s, .ref h_p])), (r_o, .inl (c_l, 1, .inr (.inl u.2.2.2.2.2)))] t.heap ∧ va_K (dC, dI) vwCl [(c_l, .long)] t ∧ va_D (va_A [(h_d, .inr (0, [.ref q_y, .int d_fed, .int d_refusedAt, .int d_reason, .int d_stamps, va_rf (Option.map hm d_spare), .ref q_ms, .ref q_e, .ref ho, .ref h_m, .ref h_w, .ref h_t, .ref h_s, .ref h_p])), (r_o, .inl (c_l, 1, .inr (.inl g_ot)))] sz) [(h_d, .inr (0, [.ref q_y, .int u.1, .int u.2.1, .int u.2.2.1, .int u.2.2.2.1, va_rf (Option.map hm u.2.2.2.2.1), .ref q_ms, .ref q_e, .ref ho, .ref h_m, .ref h_w, .ref h_t, .ref h_s, .ref h_p])), (r_o, .inl (c_l, 1, .inr (.inl u.2.2.2.2.2)))]) (va_A [(h_d, .inr (0, [.ref q_y, .int d_fed, .int d_refusedAt, .int d_reason, .int d_stamps, va_rf (Option.map hm d_spare), .ref q_ms, .ref q_e, .ref ho, .ref h_m, .ref h_w, .ref h_t, .ref h_s, .ref h_p])), (r_o, .inl (c_l, 1, .inr (.inl g_ot)))] sz)) 0 0 (va_A [(h_d, .inr (0, [.ref q_y, .int d_fed, .int d_refusedAt, .int d_reason, .int d_stamps, va_rf (Option.map hm d_spare), .ref q_ms, .ref q_e, .ref ho, .ref h_m, .ref h_w, .ref h_t, .ref h_s, .ref h_p])), (r_o, .inl (c_l, 1, .inr (.inl g_ot)))] sz) := by
  refine px_ofW (cc := method_4_code) (maxL := 4) (ret := (some .int)) (hs := [(0, 9, 12, 19)]) (by decide) rfl ?_
  intro p e s m args below meth c s₁ B hml htab hv
  obtain ⟨rfl, hsz, hP, hK, hD0, hN⟩ := hv
  have hx := B.exec
  have hb := B.bytes
  have hr := B.returns
  have htw : ∀ w ∈ px_all, w.before _ s = true := fun w h => atoms_spec (ws := px_s359) B.pre w (List.mem_cons_of_mem _ h)
  have hown : s.vm.findClass "MatroidDeskLaw" = some m.cls := findClass_of_methodNamed B.named
  have hlocks := B.notSynchronized
  subst hsz
  have hD := hD0.self (sz := s.heap.size)
  generalize hAe : va_A [(h_d, .inr (0, [.ref q_y, .int d_fed, .int d_refusedAt, .int d_reason, .int d_stamps, va_rf (Option.map hm d_spare), .ref q_ms, .ref q_e, .ref ho, .ref h_m, .ref h_w, .ref h_t, .ref h_s, .ref h_p])), (r_o, .inl (c_l, 1, .inr (.inl g_ot)))] s.heap.size = A at hD ⊢
  have hA : ∀ q : Nat, s.heap.size ≤ q → A q := fun q h => by rw [← hAe]; exact Or.inr h
  have hS : va_S A s.heap s.heap [] := va_S.rf
  have hP : va_P (dC, dI) vwCl [(h_d, .inr (0, [.ref q_y, .int d_fed, .int d_refusedAt, .int d_reason, .int d_stamps, va_rf (Option.map hm d_spare), .ref q_ms, .ref q_e, .ref ho, .ref h_m, .ref h_w, .ref h_t, .ref h_s, .ref h_p])), (r_o, .inl (c_l, 1, .inr (.inl g_ot)))] s.heap := hP
  have hl := lv_entry ([.ref h_d, .int a1x, .ref r_o]) (n := 4) (Nat.le_of_ble_eq_true rfl)
  rw [lg_entry_eq]
  generalize (lg_sl ([.ref h_d, .int a1x, .ref r_o]) ++ List.replicate (4 - (lg_sl ([.ref h_d, .int a1x, .ref r_o])).length) Slot.unset).toArray = ls at hl ⊢
  have hl : lv_has ls 4 [(0, .ref h_d), (1, .int a1x), (2, .ref r_o)] := hl
  generalize hQ : MQ _ _ _ _ _ _ _ = Q
  unfold w359_wp at hw
  have hS0 := hS
  obtain ⟨H, hH9⟩ : ∃ z, z = s.heap := ⟨_, rfl⟩
  have hP : va_P (dC, dI) vwCl [(h_d, .inr (0, [.ref q_y, .int d_fed, .int d_refusedAt, .int d_reason, .int d_stamps, va_rf (Option.map hm d_spare), .ref q_ms, .ref q_e, .ref ho, .ref h_m, .ref h_w, .ref h_t, .ref h_s, .ref h_p])), (r_o, .inl (c_l, 1, .inr (.inl g_ot)))] H := by rw [hH9]; exact hP
  obtain ⟨locs, hlo9⟩ : ∃ z : List Loc, z = [] := ⟨_, rfl⟩
  have hS : va_S A s.heap H locs := by rw [hH9, hlo9]; exact hS
  suffices hG : W p l e (headSpec px_s359 ({ frames := 1, cells := 0, slots := 0, locals := 22 })).room s m ([.ref h_d, .int a1x, .ref r_o]).toArray below meth c H locs 0 0 Q (F0 m 0 ls []) by rw [hH9, hlo9] at hG; exact hG
  refine lv_aload_n hx hb px_d359_0 rfl (lv_at hl 2 rfl) ?_
  refine lv_iconst (v := 0) hx hb px_d359_1 (by decide) ?_
  refine lv_aload_n hx hb px_d359_2 rfl (lv_at hl 0 rfl) ?_
  refine lv_iload_n hx hb px_d359_3 rfl (lv_at hl 1 rfl) ?_
  have hPc := hP.sub (ws' := [(h_d, .inr (0, [.ref q_y, .int d_fed, .int d_refusedAt, .int d_reason, .int d_stamps, va_rf (Option.map hm d_spare), .ref q_ms, .ref q_e, .ref ho, .ref h_m, .ref h_w, .ref h_t, .ref h_s, .ref h_p]))]) [0] rfl
  have hDc := hD.sub (ws' := [(h_d, .inr (0, [.ref q_y, .int d_fed, .int d_refusedAt, .int d_reason, .int d_stamps, va_rf (Option.map hm d_spare), .ref q_ms, .ref q_e, .ref ho, .ref h_m, .ref h_w, .ref h_t, .ref h_s, .ref h_p]))]) [0] (by decide) rfl
  have hKc := hK.sub (tys' := []) [] rfl
  have hFc := va_free (wc := [(h_d, .inr (0, [.ref q_y, .int d_fed, .int d_refusedAt, .int d_reason, .int d_stamps, va_rf (Option.map hm d_spare), .ref q_ms, .ref q_e, .ref ho, .ref h_m, .ref h_w, .ref h_t, .ref h_s, .ref h_p]))]) hD hS hA [0] rfl
  refine va_calli (va_runV (As := [.int a1x]) (rest := [.int 0, .ref r_o]) ⟨hx, hb, hml, hown, htw⟩ (w360_met l dC dI H.size h_d q_y q_ms q_e h_m h_w h_t h_s h_p ho hm a1x d_fed d_refusedAt d_reason d_stamps d_spare _ hw) (cwV 1 htw (px_gv px_w1740 px_w1742 px_w1743 px_w6 px_g360) rfl rfl rfl (by decide +kernel) ⟨Nat.le_of_ble_eq_true rfl, Nat.le_of_ble_eq_true rfl⟩) ⟨fun a U g mk q => by obtain ⟨q0, q1, qP, qK, qD, qN⟩ := q; exact ⟨q0, q1, qP, va_K.moved (u := U) (U := U.calling g mk a) (Vm.Alike.refl U.vm) qK, qD, qN.same rfl⟩, va_recv hK hP (ci := 0) (q0 := 0) rfl rfl, fun U hU hW => ⟨rfl, by rw [hU], by rw [hU]; exact hPc, va_K.moved hW.alike hKc, hDc.weaken (fun _ _ _ _ => trivial), hN.warm hW⟩⟩ rfl rfl hl.1 rfl (lv_room (Nat.le_of_ble_eq_true rfl)) px_d359_4 ⟨(Nat.le_of_ble_eq_true rfl), (Nat.le_of_ble_eq_true rfl)⟩) hS (fun q _ h => hFc q h) hFc (fun r4 u t H1 locs ht hvm hw hB hz1 hk1 hS => ?_)
  obtain ⟨v1, v2, v3, v4, v5⟩ := u
  obtain ⟨hP1, hK1, hD1⟩ := hB
  rw [ht] at hP1
  have hK1 := va_K.moved hvm.symm hK1
  obtain ⟨hP, hD⟩ := va_join (wr := [(r_o, .inl (c_l, 1, .inr (.inl g_ot)))]) (w1 := [(h_d, .inr (0, [.ref q_y, .int v1, .int v2, .int v3, .int v4, va_rf (Option.map hm v5), .ref q_ms, .ref q_e, .ref ho, .ref h_m, .ref h_w, .ref h_t, .ref h_s, .ref h_p]))]) hP hD [0] [1] rfl rfl (by decide) (by decide) hk1 hFc hP1 hD1
  generalize H1 = H at hP hS ⊢
  have hP : va_P (dC, dI) vwCl [(r_o, .inl (c_l, 1, .inr (.inl g_ot))), (h_d, .inr (0, [.ref q_y, .int v1, .int v2, .int v3, .int v4, va_rf (Option.map hm v5), .ref q_ms, .ref q_e, .ref ho, .ref h_m, .ref h_w, .ref h_t, .ref h_s, .ref h_p]))] H := hP
  have hD : va_D A [(r_o, .inl (c_l, 1, .inr (.inl g_ot))), (h_d, .inr (0, [.ref q_y, .int v1, .int v2, .int v3, .int v4, va_rf (Option.map hm v5), .ref q_ms, .ref q_e, .ref ho, .ref h_m, .ref h_w, .ref h_t, .ref h_s, .ref h_p]))] := hD
  have hP := hP.sub (ws' := [(h_d, .inr (0, [.ref q_y, .int v1, .int v2, .int v3, .int v4, va_rf (Option.map hm v5), .ref q_ms, .ref q_e, .ref ho, .ref h_m, .ref h_w, .ref h_t, .ref h_s, .ref h_p])), (r_o, .inl (c_l, 1, .inr (.inl g_ot)))]) [1, 0] rfl
  have hD := hD.sub (ws' := [(h_d, .inr (0, [.ref q_y, .int v1, .int v2, .int v3, .int v4, va_rf (Option.map hm v5), .ref q_ms, .ref q_e, .ref ho, .ref h_m, .ref h_w, .ref h_t, .ref h_s, .ref h_p])), (r_o, .inl (c_l, 1, .inr (.inl g_ot)))]) [1, 0] (by decide) rfl
  refine lv_i2l (v := r4.toInt64) hx hb px_d359_7 rfl ?_
  refine lv_topl (fun z6 ez6 => ?_)
  have hw := hw z6 ez6
  obtain ⟨hi8, hw⟩ := hw
  refine va_last hx hb hK hP hD hS 1 0 rfl rfl hi8 px_d359_8 (fun H locs hP hD hS => ?_)
  have hP : va_P (dC, dI) vwCl [(h_d, .inr (0, [.ref q_y, .int v1, .int v2, .int v3, .int v4, va_rf (Option.map hm v5), .ref q_ms, .ref q_e, .ref ho, .ref h_m, .ref h_w, .ref h_t, .ref h_s, .ref h_p])), (r_o, .inl (c_l, 1, .inr (.inl (vp_updL g_ot (Int32.toNatClampNeg 0) z6))))] H := hP
  have hD : va_D A [(h_d, .inr (0, [.ref q_y, .int v1, .int v2, .int v3, .int v4, va_rf (Option.map hm v5), .ref q_ms, .ref q_e, .ref ho, .ref h_m, .ref h_w, .ref h_t, .ref h_s, .ref h_p])), (r_o, .inl (c_l, 1, .inr (.inl (vp_updL g_ot (Int32.toNatClampNeg 0) z6))))] := hD
  refine lv_goto (tgt := 15) hx hb px_d359_9 (by decide) ?_
  refine lv_iconst (v := 0) hx hb px_d359_15 (by decide) ?_
  rw [← hQ]
  exact W.iret (v := 0) hx hb hr (fun t ht hW => ⟨⟨0, (v1, v2, v3, v4, v5, vp_updL g_ot (Int32.toNatClampNeg 0) z6), rfl, hw, by rw [ht]; exact hP, va_K.moved hW.alike hK, hD⟩, hS.F ht⟩) hS.2.2 px_d359_16

theorem px_adm {l : Launch} {e : Env} (h : l.admits e) : e.platform.stackTraces = l.stackTraces := by
  have h1 := h.2.2.2.2.1
  rw [h1]

set_option maxHeartbeats 4000000 in
set_option maxRecDepth 100000 in
theorem px_D_endT (l : Launch) (htr : l.stackTraces = false) (dC : Nat → ClassId) (dI : Nat → Nat → Nat) (sz : Nat) (h_d : Nat) (q_y : Nat) (q_ms : Nat) (q_e : Nat) (h_m : Nat) (h_w : Nat) (h_t : Nat) (h_s : Nat) (h_p : Nat) (ho : Nat) (hm : Nat → Nat) (d_fed : Int32) (d_refusedAt : Int32) (d_reason : Int32) (d_stamps : Int32) (d_spare : Option Nat) (tq : Nat) (x1 : Int32) (hx0 : x1 < 0 ∨ d_fed < x1) : px_MT l px_y360 px_s360 ({ frames := 6, cells := 1, slots := 6, locals := 100 }) (va_Pc [.ref h_d, .int x1] (fun U => U.heap.size = sz ∧ va_P (dC, dI) vwCl [(h_d, .inr (0, [.ref q_y, .int d_fed, .int d_refusedAt, .int d_reason, .int d_stamps, va_rf (Option.map hm d_spare), .ref q_ms, .ref q_e, .ref ho, .ref h_m, .ref h_w, .ref h_t, .ref h_s, .ref h_p]))] U.heap ∧ va_K (dC, dI) vwCl [] U ∧ va_D (fun _ => True) [(h_d, .inr (0, [.ref q_y, .int d_fed, .int d_refusedAt, .int d_reason, .int d_stamps, va_rf (Option.map hm d_spare), .ref q_ms, .ref q_e, .ref ho, .ref h_m, .ref h_w, .ref h_t, .ref h_s, .ref h_p]))] ∧ px_N U ∧ px_X U ∧ px_H U ∧ vk_R "MatroidDesk" 105 "not so many bytes came in" tq U)) (px_QT "java/lang/IllegalArgumentException") 1 6 (fun _ => False) := by
  refine px_MTof (cc := prog_1_method_3_code) (maxL := 3) (ret := (some .int)) (by decide) rfl ?_
  intro p e s m args below meth c s₁ B hml hv
  obtain ⟨rfl, hsz, hP, hK, hD0, hN, hX, hH, hZ⟩ := hv
  have hx := B.exec
  have hb := B.bytes
  have hr := B.returns
  have hlocks := B.notSynchronized
  have htw : ∀ w ∈ px_all, w.before _ s = true := fun w h => atoms_spec (ws := px_s360) B.pre w (List.mem_cons_of_mem _ h)
  have hown : s.vm.findClass "MatroidDesk" = some m.cls := findClass_of_methodNamed B.named
  have htab : c.exceptionTable.isEmpty = true := B.noHandlers (atoms_spec (ws := px_s360) B.pre _ List.mem_cons_self)
  have htr9 : e.platform.stackTraces = false := by rw [px_adm (Stand.of_body B).admits]; exact htr
  have hP : va_P (dC, dI) vwCl [(h_d, .inr (0, [.ref q_y, .int d_fed, .int d_refusedAt, .int d_reason, .int d_stamps, va_rf (Option.map hm d_spare), .ref q_ms, .ref q_e, .ref ho, .ref h_m, .ref h_w, .ref h_t, .ref h_s, .ref h_p]))] s.heap := hP
  have hl := lv_entry ([.ref h_d, .int x1]) (n := 3) (Nat.le_of_ble_eq_true rfl)
  rw [lg_entry_eq]
  generalize (lg_sl ([.ref h_d, .int x1]) ++ List.replicate (3 - (lg_sl ([.ref h_d, .int x1])).length) Slot.unset).toArray = ls at hl ⊢
  have hl : lv_has ls 3 [(0, .ref h_d), (1, .int x1)] := hl
  refine lv_iload_n hx hb px_d360_0 rfl (lv_at hl 1 rfl) ?_
  refine lv_if_lt (tgt := 12) hx hb px_d360_1 (by decide) (fun c_1 => ?_) (fun c_1 => ?_)
  · exact px_throw hx hb hml htr9 hlocks htab hown (htw _ px_w1744) (htw _ px_w1792) (htw _ px_w1755) hX hH hZ hl.1 px_d360_12 px_d360_15 px_d360_16 px_d360_18 px_d360_21 (Nat.le_of_ble_eq_true rfl) (Nat.le_of_ble_eq_true rfl) (Nat.le_of_ble_eq_true rfl) (Nat.le_of_ble_eq_true rfl)
  · refine lv_iload_n hx hb px_d360_4 rfl (lv_at hl 1 rfl) ?_
    refine lv_aload_n hx hb px_d360_5 rfl (lv_at hl 0 rfl) ?_
    refine va_get (D := (dC, dI)) (ci := 0) (v := .int d_fed) (C := "MatroidDesk") (T := px_T0) (N := 14) hx hb htw px_in0 hown hK hP 0 rfl rfl 1 (by decide) (htw _ px_w238) (fun _ h9 => h9) rfl px_d360_6 ?_
    refine lv_icmp_le (tgt := 22) hx hb px_d360_9 (by decide) (fun h9 => absurd h9 (Int32.not_le.mpr (hx0.resolve_left c_1))) (fun _ => ?_)
    exact px_throw hx hb hml htr9 hlocks htab hown (htw _ px_w1744) (htw _ px_w1792) (htw _ px_w1755) hX hH hZ hl.1 px_d360_12 px_d360_15 px_d360_16 px_d360_18 px_d360_21 (Nat.le_of_ble_eq_true rfl) (Nat.le_of_ble_eq_true rfl) (Nat.le_of_ble_eq_true rfl) (Nat.le_of_ble_eq_true rfl)
set_option maxHeartbeats 4000000 in
set_option maxRecDepth 100000 in
theorem px_L_endT (l : Launch) (htr : l.stackTraces = false) (dC : Nat → ClassId) (dI : Nat → Nat → Nat) (sz : Nat) (h_d : Nat) (q_y : Nat) (q_ms : Nat) (q_e : Nat) (h_m : Nat) (h_w : Nat) (h_t : Nat) (h_s : Nat) (h_p : Nat) (ho : Nat) (hm : Nat → Nat) (d_fed : Int32) (d_refusedAt : Int32) (d_reason : Int32) (d_stamps : Int32) (d_spare : Option Nat) (tq : Nat) (ot : Nat) (x1 : Int32) (hx0 : x1 < 0 ∨ d_fed < x1) : Met l px_y359 px_s359 ({ frames := 7, cells := 1, slots := 6, locals := 200 }) (va_Pc [.ref h_d, .int x1, .ref ot] (fun U => U.heap.size = sz ∧ va_P (dC, dI) vwCl [(h_d, .inr (0, [.ref q_y, .int d_fed, .int d_refusedAt, .int d_reason, .int d_stamps, va_rf (Option.map hm d_spare), .ref q_ms, .ref q_e, .ref ho, .ref h_m, .ref h_w, .ref h_t, .ref h_s, .ref h_p]))] U.heap ∧ va_K (dC, dI) vwCl [] U ∧ va_D (fun _ => True) [(h_d, .inr (0, [.ref q_y, .int d_fed, .int d_refusedAt, .int d_reason, .int d_stamps, va_rf (Option.map hm d_spare), .ref q_ms, .ref q_e, .ref ho, .ref h_m, .ref h_w, .ref h_t, .ref h_s, .ref h_p]))] ∧ px_N U ∧ px_X U ∧ px_H U ∧ vk_R "MatroidDesk" 105 "not so many bytes came in" tq U)) (va_Qi (fun (r : Int32) (_ : Unit) => r = 1) (fun (_ : Unit) (t : State) => va_P (dC, dI) vwCl [(h_d, .inr (0, [.ref q_y, .int d_fed, .int d_refusedAt, .int d_reason, .int d_stamps, va_rf (Option.map hm d_spare), .ref q_ms, .ref q_e, .ref ho, .ref h_m, .ref h_w, .ref h_t, .ref h_s, .ref h_p]))] t.heap ∧ va_K (dC, dI) vwCl [] t ∧ va_D (va_A [(h_d, .inr (0, [.ref q_y, .int d_fed, .int d_refusedAt, .int d_reason, .int d_stamps, va_rf (Option.map hm d_spare), .ref q_ms, .ref q_e, .ref ho, .ref h_m, .ref h_w, .ref h_t, .ref h_s, .ref h_p]))] sz) [(h_d, .inr (0, [.ref q_y, .int d_fed, .int d_refusedAt, .int d_reason, .int d_stamps, va_rf (Option.map hm d_spare), .ref q_ms, .ref q_e, .ref ho, .ref h_m, .ref h_w, .ref h_t, .ref h_s, .ref h_p]))]) (va_A [(h_d, .inr (0, [.ref q_y, .int d_fed, .int d_refusedAt, .int d_reason, .int d_stamps, va_rf (Option.map hm d_spare), .ref q_ms, .ref q_e, .ref ho, .ref h_m, .ref h_w, .ref h_t, .ref h_s, .ref h_p]))] sz)) 1 6 (va_A [(h_d, .inr (0, [.ref q_y, .int d_fed, .int d_refusedAt, .int d_reason, .int d_stamps, va_rf (Option.map hm d_spare), .ref q_ms, .ref q_e, .ref ho, .ref h_m, .ref h_w, .ref h_t, .ref h_s, .ref h_p]))] sz) := by
  refine px_ofW (cc := method_4_code) (maxL := 4) (ret := (some .int)) (hs := [(0, 9, 12, 19)]) (by decide) rfl ?_
  intro p e s m args below meth c s₁ B hml htab hv
  obtain ⟨rfl, hsz, hP, hK, hD0, hN, hX, hH, hZ⟩ := hv
  have hx := B.exec
  have hb := B.bytes
  have hr := B.returns
  have hlocks := B.notSynchronized
  have htw : ∀ w ∈ px_all, w.before _ s = true := fun w h => atoms_spec (ws := px_s359) B.pre w (List.mem_cons_of_mem _ h)
  have hown : s.vm.findClass "MatroidDeskLaw" = some m.cls := findClass_of_methodNamed B.named
  subst hsz
  have hP : va_P (dC, dI) vwCl [(h_d, .inr (0, [.ref q_y, .int d_fed, .int d_refusedAt, .int d_reason, .int d_stamps, va_rf (Option.map hm d_spare), .ref q_ms, .ref q_e, .ref ho, .ref h_m, .ref h_w, .ref h_t, .ref h_s, .ref h_p]))] s.heap := hP
  have hl := lv_entry ([.ref h_d, .int x1, .ref ot]) (n := 4) (Nat.le_of_ble_eq_true rfl)
  rw [lg_entry_eq]
  generalize (lg_sl ([.ref h_d, .int x1, .ref ot]) ++ List.replicate (4 - (lg_sl ([.ref h_d, .int x1, .ref ot])).length) Slot.unset).toArray = ls at hl ⊢
  have hl : lv_has ls 4 [(0, .ref h_d), (1, .int x1), (2, .ref ot)] := hl
  refine lv_aload_n hx hb px_d359_0 rfl (lv_at hl 2 rfl) ?_
  refine lv_iconst (v := 0) hx hb px_d359_1 (by decide) ?_
  refine lv_aload_n hx hb px_d359_2 rfl (lv_at hl 0 rfl) ?_
  refine lv_iload_n hx hb px_d359_3 rfl (lv_at hl 1 rfl) ?_
  refine px_runT (As := [.int x1]) (rest := [.int 0, .ref ot]) (Qc := px_QT "java/lang/IllegalArgumentException") (x0 := ⟨0, 9, 12, 19⟩) (name := "java/lang/IllegalArgumentException") ⟨hx, hb, hml, hown, htw⟩ (px_D_endT l htr dC dI s.heap.size h_d q_y q_ms q_e h_m h_w h_t h_s h_p ho hm d_fed d_refusedAt d_reason d_stamps d_spare tq x1 hx0) (cwV 1 htw (px_gv px_w1740 px_w1742 px_w1743 px_w6 px_g360) rfl rfl rfl (by decide +kernel) ⟨Nat.le_of_ble_eq_true rfl, Nat.le_of_ble_eq_true rfl⟩) ⟨fun a U g mk q => by obtain ⟨q0, q1, qP, qK, qD, qN, qX, qH, qZ⟩ := q; exact ⟨q0, q1, qP, va_K.moved (u := U) (U := U.calling g mk a) (Vm.Alike.refl U.vm) qK, qD, qN.same rfl, qX.same rfl, qH.go (Vm.Alike.refl U.vm) (fun _ _ => rfl), vk_R.same rfl qZ⟩, va_recv hK hP (ci := 0) (q0 := 0) rfl rfl, fun U hU hW => ⟨rfl, by rw [hU], by rw [hU]; exact hP, va_K.moved hW.alike hK, hD0, hN.warm hW, hX.warm hW, hH.go hW.alike (fun q _ => by rw [hU]), vk_R.warm hW hZ⟩⟩ rfl hl.1 (Nat.le_of_ble_eq_true rfl) px_d359_4 ⟨Nat.le_of_ble_eq_true rfl, Nat.le_of_ble_eq_true rfl⟩ htab (by decide) (by decide) (htw _ px_w1889) (fun _ _ _ _ h => h.1) (fun y1 st t L hst hal hq hL => ?_)
  refine W.eq (g2 := F0 m 12 ls [.ref y1]) rfl ?_
  refine lv_astore_n (lv' := [(3, .ref y1), (0, .ref h_d), (1, .int x1), (2, .ref ot)]) hx hb px_d359_12 rfl hl (by decide) rfl (fun ls hl => ?_)
  refine lv_iconst (v := 1) hx hb px_d359_13 (by decide) ?_
  refine W.widen (k := 1) (n := 6) (Nat.le_of_ble_eq_true rfl) (Nat.le_of_ble_eq_true rfl) ?_
  have hF9 : ∀ t2 : State, t2.heap = t.heap → va_F (va_A [(h_d, .inr (0, [.ref q_y, .int d_fed, .int d_refusedAt, .int d_reason, .int d_stamps, va_rf (Option.map hm d_spare), .ref q_ms, .ref q_e, .ref ho, .ref h_m, .ref h_w, .ref h_t, .ref h_s, .ref h_p]))] s.heap.size) s t2 := fun t2 h2 => ⟨by rw [h2, ← hst]; exact hq.2.1, fun q h3 _ => by rw [h2, hq.2.2 q (by rw [hst]; exact h3), hst]⟩
  have hP9 : va_P (dC, dI) vwCl [(h_d, .inr (0, [.ref q_y, .int d_fed, .int d_refusedAt, .int d_reason, .int d_stamps, va_rf (Option.map hm d_spare), .ref q_ms, .ref q_e, .ref ho, .ref h_m, .ref h_w, .ref h_t, .ref h_s, .ref h_p]))] t.heap := hP.kept (fun k x hx9 => by rw [hq.2.2 x.1 (by rw [hst]; exact (hP k x hx9).lt), hst])
  exact W.iret (v := 1) hx hb hr (fun t2 ht hW => ⟨⟨1, (), rfl, rfl, by rw [ht]; exact hP9, va_K.moved hW.alike hK, hD0.self (sz := s.heap.size)⟩, hF9 t2 ht⟩) (fun q hq2 => (hL q (by simpa using hq2)).elim) px_d359_14

set_option maxHeartbeats 4000000 in
set_option maxRecDepth 100000 in
theorem px_D_feedT (l : Launch) (htr : l.stackTraces = false) (dC : Nat → ClassId) (dI : Nat → Nat → Nat) (sz : Nat) (h_d : Nat) (q_y : Nat) (q_ms : Nat) (q_e : Nat) (h_m : Nat) (h_w : Nat) (h_t : Nat) (h_s : Nat) (h_p : Nat) (ho : Nat) (hm : Nat → Nat) (d_fed : Int32) (d_refusedAt : Int32) (d_reason : Int32) (d_stamps : Int32) (d_spare : Option Nat) (tq : Nat) (x1 : Int32) (x2 : Int32) (x3 : Int32) (x4 : Int32) (x5 : Int32) (hx0 : (16384 : Int32) < d_fed + 20) : px_MT l px_y356 px_s356 ({ frames := 6, cells := 1, slots := 6, locals := 100 }) (va_Pc [.ref h_d, .int x1, .int x2, .int x3, .int x4, .int x5] (fun U => U.heap.size = sz ∧ va_P (dC, dI) vwCl [(h_d, .inr (0, [.ref q_y, .int d_fed, .int d_refusedAt, .int d_reason, .int d_stamps, va_rf (Option.map hm d_spare), .ref q_ms, .ref q_e, .ref ho, .ref h_m, .ref h_w, .ref h_t, .ref h_s, .ref h_p]))] U.heap ∧ va_K (dC, dI) vwCl [] U ∧ va_D (fun _ => True) [(h_d, .inr (0, [.ref q_y, .int d_fed, .int d_refusedAt, .int d_reason, .int d_stamps, va_rf (Option.map hm d_spare), .ref q_ms, .ref q_e, .ref ho, .ref h_m, .ref h_w, .ref h_t, .ref h_s, .ref h_p]))] ∧ px_N U ∧ px_XS U ∧ px_HS U ∧ vk_R "MatroidDesk" 88 "more than 16384 bytes" tq U)) (px_QT "java/lang/IllegalStateException") 1 6 (fun _ => False) := by
  refine px_MTof (cc := prog_1_method_2_code) (maxL := 6) (ret := none) (by decide) rfl ?_
  intro p e s m args below meth c s₁ B hml hv
  obtain ⟨rfl, hsz, hP, hK, hD0, hN, hX, hH, hZ⟩ := hv
  have hx := B.exec
  have hb := B.bytes
  have hr := B.returns
  have hlocks := B.notSynchronized
  have htw : ∀ w ∈ px_all, w.before _ s = true := fun w h => atoms_spec (ws := px_s356) B.pre w (List.mem_cons_of_mem _ h)
  have hown : s.vm.findClass "MatroidDesk" = some m.cls := findClass_of_methodNamed B.named
  have htab : c.exceptionTable.isEmpty = true := B.noHandlers (atoms_spec (ws := px_s356) B.pre _ List.mem_cons_self)
  have htr9 : e.platform.stackTraces = false := by rw [px_adm (Stand.of_body B).admits]; exact htr
  have hP : va_P (dC, dI) vwCl [(h_d, .inr (0, [.ref q_y, .int d_fed, .int d_refusedAt, .int d_reason, .int d_stamps, va_rf (Option.map hm d_spare), .ref q_ms, .ref q_e, .ref ho, .ref h_m, .ref h_w, .ref h_t, .ref h_s, .ref h_p]))] s.heap := hP
  have hl := lv_entry ([.ref h_d, .int x1, .int x2, .int x3, .int x4, .int x5]) (n := 6) (Nat.le_of_ble_eq_true rfl)
  rw [lg_entry_eq]
  generalize (lg_sl ([.ref h_d, .int x1, .int x2, .int x3, .int x4, .int x5]) ++ List.replicate (6 - (lg_sl ([.ref h_d, .int x1, .int x2, .int x3, .int x4, .int x5])).length) Slot.unset).toArray = ls at hl ⊢
  have hl : lv_has ls 6 [(0, .ref h_d), (1, .int x1), (2, .int x2), (3, .int x3), (4, .int x4), (5, .int x5)] := hl
  refine lv_aload_n hx hb px_d356_0 rfl (lv_at hl 0 rfl) ?_
  refine va_get (D := (dC, dI)) (ci := 0) (v := .int d_fed) (C := "MatroidDesk") (T := px_T0) (N := 14) hx hb htw px_in0 hown hK hP 0 rfl rfl 1 (by decide) (htw _ px_w238) (fun _ h9 => h9) rfl px_d356_1 ?_
  refine lv_bipush (v := 20) hx hb px_d356_4 (by decide) ?_
  refine lv_iadd hx hb px_d356_6 ?_
  refine lv_sipush (v := 16384) hx hb px_d356_7 (by decide) ?_
  refine lv_icmp_le (tgt := 23) hx hb px_d356_10 (by decide) (fun h9 => absurd h9 (Int32.not_le.mpr hx0)) (fun _ => ?_)
  exact px_throwS hx hb hml htr9 hlocks htab hown (htw _ px_w1729) (htw _ px_w1879) (htw _ px_w1751) hX hH hZ hl.1 px_d356_13 px_d356_16 px_d356_17 px_d356_19 px_d356_22 (Nat.le_of_ble_eq_true rfl) (Nat.le_of_ble_eq_true rfl) (Nat.le_of_ble_eq_true rfl) (Nat.le_of_ble_eq_true rfl)
set_option maxHeartbeats 4000000 in
set_option maxRecDepth 100000 in
theorem px_L_feedT (l : Launch) (htr : l.stackTraces = false) (dC : Nat → ClassId) (dI : Nat → Nat → Nat) (sz : Nat) (h_d : Nat) (q_y : Nat) (q_ms : Nat) (q_e : Nat) (h_m : Nat) (h_w : Nat) (h_t : Nat) (h_s : Nat) (h_p : Nat) (ho : Nat) (hm : Nat → Nat) (d_fed : Int32) (d_refusedAt : Int32) (d_reason : Int32) (d_stamps : Int32) (d_spare : Option Nat) (tq : Nat) (x1 : Int32) (x2 : Int32) (x3 : Int32) (x4 : Int32) (x5 : Int32) (hx0 : (16384 : Int32) < d_fed + 20) : Met l px_y355 px_s355 ({ frames := 7, cells := 1, slots := 6, locals := 200 }) (va_Pc [.ref h_d, .int x1, .int x2, .int x3, .int x4, .int x5] (fun U => U.heap.size = sz ∧ va_P (dC, dI) vwCl [(h_d, .inr (0, [.ref q_y, .int d_fed, .int d_refusedAt, .int d_reason, .int d_stamps, va_rf (Option.map hm d_spare), .ref q_ms, .ref q_e, .ref ho, .ref h_m, .ref h_w, .ref h_t, .ref h_s, .ref h_p]))] U.heap ∧ va_K (dC, dI) vwCl [] U ∧ va_D (fun _ => True) [(h_d, .inr (0, [.ref q_y, .int d_fed, .int d_refusedAt, .int d_reason, .int d_stamps, va_rf (Option.map hm d_spare), .ref q_ms, .ref q_e, .ref ho, .ref h_m, .ref h_w, .ref h_t, .ref h_s, .ref h_p]))] ∧ px_N U ∧ px_XS U ∧ px_HS U ∧ vk_R "MatroidDesk" 88 "more than 16384 bytes" tq U)) (va_Qi (fun (r : Int32) (_ : Unit) => r = 1) (fun (_ : Unit) (t : State) => va_P (dC, dI) vwCl [(h_d, .inr (0, [.ref q_y, .int d_fed, .int d_refusedAt, .int d_reason, .int d_stamps, va_rf (Option.map hm d_spare), .ref q_ms, .ref q_e, .ref ho, .ref h_m, .ref h_w, .ref h_t, .ref h_s, .ref h_p]))] t.heap ∧ va_K (dC, dI) vwCl [] t ∧ va_D (va_A [(h_d, .inr (0, [.ref q_y, .int d_fed, .int d_refusedAt, .int d_reason, .int d_stamps, va_rf (Option.map hm d_spare), .ref q_ms, .ref q_e, .ref ho, .ref h_m, .ref h_w, .ref h_t, .ref h_s, .ref h_p]))] sz) [(h_d, .inr (0, [.ref q_y, .int d_fed, .int d_refusedAt, .int d_reason, .int d_stamps, va_rf (Option.map hm d_spare), .ref q_ms, .ref q_e, .ref ho, .ref h_m, .ref h_w, .ref h_t, .ref h_s, .ref h_p]))]) (va_A [(h_d, .inr (0, [.ref q_y, .int d_fed, .int d_refusedAt, .int d_reason, .int d_stamps, va_rf (Option.map hm d_spare), .ref q_ms, .ref q_e, .ref ho, .ref h_m, .ref h_w, .ref h_t, .ref h_s, .ref h_p]))] sz)) 1 6 (va_A [(h_d, .inr (0, [.ref q_y, .int d_fed, .int d_refusedAt, .int d_reason, .int d_stamps, va_rf (Option.map hm d_spare), .ref q_ms, .ref q_e, .ref ho, .ref h_m, .ref h_w, .ref h_t, .ref h_s, .ref h_p]))] sz) := by
  refine px_ofW (cc := method_3_code) (maxL := 7) (ret := (some .int)) (hs := [(0, 11, 14, 13)]) (by decide) rfl ?_
  intro p e s m args below meth c s₁ B hml htab hv
  obtain ⟨rfl, hsz, hP, hK, hD0, hN, hX, hH, hZ⟩ := hv
  have hx := B.exec
  have hb := B.bytes
  have hr := B.returns
  have hlocks := B.notSynchronized
  have htw : ∀ w ∈ px_all, w.before _ s = true := fun w h => atoms_spec (ws := px_s355) B.pre w (List.mem_cons_of_mem _ h)
  have hown : s.vm.findClass "MatroidDeskLaw" = some m.cls := findClass_of_methodNamed B.named
  subst hsz
  have hP : va_P (dC, dI) vwCl [(h_d, .inr (0, [.ref q_y, .int d_fed, .int d_refusedAt, .int d_reason, .int d_stamps, va_rf (Option.map hm d_spare), .ref q_ms, .ref q_e, .ref ho, .ref h_m, .ref h_w, .ref h_t, .ref h_s, .ref h_p]))] s.heap := hP
  have hl := lv_entry ([.ref h_d, .int x1, .int x2, .int x3, .int x4, .int x5]) (n := 7) (Nat.le_of_ble_eq_true rfl)
  rw [lg_entry_eq]
  generalize (lg_sl ([.ref h_d, .int x1, .int x2, .int x3, .int x4, .int x5]) ++ List.replicate (7 - (lg_sl ([.ref h_d, .int x1, .int x2, .int x3, .int x4, .int x5])).length) Slot.unset).toArray = ls at hl ⊢
  have hl : lv_has ls 7 [(0, .ref h_d), (1, .int x1), (2, .int x2), (3, .int x3), (4, .int x4), (5, .int x5)] := hl
  refine lv_aload_n hx hb px_d355_0 rfl (lv_at hl 0 rfl) ?_
  refine lv_iload_n hx hb px_d355_1 rfl (lv_at hl 1 rfl) ?_
  refine lv_iload_n hx hb px_d355_2 rfl (lv_at hl 2 rfl) ?_
  refine lv_iload_n hx hb px_d355_3 rfl (lv_at hl 3 rfl) ?_
  refine lv_iload hx hb px_d355_4 (lv_at hl 4 rfl) ?_
  refine lv_iload hx hb px_d355_6 (lv_at hl 5 rfl) ?_
  refine px_runT (As := [.int x1, .int x2, .int x3, .int x4, .int x5]) (rest := []) (Qc := px_QT "java/lang/IllegalStateException") (x0 := ⟨0, 11, 14, 13⟩) (name := "java/lang/IllegalStateException") ⟨hx, hb, hml, hown, htw⟩ (px_D_feedT l htr dC dI s.heap.size h_d q_y q_ms q_e h_m h_w h_t h_s h_p ho hm d_fed d_refusedAt d_reason d_stamps d_spare tq x1 x2 x3 x4 x5 hx0) (cwV 5 htw (px_gv px_w1725 px_w1727 px_w1728 px_w6 px_g356) rfl rfl rfl (by decide +kernel) ⟨Nat.le_of_ble_eq_true rfl, Nat.le_of_ble_eq_true rfl⟩) ⟨fun a U g mk q => by obtain ⟨q0, q1, qP, qK, qD, qN, qX, qH, qZ⟩ := q; exact ⟨q0, q1, qP, va_K.moved (u := U) (U := U.calling g mk a) (Vm.Alike.refl U.vm) qK, qD, qN.same rfl, qX.same rfl, qH.go (Vm.Alike.refl U.vm) (fun _ _ => rfl), vk_R.same rfl qZ⟩, va_recv hK hP (ci := 0) (q0 := 0) rfl rfl, fun U hU hW => ⟨rfl, by rw [hU], by rw [hU]; exact hP, va_K.moved hW.alike hK, hD0, hN.warm hW, hX.warm hW, hH.go hW.alike (fun q _ => by rw [hU]), vk_R.warm hW hZ⟩⟩ rfl hl.1 (Nat.le_of_ble_eq_true rfl) px_d355_8 ⟨Nat.le_of_ble_eq_true rfl, Nat.le_of_ble_eq_true rfl⟩ htab (by decide) (by decide) (htw _ px_w1878) (fun _ _ _ _ h => h.1) (fun y1 st t L hst hal hq hL => ?_)
  refine W.eq (g2 := F0 m 14 ls [.ref y1]) rfl ?_
  refine lv_astore (lv' := [(6, .ref y1), (0, .ref h_d), (1, .int x1), (2, .int x2), (3, .int x3), (4, .int x4), (5, .int x5)]) hx hb px_d355_14 hl (by decide) rfl (fun ls hl => ?_)
  refine lv_iconst (v := 1) hx hb px_d355_16 (by decide) ?_
  refine W.widen (k := 1) (n := 6) (Nat.le_of_ble_eq_true rfl) (Nat.le_of_ble_eq_true rfl) ?_
  have hF9 : ∀ t2 : State, t2.heap = t.heap → va_F (va_A [(h_d, .inr (0, [.ref q_y, .int d_fed, .int d_refusedAt, .int d_reason, .int d_stamps, va_rf (Option.map hm d_spare), .ref q_ms, .ref q_e, .ref ho, .ref h_m, .ref h_w, .ref h_t, .ref h_s, .ref h_p]))] s.heap.size) s t2 := fun t2 h2 => ⟨by rw [h2, ← hst]; exact hq.2.1, fun q h3 _ => by rw [h2, hq.2.2 q (by rw [hst]; exact h3), hst]⟩
  have hP9 : va_P (dC, dI) vwCl [(h_d, .inr (0, [.ref q_y, .int d_fed, .int d_refusedAt, .int d_reason, .int d_stamps, va_rf (Option.map hm d_spare), .ref q_ms, .ref q_e, .ref ho, .ref h_m, .ref h_w, .ref h_t, .ref h_s, .ref h_p]))] t.heap := hP.kept (fun k x hx9 => by rw [hq.2.2 x.1 (by rw [hst]; exact (hP k x hx9).lt), hst])
  exact W.iret (v := 1) hx hb hr (fun t2 ht hW => ⟨⟨1, (), rfl, rfl, by rw [ht]; exact hP9, va_K.moved hW.alike hK, hD0.self (sz := s.heap.size)⟩, hF9 t2 ht⟩) (fun q hq2 => (hL q (by simpa using hq2)).elim) px_d355_17

