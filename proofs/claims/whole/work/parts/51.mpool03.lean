/-! MatroidDeskModel.settle(I)V -/
def w56_L121 (post : (Nat → Int32) → (Nat → Int32) → (Nat → Int32) → (Nat → px_NV) → Prop) (x1 : Int32) (iv : Nat → Int32) (g_small : Nat → Int32) (g_pivots : Nat → Int32) (nv : Nat → px_NV) : Prop := post iv g_small g_pivots nv
def w56_L98 (post : (Nat → Int32) → (Nat → Int32) → (Nat → Int32) → (Nat → px_NV) → Prop) : Nat → Int32 → Int32 → (Nat → Int32) → (Nat → Int32) → (Nat → Int32) → (Nat → px_NV) → Prop
  | 0 => fun _ _ _ _ _ _ => False
  | k + 1 => fun x1 x2 iv g_small g_pivots nv => ((iv 11) ≤ x2 → w56_L121 post x1 iv g_small g_pivots nv) ∧ (¬ (iv 11) ≤ x2 → (w47_wp (fun k109_2 v1 => px_ix [k109_2] ∧ (nu_wp (fun v3 v4 v5 => ∀ nv7 : Nat → px_NV, nv7 = px_fold nv [(k109_2, ⟨v3, v4, v5⟩)] → (∀ z8 : Int32, z8 = x2 + 1 → (w56_L98 post k) x1 z8 v1 g_small g_pivots nv7)) ((nv k109_2).1) ((nv k109_2).2.1) ((nv k109_2).2.2))) x1 x2 iv))
def w56_L30 (post : (Nat → Int32) → (Nat → Int32) → (Nat → Int32) → (Nat → px_NV) → Prop) : Nat → Int32 → Int32 → Int32 → (Nat → Int32) → (Nat → Int32) → (Nat → Int32) → (Nat → px_NV) → Prop
  | 0 => fun _ _ _ _ _ _ _ => False
  | k + 1 => fun x1 x2 x3 iv g_small g_pivots nv => ((iv 11) ≤ x3 → post iv g_small g_pivots nv) ∧ (¬ (iv 11) ≤ x3 → vp_in ((12 * x1) + x3) 156 ∧ (¬ (iv 12) = 0 ∧ (∀ z9 : Int32, z9 = ((g_small (Int32.toNatClampNeg ((12 * x1) + x3))) * x2) - ((g_small (Int32.toNatClampNeg ((12 * x1) + x3))) * x2) / (iv 12) * (iv 12) → vp_in ((12 * x1) + x3) 156 ∧ (∀ z10 : Int32, z10 = x3 + 1 → (w56_L30 post k) x1 x2 z10 iv (upd g_small (Int32.toNatClampNeg ((12 * x1) + x3)) z9) g_pivots nv))))
def w56_wp (post : (Nat → Int32) → (Nat → Int32) → (Nat → Int32) → (Nat → px_NV) → Prop) (a1x : Int32) (iv : Nat → Int32) (g_small : Nat → Int32) (g_pivots : Nat → Int32) (nv : Nat → px_NV) : Prop := ((iv 12) ≤ 0 → (w54_wp (fun v11 v12 => vp_in a1x 13 ∧ ((w47_wp (fun k87_15 v14 => k87_15 < 200 ∧ ((((v12 k87_15).2.1) = 0 → w56_L121 post a1x v14 g_small g_pivots v12) ∧ (¬ ((v12 k87_15).2.1) = 0 → ∃ j98, w56_L98 post j98 a1x 0 v14 g_small g_pivots v12))) a1x (g_pivots (Int32.toNatClampNeg a1x)) v11))) a1x iv nv)) ∧ (¬ (iv 12) ≤ 0 → vp_in a1x 13 ∧ (vp_in ((12 * a1x) + (g_pivots (Int32.toNatClampNeg a1x))) 156 ∧ ((w52_wp (fun r24 v16 => ∃ j30, w56_L30 post j30 a1x r24 0 v16 g_small g_pivots nv) (g_small (Int32.toNatClampNeg ((12 * a1x) + (g_pivots (Int32.toNatClampNeg a1x))))) iv))))
set_option maxHeartbeats 8000000 in
set_option maxRecDepth 100000 in
theorem w56_met (l : Launch) (dC : Nat → ClassId) (dI : Nat → Nat → Nat) (sz : Nat) (h0 : Nat) (rf : Nat → Nat) (hh : Nat → Nat) (qq : Nat → Nat) (cN : ClassId) (c_work : ClassId) (c_small : ClassId) (c_pivots : ClassId) (a1x : Int32) (iv : Nat → Int32) (g_small : Nat → Int32) (g_pivots : Nat → Int32) (nv : Nat → px_NV) (post : (Nat → Int32) → (Nat → Int32) → (Nat → Int32) → (Nat → px_NV) → Prop) (hw : w56_wp post a1x iv g_small g_pivots nv) : Met l px_y56 px_s56 ({ frames := 5, cells := 0, slots := 0, locals := 124 }) (va_Pc [.ref h0, .int a1x] (fun U => U.heap.size = sz ∧ va_P (dC, dI) vwCl (([(h0, .inr (8, px_mf (px_rf hh rf) iv)), ((px_rf hh rf) 8, .inl (c_work, 156, .inr (.inr (.inr (.inr (fun k => some (hh k))))))), ((px_rf hh rf) 9, .inl (c_small, 156, .inl g_small)), ((px_rf hh rf) 13, .inl (c_pivots, 13, .inl g_pivots))] : va_W) ++ px_np hh qq cN nv) U.heap ∧ va_K (dC, dI) vwCl [(c_work, .object "MatroidDeskModel$Num"), (c_small, .int), (c_pivots, .int), (cN, .int)] U ∧ va_D (fun _ => True) (([(h0, .inr (8, px_mf (px_rf hh rf) iv)), ((px_rf hh rf) 8, .inl (c_work, 156, .inr (.inr (.inr (.inr (fun k => some (hh k))))))), ((px_rf hh rf) 9, .inl (c_small, 156, .inl g_small)), ((px_rf hh rf) 13, .inl (c_pivots, 13, .inl g_pivots))] : va_W) ++ px_np hh qq cN nv) ∧ px_N U)) (va_Qv (fun (u : (Nat → Int32) × (Nat → Int32) × (Nat → Int32) × (Nat → px_NV)) => post u.1 u.2.1 u.2.2.1 u.2.2.2) (fun (u : (Nat → Int32) × (Nat → Int32) × (Nat → Int32) × (Nat → px_NV)) (t : State) => va_P (dC, dI) vwCl (([(h0, .inr (8, px_mf (px_rf hh rf) u.1)), ((px_rf hh rf) 8, .inl (c_work, 156, .inr (.inr (.inr (.inr (fun k => some (hh k))))))), ((px_rf hh rf) 9, .inl (c_small, 156, .inl u.2.1)), ((px_rf hh rf) 13, .inl (c_pivots, 13, .inl u.2.2.1))] : va_W) ++ px_np hh qq cN u.2.2.2) t.heap ∧ va_K (dC, dI) vwCl [(c_work, .object "MatroidDeskModel$Num"), (c_small, .int), (c_pivots, .int), (cN, .int)] t ∧ va_D (va_A (([(h0, .inr (8, px_mf (px_rf hh rf) iv)), ((px_rf hh rf) 8, .inl (c_work, 156, .inr (.inr (.inr (.inr (fun k => some (hh k))))))), ((px_rf hh rf) 9, .inl (c_small, 156, .inl g_small)), ((px_rf hh rf) 13, .inl (c_pivots, 13, .inl g_pivots))] : va_W) ++ px_np hh qq cN nv) sz) (([(h0, .inr (8, px_mf (px_rf hh rf) u.1)), ((px_rf hh rf) 8, .inl (c_work, 156, .inr (.inr (.inr (.inr (fun k => some (hh k))))))), ((px_rf hh rf) 9, .inl (c_small, 156, .inl u.2.1)), ((px_rf hh rf) 13, .inl (c_pivots, 13, .inl u.2.2.1))] : va_W) ++ px_np hh qq cN u.2.2.2)) (va_A (([(h0, .inr (8, px_mf (px_rf hh rf) iv)), ((px_rf hh rf) 8, .inl (c_work, 156, .inr (.inr (.inr (.inr (fun k => some (hh k))))))), ((px_rf hh rf) 9, .inl (c_small, 156, .inl g_small)), ((px_rf hh rf) 13, .inl (c_pivots, 13, .inl g_pivots))] : va_W) ++ px_np hh qq cN nv) sz)) 0 0 (va_A (([(h0, .inr (8, px_mf (px_rf hh rf) iv)), ((px_rf hh rf) 8, .inl (c_work, 156, .inr (.inr (.inr (.inr (fun k => some (hh k))))))), ((px_rf hh rf) 9, .inl (c_small, 156, .inl g_small)), ((px_rf hh rf) 13, .inl (c_pivots, 13, .inl g_pivots))] : va_W) ++ px_np hh qq cN nv) sz) := by
  refine Met.ofW (cc := prog_15_method_11_code) (maxL := 4) (ret := none) (by decide) rfl ?_
  intro p e s m args below meth c s₁ B hml hv
  obtain ⟨rfl, hsz, hP, hK, hD0, hN⟩ := hv
  have hx := B.exec
  have hb := B.bytes
  have hr := B.returns
  have htw : ∀ w ∈ px_all, w.before _ s = true := fun w h => atoms_spec (ws := px_s56) B.pre w (List.mem_cons_of_mem _ h)
  have hown : s.vm.findClass "MatroidDeskModel" = some m.cls := findClass_of_methodNamed B.named
  have hlocks := B.notSynchronized
  subst hsz
  have hD := hD0.self (sz := s.heap.size)
  generalize hAe : va_A (([(h0, .inr (8, px_mf (px_rf hh rf) iv)), ((px_rf hh rf) 8, .inl (c_work, 156, .inr (.inr (.inr (.inr (fun k => some (hh k))))))), ((px_rf hh rf) 9, .inl (c_small, 156, .inl g_small)), ((px_rf hh rf) 13, .inl (c_pivots, 13, .inl g_pivots))] : va_W) ++ px_np hh qq cN nv) s.heap.size = A at hD ⊢
  have hA : ∀ q : Nat, s.heap.size ≤ q → A q := fun q h => by rw [← hAe]; exact Or.inr h
  have hS : va_S A s.heap s.heap [] := va_S.rf
  have hP : va_P (dC, dI) vwCl (([(h0, .inr (8, px_mf (px_rf hh rf) iv)), ((px_rf hh rf) 8, .inl (c_work, 156, .inr (.inr (.inr (.inr (fun k => some (hh k))))))), ((px_rf hh rf) 9, .inl (c_small, 156, .inl g_small)), ((px_rf hh rf) 13, .inl (c_pivots, 13, .inl g_pivots))] : va_W) ++ px_np hh qq cN nv) s.heap := hP
  have hl := lv_entry ([.ref h0, .int a1x]) (n := 4) (Nat.le_of_ble_eq_true rfl)
  rw [lg_entry_eq]
  generalize (lg_sl ([.ref h0, .int a1x]) ++ List.replicate (4 - (lg_sl ([.ref h0, .int a1x])).length) Slot.unset).toArray = ls at hl ⊢
  have hl : lv_has ls 4 [(0, .ref h0), (1, .int a1x)] := hl
  generalize hQ : MQ _ _ _ _ _ _ _ = Q
  have S121 : ∀ (x1 : Int32) (iv : Nat → Int32) (g_small : Nat → Int32) (g_pivots : Nat → Int32) (nv : Nat → px_NV) (H : Heap) (locs : List Loc) (ls : Array Slot), va_P (dC, dI) vwCl (([(h0, .inr (8, px_mf (px_rf hh rf) iv)), ((px_rf hh rf) 8, .inl (c_work, 156, .inr (.inr (.inr (.inr (fun k => some (hh k))))))), ((px_rf hh rf) 9, .inl (c_small, 156, .inl g_small)), ((px_rf hh rf) 13, .inl (c_pivots, 13, .inl g_pivots))] : va_W) ++ px_np hh qq cN nv) H → va_D A (([(h0, .inr (8, px_mf (px_rf hh rf) iv)), ((px_rf hh rf) 8, .inl (c_work, 156, .inr (.inr (.inr (.inr (fun k => some (hh k))))))), ((px_rf hh rf) 9, .inl (c_small, 156, .inl g_small)), ((px_rf hh rf) 13, .inl (c_pivots, 13, .inl g_pivots))] : va_W) ++ px_np hh qq cN nv) → va_S A s.heap H locs → lv_has ls 4 [(0, .ref h0), (1, .int x1)] → w56_L121 post x1 iv g_small g_pivots nv → W p l e (headSpec px_s56 ({ frames := 5, cells := 0, slots := 0, locals := 124 })).room s m ([.ref h0, .int a1x]).toArray below meth c H locs 0 0 Q (F0 m 121 ls []) := by
    intro x1 iv g_small g_pivots nv H locs ls hP hD hS hl hw
    unfold w56_L121 at hw
    rw [← hQ]
    exact W.vret hx hb hr (fun t ht hW => ⟨⟨(iv, g_small, g_pivots, nv), rfl, hw, by rw [ht]; exact hP, va_K.moved hW.alike hK, hD⟩, hS.F ht⟩) hS.2.2 px_d56_121
  have S98 : ∀ (k98 : Nat) (x1 : Int32) (x2 : Int32) (iv : Nat → Int32) (g_small : Nat → Int32) (g_pivots : Nat → Int32) (nv : Nat → px_NV) (H : Heap) (locs : List Loc) (ls : Array Slot), va_P (dC, dI) vwCl (([(h0, .inr (8, px_mf (px_rf hh rf) iv)), ((px_rf hh rf) 8, .inl (c_work, 156, .inr (.inr (.inr (.inr (fun k => some (hh k))))))), ((px_rf hh rf) 9, .inl (c_small, 156, .inl g_small)), ((px_rf hh rf) 13, .inl (c_pivots, 13, .inl g_pivots))] : va_W) ++ px_np hh qq cN nv) H → va_D A (([(h0, .inr (8, px_mf (px_rf hh rf) iv)), ((px_rf hh rf) 8, .inl (c_work, 156, .inr (.inr (.inr (.inr (fun k => some (hh k))))))), ((px_rf hh rf) 9, .inl (c_small, 156, .inl g_small)), ((px_rf hh rf) 13, .inl (c_pivots, 13, .inl g_pivots))] : va_W) ++ px_np hh qq cN nv) → va_S A s.heap H locs → lv_has ls 4 [(0, .ref h0), (1, .int x1), (2, .int x2)] → w56_L98 post k98 x1 x2 iv g_small g_pivots nv → W p l e (headSpec px_s56 ({ frames := 5, cells := 0, slots := 0, locals := 124 })).room s m ([.ref h0, .int a1x]).toArray below meth c H locs 0 0 Q (F0 m 98 ls []) := by
    intro k98
    induction k98 with
    | zero => intro x1 x2 iv g_small g_pivots nv H locs ls hP hD hS hl hw; exact False.elim hw
    | succ k98 ih98 =>
      intro x1 x2 iv g_small g_pivots nv H locs ls hP hD hS hl hw
      unfold w56_L98 at hw
      refine lv_iload_n hx hb px_d56_98 rfl (lv_at hl 2 rfl) ?_
      refine lv_aload_n hx hb px_d56_99 rfl (lv_at hl 0 rfl) ?_
      refine va_get (D := (dC, dI)) (ci := 8) (v := .int (iv 11)) (C := "MatroidDeskModel") (T := px_T8) (N := 53) hx hb htw px_in8 hown hK hP 0 rfl rfl 11 (by decide) (htw _ px_w429) (fun _ h9 => h9) rfl px_d56_100 ?_
      refine lv_icmp_ge (tgt := 121) hx hb px_d56_103 (by decide) (fun c103 => ?_) (fun c103 => ?_)
      · have hw := hw.1 c103
        exact S121 x1 iv g_small g_pivots nv H locs ls hP hD hS (lv_sub hl [0, 1] rfl) hw
      · have hw := hw.2 c103
        refine lv_aload_n hx hb px_d56_106 rfl (lv_at hl 0 rfl) ?_
        refine lv_iload_n hx hb px_d56_107 rfl (lv_at hl 1 rfl) ?_
        refine lv_iload_n hx hb px_d56_108 rfl (lv_at hl 2 rfl) ?_
        have hPc := hP.sub (ws' := [(h0, .inr (8, px_mf (px_rf hh rf) iv)), ((px_rf hh rf) 8, .inl (c_work, 156, .inr (.inr (.inr (.inr (fun k => some (hh k)))))))]) [0, 1] rfl
        have hDc := hD.sub (ws' := [(h0, .inr (8, px_mf (px_rf hh rf) iv)), ((px_rf hh rf) 8, .inl (c_work, 156, .inr (.inr (.inr (.inr (fun k => some (hh k)))))))]) [0, 1] (by decide) rfl
        have hFc := va_free (wc := [(h0, .inr (8, px_mf (px_rf hh rf) iv)), ((px_rf hh rf) 8, .inl (c_work, 156, .inr (.inr (.inr (.inr (fun k => some (hh k)))))))]) hD hS hA [0, 1] rfl
        have hKc := hK.sub (tys' := [(c_work, .object "MatroidDeskModel$Num")]) [0] rfl
        refine va_callq (va_runV (As := [.int x1, .int x2]) (rest := []) ⟨hx, hb, hml, hown, htw⟩ (w47_met l dC dI H.size h0 rf hh c_work x1 x2 iv _ hw) (cwV 2 htw (px_gv px_w434 px_w422 px_w423 px_w94 px_g47) rfl rfl rfl (by decide +kernel) ⟨Nat.le_of_ble_eq_true rfl, Nat.le_of_ble_eq_true rfl⟩) ⟨fun a U g mk q => by obtain ⟨q0, q1, qP, qK, qD, qN⟩ := q; exact ⟨q0, q1, qP, va_K.moved (u := U) (U := U.calling g mk a) (Vm.Alike.refl U.vm) qK, qD, qN.same rfl⟩, va_recv hK hP (ci := 8) (q0 := 0) rfl rfl, fun U hU hW => ⟨rfl, by rw [hU], by rw [hU]; exact hPc, va_K.moved hW.alike hKc, hDc.weaken (fun _ _ _ _ => trivial), hN.warm hW⟩⟩ rfl rfl hl.1 rfl (lv_room (Nat.le_of_ble_eq_true rfl)) px_d56_109 ⟨(Nat.le_of_ble_eq_true rfl), (Nat.le_of_ble_eq_true rfl)⟩) hS (fun q _ h => hFc q h) hFc (fun r9 u t H1 locs ht hvm hw hB hz1 hk1 hS => ?_)
        obtain ⟨k109_2, v1⟩ := u
        obtain ⟨hr9, hw⟩ := hw
        subst hr9
        obtain ⟨hP1, hK1, hD1⟩ := hB
        rw [ht] at hP1
        obtain ⟨hP, hD⟩ := va_joinQ (wr := [((px_rf hh rf) 9, .inl (c_small, 156, .inl g_small)), ((px_rf hh rf) 13, .inl (c_pivots, 13, .inl g_pivots))]) (w1 := [(h0, .inr (8, px_mf (px_rf hh rf) v1)), ((px_rf hh rf) 8, .inl (c_work, 156, .inr (.inr (.inr (.inr (fun k => some (hh k)))))))]) hP hD [0, 1] [2, 3] rfl rfl (by decide) (by decide) hk1 hFc hP1 hD1
        generalize H1 = H at hP hS ⊢
        have hP : va_P (dC, dI) vwCl (([((px_rf hh rf) 9, .inl (c_small, 156, .inl g_small)), ((px_rf hh rf) 13, .inl (c_pivots, 13, .inl g_pivots)), (h0, .inr (8, px_mf (px_rf hh rf) v1)), ((px_rf hh rf) 8, .inl (c_work, 156, .inr (.inr (.inr (.inr (fun k => some (hh k)))))))] : va_W) ++ px_np hh qq cN nv) H := hP
        have hD : va_D A (([((px_rf hh rf) 9, .inl (c_small, 156, .inl g_small)), ((px_rf hh rf) 13, .inl (c_pivots, 13, .inl g_pivots)), (h0, .inr (8, px_mf (px_rf hh rf) v1)), ((px_rf hh rf) 8, .inl (c_work, 156, .inr (.inr (.inr (.inr (fun k => some (hh k)))))))] : va_W) ++ px_np hh qq cN nv) := hD
        refine W.eq (g2 := F0 m 112 ls (.ref (hh k109_2) :: [])) rfl ?_
        have hP := hP.part (cx := [(h0, .inr (8, px_mf (px_rf hh rf) v1)), ((px_rf hh rf) 8, .inl (c_work, 156, .inr (.inr (.inr (.inr (fun k => some (hh k))))))), ((px_rf hh rf) 9, .inl (c_small, 156, .inl g_small)), ((px_rf hh rf) 13, .inl (c_pivots, 13, .inl g_pivots))]) [2, 3, 0, 1] rfl
        have hD := hD.part (cx := [(h0, .inr (8, px_mf (px_rf hh rf) v1)), ((px_rf hh rf) 8, .inl (c_work, 156, .inr (.inr (.inr (.inr (fun k => some (hh k))))))), ((px_rf hh rf) 9, .inl (c_small, 156, .inl g_small)), ((px_rf hh rf) 13, .inl (c_pivots, 13, .inl g_pivots))]) [2, 3, 0, 1] (by decide) rfl
        obtain ⟨hk112, hw⟩ := hw
        have hPc : va_P (dC, dI) vwCl [(hh k109_2, .inr (9, [.ref (qq k109_2), .int ((nv k109_2).1), .int ((nv k109_2).2.1)])), (qq k109_2, .inl (cN, 160, .inl ((nv k109_2).2.2)))] H := px_outP hP [k109_2] hk112
        have hDc : va_D A [(hh k109_2, .inr (9, [.ref (qq k109_2), .int ((nv k109_2).1), .int ((nv k109_2).2.1)])), (qq k109_2, .inl (cN, 160, .inl ((nv k109_2).2.2)))] := px_outD hD [k109_2] hk112
        have hFc : ∀ q, va_A [(hh k109_2, .inr (9, [.ref (qq k109_2), .int ((nv k109_2).1), .int ((nv k109_2).2.1)])), (qq k109_2, .inl (cN, 160, .inl ((nv k109_2).2.2)))] H.size q → A q := px_outF hD hS hA [k109_2] hk112
        have hKc := hK.sub (tys' := [(cN, .int)]) [3] rfl
        refine va_callv (va_runV (As := []) (rest := []) ⟨hx, hb, hml, hown, htw⟩ (nu_met l dC dI H.size (hh k109_2) (qq k109_2) cN ((nv k109_2).1) ((nv k109_2).2.1) ((nv k109_2).2.2) _ hw) (cwV 0 htw (px_gv px_w474 px_w288 px_w289 px_w149 px_g14) rfl rfl rfl (by decide +kernel) ⟨Nat.le_of_ble_eq_true rfl, Nat.le_of_ble_eq_true rfl⟩) ⟨fun a U g mk q => by obtain ⟨q0, q1, qP, qK, qD, qN⟩ := q; exact ⟨q0, q1, qP, va_K.moved (u := U) (U := U.calling g mk a) (Vm.Alike.refl U.vm) qK, qD, qN.same rfl⟩, va_recv hK hPc (ci := 9) (q0 := 0) rfl rfl, fun U hU hW => ⟨rfl, by rw [hU], by rw [hU]; exact hPc, va_K.moved hW.alike hKc, hDc.weaken (fun _ _ _ _ => trivial), hN.warm hW⟩⟩ rfl rfl hl.1 rfl (lv_room (Nat.le_of_ble_eq_true rfl)) px_d56_112 ⟨(Nat.le_of_ble_eq_true rfl), (Nat.le_of_ble_eq_true rfl)⟩) hS (fun q _ h => hFc q h) hFc (fun u t H1 locs ht hvm hw hB hz1 hk1 hS => ?_)
        obtain ⟨v3, v4, v5⟩ := u
        obtain ⟨hP1, hK1, hD1⟩ := hB
        rw [ht] at hP1
        obtain ⟨nv7, env7⟩ : ∃ z : Nat → px_NV, z = px_fold nv [(k109_2, ⟨v3, v4, v5⟩)] := ⟨_, rfl⟩
        have hw := hw nv7 env7
        obtain ⟨hP, hD⟩ := px_in hP hD [k109_2] hk112 [(k109_2, ⟨v3, v4, v5⟩)] rfl hk1 hP1 env7
        generalize H1 = H at hP hS ⊢
        have hP : va_P (dC, dI) vwCl (([(h0, .inr (8, px_mf (px_rf hh rf) v1)), ((px_rf hh rf) 8, .inl (c_work, 156, .inr (.inr (.inr (.inr (fun k => some (hh k))))))), ((px_rf hh rf) 9, .inl (c_small, 156, .inl g_small)), ((px_rf hh rf) 13, .inl (c_pivots, 13, .inl g_pivots))] : va_W) ++ px_np hh qq cN nv7) H := hP
        have hD : va_D A (([(h0, .inr (8, px_mf (px_rf hh rf) v1)), ((px_rf hh rf) 8, .inl (c_work, 156, .inr (.inr (.inr (.inr (fun k => some (hh k))))))), ((px_rf hh rf) 9, .inl (c_small, 156, .inl g_small)), ((px_rf hh rf) 13, .inl (c_pivots, 13, .inl g_pivots))] : va_W) ++ px_np hh qq cN nv7) := hD
        obtain ⟨z8, ez8⟩ : ∃ y : Int32, y = x2 + 1 := ⟨_, rfl⟩
        have hw := hw z8 ez8
        refine lv_iinc (v := z8) (lv' := [(2, .int z8), (0, .ref h0), (1, .int x1)]) hx hb px_d56_115 hl (k := 2) rfl (by rw [ez8]; rfl) (by decide) rfl (fun ls hl => ?_)
        refine lv_goto (tgt := 98) hx hb px_d56_118 (by decide) ?_
        exact ih98 x1 z8 v1 g_small g_pivots nv7 H locs ls hP hD hS (lv_sub hl [1, 2, 0] rfl) hw
  have S30 : ∀ (k30 : Nat) (x1 : Int32) (x2 : Int32) (x3 : Int32) (iv : Nat → Int32) (g_small : Nat → Int32) (g_pivots : Nat → Int32) (nv : Nat → px_NV) (H : Heap) (locs : List Loc) (ls : Array Slot), va_P (dC, dI) vwCl (([(h0, .inr (8, px_mf (px_rf hh rf) iv)), ((px_rf hh rf) 8, .inl (c_work, 156, .inr (.inr (.inr (.inr (fun k => some (hh k))))))), ((px_rf hh rf) 9, .inl (c_small, 156, .inl g_small)), ((px_rf hh rf) 13, .inl (c_pivots, 13, .inl g_pivots))] : va_W) ++ px_np hh qq cN nv) H → va_D A (([(h0, .inr (8, px_mf (px_rf hh rf) iv)), ((px_rf hh rf) 8, .inl (c_work, 156, .inr (.inr (.inr (.inr (fun k => some (hh k))))))), ((px_rf hh rf) 9, .inl (c_small, 156, .inl g_small)), ((px_rf hh rf) 13, .inl (c_pivots, 13, .inl g_pivots))] : va_W) ++ px_np hh qq cN nv) → va_S A s.heap H locs → lv_has ls 4 [(0, .ref h0), (1, .int x1), (2, .int x2), (3, .int x3)] → w56_L30 post k30 x1 x2 x3 iv g_small g_pivots nv → W p l e (headSpec px_s56 ({ frames := 5, cells := 0, slots := 0, locals := 124 })).room s m ([.ref h0, .int a1x]).toArray below meth c H locs 0 0 Q (F0 m 30 ls []) := by
    intro k30
    induction k30 with
    | zero => intro x1 x2 x3 iv g_small g_pivots nv H locs ls hP hD hS hl hw; exact False.elim hw
    | succ k30 ih30 =>
      intro x1 x2 x3 iv g_small g_pivots nv H locs ls hP hD hS hl hw
      unfold w56_L30 at hw
      refine lv_iload_n hx hb px_d56_30 rfl (lv_at hl 3 rfl) ?_
      refine lv_aload_n hx hb px_d56_31 rfl (lv_at hl 0 rfl) ?_
      refine va_get (D := (dC, dI)) (ci := 8) (v := .int (iv 11)) (C := "MatroidDeskModel") (T := px_T8) (N := 53) hx hb htw px_in8 hown hK hP 0 rfl rfl 11 (by decide) (htw _ px_w429) (fun _ h9 => h9) rfl px_d56_32 ?_
      refine lv_icmp_ge (tgt := 73) hx hb px_d56_35 (by decide) (fun c35 => ?_) (fun c35 => ?_)
      · have hw := hw.1 c35
        rw [← hQ]
        exact W.vret hx hb hr (fun t ht hW => ⟨⟨(iv, g_small, g_pivots, nv), rfl, hw, by rw [ht]; exact hP, va_K.moved hW.alike hK, hD⟩, hS.F ht⟩) hS.2.2 px_d56_73
      · have hw := hw.2 c35
        refine lv_aload_n hx hb px_d56_38 rfl (lv_at hl 0 rfl) ?_
        refine va_get (D := (dC, dI)) (ci := 8) (v := .ref ((px_rf hh rf) 9)) (C := "MatroidDeskModel") (T := px_T8) (N := 53) hx hb htw px_in8 hown hK hP 0 rfl rfl 9 (by decide) (htw _ px_w436) (fun _ h9 => h9) rfl px_d56_39 ?_
        refine lv_bipush (v := 12) hx hb px_d56_42 (by decide) ?_
        refine lv_iload_n hx hb px_d56_44 rfl (lv_at hl 1 rfl) ?_
        refine lv_imul hx hb px_d56_45 ?_
        refine lv_iload_n hx hb px_d56_46 rfl (lv_at hl 3 rfl) ?_
        refine lv_iadd hx hb px_d56_47 ?_
        refine lv_aload_n hx hb px_d56_48 rfl (lv_at hl 0 rfl) ?_
        refine va_get (D := (dC, dI)) (ci := 8) (v := .ref ((px_rf hh rf) 9)) (C := "MatroidDeskModel") (T := px_T8) (N := 53) hx hb htw px_in8 hown hK hP 0 rfl rfl 9 (by decide) (htw _ px_w436) (fun _ h9 => h9) rfl px_d56_49 ?_
        refine lv_bipush (v := 12) hx hb px_d56_52 (by decide) ?_
        refine lv_iload_n hx hb px_d56_54 rfl (lv_at hl 1 rfl) ?_
        refine lv_imul hx hb px_d56_55 ?_
        refine lv_iload_n hx hb px_d56_56 rfl (lv_at hl 3 rfl) ?_
        refine lv_iadd hx hb px_d56_57 ?_
        obtain ⟨hi58, hw⟩ := hw
        refine va_iald hx hb hK hP 2 1 rfl rfl hi58 px_d56_58 ?_
        refine lv_iload_n hx hb px_d56_59 rfl (lv_at hl 2 rfl) ?_
        refine lv_imul hx hb px_d56_60 ?_
        refine lv_aload_n hx hb px_d56_61 rfl (lv_at hl 0 rfl) ?_
        refine va_get (D := (dC, dI)) (ci := 8) (v := .int (iv 12)) (C := "MatroidDeskModel") (T := px_T8) (N := 53) hx hb htw px_in8 hown hK hP 0 rfl rfl 12 (by decide) (htw _ px_w428) (fun _ h9 => h9) rfl px_d56_62 ?_
        obtain ⟨hd65, hw⟩ := hw
        refine lv_irem hx hb px_d56_65 hd65 ?_
        refine lv_topi (fun z9 ez9 => ?_)
        have hw := hw z9 ez9
        obtain ⟨hi66, hw⟩ := hw
        refine va_iast hx hb hK hP hD hS 2 1 rfl rfl hi66 px_d56_66 (fun H locs hP hD hS => ?_)
        have hP : va_P (dC, dI) vwCl (([(h0, .inr (8, px_mf (px_rf hh rf) iv)), ((px_rf hh rf) 8, .inl (c_work, 156, .inr (.inr (.inr (.inr (fun k => some (hh k))))))), ((px_rf hh rf) 9, .inl (c_small, 156, .inl (upd g_small (Int32.toNatClampNeg ((12 * x1) + x3)) z9))), ((px_rf hh rf) 13, .inl (c_pivots, 13, .inl g_pivots))] : va_W) ++ px_np hh qq cN nv) H := hP
        have hD : va_D A (([(h0, .inr (8, px_mf (px_rf hh rf) iv)), ((px_rf hh rf) 8, .inl (c_work, 156, .inr (.inr (.inr (.inr (fun k => some (hh k))))))), ((px_rf hh rf) 9, .inl (c_small, 156, .inl (upd g_small (Int32.toNatClampNeg ((12 * x1) + x3)) z9))), ((px_rf hh rf) 13, .inl (c_pivots, 13, .inl g_pivots))] : va_W) ++ px_np hh qq cN nv) := hD
        obtain ⟨z10, ez10⟩ : ∃ y : Int32, y = x3 + 1 := ⟨_, rfl⟩
        have hw := hw z10 ez10
        refine lv_iinc (v := z10) (lv' := [(3, .int z10), (0, .ref h0), (1, .int x1), (2, .int x2)]) hx hb px_d56_67 hl (k := 3) rfl (by rw [ez10]; rfl) (by decide) rfl (fun ls hl => ?_)
        refine lv_goto (tgt := 30) hx hb px_d56_70 (by decide) ?_
        exact ih30 x1 x2 z10 iv (upd g_small (Int32.toNatClampNeg ((12 * x1) + x3)) z9) g_pivots nv H locs ls hP hD hS (lv_sub hl [1, 2, 3, 0] rfl) hw
  unfold w56_wp at hw
  have hS0 := hS
  obtain ⟨H, hH9⟩ : ∃ z, z = s.heap := ⟨_, rfl⟩
  have hP : va_P (dC, dI) vwCl (([(h0, .inr (8, px_mf (px_rf hh rf) iv)), ((px_rf hh rf) 8, .inl (c_work, 156, .inr (.inr (.inr (.inr (fun k => some (hh k))))))), ((px_rf hh rf) 9, .inl (c_small, 156, .inl g_small)), ((px_rf hh rf) 13, .inl (c_pivots, 13, .inl g_pivots))] : va_W) ++ px_np hh qq cN nv) H := by rw [hH9]; exact hP
  obtain ⟨locs, hlo9⟩ : ∃ z : List Loc, z = [] := ⟨_, rfl⟩
  have hS : va_S A s.heap H locs := by rw [hH9, hlo9]; exact hS
  suffices hG : W p l e (headSpec px_s56 ({ frames := 5, cells := 0, slots := 0, locals := 124 })).room s m ([.ref h0, .int a1x]).toArray below meth c H locs 0 0 Q (F0 m 0 ls []) by rw [hH9, hlo9] at hG; exact hG
  refine lv_aload_n hx hb px_d56_0 rfl (lv_at hl 0 rfl) ?_
  refine va_get (D := (dC, dI)) (ci := 8) (v := .int (iv 12)) (C := "MatroidDeskModel") (T := px_T8) (N := 53) hx hb htw px_in8 hown hK hP 0 rfl rfl 12 (by decide) (htw _ px_w428) (fun _ h9 => h9) rfl px_d56_1 ?_
  refine lv_if_le (tgt := 74) hx hb px_d56_4 (by decide) (fun c4 => ?_) (fun c4 => ?_)
  · have hw := hw.1 c4
    refine lv_aload_n hx hb px_d56_74 rfl (lv_at hl 0 rfl) ?_
    refine lv_iload_n hx hb px_d56_75 rfl (lv_at hl 1 rfl) ?_
    have hPc := hP.part (cx := [(h0, .inr (8, px_mf (px_rf hh rf) iv)), ((px_rf hh rf) 8, .inl (c_work, 156, .inr (.inr (.inr (.inr (fun k => some (hh k)))))))]) [0, 1] rfl
    have hDc := hD.part (cx := [(h0, .inr (8, px_mf (px_rf hh rf) iv)), ((px_rf hh rf) 8, .inl (c_work, 156, .inr (.inr (.inr (.inr (fun k => some (hh k)))))))]) [0, 1] (by decide) rfl
    have hFc := va_freeP (cx := [(h0, .inr (8, px_mf (px_rf hh rf) iv)), ((px_rf hh rf) 8, .inl (c_work, 156, .inr (.inr (.inr (.inr (fun k => some (hh k)))))))]) hD hS hA [0, 1] rfl
    have hKc := hK.sub (tys' := [(c_work, .object "MatroidDeskModel$Num"), (cN, .int)]) [0, 3] rfl
    refine va_callv (va_runV (As := [.int a1x]) (rest := []) ⟨hx, hb, hml, hown, htw⟩ (w54_met l dC dI H.size h0 rf hh qq cN c_work a1x iv nv _ hw) (cwV 1 htw (px_gv px_w455 px_w457 px_w458 px_w94 px_g54) rfl rfl rfl (by decide +kernel) ⟨Nat.le_of_ble_eq_true rfl, Nat.le_of_ble_eq_true rfl⟩) ⟨fun a U g mk q => by obtain ⟨q0, q1, qP, qK, qD, qN⟩ := q; exact ⟨q0, q1, qP, va_K.moved (u := U) (U := U.calling g mk a) (Vm.Alike.refl U.vm) qK, qD, qN.same rfl⟩, va_recv hK hP (ci := 8) (q0 := 0) rfl rfl, fun U hU hW => ⟨rfl, by rw [hU], by rw [hU]; exact hPc, va_K.moved hW.alike hKc, hDc.weaken (fun _ _ _ _ => trivial), hN.warm hW⟩⟩ rfl rfl hl.1 rfl (lv_room (Nat.le_of_ble_eq_true rfl)) px_d56_76 ⟨(Nat.le_of_ble_eq_true rfl), (Nat.le_of_ble_eq_true rfl)⟩) hS (fun q _ h => hFc q h) hFc (fun u t H1 locs ht hvm hw hB hz1 hk1 hS => ?_)
    obtain ⟨v11, v12⟩ := u
    obtain ⟨hP1, hK1, hD1⟩ := hB
    rw [ht] at hP1
    obtain ⟨hP, hD⟩ := va_joinP (wr := [((px_rf hh rf) 9, .inl (c_small, 156, .inl g_small)), ((px_rf hh rf) 13, .inl (c_pivots, 13, .inl g_pivots))]) (rx := [(h0, .inr (8, px_mf (px_rf hh rf) v11)), ((px_rf hh rf) 8, .inl (c_work, 156, .inr (.inr (.inr (.inr (fun k => some (hh k)))))))]) hP hD [0, 1] [2, 3] rfl rfl (by decide) (by decide) hk1 hFc hP1 hD1
    generalize H1 = H at hP hS ⊢
    have hP : va_P (dC, dI) vwCl (([((px_rf hh rf) 9, .inl (c_small, 156, .inl g_small)), ((px_rf hh rf) 13, .inl (c_pivots, 13, .inl g_pivots)), (h0, .inr (8, px_mf (px_rf hh rf) v11)), ((px_rf hh rf) 8, .inl (c_work, 156, .inr (.inr (.inr (.inr (fun k => some (hh k)))))))] : va_W) ++ px_np hh qq cN v12) H := hP
    have hD : va_D A (([((px_rf hh rf) 9, .inl (c_small, 156, .inl g_small)), ((px_rf hh rf) 13, .inl (c_pivots, 13, .inl g_pivots)), (h0, .inr (8, px_mf (px_rf hh rf) v11)), ((px_rf hh rf) 8, .inl (c_work, 156, .inr (.inr (.inr (.inr (fun k => some (hh k)))))))] : va_W) ++ px_np hh qq cN v12) := hD
    have hP := hP.part (cx := [(h0, .inr (8, px_mf (px_rf hh rf) v11)), ((px_rf hh rf) 8, .inl (c_work, 156, .inr (.inr (.inr (.inr (fun k => some (hh k))))))), ((px_rf hh rf) 9, .inl (c_small, 156, .inl g_small)), ((px_rf hh rf) 13, .inl (c_pivots, 13, .inl g_pivots))]) [2, 3, 0, 1] rfl
    have hD := hD.part (cx := [(h0, .inr (8, px_mf (px_rf hh rf) v11)), ((px_rf hh rf) 8, .inl (c_work, 156, .inr (.inr (.inr (.inr (fun k => some (hh k))))))), ((px_rf hh rf) 9, .inl (c_small, 156, .inl g_small)), ((px_rf hh rf) 13, .inl (c_pivots, 13, .inl g_pivots))]) [2, 3, 0, 1] (by decide) rfl
    refine lv_aload_n hx hb px_d56_79 rfl (lv_at hl 0 rfl) ?_
    refine lv_iload_n hx hb px_d56_80 rfl (lv_at hl 1 rfl) ?_
    refine lv_aload_n hx hb px_d56_81 rfl (lv_at hl 0 rfl) ?_
    refine va_get (D := (dC, dI)) (ci := 8) (v := .ref ((px_rf hh rf) 13)) (C := "MatroidDeskModel") (T := px_T8) (N := 53) hx hb htw px_in8 hown hK hP 0 rfl rfl 13 (by decide) (htw _ px_w469) (fun _ h9 => h9) rfl px_d56_82 ?_
    refine lv_iload_n hx hb px_d56_85 rfl (lv_at hl 1 rfl) ?_
    obtain ⟨hi86, hw⟩ := hw
    refine va_iald hx hb hK hP 3 2 rfl rfl hi86 px_d56_86 ?_
    have hPc := hP.sub (ws' := [(h0, .inr (8, px_mf (px_rf hh rf) v11)), ((px_rf hh rf) 8, .inl (c_work, 156, .inr (.inr (.inr (.inr (fun k => some (hh k)))))))]) [0, 1] rfl
    have hDc := hD.sub (ws' := [(h0, .inr (8, px_mf (px_rf hh rf) v11)), ((px_rf hh rf) 8, .inl (c_work, 156, .inr (.inr (.inr (.inr (fun k => some (hh k)))))))]) [0, 1] (by decide) rfl
    have hFc := va_free (wc := [(h0, .inr (8, px_mf (px_rf hh rf) v11)), ((px_rf hh rf) 8, .inl (c_work, 156, .inr (.inr (.inr (.inr (fun k => some (hh k)))))))]) hD hS hA [0, 1] rfl
    have hKc := hK.sub (tys' := [(c_work, .object "MatroidDeskModel$Num")]) [0] rfl
    refine va_callq (va_runV (As := [.int a1x, .int (g_pivots (Int32.toNatClampNeg a1x))]) (rest := []) ⟨hx, hb, hml, hown, htw⟩ (w47_met l dC dI H.size h0 rf hh c_work a1x (g_pivots (Int32.toNatClampNeg a1x)) v11 _ hw) (cwV 2 htw (px_gv px_w434 px_w422 px_w423 px_w94 px_g47) rfl rfl rfl (by decide +kernel) ⟨Nat.le_of_ble_eq_true rfl, Nat.le_of_ble_eq_true rfl⟩) ⟨fun a U g mk q => by obtain ⟨q0, q1, qP, qK, qD, qN⟩ := q; exact ⟨q0, q1, qP, va_K.moved (u := U) (U := U.calling g mk a) (Vm.Alike.refl U.vm) qK, qD, qN.same rfl⟩, va_recv hK hP (ci := 8) (q0 := 0) rfl rfl, fun U hU hW => ⟨rfl, by rw [hU], by rw [hU]; exact hPc, va_K.moved hW.alike hKc, hDc.weaken (fun _ _ _ _ => trivial), hN.warm hW⟩⟩ rfl rfl hl.1 rfl (lv_room (Nat.le_of_ble_eq_true rfl)) px_d56_87 ⟨(Nat.le_of_ble_eq_true rfl), (Nat.le_of_ble_eq_true rfl)⟩) hS (fun q _ h => hFc q h) hFc (fun r9 u t H1 locs ht hvm hw hB hz1 hk1 hS => ?_)
    obtain ⟨k87_15, v14⟩ := u
    obtain ⟨hr9, hw⟩ := hw
    subst hr9
    obtain ⟨hP1, hK1, hD1⟩ := hB
    rw [ht] at hP1
    obtain ⟨hP, hD⟩ := va_joinQ (wr := [((px_rf hh rf) 9, .inl (c_small, 156, .inl g_small)), ((px_rf hh rf) 13, .inl (c_pivots, 13, .inl g_pivots))]) (w1 := [(h0, .inr (8, px_mf (px_rf hh rf) v14)), ((px_rf hh rf) 8, .inl (c_work, 156, .inr (.inr (.inr (.inr (fun k => some (hh k)))))))]) hP hD [0, 1] [2, 3] rfl rfl (by decide) (by decide) hk1 hFc hP1 hD1
    generalize H1 = H at hP hS ⊢
    have hP : va_P (dC, dI) vwCl (([((px_rf hh rf) 9, .inl (c_small, 156, .inl g_small)), ((px_rf hh rf) 13, .inl (c_pivots, 13, .inl g_pivots)), (h0, .inr (8, px_mf (px_rf hh rf) v14)), ((px_rf hh rf) 8, .inl (c_work, 156, .inr (.inr (.inr (.inr (fun k => some (hh k)))))))] : va_W) ++ px_np hh qq cN v12) H := hP
    have hD : va_D A (([((px_rf hh rf) 9, .inl (c_small, 156, .inl g_small)), ((px_rf hh rf) 13, .inl (c_pivots, 13, .inl g_pivots)), (h0, .inr (8, px_mf (px_rf hh rf) v14)), ((px_rf hh rf) 8, .inl (c_work, 156, .inr (.inr (.inr (.inr (fun k => some (hh k)))))))] : va_W) ++ px_np hh qq cN v12) := hD
    refine W.eq (g2 := F0 m 90 ls (.ref (hh k87_15) :: [])) rfl ?_
    have hP := hP.part (cx := [(h0, .inr (8, px_mf (px_rf hh rf) v14)), ((px_rf hh rf) 8, .inl (c_work, 156, .inr (.inr (.inr (.inr (fun k => some (hh k))))))), ((px_rf hh rf) 9, .inl (c_small, 156, .inl g_small)), ((px_rf hh rf) 13, .inl (c_pivots, 13, .inl g_pivots))]) [2, 3, 0, 1] rfl
    have hD := hD.part (cx := [(h0, .inr (8, px_mf (px_rf hh rf) v14)), ((px_rf hh rf) 8, .inl (c_work, 156, .inr (.inr (.inr (.inr (fun k => some (hh k))))))), ((px_rf hh rf) 9, .inl (c_small, 156, .inl g_small)), ((px_rf hh rf) 13, .inl (c_pivots, 13, .inl g_pivots))]) [2, 3, 0, 1] (by decide) rfl
    obtain ⟨hp90, hw⟩ := hw
    refine va_get (D := (dC, dI)) (ci := 9) (v := .int ((v12 k87_15).2.1)) (C := "MatroidDeskModel$Num") (T := px_T9) (N := 3) hx hb htw px_in9 hown hK hP (4 + k87_15) (px_go rfl hp90) rfl 2 (by decide) (htw _ px_w415) (fun _ h9 => h9) rfl px_d56_90 ?_
    refine lv_if_eq (tgt := 121) hx hb px_d56_93 (by decide) (fun c93 => ?_) (fun c93 => ?_)
    · have hw := hw.1 c93
      exact S121 a1x v14 g_small g_pivots v12 H locs ls hP hD hS (lv_sub hl [0, 1] rfl) hw
    · have hw := hw.2 c93
      refine lv_iconst (v := 0) hx hb px_d56_96 (by decide) ?_
      refine lv_istore_n (lv' := [(2, .int 0), (0, .ref h0), (1, .int a1x)]) hx hb px_d56_97 rfl hl (by decide) rfl (fun ls hl => ?_)
      obtain ⟨k9, hw⟩ := hw
      exact S98 k9 a1x 0 v14 g_small g_pivots v12 H locs ls hP hD hS (lv_sub hl [1, 2, 0] rfl) hw
  · have hw := hw.2 c4
    refine lv_aload_n hx hb px_d56_7 rfl (lv_at hl 0 rfl) ?_
    refine lv_aload_n hx hb px_d56_8 rfl (lv_at hl 0 rfl) ?_
    refine va_get (D := (dC, dI)) (ci := 8) (v := .ref ((px_rf hh rf) 9)) (C := "MatroidDeskModel") (T := px_T8) (N := 53) hx hb htw px_in8 hown hK hP 0 rfl rfl 9 (by decide) (htw _ px_w436) (fun _ h9 => h9) rfl px_d56_9 ?_
    refine lv_bipush (v := 12) hx hb px_d56_12 (by decide) ?_
    refine lv_iload_n hx hb px_d56_14 rfl (lv_at hl 1 rfl) ?_
    refine lv_imul hx hb px_d56_15 ?_
    refine lv_aload_n hx hb px_d56_16 rfl (lv_at hl 0 rfl) ?_
    refine va_get (D := (dC, dI)) (ci := 8) (v := .ref ((px_rf hh rf) 13)) (C := "MatroidDeskModel") (T := px_T8) (N := 53) hx hb htw px_in8 hown hK hP 0 rfl rfl 13 (by decide) (htw _ px_w469) (fun _ h9 => h9) rfl px_d56_17 ?_
    refine lv_iload_n hx hb px_d56_20 rfl (lv_at hl 1 rfl) ?_
    obtain ⟨hi21, hw⟩ := hw
    refine va_iald hx hb hK hP 3 2 rfl rfl hi21 px_d56_21 ?_
    refine lv_iadd hx hb px_d56_22 ?_
    obtain ⟨hi23, hw⟩ := hw
    refine va_iald hx hb hK hP 2 1 rfl rfl hi23 px_d56_23 ?_
    have hPc := hP.sub (ws' := [(h0, .inr (8, px_mf (px_rf hh rf) iv))]) [0] rfl
    have hDc := hD.sub (ws' := [(h0, .inr (8, px_mf (px_rf hh rf) iv))]) [0] (by decide) rfl
    have hFc := va_free (wc := [(h0, .inr (8, px_mf (px_rf hh rf) iv))]) hD hS hA [0] rfl
    have hKc := hK.sub (tys' := []) [] rfl
    refine va_calli (va_runV (As := [.int (g_small (Int32.toNatClampNeg ((12 * a1x) + (g_pivots (Int32.toNatClampNeg a1x)))))]) (rest := []) ⟨hx, hb, hml, hown, htw⟩ (w52_met l dC dI H.size h0 (px_rf hh rf) (g_small (Int32.toNatClampNeg ((12 * a1x) + (g_pivots (Int32.toNatClampNeg a1x))))) iv _ hw) (cwV 1 htw (px_gv px_w450 px_w445 px_w446 px_w94 px_g52) rfl rfl rfl (by decide +kernel) ⟨Nat.le_of_ble_eq_true rfl, Nat.le_of_ble_eq_true rfl⟩) ⟨fun a U g mk q => by obtain ⟨q0, q1, qP, qK, qD, qN⟩ := q; exact ⟨q0, q1, qP, va_K.moved (u := U) (U := U.calling g mk a) (Vm.Alike.refl U.vm) qK, qD, qN.same rfl⟩, va_recv hK hP (ci := 8) (q0 := 0) rfl rfl, fun U hU hW => ⟨rfl, by rw [hU], by rw [hU]; exact hPc, va_K.moved hW.alike hKc, hDc.weaken (fun _ _ _ _ => trivial), hN.warm hW⟩⟩ rfl rfl hl.1 rfl (lv_room (Nat.le_of_ble_eq_true rfl)) px_d56_24 ⟨(Nat.le_of_ble_eq_true rfl), (Nat.le_of_ble_eq_true rfl)⟩) hS (fun q _ h => hFc q h) hFc (fun r24 u t H1 locs ht hvm hw hB hz1 hk1 hS => ?_)
    obtain ⟨v16, rfl⟩ : ∃ z, z = u := ⟨_, rfl⟩
    obtain ⟨hP1, hK1, hD1⟩ := hB
    rw [ht] at hP1
    obtain ⟨hP, hD⟩ := va_joinQ (wr := [((px_rf hh rf) 8, .inl (c_work, 156, .inr (.inr (.inr (.inr (fun k => some (hh k))))))), ((px_rf hh rf) 9, .inl (c_small, 156, .inl g_small)), ((px_rf hh rf) 13, .inl (c_pivots, 13, .inl g_pivots))]) (w1 := [(h0, .inr (8, px_mf (px_rf hh rf) v16))]) hP hD [0] [1, 2, 3] rfl rfl (by decide) (by decide) hk1 hFc hP1 hD1
    generalize H1 = H at hP hS ⊢
    have hP : va_P (dC, dI) vwCl (([((px_rf hh rf) 8, .inl (c_work, 156, .inr (.inr (.inr (.inr (fun k => some (hh k))))))), ((px_rf hh rf) 9, .inl (c_small, 156, .inl g_small)), ((px_rf hh rf) 13, .inl (c_pivots, 13, .inl g_pivots)), (h0, .inr (8, px_mf (px_rf hh rf) v16))] : va_W) ++ px_np hh qq cN nv) H := hP
    have hD : va_D A (([((px_rf hh rf) 8, .inl (c_work, 156, .inr (.inr (.inr (.inr (fun k => some (hh k))))))), ((px_rf hh rf) 9, .inl (c_small, 156, .inl g_small)), ((px_rf hh rf) 13, .inl (c_pivots, 13, .inl g_pivots)), (h0, .inr (8, px_mf (px_rf hh rf) v16))] : va_W) ++ px_np hh qq cN nv) := hD
    have hP := hP.part (cx := [(h0, .inr (8, px_mf (px_rf hh rf) v16)), ((px_rf hh rf) 8, .inl (c_work, 156, .inr (.inr (.inr (.inr (fun k => some (hh k))))))), ((px_rf hh rf) 9, .inl (c_small, 156, .inl g_small)), ((px_rf hh rf) 13, .inl (c_pivots, 13, .inl g_pivots))]) [3, 0, 1, 2] rfl
    have hD := hD.part (cx := [(h0, .inr (8, px_mf (px_rf hh rf) v16)), ((px_rf hh rf) 8, .inl (c_work, 156, .inr (.inr (.inr (.inr (fun k => some (hh k))))))), ((px_rf hh rf) 9, .inl (c_small, 156, .inl g_small)), ((px_rf hh rf) 13, .inl (c_pivots, 13, .inl g_pivots))]) [3, 0, 1, 2] (by decide) rfl
    refine lv_istore_n (lv' := [(2, .int r24), (0, .ref h0), (1, .int a1x)]) hx hb px_d56_27 rfl hl (by decide) rfl (fun ls hl => ?_)
    refine lv_iconst (v := 0) hx hb px_d56_28 (by decide) ?_
    refine lv_istore_n (lv' := [(3, .int 0), (2, .int r24), (0, .ref h0), (1, .int a1x)]) hx hb px_d56_29 rfl hl (by decide) rfl (fun ls hl => ?_)
    obtain ⟨k9, hw⟩ := hw
    exact S30 k9 a1x r24 0 v16 g_small g_pivots nv H locs ls hP hD hS (lv_sub hl [2, 3, 1, 0] rfl) hw

/-! MatroidDeskModel.reduce()V -/
def w55_L119 (post : (Nat → Int32) → (Nat → Int32) → (Nat → Int32) → (Nat → px_NV) → Prop) : Nat → Int32 → Int32 → (Nat → Int32) → (Nat → Int32) → (Nat → Int32) → (Nat → px_NV) → Prop
  | 0 => fun _ _ _ _ _ _ => False
  | k + 1 => fun x1 x2 iv g_small g_pivots nv => ((iv 10) ≤ x2 → post iv g_small g_pivots nv) ∧ (¬ (iv 10) ≤ x2 → (w56_wp (fun v1 v2 v3 v4 => ∀ z6 : Int32, z6 = x2 + 1 → (w55_L119 post k) x1 z6 v1 v2 v3 v4) x2 iv g_small g_pivots nv))
def w55_L106 (K4 : Int32 → Int32 → (Nat → Int32) → (Nat → Int32) → (Nat → Int32) → (Nat → px_NV) → Prop) (post : (Nat → Int32) → (Nat → Int32) → (Nat → Int32) → (Nat → px_NV) → Prop) (x1 : Int32) (x2 : Int32) (x3 : Int32) (iv : Nat → Int32) (g_small : Nat → Int32) (g_pivots : Nat → Int32) (nv : Nat → px_NV) : Prop := ∀ z7 : Int32, z7 = x2 + 1 → K4 x1 z7 iv g_small g_pivots nv
def w55_L90 (K4 : Int32 → Int32 → (Nat → Int32) → (Nat → Int32) → (Nat → Int32) → (Nat → px_NV) → Prop) (K57 : Int32 → Int32 → Int32 → Int32 → (Nat → Int32) → (Nat → Int32) → (Nat → Int32) → (Nat → px_NV) → Prop) (post : (Nat → Int32) → (Nat → Int32) → (Nat → Int32) → (Nat → px_NV) → Prop) (x1 : Int32) (x2 : Int32) (x3 : Int32) (x4 : Int32) (iv : Nat → Int32) (g_small : Nat → Int32) (g_pivots : Nat → Int32) (nv : Nat → px_NV) : Prop := ∀ z8 : Int32, z8 = x4 + 1 → K57 x1 x2 x3 z8 iv g_small g_pivots nv
def w55_L57 (K4 : Int32 → Int32 → (Nat → Int32) → (Nat → Int32) → (Nat → Int32) → (Nat → px_NV) → Prop) (post : (Nat → Int32) → (Nat → Int32) → (Nat → Int32) → (Nat → px_NV) → Prop) : Nat → Int32 → Int32 → Int32 → Int32 → (Nat → Int32) → (Nat → Int32) → (Nat → Int32) → (Nat → px_NV) → Prop
  | 0 => fun _ _ _ _ _ _ _ _ => False
  | k + 1 => fun x1 x2 x3 x4 iv g_small g_pivots nv => ((iv 10) ≤ x4 → vp_in x1 13 ∧ (∀ z9 : Int32, z9 = x1 + 1 → w55_L106 K4 post z9 x2 x3 iv g_small (upd g_pivots (Int32.toNatClampNeg x1) x2) nv)) ∧ (¬ (iv 10) ≤ x4 → (x4 = x1 → w55_L90 K4 (w55_L57 K4 post k) post x1 x2 x3 x4 iv g_small g_pivots nv) ∧ (¬ x4 = x1 → (w50_wp (fun r76 v10 v11 v12 => (¬ r76 = 0 → w55_L90 K4 (w55_L57 K4 post k) post x1 x2 x3 x4 v10 v11 g_pivots v12) ∧ (r76 = 0 → (w53_wp (fun v14 v15 v16 => w55_L90 K4 (w55_L57 K4 post k) post x1 x2 x3 x4 v14 v15 g_pivots v16) x4 x1 x2 v10 v11 v12))) x4 x2 iv g_small nv)))
def w55_L37 (K4 : Int32 → Int32 → (Nat → Int32) → (Nat → Int32) → (Nat → Int32) → (Nat → px_NV) → Prop) (post : (Nat → Int32) → (Nat → Int32) → (Nat → Int32) → (Nat → px_NV) → Prop) (x1 : Int32) (x2 : Int32) (x3 : Int32) (iv : Nat → Int32) (g_small : Nat → Int32) (g_pivots : Nat → Int32) (nv : Nat → px_NV) : Prop := (¬ x3 = (iv 10) → (w51_wp (fun v18 v19 v20 => ∃ j57, w55_L57 K4 post j57 x1 x2 x3 0 v18 v19 g_pivots v20) x3 x1 iv g_small nv)) ∧ (x3 = (iv 10) → w55_L106 K4 post x1 x2 x3 iv g_small g_pivots nv)
def w55_L14 (K4 : Int32 → Int32 → (Nat → Int32) → (Nat → Int32) → (Nat → Int32) → (Nat → px_NV) → Prop) (post : (Nat → Int32) → (Nat → Int32) → (Nat → Int32) → (Nat → px_NV) → Prop) : Nat → Int32 → Int32 → Int32 → (Nat → Int32) → (Nat → Int32) → (Nat → Int32) → (Nat → px_NV) → Prop
  | 0 => fun _ _ _ _ _ _ _ => False
  | k + 1 => fun x1 x2 x3 iv g_small g_pivots nv => ((iv 10) ≤ x3 → w55_L37 K4 post x1 x2 x3 iv g_small g_pivots nv) ∧ (¬ (iv 10) ≤ x3 → (w50_wp (fun r25 v22 v23 v24 => (r25 = 0 → w55_L37 K4 post x1 x2 x3 v22 v23 g_pivots v24) ∧ (¬ r25 = 0 → ∀ z26 : Int32, z26 = x3 + 1 → (w55_L14 K4 post k) x1 x2 z26 v22 v23 g_pivots v24)) x3 x2 iv g_small nv))
def w55_L4 (post : (Nat → Int32) → (Nat → Int32) → (Nat → Int32) → (Nat → px_NV) → Prop) : Nat → Int32 → Int32 → (Nat → Int32) → (Nat → Int32) → (Nat → Int32) → (Nat → px_NV) → Prop
  | 0 => fun _ _ _ _ _ _ => False
  | k + 1 => fun x1 x2 iv g_small g_pivots nv => ((iv 11) ≤ x2 → ∃ j119, w55_L119 post j119 x1 0 (va_up iv 10 x1) g_small g_pivots nv) ∧ (¬ (iv 11) ≤ x2 → ∃ j14, w55_L14 (w55_L4 post k) post j14 x1 x2 x1 iv g_small g_pivots nv)
def w55_wp (post : (Nat → Int32) → (Nat → Int32) → (Nat → Int32) → (Nat → px_NV) → Prop) (iv : Nat → Int32) (g_small : Nat → Int32) (g_pivots : Nat → Int32) (nv : Nat → px_NV) : Prop := ∃ j4, w55_L4 post j4 0 0 iv g_small g_pivots nv
set_option maxHeartbeats 8000000 in
set_option maxRecDepth 100000 in
theorem w55_met (l : Launch) (dC : Nat → ClassId) (dI : Nat → Nat → Nat) (sz : Nat) (h0 : Nat) (rf : Nat → Nat) (hh : Nat → Nat) (qq : Nat → Nat) (cN : ClassId) (c_work : ClassId) (c_small : ClassId) (c_pivots : ClassId) (iv : Nat → Int32) (g_small : Nat → Int32) (g_pivots : Nat → Int32) (nv : Nat → px_NV) (post : (Nat → Int32) → (Nat → Int32) → (Nat → Int32) → (Nat → px_NV) → Prop) (hw : w55_wp post iv g_small g_pivots nv) : Met l px_y55 px_s55 ({ frames := 6, cells := 0, slots := 0, locals := 150 }) (va_Pc [.ref h0] (fun U => U.heap.size = sz ∧ va_P (dC, dI) vwCl (([(h0, .inr (8, px_mf (px_rf hh rf) iv)), ((px_rf hh rf) 8, .inl (c_work, 156, .inr (.inr (.inr (.inr (fun k => some (hh k))))))), ((px_rf hh rf) 9, .inl (c_small, 156, .inl g_small)), ((px_rf hh rf) 13, .inl (c_pivots, 13, .inl g_pivots))] : va_W) ++ px_np hh qq cN nv) U.heap ∧ va_K (dC, dI) vwCl [(c_work, .object "MatroidDeskModel$Num"), (c_small, .int), (c_pivots, .int), (cN, .int)] U ∧ va_D (fun _ => True) (([(h0, .inr (8, px_mf (px_rf hh rf) iv)), ((px_rf hh rf) 8, .inl (c_work, 156, .inr (.inr (.inr (.inr (fun k => some (hh k))))))), ((px_rf hh rf) 9, .inl (c_small, 156, .inl g_small)), ((px_rf hh rf) 13, .inl (c_pivots, 13, .inl g_pivots))] : va_W) ++ px_np hh qq cN nv) ∧ px_N U)) (va_Qv (fun (u : (Nat → Int32) × (Nat → Int32) × (Nat → Int32) × (Nat → px_NV)) => post u.1 u.2.1 u.2.2.1 u.2.2.2) (fun (u : (Nat → Int32) × (Nat → Int32) × (Nat → Int32) × (Nat → px_NV)) (t : State) => va_P (dC, dI) vwCl (([(h0, .inr (8, px_mf (px_rf hh rf) u.1)), ((px_rf hh rf) 8, .inl (c_work, 156, .inr (.inr (.inr (.inr (fun k => some (hh k))))))), ((px_rf hh rf) 9, .inl (c_small, 156, .inl u.2.1)), ((px_rf hh rf) 13, .inl (c_pivots, 13, .inl u.2.2.1))] : va_W) ++ px_np hh qq cN u.2.2.2) t.heap ∧ va_K (dC, dI) vwCl [(c_work, .object "MatroidDeskModel$Num"), (c_small, .int), (c_pivots, .int), (cN, .int)] t ∧ va_D (va_A (([(h0, .inr (8, px_mf (px_rf hh rf) iv)), ((px_rf hh rf) 8, .inl (c_work, 156, .inr (.inr (.inr (.inr (fun k => some (hh k))))))), ((px_rf hh rf) 9, .inl (c_small, 156, .inl g_small)), ((px_rf hh rf) 13, .inl (c_pivots, 13, .inl g_pivots))] : va_W) ++ px_np hh qq cN nv) sz) (([(h0, .inr (8, px_mf (px_rf hh rf) u.1)), ((px_rf hh rf) 8, .inl (c_work, 156, .inr (.inr (.inr (.inr (fun k => some (hh k))))))), ((px_rf hh rf) 9, .inl (c_small, 156, .inl u.2.1)), ((px_rf hh rf) 13, .inl (c_pivots, 13, .inl u.2.2.1))] : va_W) ++ px_np hh qq cN u.2.2.2)) (va_A (([(h0, .inr (8, px_mf (px_rf hh rf) iv)), ((px_rf hh rf) 8, .inl (c_work, 156, .inr (.inr (.inr (.inr (fun k => some (hh k))))))), ((px_rf hh rf) 9, .inl (c_small, 156, .inl g_small)), ((px_rf hh rf) 13, .inl (c_pivots, 13, .inl g_pivots))] : va_W) ++ px_np hh qq cN nv) sz)) 0 0 (va_A (([(h0, .inr (8, px_mf (px_rf hh rf) iv)), ((px_rf hh rf) 8, .inl (c_work, 156, .inr (.inr (.inr (.inr (fun k => some (hh k))))))), ((px_rf hh rf) 9, .inl (c_small, 156, .inl g_small)), ((px_rf hh rf) 13, .inl (c_pivots, 13, .inl g_pivots))] : va_W) ++ px_np hh qq cN nv) sz) := by
  refine Met.ofW (cc := prog_15_method_10_code) (maxL := 5) (ret := none) (by decide) rfl ?_
  intro p e s m args below meth c s₁ B hml hv
  obtain ⟨rfl, hsz, hP, hK, hD0, hN⟩ := hv
  have hx := B.exec
  have hb := B.bytes
  have hr := B.returns
  have htw : ∀ w ∈ px_all, w.before _ s = true := fun w h => atoms_spec (ws := px_s55) B.pre w (List.mem_cons_of_mem _ h)
  have hown : s.vm.findClass "MatroidDeskModel" = some m.cls := findClass_of_methodNamed B.named
  have hlocks := B.notSynchronized
  subst hsz
  have hD := hD0.self (sz := s.heap.size)
  generalize hAe : va_A (([(h0, .inr (8, px_mf (px_rf hh rf) iv)), ((px_rf hh rf) 8, .inl (c_work, 156, .inr (.inr (.inr (.inr (fun k => some (hh k))))))), ((px_rf hh rf) 9, .inl (c_small, 156, .inl g_small)), ((px_rf hh rf) 13, .inl (c_pivots, 13, .inl g_pivots))] : va_W) ++ px_np hh qq cN nv) s.heap.size = A at hD ⊢
  have hA : ∀ q : Nat, s.heap.size ≤ q → A q := fun q h => by rw [← hAe]; exact Or.inr h
  have hS : va_S A s.heap s.heap [] := va_S.rf
  have hP : va_P (dC, dI) vwCl (([(h0, .inr (8, px_mf (px_rf hh rf) iv)), ((px_rf hh rf) 8, .inl (c_work, 156, .inr (.inr (.inr (.inr (fun k => some (hh k))))))), ((px_rf hh rf) 9, .inl (c_small, 156, .inl g_small)), ((px_rf hh rf) 13, .inl (c_pivots, 13, .inl g_pivots))] : va_W) ++ px_np hh qq cN nv) s.heap := hP
  have hl := lv_entry ([.ref h0]) (n := 5) (Nat.le_of_ble_eq_true rfl)
  rw [lg_entry_eq]
  generalize (lg_sl ([.ref h0]) ++ List.replicate (5 - (lg_sl ([.ref h0])).length) Slot.unset).toArray = ls at hl ⊢
  have hl : lv_has ls 5 [(0, .ref h0)] := hl
  generalize hQ : MQ _ _ _ _ _ _ _ = Q
  have S119 : ∀ (k119 : Nat) (x1 : Int32) (x2 : Int32) (iv : Nat → Int32) (g_small : Nat → Int32) (g_pivots : Nat → Int32) (nv : Nat → px_NV) (H : Heap) (locs : List Loc) (ls : Array Slot), va_P (dC, dI) vwCl (([(h0, .inr (8, px_mf (px_rf hh rf) iv)), ((px_rf hh rf) 8, .inl (c_work, 156, .inr (.inr (.inr (.inr (fun k => some (hh k))))))), ((px_rf hh rf) 9, .inl (c_small, 156, .inl g_small)), ((px_rf hh rf) 13, .inl (c_pivots, 13, .inl g_pivots))] : va_W) ++ px_np hh qq cN nv) H → va_D A (([(h0, .inr (8, px_mf (px_rf hh rf) iv)), ((px_rf hh rf) 8, .inl (c_work, 156, .inr (.inr (.inr (.inr (fun k => some (hh k))))))), ((px_rf hh rf) 9, .inl (c_small, 156, .inl g_small)), ((px_rf hh rf) 13, .inl (c_pivots, 13, .inl g_pivots))] : va_W) ++ px_np hh qq cN nv) → va_S A s.heap H locs → lv_has ls 5 [(0, .ref h0), (1, .int x1), (2, .int x2)] → w55_L119 post k119 x1 x2 iv g_small g_pivots nv → W p l e (headSpec px_s55 ({ frames := 6, cells := 0, slots := 0, locals := 150 })).room s m ([.ref h0]).toArray below meth c H locs 0 0 Q (F0 m 119 ls []) := by
    intro k119
    induction k119 with
    | zero => intro x1 x2 iv g_small g_pivots nv H locs ls hP hD hS hl hw; exact False.elim hw
    | succ k119 ih119 =>
      intro x1 x2 iv g_small g_pivots nv H locs ls hP hD hS hl hw
      unfold w55_L119 at hw
      refine lv_iload_n hx hb px_d55_119 rfl (lv_at hl 2 rfl) ?_
      refine lv_aload_n hx hb px_d55_120 rfl (lv_at hl 0 rfl) ?_
      refine va_get (D := (dC, dI)) (ci := 8) (v := .int (iv 10)) (C := "MatroidDeskModel") (T := px_T8) (N := 53) hx hb htw px_in8 hown hK hP 0 rfl rfl 10 (by decide) (htw _ px_w430) (fun _ h9 => h9) rfl px_d55_121 ?_
      refine lv_icmp_ge (tgt := 138) hx hb px_d55_124 (by decide) (fun c124 => ?_) (fun c124 => ?_)
      · have hw := hw.1 c124
        rw [← hQ]
        exact W.vret hx hb hr (fun t ht hW => ⟨⟨(iv, g_small, g_pivots, nv), rfl, hw, by rw [ht]; exact hP, va_K.moved hW.alike hK, hD⟩, hS.F ht⟩) hS.2.2 px_d55_138
      · have hw := hw.2 c124
        refine lv_aload_n hx hb px_d55_127 rfl (lv_at hl 0 rfl) ?_
        refine lv_iload_n hx hb px_d55_128 rfl (lv_at hl 2 rfl) ?_
        have hPc := hP.part (cx := [(h0, .inr (8, px_mf (px_rf hh rf) iv)), ((px_rf hh rf) 8, .inl (c_work, 156, .inr (.inr (.inr (.inr (fun k => some (hh k))))))), ((px_rf hh rf) 9, .inl (c_small, 156, .inl g_small)), ((px_rf hh rf) 13, .inl (c_pivots, 13, .inl g_pivots))]) [0, 1, 2, 3] rfl
        have hDc := hD.part (cx := [(h0, .inr (8, px_mf (px_rf hh rf) iv)), ((px_rf hh rf) 8, .inl (c_work, 156, .inr (.inr (.inr (.inr (fun k => some (hh k))))))), ((px_rf hh rf) 9, .inl (c_small, 156, .inl g_small)), ((px_rf hh rf) 13, .inl (c_pivots, 13, .inl g_pivots))]) [0, 1, 2, 3] (by decide) rfl
        have hFc := va_freeP (cx := [(h0, .inr (8, px_mf (px_rf hh rf) iv)), ((px_rf hh rf) 8, .inl (c_work, 156, .inr (.inr (.inr (.inr (fun k => some (hh k))))))), ((px_rf hh rf) 9, .inl (c_small, 156, .inl g_small)), ((px_rf hh rf) 13, .inl (c_pivots, 13, .inl g_pivots))]) hD hS hA [0, 1, 2, 3] rfl
        have hKc := hK.sub (tys' := [(c_work, .object "MatroidDeskModel$Num"), (c_small, .int), (c_pivots, .int), (cN, .int)]) [0, 1, 2, 3] rfl
        refine va_callv (va_runV (As := [.int x2]) (rest := []) ⟨hx, hb, hml, hown, htw⟩ (w56_met l dC dI H.size h0 rf hh qq cN c_work c_small c_pivots x2 iv g_small g_pivots nv _ hw) (cwV 1 htw (px_gv px_w470 px_w472 px_w473 px_w94 px_g56) rfl rfl rfl (by decide +kernel) ⟨Nat.le_of_ble_eq_true rfl, Nat.le_of_ble_eq_true rfl⟩) ⟨fun a U g mk q => by obtain ⟨q0, q1, qP, qK, qD, qN⟩ := q; exact ⟨q0, q1, qP, va_K.moved (u := U) (U := U.calling g mk a) (Vm.Alike.refl U.vm) qK, qD, qN.same rfl⟩, va_recv hK hP (ci := 8) (q0 := 0) rfl rfl, fun U hU hW => ⟨rfl, by rw [hU], by rw [hU]; exact hPc, va_K.moved hW.alike hKc, hDc.weaken (fun _ _ _ _ => trivial), hN.warm hW⟩⟩ rfl rfl hl.1 rfl (lv_room (Nat.le_of_ble_eq_true rfl)) px_d55_129 ⟨(Nat.le_of_ble_eq_true rfl), (Nat.le_of_ble_eq_true rfl)⟩) hS (fun q _ h => hFc q h) hFc (fun u t H1 locs ht hvm hw hB hz1 hk1 hS => ?_)
        obtain ⟨v1, v2, v3, v4⟩ := u
        obtain ⟨hP1, hK1, hD1⟩ := hB
        rw [ht] at hP1
        obtain ⟨hP, hD⟩ := va_joinP (wr := []) (rx := [(h0, .inr (8, px_mf (px_rf hh rf) v1)), ((px_rf hh rf) 8, .inl (c_work, 156, .inr (.inr (.inr (.inr (fun k => some (hh k))))))), ((px_rf hh rf) 9, .inl (c_small, 156, .inl v2)), ((px_rf hh rf) 13, .inl (c_pivots, 13, .inl v3))]) hP hD [0, 1, 2, 3] [] rfl rfl (by decide) (by decide) hk1 hFc hP1 hD1
        generalize H1 = H at hP hS ⊢
        have hP : va_P (dC, dI) vwCl (([(h0, .inr (8, px_mf (px_rf hh rf) v1)), ((px_rf hh rf) 8, .inl (c_work, 156, .inr (.inr (.inr (.inr (fun k => some (hh k))))))), ((px_rf hh rf) 9, .inl (c_small, 156, .inl v2)), ((px_rf hh rf) 13, .inl (c_pivots, 13, .inl v3))] : va_W) ++ px_np hh qq cN v4) H := hP
        have hD : va_D A (([(h0, .inr (8, px_mf (px_rf hh rf) v1)), ((px_rf hh rf) 8, .inl (c_work, 156, .inr (.inr (.inr (.inr (fun k => some (hh k))))))), ((px_rf hh rf) 9, .inl (c_small, 156, .inl v2)), ((px_rf hh rf) 13, .inl (c_pivots, 13, .inl v3))] : va_W) ++ px_np hh qq cN v4) := hD
        obtain ⟨z6, ez6⟩ : ∃ y : Int32, y = x2 + 1 := ⟨_, rfl⟩
        have hw := hw z6 ez6
        refine lv_iinc (v := z6) (lv' := [(2, .int z6), (0, .ref h0), (1, .int x1)]) hx hb px_d55_132 hl (k := 2) rfl (by rw [ez6]; rfl) (by decide) rfl (fun ls hl => ?_)
        refine lv_goto (tgt := 119) hx hb px_d55_135 (by decide) ?_
        exact ih119 x1 z6 v1 v2 v3 v4 H locs ls hP hD hS (lv_sub hl [1, 2, 0] rfl) hw
  have S4 : ∀ (k4 : Nat) (x1 : Int32) (x2 : Int32) (iv : Nat → Int32) (g_small : Nat → Int32) (g_pivots : Nat → Int32) (nv : Nat → px_NV) (H : Heap) (locs : List Loc) (ls : Array Slot), va_P (dC, dI) vwCl (([(h0, .inr (8, px_mf (px_rf hh rf) iv)), ((px_rf hh rf) 8, .inl (c_work, 156, .inr (.inr (.inr (.inr (fun k => some (hh k))))))), ((px_rf hh rf) 9, .inl (c_small, 156, .inl g_small)), ((px_rf hh rf) 13, .inl (c_pivots, 13, .inl g_pivots))] : va_W) ++ px_np hh qq cN nv) H → va_D A (([(h0, .inr (8, px_mf (px_rf hh rf) iv)), ((px_rf hh rf) 8, .inl (c_work, 156, .inr (.inr (.inr (.inr (fun k => some (hh k))))))), ((px_rf hh rf) 9, .inl (c_small, 156, .inl g_small)), ((px_rf hh rf) 13, .inl (c_pivots, 13, .inl g_pivots))] : va_W) ++ px_np hh qq cN nv) → va_S A s.heap H locs → lv_has ls 5 [(0, .ref h0), (1, .int x1), (2, .int x2)] → w55_L4 post k4 x1 x2 iv g_small g_pivots nv → W p l e (headSpec px_s55 ({ frames := 6, cells := 0, slots := 0, locals := 150 })).room s m ([.ref h0]).toArray below meth c H locs 0 0 Q (F0 m 4 ls []) := by
    intro k4
    induction k4 with
    | zero => intro x1 x2 iv g_small g_pivots nv H locs ls hP hD hS hl hw; exact False.elim hw
    | succ k4 ih4 =>
      have S106 : ∀ (x1 : Int32) (x2 : Int32) (x3 : Int32) (iv : Nat → Int32) (g_small : Nat → Int32) (g_pivots : Nat → Int32) (nv : Nat → px_NV) (H : Heap) (locs : List Loc) (ls : Array Slot), va_P (dC, dI) vwCl (([(h0, .inr (8, px_mf (px_rf hh rf) iv)), ((px_rf hh rf) 8, .inl (c_work, 156, .inr (.inr (.inr (.inr (fun k => some (hh k))))))), ((px_rf hh rf) 9, .inl (c_small, 156, .inl g_small)), ((px_rf hh rf) 13, .inl (c_pivots, 13, .inl g_pivots))] : va_W) ++ px_np hh qq cN nv) H → va_D A (([(h0, .inr (8, px_mf (px_rf hh rf) iv)), ((px_rf hh rf) 8, .inl (c_work, 156, .inr (.inr (.inr (.inr (fun k => some (hh k))))))), ((px_rf hh rf) 9, .inl (c_small, 156, .inl g_small)), ((px_rf hh rf) 13, .inl (c_pivots, 13, .inl g_pivots))] : va_W) ++ px_np hh qq cN nv) → va_S A s.heap H locs → lv_has ls 5 [(0, .ref h0), (1, .int x1), (2, .int x2), (3, .int x3)] → w55_L106 (w55_L4 post k4) post x1 x2 x3 iv g_small g_pivots nv → W p l e (headSpec px_s55 ({ frames := 6, cells := 0, slots := 0, locals := 150 })).room s m ([.ref h0]).toArray below meth c H locs 0 0 Q (F0 m 106 ls []) := by
        intro x1 x2 x3 iv g_small g_pivots nv H locs ls hP hD hS hl hw
        unfold w55_L106 at hw
        obtain ⟨z7, ez7⟩ : ∃ y : Int32, y = x2 + 1 := ⟨_, rfl⟩
        have hw := hw z7 ez7
        refine lv_iinc (v := z7) (lv' := [(2, .int z7), (0, .ref h0), (1, .int x1), (3, .int x3)]) hx hb px_d55_106 hl (k := 2) rfl (by rw [ez7]; rfl) (by decide) rfl (fun ls hl => ?_)
        refine lv_goto (tgt := 4) hx hb px_d55_109 (by decide) ?_
        exact ih4 x1 z7 iv g_small g_pivots nv H locs ls hP hD hS (lv_sub hl [1, 2, 0] rfl) hw
      have S57 : ∀ (k57 : Nat) (x1 : Int32) (x2 : Int32) (x3 : Int32) (x4 : Int32) (iv : Nat → Int32) (g_small : Nat → Int32) (g_pivots : Nat → Int32) (nv : Nat → px_NV) (H : Heap) (locs : List Loc) (ls : Array Slot), va_P (dC, dI) vwCl (([(h0, .inr (8, px_mf (px_rf hh rf) iv)), ((px_rf hh rf) 8, .inl (c_work, 156, .inr (.inr (.inr (.inr (fun k => some (hh k))))))), ((px_rf hh rf) 9, .inl (c_small, 156, .inl g_small)), ((px_rf hh rf) 13, .inl (c_pivots, 13, .inl g_pivots))] : va_W) ++ px_np hh qq cN nv) H → va_D A (([(h0, .inr (8, px_mf (px_rf hh rf) iv)), ((px_rf hh rf) 8, .inl (c_work, 156, .inr (.inr (.inr (.inr (fun k => some (hh k))))))), ((px_rf hh rf) 9, .inl (c_small, 156, .inl g_small)), ((px_rf hh rf) 13, .inl (c_pivots, 13, .inl g_pivots))] : va_W) ++ px_np hh qq cN nv) → va_S A s.heap H locs → lv_has ls 5 [(0, .ref h0), (1, .int x1), (2, .int x2), (3, .int x3), (4, .int x4)] → w55_L57 (w55_L4 post k4) post k57 x1 x2 x3 x4 iv g_small g_pivots nv → W p l e (headSpec px_s55 ({ frames := 6, cells := 0, slots := 0, locals := 150 })).room s m ([.ref h0]).toArray below meth c H locs 0 0 Q (F0 m 57 ls []) := by
        intro k57
        induction k57 with
        | zero => intro x1 x2 x3 x4 iv g_small g_pivots nv H locs ls hP hD hS hl hw; exact False.elim hw
        | succ k57 ih57 =>
          have S90 : ∀ (x1 : Int32) (x2 : Int32) (x3 : Int32) (x4 : Int32) (iv : Nat → Int32) (g_small : Nat → Int32) (g_pivots : Nat → Int32) (nv : Nat → px_NV) (H : Heap) (locs : List Loc) (ls : Array Slot), va_P (dC, dI) vwCl (([(h0, .inr (8, px_mf (px_rf hh rf) iv)), ((px_rf hh rf) 8, .inl (c_work, 156, .inr (.inr (.inr (.inr (fun k => some (hh k))))))), ((px_rf hh rf) 9, .inl (c_small, 156, .inl g_small)), ((px_rf hh rf) 13, .inl (c_pivots, 13, .inl g_pivots))] : va_W) ++ px_np hh qq cN nv) H → va_D A (([(h0, .inr (8, px_mf (px_rf hh rf) iv)), ((px_rf hh rf) 8, .inl (c_work, 156, .inr (.inr (.inr (.inr (fun k => some (hh k))))))), ((px_rf hh rf) 9, .inl (c_small, 156, .inl g_small)), ((px_rf hh rf) 13, .inl (c_pivots, 13, .inl g_pivots))] : va_W) ++ px_np hh qq cN nv) → va_S A s.heap H locs → lv_has ls 5 [(0, .ref h0), (1, .int x1), (2, .int x2), (3, .int x3), (4, .int x4)] → w55_L90 (w55_L4 post k4) (w55_L57 (w55_L4 post k4) post k57) post x1 x2 x3 x4 iv g_small g_pivots nv → W p l e (headSpec px_s55 ({ frames := 6, cells := 0, slots := 0, locals := 150 })).room s m ([.ref h0]).toArray below meth c H locs 0 0 Q (F0 m 90 ls []) := by
            intro x1 x2 x3 x4 iv g_small g_pivots nv H locs ls hP hD hS hl hw
            unfold w55_L90 at hw
            obtain ⟨z8, ez8⟩ : ∃ y : Int32, y = x4 + 1 := ⟨_, rfl⟩
            have hw := hw z8 ez8
            refine lv_iinc (v := z8) (lv' := [(4, .int z8), (0, .ref h0), (1, .int x1), (2, .int x2), (3, .int x3)]) hx hb px_d55_90 hl (k := 4) rfl (by rw [ez8]; rfl) (by decide) rfl (fun ls hl => ?_)
            refine lv_goto (tgt := 57) hx hb px_d55_93 (by decide) ?_
            exact ih57 x1 x2 x3 z8 iv g_small g_pivots nv H locs ls hP hD hS (lv_sub hl [1, 2, 3, 4, 0] rfl) hw
          intro x1 x2 x3 x4 iv g_small g_pivots nv H locs ls hP hD hS hl hw
          unfold w55_L57 at hw
          refine lv_iload hx hb px_d55_57 (lv_at hl 4 rfl) ?_
          refine lv_aload_n hx hb px_d55_59 rfl (lv_at hl 0 rfl) ?_
          refine va_get (D := (dC, dI)) (ci := 8) (v := .int (iv 10)) (C := "MatroidDeskModel") (T := px_T8) (N := 53) hx hb htw px_in8 hown hK hP 0 rfl rfl 10 (by decide) (htw _ px_w430) (fun _ h9 => h9) rfl px_d55_60 ?_
          refine lv_icmp_ge (tgt := 96) hx hb px_d55_63 (by decide) (fun c63 => ?_) (fun c63 => ?_)
          · have hw := hw.1 c63
            refine lv_aload_n hx hb px_d55_96 rfl (lv_at hl 0 rfl) ?_
            refine va_get (D := (dC, dI)) (ci := 8) (v := .ref ((px_rf hh rf) 13)) (C := "MatroidDeskModel") (T := px_T8) (N := 53) hx hb htw px_in8 hown hK hP 0 rfl rfl 13 (by decide) (htw _ px_w469) (fun _ h9 => h9) rfl px_d55_97 ?_
            refine lv_iload_n hx hb px_d55_100 rfl (lv_at hl 1 rfl) ?_
            refine lv_iload_n hx hb px_d55_101 rfl (lv_at hl 2 rfl) ?_
            obtain ⟨hi102, hw⟩ := hw
            refine va_iast hx hb hK hP hD hS 3 2 rfl rfl hi102 px_d55_102 (fun H locs hP hD hS => ?_)
            have hP : va_P (dC, dI) vwCl (([(h0, .inr (8, px_mf (px_rf hh rf) iv)), ((px_rf hh rf) 8, .inl (c_work, 156, .inr (.inr (.inr (.inr (fun k => some (hh k))))))), ((px_rf hh rf) 9, .inl (c_small, 156, .inl g_small)), ((px_rf hh rf) 13, .inl (c_pivots, 13, .inl (upd g_pivots (Int32.toNatClampNeg x1) x2)))] : va_W) ++ px_np hh qq cN nv) H := hP
            have hD : va_D A (([(h0, .inr (8, px_mf (px_rf hh rf) iv)), ((px_rf hh rf) 8, .inl (c_work, 156, .inr (.inr (.inr (.inr (fun k => some (hh k))))))), ((px_rf hh rf) 9, .inl (c_small, 156, .inl g_small)), ((px_rf hh rf) 13, .inl (c_pivots, 13, .inl (upd g_pivots (Int32.toNatClampNeg x1) x2)))] : va_W) ++ px_np hh qq cN nv) := hD
            obtain ⟨z9, ez9⟩ : ∃ y : Int32, y = x1 + 1 := ⟨_, rfl⟩
            have hw := hw z9 ez9
            refine lv_iinc (v := z9) (lv' := [(1, .int z9), (0, .ref h0), (2, .int x2), (3, .int x3), (4, .int x4)]) hx hb px_d55_103 hl (k := 1) rfl (by rw [ez9]; rfl) (by decide) rfl (fun ls hl => ?_)
            exact S106 z9 x2 x3 iv g_small (upd g_pivots (Int32.toNatClampNeg x1) x2) nv H locs ls hP hD hS (lv_sub hl [1, 0, 2, 3] rfl) hw
          · have hw := hw.2 c63
            refine lv_iload hx hb px_d55_66 (lv_at hl 4 rfl) ?_
            refine lv_iload_n hx hb px_d55_68 rfl (lv_at hl 1 rfl) ?_
            refine lv_icmp_eq (tgt := 90) hx hb px_d55_69 (by decide) (fun c69 => ?_) (fun c69 => ?_)
            · have hw := hw.1 c69
              exact S90 x1 x2 x3 x4 iv g_small g_pivots nv H locs ls hP hD hS (lv_sub hl [0, 1, 2, 3, 4] rfl) hw
            · have hw := hw.2 c69
              refine lv_aload_n hx hb px_d55_72 rfl (lv_at hl 0 rfl) ?_
              refine lv_iload hx hb px_d55_73 (lv_at hl 4 rfl) ?_
              refine lv_iload_n hx hb px_d55_75 rfl (lv_at hl 2 rfl) ?_
              have hPc := hP.part (cx := [(h0, .inr (8, px_mf (px_rf hh rf) iv)), ((px_rf hh rf) 8, .inl (c_work, 156, .inr (.inr (.inr (.inr (fun k => some (hh k))))))), ((px_rf hh rf) 9, .inl (c_small, 156, .inl g_small))]) [0, 1, 2] rfl
              have hDc := hD.part (cx := [(h0, .inr (8, px_mf (px_rf hh rf) iv)), ((px_rf hh rf) 8, .inl (c_work, 156, .inr (.inr (.inr (.inr (fun k => some (hh k))))))), ((px_rf hh rf) 9, .inl (c_small, 156, .inl g_small))]) [0, 1, 2] (by decide) rfl
              have hFc := va_freeP (cx := [(h0, .inr (8, px_mf (px_rf hh rf) iv)), ((px_rf hh rf) 8, .inl (c_work, 156, .inr (.inr (.inr (.inr (fun k => some (hh k))))))), ((px_rf hh rf) 9, .inl (c_small, 156, .inl g_small))]) hD hS hA [0, 1, 2] rfl
              have hKc := hK.sub (tys' := [(c_work, .object "MatroidDeskModel$Num"), (c_small, .int), (cN, .int)]) [0, 1, 3] rfl
              refine va_calli (va_runV (As := [.int x4, .int x2]) (rest := []) ⟨hx, hb, hml, hown, htw⟩ (w50_met l dC dI H.size h0 rf hh qq cN c_work c_small x4 x2 iv g_small nv _ hw) (cwV 2 htw (px_gv px_w466 px_w438 px_w439 px_w94 px_g50) rfl rfl rfl (by decide +kernel) ⟨Nat.le_of_ble_eq_true rfl, Nat.le_of_ble_eq_true rfl⟩) ⟨fun a U g mk q => by obtain ⟨q0, q1, qP, qK, qD, qN⟩ := q; exact ⟨q0, q1, qP, va_K.moved (u := U) (U := U.calling g mk a) (Vm.Alike.refl U.vm) qK, qD, qN.same rfl⟩, va_recv hK hP (ci := 8) (q0 := 0) rfl rfl, fun U hU hW => ⟨rfl, by rw [hU], by rw [hU]; exact hPc, va_K.moved hW.alike hKc, hDc.weaken (fun _ _ _ _ => trivial), hN.warm hW⟩⟩ rfl rfl hl.1 rfl (lv_room (Nat.le_of_ble_eq_true rfl)) px_d55_76 ⟨(Nat.le_of_ble_eq_true rfl), (Nat.le_of_ble_eq_true rfl)⟩) hS (fun q _ h => hFc q h) hFc (fun r76 u t H1 locs ht hvm hw hB hz1 hk1 hS => ?_)
              obtain ⟨v10, v11, v12⟩ := u
              obtain ⟨hP1, hK1, hD1⟩ := hB
              rw [ht] at hP1
              obtain ⟨hP, hD⟩ := va_joinP (wr := [((px_rf hh rf) 13, .inl (c_pivots, 13, .inl g_pivots))]) (rx := [(h0, .inr (8, px_mf (px_rf hh rf) v10)), ((px_rf hh rf) 8, .inl (c_work, 156, .inr (.inr (.inr (.inr (fun k => some (hh k))))))), ((px_rf hh rf) 9, .inl (c_small, 156, .inl v11))]) hP hD [0, 1, 2] [3] rfl rfl (by decide) (by decide) hk1 hFc hP1 hD1
              generalize H1 = H at hP hS ⊢
              have hP : va_P (dC, dI) vwCl (([((px_rf hh rf) 13, .inl (c_pivots, 13, .inl g_pivots)), (h0, .inr (8, px_mf (px_rf hh rf) v10)), ((px_rf hh rf) 8, .inl (c_work, 156, .inr (.inr (.inr (.inr (fun k => some (hh k))))))), ((px_rf hh rf) 9, .inl (c_small, 156, .inl v11))] : va_W) ++ px_np hh qq cN v12) H := hP
              have hD : va_D A (([((px_rf hh rf) 13, .inl (c_pivots, 13, .inl g_pivots)), (h0, .inr (8, px_mf (px_rf hh rf) v10)), ((px_rf hh rf) 8, .inl (c_work, 156, .inr (.inr (.inr (.inr (fun k => some (hh k))))))), ((px_rf hh rf) 9, .inl (c_small, 156, .inl v11))] : va_W) ++ px_np hh qq cN v12) := hD
              have hP := hP.part (cx := [(h0, .inr (8, px_mf (px_rf hh rf) v10)), ((px_rf hh rf) 8, .inl (c_work, 156, .inr (.inr (.inr (.inr (fun k => some (hh k))))))), ((px_rf hh rf) 9, .inl (c_small, 156, .inl v11)), ((px_rf hh rf) 13, .inl (c_pivots, 13, .inl g_pivots))]) [1, 2, 3, 0] rfl
              have hD := hD.part (cx := [(h0, .inr (8, px_mf (px_rf hh rf) v10)), ((px_rf hh rf) 8, .inl (c_work, 156, .inr (.inr (.inr (.inr (fun k => some (hh k))))))), ((px_rf hh rf) 9, .inl (c_small, 156, .inl v11)), ((px_rf hh rf) 13, .inl (c_pivots, 13, .inl g_pivots))]) [1, 2, 3, 0] (by decide) rfl
              refine lv_if_ne (tgt := 90) hx hb px_d55_79 (by decide) (fun c79 => ?_) (fun c79 => ?_)
              · have hw := hw.1 c79
                exact S90 x1 x2 x3 x4 v10 v11 g_pivots v12 H locs ls hP hD hS (lv_sub hl [0, 1, 2, 3, 4] rfl) hw
              · have hw := hw.2 c79
                refine lv_aload_n hx hb px_d55_82 rfl (lv_at hl 0 rfl) ?_
                refine lv_iload hx hb px_d55_83 (lv_at hl 4 rfl) ?_
                refine lv_iload_n hx hb px_d55_85 rfl (lv_at hl 1 rfl) ?_
                refine lv_iload_n hx hb px_d55_86 rfl (lv_at hl 2 rfl) ?_
                have hPc := hP.part (cx := [(h0, .inr (8, px_mf (px_rf hh rf) v10)), ((px_rf hh rf) 8, .inl (c_work, 156, .inr (.inr (.inr (.inr (fun k => some (hh k))))))), ((px_rf hh rf) 9, .inl (c_small, 156, .inl v11))]) [0, 1, 2] rfl
                have hDc := hD.part (cx := [(h0, .inr (8, px_mf (px_rf hh rf) v10)), ((px_rf hh rf) 8, .inl (c_work, 156, .inr (.inr (.inr (.inr (fun k => some (hh k))))))), ((px_rf hh rf) 9, .inl (c_small, 156, .inl v11))]) [0, 1, 2] (by decide) rfl
                have hFc := va_freeP (cx := [(h0, .inr (8, px_mf (px_rf hh rf) v10)), ((px_rf hh rf) 8, .inl (c_work, 156, .inr (.inr (.inr (.inr (fun k => some (hh k))))))), ((px_rf hh rf) 9, .inl (c_small, 156, .inl v11))]) hD hS hA [0, 1, 2] rfl
                have hKc := hK.sub (tys' := [(c_work, .object "MatroidDeskModel$Num"), (c_small, .int), (cN, .int)]) [0, 1, 3] rfl
                refine va_callv (va_runV (As := [.int x4, .int x1, .int x2]) (rest := []) ⟨hx, hb, hml, hown, htw⟩ (w53_met l dC dI H.size h0 rf hh qq cN c_work c_small x4 x1 x2 v10 v11 v12 _ hw) (cwV 3 htw (px_gv px_w468 px_w448 px_w449 px_w94 px_g53) rfl rfl rfl (by decide +kernel) ⟨Nat.le_of_ble_eq_true rfl, Nat.le_of_ble_eq_true rfl⟩) ⟨fun a U g mk q => by obtain ⟨q0, q1, qP, qK, qD, qN⟩ := q; exact ⟨q0, q1, qP, va_K.moved (u := U) (U := U.calling g mk a) (Vm.Alike.refl U.vm) qK, qD, qN.same rfl⟩, va_recv hK hP (ci := 8) (q0 := 0) rfl rfl, fun U hU hW => ⟨rfl, by rw [hU], by rw [hU]; exact hPc, va_K.moved hW.alike hKc, hDc.weaken (fun _ _ _ _ => trivial), hN.warm hW⟩⟩ rfl rfl hl.1 rfl (lv_room (Nat.le_of_ble_eq_true rfl)) px_d55_87 ⟨(Nat.le_of_ble_eq_true rfl), (Nat.le_of_ble_eq_true rfl)⟩) hS (fun q _ h => hFc q h) hFc (fun u t H1 locs ht hvm hw hB hz1 hk1 hS => ?_)
                obtain ⟨v14, v15, v16⟩ := u
                obtain ⟨hP1, hK1, hD1⟩ := hB
                rw [ht] at hP1
                obtain ⟨hP, hD⟩ := va_joinP (wr := [((px_rf hh rf) 13, .inl (c_pivots, 13, .inl g_pivots))]) (rx := [(h0, .inr (8, px_mf (px_rf hh rf) v14)), ((px_rf hh rf) 8, .inl (c_work, 156, .inr (.inr (.inr (.inr (fun k => some (hh k))))))), ((px_rf hh rf) 9, .inl (c_small, 156, .inl v15))]) hP hD [0, 1, 2] [3] rfl rfl (by decide) (by decide) hk1 hFc hP1 hD1
                generalize H1 = H at hP hS ⊢
                have hP : va_P (dC, dI) vwCl (([((px_rf hh rf) 13, .inl (c_pivots, 13, .inl g_pivots)), (h0, .inr (8, px_mf (px_rf hh rf) v14)), ((px_rf hh rf) 8, .inl (c_work, 156, .inr (.inr (.inr (.inr (fun k => some (hh k))))))), ((px_rf hh rf) 9, .inl (c_small, 156, .inl v15))] : va_W) ++ px_np hh qq cN v16) H := hP
                have hD : va_D A (([((px_rf hh rf) 13, .inl (c_pivots, 13, .inl g_pivots)), (h0, .inr (8, px_mf (px_rf hh rf) v14)), ((px_rf hh rf) 8, .inl (c_work, 156, .inr (.inr (.inr (.inr (fun k => some (hh k))))))), ((px_rf hh rf) 9, .inl (c_small, 156, .inl v15))] : va_W) ++ px_np hh qq cN v16) := hD
                have hP := hP.part (cx := [(h0, .inr (8, px_mf (px_rf hh rf) v14)), ((px_rf hh rf) 8, .inl (c_work, 156, .inr (.inr (.inr (.inr (fun k => some (hh k))))))), ((px_rf hh rf) 9, .inl (c_small, 156, .inl v15)), ((px_rf hh rf) 13, .inl (c_pivots, 13, .inl g_pivots))]) [1, 2, 3, 0] rfl
                have hD := hD.part (cx := [(h0, .inr (8, px_mf (px_rf hh rf) v14)), ((px_rf hh rf) 8, .inl (c_work, 156, .inr (.inr (.inr (.inr (fun k => some (hh k))))))), ((px_rf hh rf) 9, .inl (c_small, 156, .inl v15)), ((px_rf hh rf) 13, .inl (c_pivots, 13, .inl g_pivots))]) [1, 2, 3, 0] (by decide) rfl
                exact S90 x1 x2 x3 x4 v14 v15 g_pivots v16 H locs ls hP hD hS (lv_sub hl [0, 1, 2, 3, 4] rfl) hw
      have S37 : ∀ (x1 : Int32) (x2 : Int32) (x3 : Int32) (iv : Nat → Int32) (g_small : Nat → Int32) (g_pivots : Nat → Int32) (nv : Nat → px_NV) (H : Heap) (locs : List Loc) (ls : Array Slot), va_P (dC, dI) vwCl (([(h0, .inr (8, px_mf (px_rf hh rf) iv)), ((px_rf hh rf) 8, .inl (c_work, 156, .inr (.inr (.inr (.inr (fun k => some (hh k))))))), ((px_rf hh rf) 9, .inl (c_small, 156, .inl g_small)), ((px_rf hh rf) 13, .inl (c_pivots, 13, .inl g_pivots))] : va_W) ++ px_np hh qq cN nv) H → va_D A (([(h0, .inr (8, px_mf (px_rf hh rf) iv)), ((px_rf hh rf) 8, .inl (c_work, 156, .inr (.inr (.inr (.inr (fun k => some (hh k))))))), ((px_rf hh rf) 9, .inl (c_small, 156, .inl g_small)), ((px_rf hh rf) 13, .inl (c_pivots, 13, .inl g_pivots))] : va_W) ++ px_np hh qq cN nv) → va_S A s.heap H locs → lv_has ls 5 [(0, .ref h0), (1, .int x1), (2, .int x2), (3, .int x3)] → w55_L37 (w55_L4 post k4) post x1 x2 x3 iv g_small g_pivots nv → W p l e (headSpec px_s55 ({ frames := 6, cells := 0, slots := 0, locals := 150 })).room s m ([.ref h0]).toArray below meth c H locs 0 0 Q (F0 m 37 ls []) := by
        intro x1 x2 x3 iv g_small g_pivots nv H locs ls hP hD hS hl hw
        unfold w55_L37 at hw
        refine lv_iload_n hx hb px_d55_37 rfl (lv_at hl 3 rfl) ?_
        refine lv_aload_n hx hb px_d55_38 rfl (lv_at hl 0 rfl) ?_
        refine va_get (D := (dC, dI)) (ci := 8) (v := .int (iv 10)) (C := "MatroidDeskModel") (T := px_T8) (N := 53) hx hb htw px_in8 hown hK hP 0 rfl rfl 10 (by decide) (htw _ px_w430) (fun _ h9 => h9) rfl px_d55_39 ?_
        refine lv_icmp_ne (tgt := 48) hx hb px_d55_42 (by decide) (fun c42 => ?_) (fun c42 => ?_)
        · have hw := hw.1 c42
          refine lv_aload_n hx hb px_d55_48 rfl (lv_at hl 0 rfl) ?_
          refine lv_iload_n hx hb px_d55_49 rfl (lv_at hl 3 rfl) ?_
          refine lv_iload_n hx hb px_d55_50 rfl (lv_at hl 1 rfl) ?_
          have hPc := hP.part (cx := [(h0, .inr (8, px_mf (px_rf hh rf) iv)), ((px_rf hh rf) 8, .inl (c_work, 156, .inr (.inr (.inr (.inr (fun k => some (hh k))))))), ((px_rf hh rf) 9, .inl (c_small, 156, .inl g_small))]) [0, 1, 2] rfl
          have hDc := hD.part (cx := [(h0, .inr (8, px_mf (px_rf hh rf) iv)), ((px_rf hh rf) 8, .inl (c_work, 156, .inr (.inr (.inr (.inr (fun k => some (hh k))))))), ((px_rf hh rf) 9, .inl (c_small, 156, .inl g_small))]) [0, 1, 2] (by decide) rfl
          have hFc := va_freeP (cx := [(h0, .inr (8, px_mf (px_rf hh rf) iv)), ((px_rf hh rf) 8, .inl (c_work, 156, .inr (.inr (.inr (.inr (fun k => some (hh k))))))), ((px_rf hh rf) 9, .inl (c_small, 156, .inl g_small))]) hD hS hA [0, 1, 2] rfl
          have hKc := hK.sub (tys' := [(c_work, .object "MatroidDeskModel$Num"), (c_small, .int), (cN, .int)]) [0, 1, 3] rfl
          refine va_callv (va_runV (As := [.int x3, .int x1]) (rest := []) ⟨hx, hb, hml, hown, htw⟩ (w51_met l dC dI H.size h0 rf hh qq cN c_work c_small x3 x1 iv g_small nv _ hw) (cwV 2 htw (px_gv px_w467 px_w441 px_w442 px_w94 px_g51) rfl rfl rfl (by decide +kernel) ⟨Nat.le_of_ble_eq_true rfl, Nat.le_of_ble_eq_true rfl⟩) ⟨fun a U g mk q => by obtain ⟨q0, q1, qP, qK, qD, qN⟩ := q; exact ⟨q0, q1, qP, va_K.moved (u := U) (U := U.calling g mk a) (Vm.Alike.refl U.vm) qK, qD, qN.same rfl⟩, va_recv hK hP (ci := 8) (q0 := 0) rfl rfl, fun U hU hW => ⟨rfl, by rw [hU], by rw [hU]; exact hPc, va_K.moved hW.alike hKc, hDc.weaken (fun _ _ _ _ => trivial), hN.warm hW⟩⟩ rfl rfl hl.1 rfl (lv_room (Nat.le_of_ble_eq_true rfl)) px_d55_51 ⟨(Nat.le_of_ble_eq_true rfl), (Nat.le_of_ble_eq_true rfl)⟩) hS (fun q _ h => hFc q h) hFc (fun u t H1 locs ht hvm hw hB hz1 hk1 hS => ?_)
          obtain ⟨v18, v19, v20⟩ := u
          obtain ⟨hP1, hK1, hD1⟩ := hB
          rw [ht] at hP1
          obtain ⟨hP, hD⟩ := va_joinP (wr := [((px_rf hh rf) 13, .inl (c_pivots, 13, .inl g_pivots))]) (rx := [(h0, .inr (8, px_mf (px_rf hh rf) v18)), ((px_rf hh rf) 8, .inl (c_work, 156, .inr (.inr (.inr (.inr (fun k => some (hh k))))))), ((px_rf hh rf) 9, .inl (c_small, 156, .inl v19))]) hP hD [0, 1, 2] [3] rfl rfl (by decide) (by decide) hk1 hFc hP1 hD1
          generalize H1 = H at hP hS ⊢
          have hP : va_P (dC, dI) vwCl (([((px_rf hh rf) 13, .inl (c_pivots, 13, .inl g_pivots)), (h0, .inr (8, px_mf (px_rf hh rf) v18)), ((px_rf hh rf) 8, .inl (c_work, 156, .inr (.inr (.inr (.inr (fun k => some (hh k))))))), ((px_rf hh rf) 9, .inl (c_small, 156, .inl v19))] : va_W) ++ px_np hh qq cN v20) H := hP
          have hD : va_D A (([((px_rf hh rf) 13, .inl (c_pivots, 13, .inl g_pivots)), (h0, .inr (8, px_mf (px_rf hh rf) v18)), ((px_rf hh rf) 8, .inl (c_work, 156, .inr (.inr (.inr (.inr (fun k => some (hh k))))))), ((px_rf hh rf) 9, .inl (c_small, 156, .inl v19))] : va_W) ++ px_np hh qq cN v20) := hD
          have hP := hP.part (cx := [(h0, .inr (8, px_mf (px_rf hh rf) v18)), ((px_rf hh rf) 8, .inl (c_work, 156, .inr (.inr (.inr (.inr (fun k => some (hh k))))))), ((px_rf hh rf) 9, .inl (c_small, 156, .inl v19)), ((px_rf hh rf) 13, .inl (c_pivots, 13, .inl g_pivots))]) [1, 2, 3, 0] rfl
          have hD := hD.part (cx := [(h0, .inr (8, px_mf (px_rf hh rf) v18)), ((px_rf hh rf) 8, .inl (c_work, 156, .inr (.inr (.inr (.inr (fun k => some (hh k))))))), ((px_rf hh rf) 9, .inl (c_small, 156, .inl v19)), ((px_rf hh rf) 13, .inl (c_pivots, 13, .inl g_pivots))]) [1, 2, 3, 0] (by decide) rfl
          refine lv_iconst (v := 0) hx hb px_d55_54 (by decide) ?_
          refine lv_istore (lv' := [(4, .int 0), (0, .ref h0), (1, .int x1), (2, .int x2), (3, .int x3)]) hx hb px_d55_55 hl (by decide) rfl (fun ls hl => ?_)
          obtain ⟨k9, hw⟩ := hw
          exact S57 k9 x1 x2 x3 0 v18 v19 g_pivots v20 H locs ls hP hD hS (lv_sub hl [1, 2, 3, 4, 0] rfl) hw
        · have hw := hw.2 c42
          refine lv_goto (tgt := 106) hx hb px_d55_45 (by decide) ?_
          exact S106 x1 x2 x3 iv g_small g_pivots nv H locs ls hP hD hS (lv_sub hl [0, 1, 2, 3] rfl) hw
      have S14 : ∀ (k14 : Nat) (x1 : Int32) (x2 : Int32) (x3 : Int32) (iv : Nat → Int32) (g_small : Nat → Int32) (g_pivots : Nat → Int32) (nv : Nat → px_NV) (H : Heap) (locs : List Loc) (ls : Array Slot), va_P (dC, dI) vwCl (([(h0, .inr (8, px_mf (px_rf hh rf) iv)), ((px_rf hh rf) 8, .inl (c_work, 156, .inr (.inr (.inr (.inr (fun k => some (hh k))))))), ((px_rf hh rf) 9, .inl (c_small, 156, .inl g_small)), ((px_rf hh rf) 13, .inl (c_pivots, 13, .inl g_pivots))] : va_W) ++ px_np hh qq cN nv) H → va_D A (([(h0, .inr (8, px_mf (px_rf hh rf) iv)), ((px_rf hh rf) 8, .inl (c_work, 156, .inr (.inr (.inr (.inr (fun k => some (hh k))))))), ((px_rf hh rf) 9, .inl (c_small, 156, .inl g_small)), ((px_rf hh rf) 13, .inl (c_pivots, 13, .inl g_pivots))] : va_W) ++ px_np hh qq cN nv) → va_S A s.heap H locs → lv_has ls 5 [(0, .ref h0), (1, .int x1), (2, .int x2), (3, .int x3)] → w55_L14 (w55_L4 post k4) post k14 x1 x2 x3 iv g_small g_pivots nv → W p l e (headSpec px_s55 ({ frames := 6, cells := 0, slots := 0, locals := 150 })).room s m ([.ref h0]).toArray below meth c H locs 0 0 Q (F0 m 14 ls []) := by
        intro k14
        induction k14 with
        | zero => intro x1 x2 x3 iv g_small g_pivots nv H locs ls hP hD hS hl hw; exact False.elim hw
        | succ k14 ih14 =>
          intro x1 x2 x3 iv g_small g_pivots nv H locs ls hP hD hS hl hw
          unfold w55_L14 at hw
          refine lv_iload_n hx hb px_d55_14 rfl (lv_at hl 3 rfl) ?_
          refine lv_aload_n hx hb px_d55_15 rfl (lv_at hl 0 rfl) ?_
          refine va_get (D := (dC, dI)) (ci := 8) (v := .int (iv 10)) (C := "MatroidDeskModel") (T := px_T8) (N := 53) hx hb htw px_in8 hown hK hP 0 rfl rfl 10 (by decide) (htw _ px_w430) (fun _ h9 => h9) rfl px_d55_16 ?_
          refine lv_icmp_ge (tgt := 37) hx hb px_d55_19 (by decide) (fun c19 => ?_) (fun c19 => ?_)
          · have hw := hw.1 c19
            exact S37 x1 x2 x3 iv g_small g_pivots nv H locs ls hP hD hS (lv_sub hl [0, 1, 2, 3] rfl) hw
          · have hw := hw.2 c19
            refine lv_aload_n hx hb px_d55_22 rfl (lv_at hl 0 rfl) ?_
            refine lv_iload_n hx hb px_d55_23 rfl (lv_at hl 3 rfl) ?_
            refine lv_iload_n hx hb px_d55_24 rfl (lv_at hl 2 rfl) ?_
            have hPc := hP.part (cx := [(h0, .inr (8, px_mf (px_rf hh rf) iv)), ((px_rf hh rf) 8, .inl (c_work, 156, .inr (.inr (.inr (.inr (fun k => some (hh k))))))), ((px_rf hh rf) 9, .inl (c_small, 156, .inl g_small))]) [0, 1, 2] rfl
            have hDc := hD.part (cx := [(h0, .inr (8, px_mf (px_rf hh rf) iv)), ((px_rf hh rf) 8, .inl (c_work, 156, .inr (.inr (.inr (.inr (fun k => some (hh k))))))), ((px_rf hh rf) 9, .inl (c_small, 156, .inl g_small))]) [0, 1, 2] (by decide) rfl
            have hFc := va_freeP (cx := [(h0, .inr (8, px_mf (px_rf hh rf) iv)), ((px_rf hh rf) 8, .inl (c_work, 156, .inr (.inr (.inr (.inr (fun k => some (hh k))))))), ((px_rf hh rf) 9, .inl (c_small, 156, .inl g_small))]) hD hS hA [0, 1, 2] rfl
            have hKc := hK.sub (tys' := [(c_work, .object "MatroidDeskModel$Num"), (c_small, .int), (cN, .int)]) [0, 1, 3] rfl
            refine va_calli (va_runV (As := [.int x3, .int x2]) (rest := []) ⟨hx, hb, hml, hown, htw⟩ (w50_met l dC dI H.size h0 rf hh qq cN c_work c_small x3 x2 iv g_small nv _ hw) (cwV 2 htw (px_gv px_w466 px_w438 px_w439 px_w94 px_g50) rfl rfl rfl (by decide +kernel) ⟨Nat.le_of_ble_eq_true rfl, Nat.le_of_ble_eq_true rfl⟩) ⟨fun a U g mk q => by obtain ⟨q0, q1, qP, qK, qD, qN⟩ := q; exact ⟨q0, q1, qP, va_K.moved (u := U) (U := U.calling g mk a) (Vm.Alike.refl U.vm) qK, qD, qN.same rfl⟩, va_recv hK hP (ci := 8) (q0 := 0) rfl rfl, fun U hU hW => ⟨rfl, by rw [hU], by rw [hU]; exact hPc, va_K.moved hW.alike hKc, hDc.weaken (fun _ _ _ _ => trivial), hN.warm hW⟩⟩ rfl rfl hl.1 rfl (lv_room (Nat.le_of_ble_eq_true rfl)) px_d55_25 ⟨(Nat.le_of_ble_eq_true rfl), (Nat.le_of_ble_eq_true rfl)⟩) hS (fun q _ h => hFc q h) hFc (fun r25 u t H1 locs ht hvm hw hB hz1 hk1 hS => ?_)
            obtain ⟨v22, v23, v24⟩ := u
            obtain ⟨hP1, hK1, hD1⟩ := hB
            rw [ht] at hP1
            obtain ⟨hP, hD⟩ := va_joinP (wr := [((px_rf hh rf) 13, .inl (c_pivots, 13, .inl g_pivots))]) (rx := [(h0, .inr (8, px_mf (px_rf hh rf) v22)), ((px_rf hh rf) 8, .inl (c_work, 156, .inr (.inr (.inr (.inr (fun k => some (hh k))))))), ((px_rf hh rf) 9, .inl (c_small, 156, .inl v23))]) hP hD [0, 1, 2] [3] rfl rfl (by decide) (by decide) hk1 hFc hP1 hD1
            generalize H1 = H at hP hS ⊢
            have hP : va_P (dC, dI) vwCl (([((px_rf hh rf) 13, .inl (c_pivots, 13, .inl g_pivots)), (h0, .inr (8, px_mf (px_rf hh rf) v22)), ((px_rf hh rf) 8, .inl (c_work, 156, .inr (.inr (.inr (.inr (fun k => some (hh k))))))), ((px_rf hh rf) 9, .inl (c_small, 156, .inl v23))] : va_W) ++ px_np hh qq cN v24) H := hP
            have hD : va_D A (([((px_rf hh rf) 13, .inl (c_pivots, 13, .inl g_pivots)), (h0, .inr (8, px_mf (px_rf hh rf) v22)), ((px_rf hh rf) 8, .inl (c_work, 156, .inr (.inr (.inr (.inr (fun k => some (hh k))))))), ((px_rf hh rf) 9, .inl (c_small, 156, .inl v23))] : va_W) ++ px_np hh qq cN v24) := hD
            have hP := hP.part (cx := [(h0, .inr (8, px_mf (px_rf hh rf) v22)), ((px_rf hh rf) 8, .inl (c_work, 156, .inr (.inr (.inr (.inr (fun k => some (hh k))))))), ((px_rf hh rf) 9, .inl (c_small, 156, .inl v23)), ((px_rf hh rf) 13, .inl (c_pivots, 13, .inl g_pivots))]) [1, 2, 3, 0] rfl
            have hD := hD.part (cx := [(h0, .inr (8, px_mf (px_rf hh rf) v22)), ((px_rf hh rf) 8, .inl (c_work, 156, .inr (.inr (.inr (.inr (fun k => some (hh k))))))), ((px_rf hh rf) 9, .inl (c_small, 156, .inl v23)), ((px_rf hh rf) 13, .inl (c_pivots, 13, .inl g_pivots))]) [1, 2, 3, 0] (by decide) rfl
            refine lv_if_eq (tgt := 37) hx hb px_d55_28 (by decide) (fun c28 => ?_) (fun c28 => ?_)
            · have hw := hw.1 c28
              exact S37 x1 x2 x3 v22 v23 g_pivots v24 H locs ls hP hD hS (lv_sub hl [0, 1, 2, 3] rfl) hw
            · have hw := hw.2 c28
              obtain ⟨z26, ez26⟩ : ∃ y : Int32, y = x3 + 1 := ⟨_, rfl⟩
              have hw := hw z26 ez26
              refine lv_iinc (v := z26) (lv' := [(3, .int z26), (0, .ref h0), (1, .int x1), (2, .int x2)]) hx hb px_d55_31 hl (k := 3) rfl (by rw [ez26]; rfl) (by decide) rfl (fun ls hl => ?_)
              refine lv_goto (tgt := 14) hx hb px_d55_34 (by decide) ?_
              exact ih14 x1 x2 z26 v22 v23 g_pivots v24 H locs ls hP hD hS (lv_sub hl [1, 2, 3, 0] rfl) hw
      intro x1 x2 iv g_small g_pivots nv H locs ls hP hD hS hl hw
      unfold w55_L4 at hw
      refine lv_iload_n hx hb px_d55_4 rfl (lv_at hl 2 rfl) ?_
      refine lv_aload_n hx hb px_d55_5 rfl (lv_at hl 0 rfl) ?_
      refine va_get (D := (dC, dI)) (ci := 8) (v := .int (iv 11)) (C := "MatroidDeskModel") (T := px_T8) (N := 53) hx hb htw px_in8 hown hK hP 0 rfl rfl 11 (by decide) (htw _ px_w429) (fun _ h9 => h9) rfl px_d55_6 ?_
      refine lv_icmp_ge (tgt := 112) hx hb px_d55_9 (by decide) (fun c9 => ?_) (fun c9 => ?_)
      · have hw := hw.1 c9
        refine lv_aload_n hx hb px_d55_112 rfl (lv_at hl 0 rfl) ?_
        refine lv_iload_n hx hb px_d55_113 rfl (lv_at hl 1 rfl) ?_
        refine va_put (D := (dC, dI)) (ci := 8) (v := .int x1) (ty := .int) (C := "MatroidDeskModel") (T := px_T8) (N := 53) hx hb htw px_in8 px_ty8 px_tyok8 px_nm8 hown hK hP hD hS 0 rfl rfl 10 (by decide) (htw _ px_w430) (fun _ h9 => h9) rfl (by decide +kernel) rfl rfl (Nat.le_of_ble_eq_true rfl) px_d55_114 (fun H locs hP hD hS => ?_)
        rw [px_ms10] at hP hD
        have hP : va_P (dC, dI) vwCl (([(h0, .inr (8, px_mf (px_rf hh rf) (va_up iv 10 x1))), ((px_rf hh rf) 8, .inl (c_work, 156, .inr (.inr (.inr (.inr (fun k => some (hh k))))))), ((px_rf hh rf) 9, .inl (c_small, 156, .inl g_small)), ((px_rf hh rf) 13, .inl (c_pivots, 13, .inl g_pivots))] : va_W) ++ px_np hh qq cN nv) H := hP
        have hD : va_D A (([(h0, .inr (8, px_mf (px_rf hh rf) (va_up iv 10 x1))), ((px_rf hh rf) 8, .inl (c_work, 156, .inr (.inr (.inr (.inr (fun k => some (hh k))))))), ((px_rf hh rf) 9, .inl (c_small, 156, .inl g_small)), ((px_rf hh rf) 13, .inl (c_pivots, 13, .inl g_pivots))] : va_W) ++ px_np hh qq cN nv) := hD
        refine lv_iconst (v := 0) hx hb px_d55_117 (by decide) ?_
        refine lv_istore_n (lv' := [(2, .int 0), (0, .ref h0), (1, .int x1)]) hx hb px_d55_118 rfl hl (by decide) rfl (fun ls hl => ?_)
        obtain ⟨k9, hw⟩ := hw
        exact S119 k9 x1 0 (va_up iv 10 x1) g_small g_pivots nv H locs ls hP hD hS (lv_sub hl [1, 2, 0] rfl) hw
      · have hw := hw.2 c9
        refine lv_iload_n hx hb px_d55_12 rfl (lv_at hl 1 rfl) ?_
        refine lv_istore_n (lv' := [(3, .int x1), (0, .ref h0), (1, .int x1), (2, .int x2)]) hx hb px_d55_13 rfl hl (by decide) rfl (fun ls hl => ?_)
        obtain ⟨k9, hw⟩ := hw
        exact S14 k9 x1 x2 x1 iv g_small g_pivots nv H locs ls hP hD hS (lv_sub hl [1, 2, 3, 0] rfl) hw
  unfold w55_wp at hw
  have hS0 := hS
  obtain ⟨H, hH9⟩ : ∃ z, z = s.heap := ⟨_, rfl⟩
  have hP : va_P (dC, dI) vwCl (([(h0, .inr (8, px_mf (px_rf hh rf) iv)), ((px_rf hh rf) 8, .inl (c_work, 156, .inr (.inr (.inr (.inr (fun k => some (hh k))))))), ((px_rf hh rf) 9, .inl (c_small, 156, .inl g_small)), ((px_rf hh rf) 13, .inl (c_pivots, 13, .inl g_pivots))] : va_W) ++ px_np hh qq cN nv) H := by rw [hH9]; exact hP
  obtain ⟨locs, hlo9⟩ : ∃ z : List Loc, z = [] := ⟨_, rfl⟩
  have hS : va_S A s.heap H locs := by rw [hH9, hlo9]; exact hS
  suffices hG : W p l e (headSpec px_s55 ({ frames := 6, cells := 0, slots := 0, locals := 150 })).room s m ([.ref h0]).toArray below meth c H locs 0 0 Q (F0 m 0 ls []) by rw [hH9, hlo9] at hG; exact hG
  refine lv_iconst (v := 0) hx hb px_d55_0 (by decide) ?_
  refine lv_istore_n (lv' := [(1, .int 0), (0, .ref h0)]) hx hb px_d55_1 rfl hl (by decide) rfl (fun ls hl => ?_)
  refine lv_iconst (v := 0) hx hb px_d55_2 (by decide) ?_
  refine lv_istore_n (lv' := [(2, .int 0), (1, .int 0), (0, .ref h0)]) hx hb px_d55_3 rfl hl (by decide) rfl (fun ls hl => ?_)
  obtain ⟨k9, hw⟩ := hw
  exact S4 k9 0 0 iv g_small g_pivots nv H locs ls hP hD hS (lv_sub hl [2, 1, 0] rfl) hw

