/-! MatroidDesk$Product.setLine(I)V -/
def w277_L47 (K10 : Int32 → Int32 → Int32 → Nat → Nat → Int32 → Int32 → (Nat → Int32) → (Nat → Int32) → Nat → Nat → Prop) (mc : Nat) (ms : Nat) (post : Nat → Nat → Int32 → Int32 → (Nat → Int32) → (Nat → Int32) → Prop) (x1 : Int32) (x2 : Int32) (x3 : Int32) (q_b : Nat) (l_b : Nat) (p_length : Int32) (p_full : Int32) (g_b : Nat → Int32) (g_d : Nat → Int32) (kc : Nat) (ks : Nat) : Prop := ∀ z1 : Int32, z1 = x3 + 1 → K10 x1 x2 z1 q_b l_b p_length p_full g_b g_d kc ks
def w277_L36 (K10 : Int32 → Int32 → Int32 → Nat → Nat → Int32 → Int32 → (Nat → Int32) → (Nat → Int32) → Nat → Nat → Prop) (mc : Nat) (ms : Nat) (post : Nat → Nat → Int32 → Int32 → (Nat → Int32) → (Nat → Int32) → Prop) (x1 : Int32) (x2 : Int32) (x3 : Int32) (y0 : Nat) (q_b : Nat) (l_b : Nat) (p_length : Int32) (p_full : Int32) (g_b : Nat → Int32) (g_d : Nat → Int32) (kc : Nat) (ks : Nat) : Prop := ∃ m36_8 s36_8 : Nat, kc + m36_8 ≤ mc ∧ ks + s36_8 ≤ ms ∧ (w278_wp m36_8 s36_8 y0 (fun v2 v3 v4 v5 v6 v7 => ∃ m42_16 s42_16 : Nat, kc + m36_8 + m42_16 ≤ mc ∧ ks + s36_8 + s42_16 ≤ ms ∧ (w269_wp m42_16 s42_16 (fun v10 v11 v12 v13 v14 v15 => w277_L47 K10 mc ms post x1 0 x3 v10 v11 v12 v13 v14 v15 (kc + m36_8 + m42_16) (ks + s36_8 + s42_16)) x3.toInt64 v2 v3 v4 v5 v6 v7)) q_b l_b p_length p_full g_b g_d)
def w277_L10 (mc : Nat) (ms : Nat) (post : Nat → Nat → Int32 → Int32 → (Nat → Int32) → (Nat → Int32) → Prop) : Nat → Int32 → Int32 → Int32 → Nat → Nat → Int32 → Int32 → (Nat → Int32) → (Nat → Int32) → Nat → Nat → Prop
  | 0 => fun _ _ _ _ _ _ _ _ _ _ _ => False
  | k + 1 => fun x1 x2 x3 q_b l_b p_length p_full g_b g_d kc ks => (12 ≤ x3 → ∃ m56_24 s56_24 : Nat, kc + m56_24 ≤ mc ∧ ks + s56_24 ≤ ms ∧ (w278_wp m56_24 s56_24 3 (fun v18 v19 v20 v21 v22 v23 => post v18 v19 v20 v21 v22 v23) q_b l_b p_length p_full g_b g_d)) ∧ (¬ 12 ≤ x3 → (((x1 >>> (x3 &&& 31)) &&& 1) = 0 → w277_L47 (w277_L10 mc ms post k) mc ms post x1 x2 x3 q_b l_b p_length p_full g_b g_d kc ks) ∧ (¬ ((x1 >>> (x3 &&& 31)) &&& 1) = 0 → (x2 = 0 → w277_L36 (w277_L10 mc ms post k) mc ms post x1 x2 x3 2 q_b l_b p_length p_full g_b g_d kc ks) ∧ (¬ x2 = 0 → w277_L36 (w277_L10 mc ms post k) mc ms post x1 x2 x3 1 q_b l_b p_length p_full g_b g_d kc ks)))
def w277_wp (mc : Nat) (ms : Nat) (post : Nat → Nat → Int32 → Int32 → (Nat → Int32) → (Nat → Int32) → Prop) (a1x : Int32) (q_b : Nat) (l_b : Nat) (p_length : Int32) (p_full : Int32) (g_b : Nat → Int32) (g_d : Nat → Int32) : Prop := ∃ m3_32 s3_32 : Nat, 0 + m3_32 ≤ mc ∧ 0 + s3_32 ≤ ms ∧ (w270_wp m3_32 s3_32 (fun v26 v27 v28 v29 v30 v31 => ∃ j10, w277_L10 mc ms post j10 a1x 1 0 v26 v27 v28 v29 v30 v31 (0 + m3_32) (0 + s3_32)) 123 q_b l_b p_length p_full g_b g_d)
set_option maxHeartbeats 8000000 in
set_option maxRecDepth 100000 in
theorem w277_met (l : Launch) (dC : Nat → ClassId) (dI : Nat → Nat → Nat) (sz : Nat) (adK : Nat → Nat) (adV : Nat → Nat) (bo : Option Nat) (adB : Nat → Nat) (tA : Nat) (tS : Nat) (hp : Nat) (q_d : Nat) (c_b : ClassId) (mc : Nat) (ms : Nat) (a1x : Int32) (q_b : Nat) (l_b : Nat) (p_length : Int32) (p_full : Int32) (g_b : Nat → Int32) (g_d : Nat → Int32) (post : Nat → Nat → Int32 → Int32 → (Nat → Int32) → (Nat → Int32) → Prop) (hw : w277_wp mc ms post a1x q_b l_b p_length p_full g_b g_d) : Met l px_y277 px_s277 ({ frames := 5, cells := mc, slots := ms, locals := 107 }) (va_Pc [.ref hp, .int a1x] (fun U => U.heap.size = sz ∧ va_P (dC, dI) vwCl [(hp, .inr (7, [.ref q_b, .ref q_d, .int p_length, .int p_full])), (q_b, .inl (c_b, l_b, .inl g_b)), (q_d, .inl (c_b, 48, .inl g_d))] U.heap ∧ va_K (dC, dI) vwCl [(c_b, .byte)] U ∧ va_D (fun _ => True) [(hp, .inr (7, [.ref q_b, .ref q_d, .int p_length, .int p_full])), (q_b, .inl (c_b, l_b, .inl g_b)), (q_d, .inl (c_b, 48, .inl g_d))] ∧ px_N U ∧ px_E adK adV bo adB tA tS (va_A [(hp, .inr (7, [.ref q_b, .ref q_d, .int p_length, .int p_full])), (q_b, .inl (c_b, l_b, .inl g_b)), (q_d, .inl (c_b, 48, .inl g_d))] sz) U U.heap)) (va_Qv (fun (u : Nat × Nat × Int32 × Int32 × (Nat → Int32) × (Nat → Int32)) => post u.1 u.2.1 u.2.2.1 u.2.2.2.1 u.2.2.2.2.1 u.2.2.2.2.2) (fun (u : Nat × Nat × Int32 × Int32 × (Nat → Int32) × (Nat → Int32)) (t : State) => va_P (dC, dI) vwCl [(hp, .inr (7, [.ref u.1, .ref q_d, .int u.2.2.1, .int u.2.2.2.1])), (u.1, .inl (c_b, u.2.1, .inl u.2.2.2.2.1)), (q_d, .inl (c_b, 48, .inl u.2.2.2.2.2))] t.heap ∧ va_K (dC, dI) vwCl [(c_b, .byte)] t ∧ va_D (va_A [(hp, .inr (7, [.ref q_b, .ref q_d, .int p_length, .int p_full])), (q_b, .inl (c_b, l_b, .inl g_b)), (q_d, .inl (c_b, 48, .inl g_d))] sz) [(hp, .inr (7, [.ref u.1, .ref q_d, .int u.2.2.1, .int u.2.2.2.1])), (u.1, .inl (c_b, u.2.1, .inl u.2.2.2.2.1)), (q_d, .inl (c_b, 48, .inl u.2.2.2.2.2))]) (va_A [(hp, .inr (7, [.ref q_b, .ref q_d, .int p_length, .int p_full])), (q_b, .inl (c_b, l_b, .inl g_b)), (q_d, .inl (c_b, 48, .inl g_d))] sz)) mc ms (va_A [(hp, .inr (7, [.ref q_b, .ref q_d, .int p_length, .int p_full])), (q_b, .inl (c_b, l_b, .inl g_b)), (q_d, .inl (c_b, 48, .inl g_d))] sz) := by
  refine Met.ofW (cc := prog_7_method_8_code) (maxL := 4) (ret := none) (by decide) rfl ?_
  intro p e s m args below meth c s₁ B hml hv
  obtain ⟨rfl, hsz, hP, hK, hD0, hN, hE0⟩ := hv
  have hx := B.exec
  have hb := B.bytes
  have hr := B.returns
  have htw : ∀ w ∈ px_all, w.before _ s = true := fun w h => atoms_spec (ws := px_s277) B.pre w (List.mem_cons_of_mem _ h)
  have hown : s.vm.findClass "MatroidDesk$Product" = some m.cls := findClass_of_methodNamed B.named
  have hlocks := B.notSynchronized
  subst hsz
  have hD := hD0.self (sz := s.heap.size)
  generalize hAe : va_A [(hp, .inr (7, [.ref q_b, .ref q_d, .int p_length, .int p_full])), (q_b, .inl (c_b, l_b, .inl g_b)), (q_d, .inl (c_b, 48, .inl g_d))] s.heap.size = A at hD hE0 ⊢
  have hA : ∀ q : Nat, s.heap.size ≤ q → A q := fun q h => by rw [← hAe]; exact Or.inr h
  have hS : va_S A s.heap s.heap [] := va_S.rf
  have hP : va_P (dC, dI) vwCl [(hp, .inr (7, [.ref q_b, .ref q_d, .int p_length, .int p_full])), (q_b, .inl (c_b, l_b, .inl g_b)), (q_d, .inl (c_b, 48, .inl g_d))] s.heap := hP
  have hl := lv_entry ([.ref hp, .int a1x]) (n := 4) (Nat.le_of_ble_eq_true rfl)
  rw [lg_entry_eq]
  generalize (lg_sl ([.ref hp, .int a1x]) ++ List.replicate (4 - (lg_sl ([.ref hp, .int a1x])).length) Slot.unset).toArray = ls at hl ⊢
  have hl : lv_has ls 4 [(0, .ref hp), (1, .int a1x)] := hl
  generalize hQ : MQ _ _ _ _ _ _ _ = Q
  have S10 : ∀ (k10 : Nat) (x1 : Int32) (x2 : Int32) (x3 : Int32) (q_b : Nat) (l_b : Nat) (p_length : Int32) (p_full : Int32) (g_b : Nat → Int32) (g_d : Nat → Int32) (kc : Nat) (ks : Nat) (H : Heap) (locs : List Loc) (ls : Array Slot), kc ≤ mc → ks ≤ ms → va_P (dC, dI) vwCl [(hp, .inr (7, [.ref q_b, .ref q_d, .int p_length, .int p_full])), (q_b, .inl (c_b, l_b, .inl g_b)), (q_d, .inl (c_b, 48, .inl g_d))] H → va_D A [(hp, .inr (7, [.ref q_b, .ref q_d, .int p_length, .int p_full])), (q_b, .inl (c_b, l_b, .inl g_b)), (q_d, .inl (c_b, 48, .inl g_d))] → va_S A s.heap H locs → lv_has ls 4 [(0, .ref hp), (1, .int x1), (2, .int x2), (3, .int x3)] → w277_L10 mc ms post k10 x1 x2 x3 q_b l_b p_length p_full g_b g_d kc ks → W p l e (headSpec px_s277 ({ frames := 5, cells := mc, slots := ms, locals := 107 })).room s m ([.ref hp, .int a1x]).toArray below meth c H locs kc ks Q (F0 m 10 ls []) := by
    intro k10
    induction k10 with
    | zero => intro x1 x2 x3 q_b l_b p_length p_full g_b g_d kc ks H locs ls hkc hks hP hD hS hl hw; exact False.elim hw
    | succ k10 ih10 =>
      have S47 : ∀ (x1 : Int32) (x2 : Int32) (x3 : Int32) (q_b : Nat) (l_b : Nat) (p_length : Int32) (p_full : Int32) (g_b : Nat → Int32) (g_d : Nat → Int32) (kc : Nat) (ks : Nat) (H : Heap) (locs : List Loc) (ls : Array Slot), kc ≤ mc → ks ≤ ms → va_P (dC, dI) vwCl [(hp, .inr (7, [.ref q_b, .ref q_d, .int p_length, .int p_full])), (q_b, .inl (c_b, l_b, .inl g_b)), (q_d, .inl (c_b, 48, .inl g_d))] H → va_D A [(hp, .inr (7, [.ref q_b, .ref q_d, .int p_length, .int p_full])), (q_b, .inl (c_b, l_b, .inl g_b)), (q_d, .inl (c_b, 48, .inl g_d))] → va_S A s.heap H locs → lv_has ls 4 [(0, .ref hp), (1, .int x1), (2, .int x2), (3, .int x3)] → w277_L47 (w277_L10 mc ms post k10) mc ms post x1 x2 x3 q_b l_b p_length p_full g_b g_d kc ks → W p l e (headSpec px_s277 ({ frames := 5, cells := mc, slots := ms, locals := 107 })).room s m ([.ref hp, .int a1x]).toArray below meth c H locs kc ks Q (F0 m 47 ls []) := by
        intro x1 x2 x3 q_b l_b p_length p_full g_b g_d kc ks H locs ls hkc hks hP hD hS hl hw
        unfold w277_L47 at hw
        obtain ⟨z1, ez1⟩ : ∃ y : Int32, y = x3 + 1 := ⟨_, rfl⟩
        have hw := hw z1 ez1
        refine lv_iinc (v := z1) (lv' := [(3, .int z1), (0, .ref hp), (1, .int x1), (2, .int x2)]) hx hb px_d277_47 hl (k := 3) rfl (by rw [ez1]; rfl) (by decide) rfl (fun ls hl => ?_)
        refine lv_goto (tgt := 10) hx hb px_d277_50 (by decide) ?_
        exact ih10 x1 x2 z1 q_b l_b p_length p_full g_b g_d kc ks H locs ls hkc hks hP hD hS (lv_sub hl [1, 2, 3, 0] rfl) hw
      have S36 : ∀ (x1 : Int32) (x2 : Int32) (x3 : Int32) (y0 : Nat) (q_b : Nat) (l_b : Nat) (p_length : Int32) (p_full : Int32) (g_b : Nat → Int32) (g_d : Nat → Int32) (kc : Nat) (ks : Nat) (H : Heap) (locs : List Loc) (ls : Array Slot), kc ≤ mc → ks ≤ ms → va_P (dC, dI) vwCl [(hp, .inr (7, [.ref q_b, .ref q_d, .int p_length, .int p_full])), (q_b, .inl (c_b, l_b, .inl g_b)), (q_d, .inl (c_b, 48, .inl g_d))] H → va_D A [(hp, .inr (7, [.ref q_b, .ref q_d, .int p_length, .int p_full])), (q_b, .inl (c_b, l_b, .inl g_b)), (q_d, .inl (c_b, 48, .inl g_d))] → va_S A s.heap H locs → lv_has ls 4 [(0, .ref hp), (1, .int x1), (2, .int x2), (3, .int x3)] → w277_L36 (w277_L10 mc ms post k10) mc ms post x1 x2 x3 y0 q_b l_b p_length p_full g_b g_d kc ks → W p l e (headSpec px_s277 ({ frames := 5, cells := mc, slots := ms, locals := 107 })).room s m ([.ref hp, .int a1x]).toArray below meth c H locs kc ks Q (F0 m 36 ls [.ref (adK y0), .ref hp]) := by
        intro x1 x2 x3 y0 q_b l_b p_length p_full g_b g_d kc ks H locs ls hkc hks hP hD hS hl hw
        unfold w277_L36 at hw
        obtain ⟨m36_8, s36_8, hm36_8, hs36_8, hw⟩ := hw
        have hPc := hP.sub (ws' := [(hp, .inr (7, [.ref q_b, .ref q_d, .int p_length, .int p_full])), (q_b, .inl (c_b, l_b, .inl g_b)), (q_d, .inl (c_b, 48, .inl g_d))]) [0, 1, 2] rfl
        have hDc := hD.sub (ws' := [(hp, .inr (7, [.ref q_b, .ref q_d, .int p_length, .int p_full])), (q_b, .inl (c_b, l_b, .inl g_b)), (q_d, .inl (c_b, 48, .inl g_d))]) [0, 1, 2] (by decide) rfl
        have hFc := va_free (wc := [(hp, .inr (7, [.ref q_b, .ref q_d, .int p_length, .int p_full])), (q_b, .inl (c_b, l_b, .inl g_b)), (q_d, .inl (c_b, 48, .inl g_d))]) hD hS hA [0, 1, 2] rfl
        have hKc := hK.sub (tys' := [(c_b, .byte)]) [0] rfl
        refine va_callv (va_runV (As := [.ref (adK y0)]) (rest := []) ⟨hx, hb, hml, hown, htw⟩ (w278_met l dC dI H.size adK adV bo adB tA tS hp q_d c_b m36_8 s36_8 y0 q_b l_b p_length p_full g_b g_d _ hw) (cwV 1 htw (px_gv px_w1409 px_w1412 px_w1413 px_w88 px_g278) rfl rfl rfl (by decide +kernel) ⟨Nat.le_of_ble_eq_true rfl, Nat.le_of_ble_eq_true rfl⟩) ⟨fun a U g mk q => by obtain ⟨q0, q1, qP, qK, qD, qN, qE0⟩ := q; exact ⟨q0, q1, qP, va_K.moved (u := U) (U := U.calling g mk a) (Vm.Alike.refl U.vm) qK, qD, qN.same rfl, qE0.same rfl⟩, va_recv hK hP (ci := 7) (q0 := 0) rfl rfl, fun U hU hW => ⟨rfl, by rw [hU], by rw [hU]; exact hPc, va_K.moved hW.alike hKc, hDc.weaken (fun _ _ _ _ => trivial), hN.warm hW, by rw [hU]; exact hE0.go hS hFc hW⟩⟩ rfl rfl hl.1 rfl (lv_room (Nat.le_of_ble_eq_true rfl)) px_d277_36 ⟨hm36_8, hs36_8⟩) hS (fun q _ h => hFc q h) hFc (fun u t H1 locs ht hvm hw hB hz1 hk1 hS => ?_)
        obtain ⟨v2, v3, v4, v5, v6, v7⟩ := u
        obtain ⟨hP1, hK1, hD1⟩ := hB
        rw [ht] at hP1
        obtain ⟨hP, hD⟩ := va_join (wr := []) (w1 := [(hp, .inr (7, [.ref v2, .ref q_d, .int v4, .int v5])), (v2, .inl (c_b, v3, .inl v6)), (q_d, .inl (c_b, 48, .inl v7))]) hP hD [0, 1, 2] [] rfl rfl (by decide) (by decide) hk1 hFc hP1 hD1
        generalize H1 = H at hP hS ⊢
        have hP : va_P (dC, dI) vwCl [(hp, .inr (7, [.ref v2, .ref q_d, .int v4, .int v5])), (v2, .inl (c_b, v3, .inl v6)), (q_d, .inl (c_b, 48, .inl v7))] H := hP
        have hD : va_D A [(hp, .inr (7, [.ref v2, .ref q_d, .int v4, .int v5])), (v2, .inl (c_b, v3, .inl v6)), (q_d, .inl (c_b, 48, .inl v7))] := hD
        refine lv_aload_n hx hb px_d277_39 rfl (lv_at hl 0 rfl) ?_
        refine lv_iload_n hx hb px_d277_40 rfl (lv_at hl 3 rfl) ?_
        refine lv_i2l (v := x3.toInt64) hx hb px_d277_41 rfl ?_
        obtain ⟨m42_16, s42_16, hm42_16, hs42_16, hw⟩ := hw
        have hPc := hP.sub (ws' := [(hp, .inr (7, [.ref v2, .ref q_d, .int v4, .int v5])), (v2, .inl (c_b, v3, .inl v6)), (q_d, .inl (c_b, 48, .inl v7))]) [0, 1, 2] rfl
        have hDc := hD.sub (ws' := [(hp, .inr (7, [.ref v2, .ref q_d, .int v4, .int v5])), (v2, .inl (c_b, v3, .inl v6)), (q_d, .inl (c_b, 48, .inl v7))]) [0, 1, 2] (by decide) rfl
        have hFc := va_free (wc := [(hp, .inr (7, [.ref v2, .ref q_d, .int v4, .int v5])), (v2, .inl (c_b, v3, .inl v6)), (q_d, .inl (c_b, 48, .inl v7))]) hD hS hA [0, 1, 2] rfl
        have hKc := hK.sub (tys' := [(c_b, .byte)]) [0] rfl
        refine va_callv (va_runV (As := [.long x3.toInt64]) (rest := []) ⟨hx, hb, hml, hown, htw⟩ (w269_met l dC dI H.size hp q_d c_b m42_16 s42_16 x3.toInt64 v2 v3 v4 v5 v6 v7 _ hw) (cwV 1 htw (px_gv px_w1410 px_w1372 px_w1373 px_w88 px_g269) rfl rfl rfl (by decide +kernel) ⟨Nat.le_of_ble_eq_true rfl, Nat.le_of_ble_eq_true rfl⟩) ⟨fun a U g mk q => by obtain ⟨q0, q1, qP, qK, qD, qN⟩ := q; exact ⟨q0, q1, qP, va_K.moved (u := U) (U := U.calling g mk a) (Vm.Alike.refl U.vm) qK, qD, qN.same rfl⟩, va_recv hK hP (ci := 7) (q0 := 0) rfl rfl, fun U hU hW => ⟨rfl, by rw [hU], by rw [hU]; exact hPc, va_K.moved hW.alike hKc, hDc.weaken (fun _ _ _ _ => trivial), hN.warm hW⟩⟩ rfl rfl hl.1 rfl (lv_room (Nat.le_of_ble_eq_true rfl)) px_d277_42 ⟨hm42_16, hs42_16⟩) hS (fun q _ h => hFc q h) hFc (fun u t H1 locs ht hvm hw hB hz1 hk1 hS => ?_)
        obtain ⟨v10, v11, v12, v13, v14, v15⟩ := u
        obtain ⟨hP1, hK1, hD1⟩ := hB
        rw [ht] at hP1
        obtain ⟨hP, hD⟩ := va_join (wr := []) (w1 := [(hp, .inr (7, [.ref v10, .ref q_d, .int v12, .int v13])), (v10, .inl (c_b, v11, .inl v14)), (q_d, .inl (c_b, 48, .inl v15))]) hP hD [0, 1, 2] [] rfl rfl (by decide) (by decide) hk1 hFc hP1 hD1
        generalize H1 = H at hP hS ⊢
        have hP : va_P (dC, dI) vwCl [(hp, .inr (7, [.ref v10, .ref q_d, .int v12, .int v13])), (v10, .inl (c_b, v11, .inl v14)), (q_d, .inl (c_b, 48, .inl v15))] H := hP
        have hD : va_D A [(hp, .inr (7, [.ref v10, .ref q_d, .int v12, .int v13])), (v10, .inl (c_b, v11, .inl v14)), (q_d, .inl (c_b, 48, .inl v15))] := hD
        refine lv_iconst (v := 0) hx hb px_d277_45 (by decide) ?_
        refine lv_istore_n (lv' := [(2, .int 0), (0, .ref hp), (1, .int x1), (3, .int x3)]) hx hb px_d277_46 rfl hl (by decide) rfl (fun ls hl => ?_)
        exact S47 x1 0 x3 v10 v11 v12 v13 v14 v15 (kc + m36_8 + m42_16) (ks + s36_8 + s42_16) H locs ls hm42_16 hs42_16 hP hD hS (lv_sub hl [1, 2, 0, 3] rfl) hw
      intro x1 x2 x3 q_b l_b p_length p_full g_b g_d kc ks H locs ls hkc hks hP hD hS hl hw
      unfold w277_L10 at hw
      refine lv_iload_n hx hb px_d277_10 rfl (lv_at hl 3 rfl) ?_
      refine lv_bipush (v := 12) hx hb px_d277_11 (by decide) ?_
      refine lv_icmp_ge (tgt := 53) hx hb px_d277_13 (by decide) (fun c13 => ?_) (fun c13 => ?_)
      · have hw := hw.1 c13
        refine lv_aload_n hx hb px_d277_53 rfl (lv_at hl 0 rfl) ?_
        refine px_ldcS hx hb hown hE0 px_qr3 px_d277_54 ?_
        obtain ⟨m56_24, s56_24, hm56_24, hs56_24, hw⟩ := hw
        have hPc := hP.sub (ws' := [(hp, .inr (7, [.ref q_b, .ref q_d, .int p_length, .int p_full])), (q_b, .inl (c_b, l_b, .inl g_b)), (q_d, .inl (c_b, 48, .inl g_d))]) [0, 1, 2] rfl
        have hDc := hD.sub (ws' := [(hp, .inr (7, [.ref q_b, .ref q_d, .int p_length, .int p_full])), (q_b, .inl (c_b, l_b, .inl g_b)), (q_d, .inl (c_b, 48, .inl g_d))]) [0, 1, 2] (by decide) rfl
        have hFc := va_free (wc := [(hp, .inr (7, [.ref q_b, .ref q_d, .int p_length, .int p_full])), (q_b, .inl (c_b, l_b, .inl g_b)), (q_d, .inl (c_b, 48, .inl g_d))]) hD hS hA [0, 1, 2] rfl
        have hKc := hK.sub (tys' := [(c_b, .byte)]) [0] rfl
        refine va_callv (va_runV (As := [.ref (adK 3)]) (rest := []) ⟨hx, hb, hml, hown, htw⟩ (w278_met l dC dI H.size adK adV bo adB tA tS hp q_d c_b m56_24 s56_24 3 q_b l_b p_length p_full g_b g_d _ hw) (cwV 1 htw (px_gv px_w1409 px_w1412 px_w1413 px_w88 px_g278) rfl rfl rfl (by decide +kernel) ⟨Nat.le_of_ble_eq_true rfl, Nat.le_of_ble_eq_true rfl⟩) ⟨fun a U g mk q => by obtain ⟨q0, q1, qP, qK, qD, qN, qE0⟩ := q; exact ⟨q0, q1, qP, va_K.moved (u := U) (U := U.calling g mk a) (Vm.Alike.refl U.vm) qK, qD, qN.same rfl, qE0.same rfl⟩, va_recv hK hP (ci := 7) (q0 := 0) rfl rfl, fun U hU hW => ⟨rfl, by rw [hU], by rw [hU]; exact hPc, va_K.moved hW.alike hKc, hDc.weaken (fun _ _ _ _ => trivial), hN.warm hW, by rw [hU]; exact hE0.go hS hFc hW⟩⟩ rfl rfl hl.1 rfl (lv_room (Nat.le_of_ble_eq_true rfl)) px_d277_56 ⟨hm56_24, hs56_24⟩) hS (fun q _ h => hFc q h) hFc (fun u t H1 locs ht hvm hw hB hz1 hk1 hS => ?_)
        obtain ⟨v18, v19, v20, v21, v22, v23⟩ := u
        obtain ⟨hP1, hK1, hD1⟩ := hB
        rw [ht] at hP1
        obtain ⟨hP, hD⟩ := va_join (wr := []) (w1 := [(hp, .inr (7, [.ref v18, .ref q_d, .int v20, .int v21])), (v18, .inl (c_b, v19, .inl v22)), (q_d, .inl (c_b, 48, .inl v23))]) hP hD [0, 1, 2] [] rfl rfl (by decide) (by decide) hk1 hFc hP1 hD1
        generalize H1 = H at hP hS ⊢
        have hP : va_P (dC, dI) vwCl [(hp, .inr (7, [.ref v18, .ref q_d, .int v20, .int v21])), (v18, .inl (c_b, v19, .inl v22)), (q_d, .inl (c_b, 48, .inl v23))] H := hP
        have hD : va_D A [(hp, .inr (7, [.ref v18, .ref q_d, .int v20, .int v21])), (v18, .inl (c_b, v19, .inl v22)), (q_d, .inl (c_b, 48, .inl v23))] := hD
        refine W.widen (k := mc) (n := ms) hm56_24 hs56_24 ?_
        rw [← hQ]
        exact W.vret hx hb hr (fun t ht hW => ⟨⟨(v18, v19, v20, v21, v22, v23), rfl, hw, by rw [ht]; exact hP, va_K.moved hW.alike hK, hD⟩, hS.F ht⟩) hS.2.2 px_d277_59
      · have hw := hw.2 c13
        refine lv_iload_n hx hb px_d277_16 rfl (lv_at hl 1 rfl) ?_
        refine lv_iload_n hx hb px_d277_17 rfl (lv_at hl 3 rfl) ?_
        refine lv_ishr hx hb px_d277_18 ?_
        refine lv_iconst (v := 1) hx hb px_d277_19 (by decide) ?_
        refine lv_iand hx hb px_d277_20 ?_
        refine lv_if_eq (tgt := 47) hx hb px_d277_21 (by decide) (fun c21 => ?_) (fun c21 => ?_)
        · have hw := hw.1 c21
          exact S47 x1 x2 x3 q_b l_b p_length p_full g_b g_d kc ks H locs ls hkc hks hP hD hS (lv_sub hl [0, 1, 2, 3] rfl) hw
        · have hw := hw.2 c21
          refine lv_aload_n hx hb px_d277_24 rfl (lv_at hl 0 rfl) ?_
          refine lv_iload_n hx hb px_d277_25 rfl (lv_at hl 2 rfl) ?_
          refine lv_if_eq (tgt := 34) hx hb px_d277_26 (by decide) (fun c26 => ?_) (fun c26 => ?_)
          · have hw := hw.1 c26
            refine px_ldcS hx hb hown hE0 px_qr2 px_d277_34 ?_
            exact S36 x1 x2 x3 2 q_b l_b p_length p_full g_b g_d kc ks H locs ls hkc hks hP hD hS (lv_sub hl [0, 1, 2, 3] rfl) hw
          · have hw := hw.2 c26
            refine px_ldcS hx hb hown hE0 px_qr1 px_d277_29 ?_
            refine lv_goto (tgt := 36) hx hb px_d277_31 (by decide) ?_
            exact S36 x1 x2 x3 1 q_b l_b p_length p_full g_b g_d kc ks H locs ls hkc hks hP hD hS (lv_sub hl [0, 1, 2, 3] rfl) hw
  unfold w277_wp at hw
  have hS0 := hS
  obtain ⟨H, hH9⟩ : ∃ z, z = s.heap := ⟨_, rfl⟩
  have hP : va_P (dC, dI) vwCl [(hp, .inr (7, [.ref q_b, .ref q_d, .int p_length, .int p_full])), (q_b, .inl (c_b, l_b, .inl g_b)), (q_d, .inl (c_b, 48, .inl g_d))] H := by rw [hH9]; exact hP
  obtain ⟨locs, hlo9⟩ : ∃ z : List Loc, z = [] := ⟨_, rfl⟩
  have hS : va_S A s.heap H locs := by rw [hH9, hlo9]; exact hS
  suffices hG : W p l e (headSpec px_s277 ({ frames := 5, cells := mc, slots := ms, locals := 107 })).room s m ([.ref hp, .int a1x]).toArray below meth c H locs 0 0 Q (F0 m 0 ls []) by rw [hH9, hlo9] at hG; exact hG
  refine lv_aload_n hx hb px_d277_0 rfl (lv_at hl 0 rfl) ?_
  refine lv_bipush (v := 123) hx hb px_d277_1 (by decide) ?_
  obtain ⟨m3_32, s3_32, hm3_32, hs3_32, hw⟩ := hw
  have hPc := hP.sub (ws' := [(hp, .inr (7, [.ref q_b, .ref q_d, .int p_length, .int p_full])), (q_b, .inl (c_b, l_b, .inl g_b)), (q_d, .inl (c_b, 48, .inl g_d))]) [0, 1, 2] rfl
  have hDc := hD.sub (ws' := [(hp, .inr (7, [.ref q_b, .ref q_d, .int p_length, .int p_full])), (q_b, .inl (c_b, l_b, .inl g_b)), (q_d, .inl (c_b, 48, .inl g_d))]) [0, 1, 2] (by decide) rfl
  have hFc := va_free (wc := [(hp, .inr (7, [.ref q_b, .ref q_d, .int p_length, .int p_full])), (q_b, .inl (c_b, l_b, .inl g_b)), (q_d, .inl (c_b, 48, .inl g_d))]) hD hS hA [0, 1, 2] rfl
  have hKc := hK.sub (tys' := [(c_b, .byte)]) [0] rfl
  refine va_callv (va_runV (As := [.int 123]) (rest := []) ⟨hx, hb, hml, hown, htw⟩ (w270_met l dC dI H.size hp q_d c_b m3_32 s3_32 123 q_b l_b p_length p_full g_b g_d _ hw) (cwV 1 htw (px_gv px_w1376 px_w1378 px_w1379 px_w88 px_g270) rfl rfl rfl (by decide +kernel) ⟨Nat.le_of_ble_eq_true rfl, Nat.le_of_ble_eq_true rfl⟩) ⟨fun a U g mk q => by obtain ⟨q0, q1, qP, qK, qD, qN⟩ := q; exact ⟨q0, q1, qP, va_K.moved (u := U) (U := U.calling g mk a) (Vm.Alike.refl U.vm) qK, qD, qN.same rfl⟩, va_recv hK hP (ci := 7) (q0 := 0) rfl rfl, fun U hU hW => ⟨rfl, by rw [hU], by rw [hU]; exact hPc, va_K.moved hW.alike hKc, hDc.weaken (fun _ _ _ _ => trivial), hN.warm hW⟩⟩ rfl rfl hl.1 rfl (lv_room (Nat.le_of_ble_eq_true rfl)) px_d277_3 ⟨hm3_32, hs3_32⟩) hS (fun q _ h => hFc q h) hFc (fun u t H1 locs ht hvm hw hB hz1 hk1 hS => ?_)
  obtain ⟨v26, v27, v28, v29, v30, v31⟩ := u
  obtain ⟨hP1, hK1, hD1⟩ := hB
  rw [ht] at hP1
  obtain ⟨hP, hD⟩ := va_join (wr := []) (w1 := [(hp, .inr (7, [.ref v26, .ref q_d, .int v28, .int v29])), (v26, .inl (c_b, v27, .inl v30)), (q_d, .inl (c_b, 48, .inl v31))]) hP hD [0, 1, 2] [] rfl rfl (by decide) (by decide) hk1 hFc hP1 hD1
  generalize H1 = H at hP hS ⊢
  have hP : va_P (dC, dI) vwCl [(hp, .inr (7, [.ref v26, .ref q_d, .int v28, .int v29])), (v26, .inl (c_b, v27, .inl v30)), (q_d, .inl (c_b, 48, .inl v31))] H := hP
  have hD : va_D A [(hp, .inr (7, [.ref v26, .ref q_d, .int v28, .int v29])), (v26, .inl (c_b, v27, .inl v30)), (q_d, .inl (c_b, 48, .inl v31))] := hD
  refine lv_iconst (v := 1) hx hb px_d277_6 (by decide) ?_
  refine lv_istore_n (lv' := [(2, .int 1), (0, .ref hp), (1, .int a1x)]) hx hb px_d277_7 rfl hl (by decide) rfl (fun ls hl => ?_)
  refine lv_iconst (v := 0) hx hb px_d277_8 (by decide) ?_
  refine lv_istore_n (lv' := [(3, .int 0), (2, .int 1), (0, .ref hp), (1, .int a1x)]) hx hb px_d277_9 rfl hl (by decide) rfl (fun ls hl => ?_)
  obtain ⟨k9, hw⟩ := hw
  exact S10 k9 a1x 1 0 v26 v27 v28 v29 v30 v31 (0 + m3_32) (0 + s3_32) H locs ls hm3_32 hs3_32 hP hD hS (lv_sub hl [2, 3, 1, 0] rfl) hw

/-! MatroidDesk$Product.power(CI)V -/
def w285_L26 (mc : Nat) (ms : Nat) (post : Nat → Nat → Int32 → Int32 → (Nat → Int32) → (Nat → Int32) → Prop) (x1 : Int32) (x2 : Int32) (q_b : Nat) (l_b : Nat) (p_length : Int32) (p_full : Int32) (g_b : Nat → Int32) (g_d : Nat → Int32) (kc : Nat) (ks : Nat) : Prop := post q_b l_b p_length p_full g_b g_d
def w285_L9 (mc : Nat) (ms : Nat) (post : Nat → Nat → Int32 → Int32 → (Nat → Int32) → (Nat → Int32) → Prop) (x1 : Int32) (x2 : Int32) (q_b : Nat) (l_b : Nat) (p_length : Int32) (p_full : Int32) (g_b : Nat → Int32) (g_d : Nat → Int32) (kc : Nat) (ks : Nat) : Prop := (x2 ≤ 1 → w285_L26 mc ms post x1 x2 q_b l_b p_length p_full g_b g_d kc ks) ∧ (¬ x2 ≤ 1 → ∃ m17_7 s17_7 : Nat, kc + m17_7 ≤ mc ∧ ks + s17_7 ≤ ms ∧ (w270_wp m17_7 s17_7 (fun v1 v2 v3 v4 v5 v6 => ∃ m23_15 s23_15 : Nat, kc + m17_7 + m23_15 ≤ mc ∧ ks + s17_7 + s23_15 ≤ ms ∧ (w269_wp m23_15 s23_15 (fun v9 v10 v11 v12 v13 v14 => w285_L26 mc ms post x1 x2 v9 v10 v11 v12 v13 v14 (kc + m17_7 + m23_15) (ks + s17_7 + s23_15)) x2.toInt64 v1 v2 v3 v4 v5 v6)) 94 q_b l_b p_length p_full g_b g_d))
def w285_wp (mc : Nat) (ms : Nat) (post : Nat → Nat → Int32 → Int32 → (Nat → Int32) → (Nat → Int32) → Prop) (a1x : Int32) (a2x : Int32) (q_b : Nat) (l_b : Nat) (p_length : Int32) (p_full : Int32) (g_b : Nat → Int32) (g_d : Nat → Int32) : Prop := (a2x ≤ 0 → w285_L9 mc ms post a1x a2x q_b l_b p_length p_full g_b g_d 0 0) ∧ (¬ a2x ≤ 0 → ∃ m6_23 s6_23 : Nat, 0 + m6_23 ≤ mc ∧ 0 + s6_23 ≤ ms ∧ (w270_wp m6_23 s6_23 (fun v17 v18 v19 v20 v21 v22 => w285_L9 mc ms post a1x a2x v17 v18 v19 v20 v21 v22 (0 + m6_23) (0 + s6_23)) a1x q_b l_b p_length p_full g_b g_d))
set_option maxHeartbeats 8000000 in
set_option maxRecDepth 100000 in
theorem w285_met (l : Launch) (dC : Nat → ClassId) (dI : Nat → Nat → Nat) (sz : Nat) (hp : Nat) (q_d : Nat) (c_b : ClassId) (mc : Nat) (ms : Nat) (a1x : Int32) (a2x : Int32) (q_b : Nat) (l_b : Nat) (p_length : Int32) (p_full : Int32) (g_b : Nat → Int32) (g_d : Nat → Int32) (post : Nat → Nat → Int32 → Int32 → (Nat → Int32) → (Nat → Int32) → Prop) (hw : w285_wp mc ms post a1x a2x q_b l_b p_length p_full g_b g_d) : Met l px_y285 px_s285 ({ frames := 4, cells := mc, slots := ms, locals := 90 }) (va_Pc [.ref hp, .int a1x, .int a2x] (fun U => U.heap.size = sz ∧ va_P (dC, dI) vwCl [(hp, .inr (7, [.ref q_b, .ref q_d, .int p_length, .int p_full])), (q_b, .inl (c_b, l_b, .inl g_b)), (q_d, .inl (c_b, 48, .inl g_d))] U.heap ∧ va_K (dC, dI) vwCl [(c_b, .byte)] U ∧ va_D (fun _ => True) [(hp, .inr (7, [.ref q_b, .ref q_d, .int p_length, .int p_full])), (q_b, .inl (c_b, l_b, .inl g_b)), (q_d, .inl (c_b, 48, .inl g_d))] ∧ px_N U)) (va_Qv (fun (u : Nat × Nat × Int32 × Int32 × (Nat → Int32) × (Nat → Int32)) => post u.1 u.2.1 u.2.2.1 u.2.2.2.1 u.2.2.2.2.1 u.2.2.2.2.2) (fun (u : Nat × Nat × Int32 × Int32 × (Nat → Int32) × (Nat → Int32)) (t : State) => va_P (dC, dI) vwCl [(hp, .inr (7, [.ref u.1, .ref q_d, .int u.2.2.1, .int u.2.2.2.1])), (u.1, .inl (c_b, u.2.1, .inl u.2.2.2.2.1)), (q_d, .inl (c_b, 48, .inl u.2.2.2.2.2))] t.heap ∧ va_K (dC, dI) vwCl [(c_b, .byte)] t ∧ va_D (va_A [(hp, .inr (7, [.ref q_b, .ref q_d, .int p_length, .int p_full])), (q_b, .inl (c_b, l_b, .inl g_b)), (q_d, .inl (c_b, 48, .inl g_d))] sz) [(hp, .inr (7, [.ref u.1, .ref q_d, .int u.2.2.1, .int u.2.2.2.1])), (u.1, .inl (c_b, u.2.1, .inl u.2.2.2.2.1)), (q_d, .inl (c_b, 48, .inl u.2.2.2.2.2))]) (va_A [(hp, .inr (7, [.ref q_b, .ref q_d, .int p_length, .int p_full])), (q_b, .inl (c_b, l_b, .inl g_b)), (q_d, .inl (c_b, 48, .inl g_d))] sz)) mc ms (va_A [(hp, .inr (7, [.ref q_b, .ref q_d, .int p_length, .int p_full])), (q_b, .inl (c_b, l_b, .inl g_b)), (q_d, .inl (c_b, 48, .inl g_d))] sz) := by
  refine Met.ofW (cc := prog_7_method_10_code) (maxL := 3) (ret := none) (by decide) rfl ?_
  intro p e s m args below meth c s₁ B hml hv
  obtain ⟨rfl, hsz, hP, hK, hD0, hN⟩ := hv
  have hx := B.exec
  have hb := B.bytes
  have hr := B.returns
  have htw : ∀ w ∈ px_all, w.before _ s = true := fun w h => atoms_spec (ws := px_s285) B.pre w (List.mem_cons_of_mem _ h)
  have hown : s.vm.findClass "MatroidDesk$Product" = some m.cls := findClass_of_methodNamed B.named
  have hlocks := B.notSynchronized
  subst hsz
  have hD := hD0.self (sz := s.heap.size)
  generalize hAe : va_A [(hp, .inr (7, [.ref q_b, .ref q_d, .int p_length, .int p_full])), (q_b, .inl (c_b, l_b, .inl g_b)), (q_d, .inl (c_b, 48, .inl g_d))] s.heap.size = A at hD ⊢
  have hA : ∀ q : Nat, s.heap.size ≤ q → A q := fun q h => by rw [← hAe]; exact Or.inr h
  have hS : va_S A s.heap s.heap [] := va_S.rf
  have hP : va_P (dC, dI) vwCl [(hp, .inr (7, [.ref q_b, .ref q_d, .int p_length, .int p_full])), (q_b, .inl (c_b, l_b, .inl g_b)), (q_d, .inl (c_b, 48, .inl g_d))] s.heap := hP
  have hl := lv_entry ([.ref hp, .int a1x, .int a2x]) (n := 3) (Nat.le_of_ble_eq_true rfl)
  rw [lg_entry_eq]
  generalize (lg_sl ([.ref hp, .int a1x, .int a2x]) ++ List.replicate (3 - (lg_sl ([.ref hp, .int a1x, .int a2x])).length) Slot.unset).toArray = ls at hl ⊢
  have hl : lv_has ls 3 [(0, .ref hp), (1, .int a1x), (2, .int a2x)] := hl
  generalize hQ : MQ _ _ _ _ _ _ _ = Q
  have S26 : ∀ (x1 : Int32) (x2 : Int32) (q_b : Nat) (l_b : Nat) (p_length : Int32) (p_full : Int32) (g_b : Nat → Int32) (g_d : Nat → Int32) (kc : Nat) (ks : Nat) (H : Heap) (locs : List Loc) (ls : Array Slot), kc ≤ mc → ks ≤ ms → va_P (dC, dI) vwCl [(hp, .inr (7, [.ref q_b, .ref q_d, .int p_length, .int p_full])), (q_b, .inl (c_b, l_b, .inl g_b)), (q_d, .inl (c_b, 48, .inl g_d))] H → va_D A [(hp, .inr (7, [.ref q_b, .ref q_d, .int p_length, .int p_full])), (q_b, .inl (c_b, l_b, .inl g_b)), (q_d, .inl (c_b, 48, .inl g_d))] → va_S A s.heap H locs → lv_has ls 3 [(0, .ref hp), (1, .int x1), (2, .int x2)] → w285_L26 mc ms post x1 x2 q_b l_b p_length p_full g_b g_d kc ks → W p l e (headSpec px_s285 ({ frames := 4, cells := mc, slots := ms, locals := 90 })).room s m ([.ref hp, .int a1x, .int a2x]).toArray below meth c H locs kc ks Q (F0 m 26 ls []) := by
    intro x1 x2 q_b l_b p_length p_full g_b g_d kc ks H locs ls hkc hks hP hD hS hl hw
    unfold w285_L26 at hw
    refine W.widen (k := mc) (n := ms) hkc hks ?_
    rw [← hQ]
    exact W.vret hx hb hr (fun t ht hW => ⟨⟨(q_b, l_b, p_length, p_full, g_b, g_d), rfl, hw, by rw [ht]; exact hP, va_K.moved hW.alike hK, hD⟩, hS.F ht⟩) hS.2.2 px_d285_26
  have S9 : ∀ (x1 : Int32) (x2 : Int32) (q_b : Nat) (l_b : Nat) (p_length : Int32) (p_full : Int32) (g_b : Nat → Int32) (g_d : Nat → Int32) (kc : Nat) (ks : Nat) (H : Heap) (locs : List Loc) (ls : Array Slot), kc ≤ mc → ks ≤ ms → va_P (dC, dI) vwCl [(hp, .inr (7, [.ref q_b, .ref q_d, .int p_length, .int p_full])), (q_b, .inl (c_b, l_b, .inl g_b)), (q_d, .inl (c_b, 48, .inl g_d))] H → va_D A [(hp, .inr (7, [.ref q_b, .ref q_d, .int p_length, .int p_full])), (q_b, .inl (c_b, l_b, .inl g_b)), (q_d, .inl (c_b, 48, .inl g_d))] → va_S A s.heap H locs → lv_has ls 3 [(0, .ref hp), (1, .int x1), (2, .int x2)] → w285_L9 mc ms post x1 x2 q_b l_b p_length p_full g_b g_d kc ks → W p l e (headSpec px_s285 ({ frames := 4, cells := mc, slots := ms, locals := 90 })).room s m ([.ref hp, .int a1x, .int a2x]).toArray below meth c H locs kc ks Q (F0 m 9 ls []) := by
    intro x1 x2 q_b l_b p_length p_full g_b g_d kc ks H locs ls hkc hks hP hD hS hl hw
    unfold w285_L9 at hw
    refine lv_iload_n hx hb px_d285_9 rfl (lv_at hl 2 rfl) ?_
    refine lv_iconst (v := 1) hx hb px_d285_10 (by decide) ?_
    refine lv_icmp_le (tgt := 26) hx hb px_d285_11 (by decide) (fun c11 => ?_) (fun c11 => ?_)
    · have hw := hw.1 c11
      exact S26 x1 x2 q_b l_b p_length p_full g_b g_d kc ks H locs ls hkc hks hP hD hS (lv_sub hl [0, 1, 2] rfl) hw
    · have hw := hw.2 c11
      refine lv_aload_n hx hb px_d285_14 rfl (lv_at hl 0 rfl) ?_
      refine lv_bipush (v := 94) hx hb px_d285_15 (by decide) ?_
      obtain ⟨m17_7, s17_7, hm17_7, hs17_7, hw⟩ := hw
      have hPc := hP.sub (ws' := [(hp, .inr (7, [.ref q_b, .ref q_d, .int p_length, .int p_full])), (q_b, .inl (c_b, l_b, .inl g_b)), (q_d, .inl (c_b, 48, .inl g_d))]) [0, 1, 2] rfl
      have hDc := hD.sub (ws' := [(hp, .inr (7, [.ref q_b, .ref q_d, .int p_length, .int p_full])), (q_b, .inl (c_b, l_b, .inl g_b)), (q_d, .inl (c_b, 48, .inl g_d))]) [0, 1, 2] (by decide) rfl
      have hFc := va_free (wc := [(hp, .inr (7, [.ref q_b, .ref q_d, .int p_length, .int p_full])), (q_b, .inl (c_b, l_b, .inl g_b)), (q_d, .inl (c_b, 48, .inl g_d))]) hD hS hA [0, 1, 2] rfl
      have hKc := hK.sub (tys' := [(c_b, .byte)]) [0] rfl
      refine va_callv (va_runV (As := [.int 94]) (rest := []) ⟨hx, hb, hml, hown, htw⟩ (w270_met l dC dI H.size hp q_d c_b m17_7 s17_7 94 q_b l_b p_length p_full g_b g_d _ hw) (cwV 1 htw (px_gv px_w1376 px_w1378 px_w1379 px_w88 px_g270) rfl rfl rfl (by decide +kernel) ⟨Nat.le_of_ble_eq_true rfl, Nat.le_of_ble_eq_true rfl⟩) ⟨fun a U g mk q => by obtain ⟨q0, q1, qP, qK, qD, qN⟩ := q; exact ⟨q0, q1, qP, va_K.moved (u := U) (U := U.calling g mk a) (Vm.Alike.refl U.vm) qK, qD, qN.same rfl⟩, va_recv hK hP (ci := 7) (q0 := 0) rfl rfl, fun U hU hW => ⟨rfl, by rw [hU], by rw [hU]; exact hPc, va_K.moved hW.alike hKc, hDc.weaken (fun _ _ _ _ => trivial), hN.warm hW⟩⟩ rfl rfl hl.1 rfl (lv_room (Nat.le_of_ble_eq_true rfl)) px_d285_17 ⟨hm17_7, hs17_7⟩) hS (fun q _ h => hFc q h) hFc (fun u t H1 locs ht hvm hw hB hz1 hk1 hS => ?_)
      obtain ⟨v1, v2, v3, v4, v5, v6⟩ := u
      obtain ⟨hP1, hK1, hD1⟩ := hB
      rw [ht] at hP1
      obtain ⟨hP, hD⟩ := va_join (wr := []) (w1 := [(hp, .inr (7, [.ref v1, .ref q_d, .int v3, .int v4])), (v1, .inl (c_b, v2, .inl v5)), (q_d, .inl (c_b, 48, .inl v6))]) hP hD [0, 1, 2] [] rfl rfl (by decide) (by decide) hk1 hFc hP1 hD1
      generalize H1 = H at hP hS ⊢
      have hP : va_P (dC, dI) vwCl [(hp, .inr (7, [.ref v1, .ref q_d, .int v3, .int v4])), (v1, .inl (c_b, v2, .inl v5)), (q_d, .inl (c_b, 48, .inl v6))] H := hP
      have hD : va_D A [(hp, .inr (7, [.ref v1, .ref q_d, .int v3, .int v4])), (v1, .inl (c_b, v2, .inl v5)), (q_d, .inl (c_b, 48, .inl v6))] := hD
      refine lv_aload_n hx hb px_d285_20 rfl (lv_at hl 0 rfl) ?_
      refine lv_iload_n hx hb px_d285_21 rfl (lv_at hl 2 rfl) ?_
      refine lv_i2l (v := x2.toInt64) hx hb px_d285_22 rfl ?_
      obtain ⟨m23_15, s23_15, hm23_15, hs23_15, hw⟩ := hw
      have hPc := hP.sub (ws' := [(hp, .inr (7, [.ref v1, .ref q_d, .int v3, .int v4])), (v1, .inl (c_b, v2, .inl v5)), (q_d, .inl (c_b, 48, .inl v6))]) [0, 1, 2] rfl
      have hDc := hD.sub (ws' := [(hp, .inr (7, [.ref v1, .ref q_d, .int v3, .int v4])), (v1, .inl (c_b, v2, .inl v5)), (q_d, .inl (c_b, 48, .inl v6))]) [0, 1, 2] (by decide) rfl
      have hFc := va_free (wc := [(hp, .inr (7, [.ref v1, .ref q_d, .int v3, .int v4])), (v1, .inl (c_b, v2, .inl v5)), (q_d, .inl (c_b, 48, .inl v6))]) hD hS hA [0, 1, 2] rfl
      have hKc := hK.sub (tys' := [(c_b, .byte)]) [0] rfl
      refine va_callv (va_runV (As := [.long x2.toInt64]) (rest := []) ⟨hx, hb, hml, hown, htw⟩ (w269_met l dC dI H.size hp q_d c_b m23_15 s23_15 x2.toInt64 v1 v2 v3 v4 v5 v6 _ hw) (cwV 1 htw (px_gv px_w1410 px_w1372 px_w1373 px_w88 px_g269) rfl rfl rfl (by decide +kernel) ⟨Nat.le_of_ble_eq_true rfl, Nat.le_of_ble_eq_true rfl⟩) ⟨fun a U g mk q => by obtain ⟨q0, q1, qP, qK, qD, qN⟩ := q; exact ⟨q0, q1, qP, va_K.moved (u := U) (U := U.calling g mk a) (Vm.Alike.refl U.vm) qK, qD, qN.same rfl⟩, va_recv hK hP (ci := 7) (q0 := 0) rfl rfl, fun U hU hW => ⟨rfl, by rw [hU], by rw [hU]; exact hPc, va_K.moved hW.alike hKc, hDc.weaken (fun _ _ _ _ => trivial), hN.warm hW⟩⟩ rfl rfl hl.1 rfl (lv_room (Nat.le_of_ble_eq_true rfl)) px_d285_23 ⟨hm23_15, hs23_15⟩) hS (fun q _ h => hFc q h) hFc (fun u t H1 locs ht hvm hw hB hz1 hk1 hS => ?_)
      obtain ⟨v9, v10, v11, v12, v13, v14⟩ := u
      obtain ⟨hP1, hK1, hD1⟩ := hB
      rw [ht] at hP1
      obtain ⟨hP, hD⟩ := va_join (wr := []) (w1 := [(hp, .inr (7, [.ref v9, .ref q_d, .int v11, .int v12])), (v9, .inl (c_b, v10, .inl v13)), (q_d, .inl (c_b, 48, .inl v14))]) hP hD [0, 1, 2] [] rfl rfl (by decide) (by decide) hk1 hFc hP1 hD1
      generalize H1 = H at hP hS ⊢
      have hP : va_P (dC, dI) vwCl [(hp, .inr (7, [.ref v9, .ref q_d, .int v11, .int v12])), (v9, .inl (c_b, v10, .inl v13)), (q_d, .inl (c_b, 48, .inl v14))] H := hP
      have hD : va_D A [(hp, .inr (7, [.ref v9, .ref q_d, .int v11, .int v12])), (v9, .inl (c_b, v10, .inl v13)), (q_d, .inl (c_b, 48, .inl v14))] := hD
      exact S26 x1 x2 v9 v10 v11 v12 v13 v14 (kc + m17_7 + m23_15) (ks + s17_7 + s23_15) H locs ls hm23_15 hs23_15 hP hD hS (lv_sub hl [0, 1, 2] rfl) hw
  unfold w285_wp at hw
  have hS0 := hS
  obtain ⟨H, hH9⟩ : ∃ z, z = s.heap := ⟨_, rfl⟩
  have hP : va_P (dC, dI) vwCl [(hp, .inr (7, [.ref q_b, .ref q_d, .int p_length, .int p_full])), (q_b, .inl (c_b, l_b, .inl g_b)), (q_d, .inl (c_b, 48, .inl g_d))] H := by rw [hH9]; exact hP
  obtain ⟨locs, hlo9⟩ : ∃ z : List Loc, z = [] := ⟨_, rfl⟩
  have hS : va_S A s.heap H locs := by rw [hH9, hlo9]; exact hS
  suffices hG : W p l e (headSpec px_s285 ({ frames := 4, cells := mc, slots := ms, locals := 90 })).room s m ([.ref hp, .int a1x, .int a2x]).toArray below meth c H locs 0 0 Q (F0 m 0 ls []) by rw [hH9, hlo9] at hG; exact hG
  refine lv_iload_n hx hb px_d285_0 rfl (lv_at hl 2 rfl) ?_
  refine lv_if_le (tgt := 9) hx hb px_d285_1 (by decide) (fun c1 => ?_) (fun c1 => ?_)
  · have hw := hw.1 c1
    exact S9 a1x a2x q_b l_b p_length p_full g_b g_d 0 0 H locs ls (Nat.zero_le mc) (Nat.zero_le ms) hP hD hS (lv_sub hl [0, 1, 2] rfl) hw
  · have hw := hw.2 c1
    refine lv_aload_n hx hb px_d285_4 rfl (lv_at hl 0 rfl) ?_
    refine lv_iload_n hx hb px_d285_5 rfl (lv_at hl 1 rfl) ?_
    obtain ⟨m6_23, s6_23, hm6_23, hs6_23, hw⟩ := hw
    have hPc := hP.sub (ws' := [(hp, .inr (7, [.ref q_b, .ref q_d, .int p_length, .int p_full])), (q_b, .inl (c_b, l_b, .inl g_b)), (q_d, .inl (c_b, 48, .inl g_d))]) [0, 1, 2] rfl
    have hDc := hD.sub (ws' := [(hp, .inr (7, [.ref q_b, .ref q_d, .int p_length, .int p_full])), (q_b, .inl (c_b, l_b, .inl g_b)), (q_d, .inl (c_b, 48, .inl g_d))]) [0, 1, 2] (by decide) rfl
    have hFc := va_free (wc := [(hp, .inr (7, [.ref q_b, .ref q_d, .int p_length, .int p_full])), (q_b, .inl (c_b, l_b, .inl g_b)), (q_d, .inl (c_b, 48, .inl g_d))]) hD hS hA [0, 1, 2] rfl
    have hKc := hK.sub (tys' := [(c_b, .byte)]) [0] rfl
    refine va_callv (va_runV (As := [.int a1x]) (rest := []) ⟨hx, hb, hml, hown, htw⟩ (w270_met l dC dI H.size hp q_d c_b m6_23 s6_23 a1x q_b l_b p_length p_full g_b g_d _ hw) (cwV 1 htw (px_gv px_w1376 px_w1378 px_w1379 px_w88 px_g270) rfl rfl rfl (by decide +kernel) ⟨Nat.le_of_ble_eq_true rfl, Nat.le_of_ble_eq_true rfl⟩) ⟨fun a U g mk q => by obtain ⟨q0, q1, qP, qK, qD, qN⟩ := q; exact ⟨q0, q1, qP, va_K.moved (u := U) (U := U.calling g mk a) (Vm.Alike.refl U.vm) qK, qD, qN.same rfl⟩, va_recv hK hP (ci := 7) (q0 := 0) rfl rfl, fun U hU hW => ⟨rfl, by rw [hU], by rw [hU]; exact hPc, va_K.moved hW.alike hKc, hDc.weaken (fun _ _ _ _ => trivial), hN.warm hW⟩⟩ rfl rfl hl.1 rfl (lv_room (Nat.le_of_ble_eq_true rfl)) px_d285_6 ⟨hm6_23, hs6_23⟩) hS (fun q _ h => hFc q h) hFc (fun u t H1 locs ht hvm hw hB hz1 hk1 hS => ?_)
    obtain ⟨v17, v18, v19, v20, v21, v22⟩ := u
    obtain ⟨hP1, hK1, hD1⟩ := hB
    rw [ht] at hP1
    obtain ⟨hP, hD⟩ := va_join (wr := []) (w1 := [(hp, .inr (7, [.ref v17, .ref q_d, .int v19, .int v20])), (v17, .inl (c_b, v18, .inl v21)), (q_d, .inl (c_b, 48, .inl v22))]) hP hD [0, 1, 2] [] rfl rfl (by decide) (by decide) hk1 hFc hP1 hD1
    generalize H1 = H at hP hS ⊢
    have hP : va_P (dC, dI) vwCl [(hp, .inr (7, [.ref v17, .ref q_d, .int v19, .int v20])), (v17, .inl (c_b, v18, .inl v21)), (q_d, .inl (c_b, 48, .inl v22))] H := hP
    have hD : va_D A [(hp, .inr (7, [.ref v17, .ref q_d, .int v19, .int v20])), (v17, .inl (c_b, v18, .inl v21)), (q_d, .inl (c_b, 48, .inl v22))] := hD
    exact S9 a1x a2x v17 v18 v19 v20 v21 v22 (0 + m6_23) (0 + s6_23) H locs ls hm6_23 hs6_23 hP hD hS (lv_sub hl [0, 1, 2] rfl) hw

/-! MatroidDesk$Product.term(JII)V -/
def w284_L72 (mc : Nat) (ms : Nat) (post : Nat → Nat → Int32 → Int32 → (Nat → Int32) → (Nat → Int32) → Prop) (x1 : Int64) (x3 : Int32) (x4 : Int32) (x5 : Int32) (y0 : Nat) (q_b : Nat) (l_b : Nat) (p_length : Int32) (p_full : Int32) (g_b : Nat → Int32) (g_d : Nat → Int32) (kc : Nat) (ks : Nat) : Prop := ∃ m72_7 s72_7 : Nat, kc + m72_7 ≤ mc ∧ ks + s72_7 ≤ ms ∧ (w278_wp m72_7 s72_7 y0 (fun v1 v2 v3 v4 v5 v6 => ∃ m80_15 s80_15 : Nat, kc + m72_7 + m80_15 ≤ mc ∧ ks + s72_7 + s80_15 ≤ ms ∧ (w285_wp m80_15 s80_15 (fun v9 v10 v11 v12 v13 v14 => post v9 v10 v11 v12 v13 v14) 121 x4 v1 v2 v3 v4 v5 v6)) q_b l_b p_length p_full g_b g_d)
def w284_L70 (mc : Nat) (ms : Nat) (post : Nat → Nat → Int32 → Int32 → (Nat → Int32) → (Nat → Int32) → Prop) (x1 : Int64) (x3 : Int32) (x4 : Int32) (x5 : Int32) (q_b : Nat) (l_b : Nat) (p_length : Int32) (p_full : Int32) (g_b : Nat → Int32) (g_d : Nat → Int32) (kc : Nat) (ks : Nat) : Prop := w284_L72 mc ms post x1 x3 x4 x5 1 q_b l_b p_length p_full g_b g_d kc ks
def w284_L48 (mc : Nat) (ms : Nat) (post : Nat → Nat → Int32 → Int32 → (Nat → Int32) → (Nat → Int32) → Prop) (x1 : Int64) (x3 : Int32) (x4 : Int32) (x5 : Int32) (q_b : Nat) (l_b : Nat) (p_length : Int32) (p_full : Int32) (g_b : Nat → Int32) (g_d : Nat → Int32) (kc : Nat) (ks : Nat) : Prop := ∃ m52_23 s52_23 : Nat, kc + m52_23 ≤ mc ∧ ks + s52_23 ≤ ms ∧ (w285_wp m52_23 s52_23 (fun v17 v18 v19 v20 v21 v22 => (x3 ≤ 0 → w284_L70 mc ms post x1 x3 x4 x5 v17 v18 v19 v20 v21 v22 (kc + m52_23) (ks + s52_23)) ∧ (¬ x3 ≤ 0 → (x4 ≤ 0 → w284_L70 mc ms post x1 x3 x4 x5 v17 v18 v19 v20 v21 v22 (kc + m52_23) (ks + s52_23)) ∧ (¬ x4 ≤ 0 → w284_L72 mc ms post x1 x3 x4 x5 2 v17 v18 v19 v20 v21 v22 (kc + m52_23) (ks + s52_23)))) 120 x3 q_b l_b p_length p_full g_b g_d)
def w284_L45 (mc : Nat) (ms : Nat) (post : Nat → Nat → Int32 → Int32 → (Nat → Int32) → (Nat → Int32) → Prop) (x1 : Int64) (x3 : Int32) (x4 : Int32) (x5 : Int32) (y0 : Nat) (q_b : Nat) (l_b : Nat) (p_length : Int32) (p_full : Int32) (g_b : Nat → Int32) (g_d : Nat → Int32) (kc : Nat) (ks : Nat) : Prop := ∃ m45_31 s45_31 : Nat, kc + m45_31 ≤ mc ∧ ks + s45_31 ≤ ms ∧ (w278_wp m45_31 s45_31 y0 (fun v25 v26 v27 v28 v29 v30 => w284_L48 mc ms post x1 x3 x4 x5 v25 v26 v27 v28 v29 v30 (kc + m45_31) (ks + s45_31)) q_b l_b p_length p_full g_b g_d)
def w284_L27 (mc : Nat) (ms : Nat) (post : Nat → Nat → Int32 → Int32 → (Nat → Int32) → (Nat → Int32) → Prop) (x1 : Int64) (x3 : Int32) (x4 : Int32) (x5 : Int32) (q_b : Nat) (l_b : Nat) (p_length : Int32) (p_full : Int32) (g_b : Nat → Int32) (g_d : Nat → Int32) (kc : Nat) (ks : Nat) : Prop := ∃ m29_39 s29_39 : Nat, kc + m29_39 ≤ mc ∧ ks + s29_39 ≤ ms ∧ (w269_wp m29_39 s29_39 (fun v33 v34 v35 v36 v37 v38 => (x5 = 0 → w284_L45 mc ms post x1 x3 x4 x5 2 v33 v34 v35 v36 v37 v38 (kc + m29_39) (ks + s29_39)) ∧ (¬ x5 = 0 → w284_L45 mc ms post x1 x3 x4 x5 1 v33 v34 v35 v36 v37 v38 (kc + m29_39) (ks + s29_39))) x1 q_b l_b p_length p_full g_b g_d)
def w284_L14 (mc : Nat) (ms : Nat) (post : Nat → Nat → Int32 → Int32 → (Nat → Int32) → (Nat → Int32) → Prop) (x1 : Int64) (x3 : Int32) (x4 : Int32) (y0 : Int32) (q_b : Nat) (l_b : Nat) (p_length : Int32) (p_full : Int32) (g_b : Nat → Int32) (g_d : Nat → Int32) (kc : Nat) (ks : Nat) : Prop := (¬ (lg_cmp x1 1) = 0 → w284_L27 mc ms post x1 x3 x4 y0 q_b l_b p_length p_full g_b g_d kc ks) ∧ ((lg_cmp x1 1) = 0 → (y0 = 0 → w284_L48 mc ms post x1 x3 x4 y0 q_b l_b p_length p_full g_b g_d kc ks) ∧ (¬ y0 = 0 → w284_L27 mc ms post x1 x3 x4 y0 q_b l_b p_length p_full g_b g_d kc ks))
def w284_L13 (mc : Nat) (ms : Nat) (post : Nat → Nat → Int32 → Int32 → (Nat → Int32) → (Nat → Int32) → Prop) (x1 : Int64) (x3 : Int32) (x4 : Int32) (q_b : Nat) (l_b : Nat) (p_length : Int32) (p_full : Int32) (g_b : Nat → Int32) (g_d : Nat → Int32) (kc : Nat) (ks : Nat) : Prop := w284_L14 mc ms post x1 x3 x4 0 q_b l_b p_length p_full g_b g_d kc ks
def w284_wp (mc : Nat) (ms : Nat) (post : Nat → Nat → Int32 → Int32 → (Nat → Int32) → (Nat → Int32) → Prop) (a1x : Int64) (a2x : Int32) (a3x : Int32) (q_b : Nat) (l_b : Nat) (p_length : Int32) (p_full : Int32) (g_b : Nat → Int32) (g_d : Nat → Int32) : Prop := (¬ a2x = 0 → w284_L13 mc ms post a1x a2x a3x q_b l_b p_length p_full g_b g_d 0 0) ∧ (a2x = 0 → (¬ a3x = 0 → w284_L13 mc ms post a1x a2x a3x q_b l_b p_length p_full g_b g_d 0 0) ∧ (a3x = 0 → w284_L14 mc ms post a1x a2x a3x 1 q_b l_b p_length p_full g_b g_d 0 0))
set_option maxHeartbeats 8000000 in
set_option maxRecDepth 100000 in
theorem w284_met (l : Launch) (dC : Nat → ClassId) (dI : Nat → Nat → Nat) (sz : Nat) (adK : Nat → Nat) (adV : Nat → Nat) (bo : Option Nat) (adB : Nat → Nat) (tA : Nat) (tS : Nat) (hp : Nat) (q_d : Nat) (c_b : ClassId) (mc : Nat) (ms : Nat) (a1x : Int64) (a2x : Int32) (a3x : Int32) (q_b : Nat) (l_b : Nat) (p_length : Int32) (p_full : Int32) (g_b : Nat → Int32) (g_d : Nat → Int32) (post : Nat → Nat → Int32 → Int32 → (Nat → Int32) → (Nat → Int32) → Prop) (hw : w284_wp mc ms post a1x a2x a3x q_b l_b p_length p_full g_b g_d) : Met l px_y284 px_s284 ({ frames := 5, cells := mc, slots := ms, locals := 112 }) (va_Pc [.ref hp, .long a1x, .int a2x, .int a3x] (fun U => U.heap.size = sz ∧ va_P (dC, dI) vwCl [(hp, .inr (7, [.ref q_b, .ref q_d, .int p_length, .int p_full])), (q_b, .inl (c_b, l_b, .inl g_b)), (q_d, .inl (c_b, 48, .inl g_d))] U.heap ∧ va_K (dC, dI) vwCl [(c_b, .byte)] U ∧ va_D (fun _ => True) [(hp, .inr (7, [.ref q_b, .ref q_d, .int p_length, .int p_full])), (q_b, .inl (c_b, l_b, .inl g_b)), (q_d, .inl (c_b, 48, .inl g_d))] ∧ px_N U ∧ px_E adK adV bo adB tA tS (va_A [(hp, .inr (7, [.ref q_b, .ref q_d, .int p_length, .int p_full])), (q_b, .inl (c_b, l_b, .inl g_b)), (q_d, .inl (c_b, 48, .inl g_d))] sz) U U.heap)) (va_Qv (fun (u : Nat × Nat × Int32 × Int32 × (Nat → Int32) × (Nat → Int32)) => post u.1 u.2.1 u.2.2.1 u.2.2.2.1 u.2.2.2.2.1 u.2.2.2.2.2) (fun (u : Nat × Nat × Int32 × Int32 × (Nat → Int32) × (Nat → Int32)) (t : State) => va_P (dC, dI) vwCl [(hp, .inr (7, [.ref u.1, .ref q_d, .int u.2.2.1, .int u.2.2.2.1])), (u.1, .inl (c_b, u.2.1, .inl u.2.2.2.2.1)), (q_d, .inl (c_b, 48, .inl u.2.2.2.2.2))] t.heap ∧ va_K (dC, dI) vwCl [(c_b, .byte)] t ∧ va_D (va_A [(hp, .inr (7, [.ref q_b, .ref q_d, .int p_length, .int p_full])), (q_b, .inl (c_b, l_b, .inl g_b)), (q_d, .inl (c_b, 48, .inl g_d))] sz) [(hp, .inr (7, [.ref u.1, .ref q_d, .int u.2.2.1, .int u.2.2.2.1])), (u.1, .inl (c_b, u.2.1, .inl u.2.2.2.2.1)), (q_d, .inl (c_b, 48, .inl u.2.2.2.2.2))]) (va_A [(hp, .inr (7, [.ref q_b, .ref q_d, .int p_length, .int p_full])), (q_b, .inl (c_b, l_b, .inl g_b)), (q_d, .inl (c_b, 48, .inl g_d))] sz)) mc ms (va_A [(hp, .inr (7, [.ref q_b, .ref q_d, .int p_length, .int p_full])), (q_b, .inl (c_b, l_b, .inl g_b)), (q_d, .inl (c_b, 48, .inl g_d))] sz) := by
  refine Met.ofW (cc := prog_7_method_9_code) (maxL := 6) (ret := none) (by decide) rfl ?_
  intro p e s m args below meth c s₁ B hml hv
  obtain ⟨rfl, hsz, hP, hK, hD0, hN, hE0⟩ := hv
  have hx := B.exec
  have hb := B.bytes
  have hr := B.returns
  have htw : ∀ w ∈ px_all, w.before _ s = true := fun w h => atoms_spec (ws := px_s284) B.pre w (List.mem_cons_of_mem _ h)
  have hown : s.vm.findClass "MatroidDesk$Product" = some m.cls := findClass_of_methodNamed B.named
  have hlocks := B.notSynchronized
  subst hsz
  have hD := hD0.self (sz := s.heap.size)
  generalize hAe : va_A [(hp, .inr (7, [.ref q_b, .ref q_d, .int p_length, .int p_full])), (q_b, .inl (c_b, l_b, .inl g_b)), (q_d, .inl (c_b, 48, .inl g_d))] s.heap.size = A at hD hE0 ⊢
  have hA : ∀ q : Nat, s.heap.size ≤ q → A q := fun q h => by rw [← hAe]; exact Or.inr h
  have hS : va_S A s.heap s.heap [] := va_S.rf
  have hP : va_P (dC, dI) vwCl [(hp, .inr (7, [.ref q_b, .ref q_d, .int p_length, .int p_full])), (q_b, .inl (c_b, l_b, .inl g_b)), (q_d, .inl (c_b, 48, .inl g_d))] s.heap := hP
  have hl := lv_entry ([.ref hp, .long a1x, .int a2x, .int a3x]) (n := 6) (Nat.le_of_ble_eq_true rfl)
  rw [lg_entry_eq]
  generalize (lg_sl ([.ref hp, .long a1x, .int a2x, .int a3x]) ++ List.replicate (6 - (lg_sl ([.ref hp, .long a1x, .int a2x, .int a3x])).length) Slot.unset).toArray = ls at hl ⊢
  have hl : lv_has ls 6 [(0, .ref hp), (1, .long a1x), (3, .int a2x), (4, .int a3x)] := hl
  generalize hQ : MQ _ _ _ _ _ _ _ = Q
  have S72 : ∀ (x1 : Int64) (x3 : Int32) (x4 : Int32) (x5 : Int32) (y0 : Nat) (q_b : Nat) (l_b : Nat) (p_length : Int32) (p_full : Int32) (g_b : Nat → Int32) (g_d : Nat → Int32) (kc : Nat) (ks : Nat) (H : Heap) (locs : List Loc) (ls : Array Slot), kc ≤ mc → ks ≤ ms → va_P (dC, dI) vwCl [(hp, .inr (7, [.ref q_b, .ref q_d, .int p_length, .int p_full])), (q_b, .inl (c_b, l_b, .inl g_b)), (q_d, .inl (c_b, 48, .inl g_d))] H → va_D A [(hp, .inr (7, [.ref q_b, .ref q_d, .int p_length, .int p_full])), (q_b, .inl (c_b, l_b, .inl g_b)), (q_d, .inl (c_b, 48, .inl g_d))] → va_S A s.heap H locs → lv_has ls 6 [(0, .ref hp), (1, .long x1), (3, .int x3), (4, .int x4), (5, .int x5)] → w284_L72 mc ms post x1 x3 x4 x5 y0 q_b l_b p_length p_full g_b g_d kc ks → W p l e (headSpec px_s284 ({ frames := 5, cells := mc, slots := ms, locals := 112 })).room s m ([.ref hp, .long a1x, .int a2x, .int a3x]).toArray below meth c H locs kc ks Q (F0 m 72 ls [.ref (adK y0), .ref hp]) := by
    intro x1 x3 x4 x5 y0 q_b l_b p_length p_full g_b g_d kc ks H locs ls hkc hks hP hD hS hl hw
    unfold w284_L72 at hw
    obtain ⟨m72_7, s72_7, hm72_7, hs72_7, hw⟩ := hw
    have hPc := hP.sub (ws' := [(hp, .inr (7, [.ref q_b, .ref q_d, .int p_length, .int p_full])), (q_b, .inl (c_b, l_b, .inl g_b)), (q_d, .inl (c_b, 48, .inl g_d))]) [0, 1, 2] rfl
    have hDc := hD.sub (ws' := [(hp, .inr (7, [.ref q_b, .ref q_d, .int p_length, .int p_full])), (q_b, .inl (c_b, l_b, .inl g_b)), (q_d, .inl (c_b, 48, .inl g_d))]) [0, 1, 2] (by decide) rfl
    have hFc := va_free (wc := [(hp, .inr (7, [.ref q_b, .ref q_d, .int p_length, .int p_full])), (q_b, .inl (c_b, l_b, .inl g_b)), (q_d, .inl (c_b, 48, .inl g_d))]) hD hS hA [0, 1, 2] rfl
    have hKc := hK.sub (tys' := [(c_b, .byte)]) [0] rfl
    refine va_callv (va_runV (As := [.ref (adK y0)]) (rest := []) ⟨hx, hb, hml, hown, htw⟩ (w278_met l dC dI H.size adK adV bo adB tA tS hp q_d c_b m72_7 s72_7 y0 q_b l_b p_length p_full g_b g_d _ hw) (cwV 1 htw (px_gv px_w1409 px_w1412 px_w1413 px_w88 px_g278) rfl rfl rfl (by decide +kernel) ⟨Nat.le_of_ble_eq_true rfl, Nat.le_of_ble_eq_true rfl⟩) ⟨fun a U g mk q => by obtain ⟨q0, q1, qP, qK, qD, qN, qE0⟩ := q; exact ⟨q0, q1, qP, va_K.moved (u := U) (U := U.calling g mk a) (Vm.Alike.refl U.vm) qK, qD, qN.same rfl, qE0.same rfl⟩, va_recv hK hP (ci := 7) (q0 := 0) rfl rfl, fun U hU hW => ⟨rfl, by rw [hU], by rw [hU]; exact hPc, va_K.moved hW.alike hKc, hDc.weaken (fun _ _ _ _ => trivial), hN.warm hW, by rw [hU]; exact hE0.go hS hFc hW⟩⟩ rfl rfl hl.1 rfl (lv_room (Nat.le_of_ble_eq_true rfl)) px_d284_72 ⟨hm72_7, hs72_7⟩) hS (fun q _ h => hFc q h) hFc (fun u t H1 locs ht hvm hw hB hz1 hk1 hS => ?_)
    obtain ⟨v1, v2, v3, v4, v5, v6⟩ := u
    obtain ⟨hP1, hK1, hD1⟩ := hB
    rw [ht] at hP1
    obtain ⟨hP, hD⟩ := va_join (wr := []) (w1 := [(hp, .inr (7, [.ref v1, .ref q_d, .int v3, .int v4])), (v1, .inl (c_b, v2, .inl v5)), (q_d, .inl (c_b, 48, .inl v6))]) hP hD [0, 1, 2] [] rfl rfl (by decide) (by decide) hk1 hFc hP1 hD1
    generalize H1 = H at hP hS ⊢
    have hP : va_P (dC, dI) vwCl [(hp, .inr (7, [.ref v1, .ref q_d, .int v3, .int v4])), (v1, .inl (c_b, v2, .inl v5)), (q_d, .inl (c_b, 48, .inl v6))] H := hP
    have hD : va_D A [(hp, .inr (7, [.ref v1, .ref q_d, .int v3, .int v4])), (v1, .inl (c_b, v2, .inl v5)), (q_d, .inl (c_b, 48, .inl v6))] := hD
    refine lv_aload_n hx hb px_d284_75 rfl (lv_at hl 0 rfl) ?_
    refine lv_bipush (v := 121) hx hb px_d284_76 (by decide) ?_
    refine lv_iload hx hb px_d284_78 (lv_at hl 3 rfl) ?_
    obtain ⟨m80_15, s80_15, hm80_15, hs80_15, hw⟩ := hw
    have hPc := hP.sub (ws' := [(hp, .inr (7, [.ref v1, .ref q_d, .int v3, .int v4])), (v1, .inl (c_b, v2, .inl v5)), (q_d, .inl (c_b, 48, .inl v6))]) [0, 1, 2] rfl
    have hDc := hD.sub (ws' := [(hp, .inr (7, [.ref v1, .ref q_d, .int v3, .int v4])), (v1, .inl (c_b, v2, .inl v5)), (q_d, .inl (c_b, 48, .inl v6))]) [0, 1, 2] (by decide) rfl
    have hFc := va_free (wc := [(hp, .inr (7, [.ref v1, .ref q_d, .int v3, .int v4])), (v1, .inl (c_b, v2, .inl v5)), (q_d, .inl (c_b, 48, .inl v6))]) hD hS hA [0, 1, 2] rfl
    have hKc := hK.sub (tys' := [(c_b, .byte)]) [0] rfl
    refine va_callv (va_runV (As := [.int 121, .int x4]) (rest := []) ⟨hx, hb, hml, hown, htw⟩ (w285_met l dC dI H.size hp q_d c_b m80_15 s80_15 121 x4 v1 v2 v3 v4 v5 v6 _ hw) (cwV 2 htw (px_gv px_w1439 px_w1441 px_w1442 px_w88 px_g285) rfl rfl rfl (by decide +kernel) ⟨Nat.le_of_ble_eq_true rfl, Nat.le_of_ble_eq_true rfl⟩) ⟨fun a U g mk q => by obtain ⟨q0, q1, qP, qK, qD, qN⟩ := q; exact ⟨q0, q1, qP, va_K.moved (u := U) (U := U.calling g mk a) (Vm.Alike.refl U.vm) qK, qD, qN.same rfl⟩, va_recv hK hP (ci := 7) (q0 := 0) rfl rfl, fun U hU hW => ⟨rfl, by rw [hU], by rw [hU]; exact hPc, va_K.moved hW.alike hKc, hDc.weaken (fun _ _ _ _ => trivial), hN.warm hW⟩⟩ rfl rfl hl.1 rfl (lv_room (Nat.le_of_ble_eq_true rfl)) px_d284_80 ⟨hm80_15, hs80_15⟩) hS (fun q _ h => hFc q h) hFc (fun u t H1 locs ht hvm hw hB hz1 hk1 hS => ?_)
    obtain ⟨v9, v10, v11, v12, v13, v14⟩ := u
    obtain ⟨hP1, hK1, hD1⟩ := hB
    rw [ht] at hP1
    obtain ⟨hP, hD⟩ := va_join (wr := []) (w1 := [(hp, .inr (7, [.ref v9, .ref q_d, .int v11, .int v12])), (v9, .inl (c_b, v10, .inl v13)), (q_d, .inl (c_b, 48, .inl v14))]) hP hD [0, 1, 2] [] rfl rfl (by decide) (by decide) hk1 hFc hP1 hD1
    generalize H1 = H at hP hS ⊢
    have hP : va_P (dC, dI) vwCl [(hp, .inr (7, [.ref v9, .ref q_d, .int v11, .int v12])), (v9, .inl (c_b, v10, .inl v13)), (q_d, .inl (c_b, 48, .inl v14))] H := hP
    have hD : va_D A [(hp, .inr (7, [.ref v9, .ref q_d, .int v11, .int v12])), (v9, .inl (c_b, v10, .inl v13)), (q_d, .inl (c_b, 48, .inl v14))] := hD
    refine W.widen (k := mc) (n := ms) hm80_15 hs80_15 ?_
    rw [← hQ]
    exact W.vret hx hb hr (fun t ht hW => ⟨⟨(v9, v10, v11, v12, v13, v14), rfl, hw, by rw [ht]; exact hP, va_K.moved hW.alike hK, hD⟩, hS.F ht⟩) hS.2.2 px_d284_83
  have S70 : ∀ (x1 : Int64) (x3 : Int32) (x4 : Int32) (x5 : Int32) (q_b : Nat) (l_b : Nat) (p_length : Int32) (p_full : Int32) (g_b : Nat → Int32) (g_d : Nat → Int32) (kc : Nat) (ks : Nat) (H : Heap) (locs : List Loc) (ls : Array Slot), kc ≤ mc → ks ≤ ms → va_P (dC, dI) vwCl [(hp, .inr (7, [.ref q_b, .ref q_d, .int p_length, .int p_full])), (q_b, .inl (c_b, l_b, .inl g_b)), (q_d, .inl (c_b, 48, .inl g_d))] H → va_D A [(hp, .inr (7, [.ref q_b, .ref q_d, .int p_length, .int p_full])), (q_b, .inl (c_b, l_b, .inl g_b)), (q_d, .inl (c_b, 48, .inl g_d))] → va_S A s.heap H locs → lv_has ls 6 [(0, .ref hp), (1, .long x1), (3, .int x3), (4, .int x4), (5, .int x5)] → w284_L70 mc ms post x1 x3 x4 x5 q_b l_b p_length p_full g_b g_d kc ks → W p l e (headSpec px_s284 ({ frames := 5, cells := mc, slots := ms, locals := 112 })).room s m ([.ref hp, .long a1x, .int a2x, .int a3x]).toArray below meth c H locs kc ks Q (F0 m 70 ls [.ref hp]) := by
    intro x1 x3 x4 x5 q_b l_b p_length p_full g_b g_d kc ks H locs ls hkc hks hP hD hS hl hw
    unfold w284_L70 at hw
    refine px_ldcS hx hb hown hE0 px_qr1 px_d284_70 ?_
    exact S72 x1 x3 x4 x5 1 q_b l_b p_length p_full g_b g_d kc ks H locs ls hkc hks hP hD hS (lv_sub hl [0, 1, 2, 3, 4] rfl) hw
  have S48 : ∀ (x1 : Int64) (x3 : Int32) (x4 : Int32) (x5 : Int32) (q_b : Nat) (l_b : Nat) (p_length : Int32) (p_full : Int32) (g_b : Nat → Int32) (g_d : Nat → Int32) (kc : Nat) (ks : Nat) (H : Heap) (locs : List Loc) (ls : Array Slot), kc ≤ mc → ks ≤ ms → va_P (dC, dI) vwCl [(hp, .inr (7, [.ref q_b, .ref q_d, .int p_length, .int p_full])), (q_b, .inl (c_b, l_b, .inl g_b)), (q_d, .inl (c_b, 48, .inl g_d))] H → va_D A [(hp, .inr (7, [.ref q_b, .ref q_d, .int p_length, .int p_full])), (q_b, .inl (c_b, l_b, .inl g_b)), (q_d, .inl (c_b, 48, .inl g_d))] → va_S A s.heap H locs → lv_has ls 6 [(0, .ref hp), (1, .long x1), (3, .int x3), (4, .int x4), (5, .int x5)] → w284_L48 mc ms post x1 x3 x4 x5 q_b l_b p_length p_full g_b g_d kc ks → W p l e (headSpec px_s284 ({ frames := 5, cells := mc, slots := ms, locals := 112 })).room s m ([.ref hp, .long a1x, .int a2x, .int a3x]).toArray below meth c H locs kc ks Q (F0 m 48 ls []) := by
    intro x1 x3 x4 x5 q_b l_b p_length p_full g_b g_d kc ks H locs ls hkc hks hP hD hS hl hw
    unfold w284_L48 at hw
    refine lv_aload_n hx hb px_d284_48 rfl (lv_at hl 0 rfl) ?_
    refine lv_bipush (v := 120) hx hb px_d284_49 (by decide) ?_
    refine lv_iload_n hx hb px_d284_51 rfl (lv_at hl 2 rfl) ?_
    obtain ⟨m52_23, s52_23, hm52_23, hs52_23, hw⟩ := hw
    have hPc := hP.sub (ws' := [(hp, .inr (7, [.ref q_b, .ref q_d, .int p_length, .int p_full])), (q_b, .inl (c_b, l_b, .inl g_b)), (q_d, .inl (c_b, 48, .inl g_d))]) [0, 1, 2] rfl
    have hDc := hD.sub (ws' := [(hp, .inr (7, [.ref q_b, .ref q_d, .int p_length, .int p_full])), (q_b, .inl (c_b, l_b, .inl g_b)), (q_d, .inl (c_b, 48, .inl g_d))]) [0, 1, 2] (by decide) rfl
    have hFc := va_free (wc := [(hp, .inr (7, [.ref q_b, .ref q_d, .int p_length, .int p_full])), (q_b, .inl (c_b, l_b, .inl g_b)), (q_d, .inl (c_b, 48, .inl g_d))]) hD hS hA [0, 1, 2] rfl
    have hKc := hK.sub (tys' := [(c_b, .byte)]) [0] rfl
    refine va_callv (va_runV (As := [.int 120, .int x3]) (rest := []) ⟨hx, hb, hml, hown, htw⟩ (w285_met l dC dI H.size hp q_d c_b m52_23 s52_23 120 x3 q_b l_b p_length p_full g_b g_d _ hw) (cwV 2 htw (px_gv px_w1439 px_w1441 px_w1442 px_w88 px_g285) rfl rfl rfl (by decide +kernel) ⟨Nat.le_of_ble_eq_true rfl, Nat.le_of_ble_eq_true rfl⟩) ⟨fun a U g mk q => by obtain ⟨q0, q1, qP, qK, qD, qN⟩ := q; exact ⟨q0, q1, qP, va_K.moved (u := U) (U := U.calling g mk a) (Vm.Alike.refl U.vm) qK, qD, qN.same rfl⟩, va_recv hK hP (ci := 7) (q0 := 0) rfl rfl, fun U hU hW => ⟨rfl, by rw [hU], by rw [hU]; exact hPc, va_K.moved hW.alike hKc, hDc.weaken (fun _ _ _ _ => trivial), hN.warm hW⟩⟩ rfl rfl hl.1 rfl (lv_room (Nat.le_of_ble_eq_true rfl)) px_d284_52 ⟨hm52_23, hs52_23⟩) hS (fun q _ h => hFc q h) hFc (fun u t H1 locs ht hvm hw hB hz1 hk1 hS => ?_)
    obtain ⟨v17, v18, v19, v20, v21, v22⟩ := u
    obtain ⟨hP1, hK1, hD1⟩ := hB
    rw [ht] at hP1
    obtain ⟨hP, hD⟩ := va_join (wr := []) (w1 := [(hp, .inr (7, [.ref v17, .ref q_d, .int v19, .int v20])), (v17, .inl (c_b, v18, .inl v21)), (q_d, .inl (c_b, 48, .inl v22))]) hP hD [0, 1, 2] [] rfl rfl (by decide) (by decide) hk1 hFc hP1 hD1
    generalize H1 = H at hP hS ⊢
    have hP : va_P (dC, dI) vwCl [(hp, .inr (7, [.ref v17, .ref q_d, .int v19, .int v20])), (v17, .inl (c_b, v18, .inl v21)), (q_d, .inl (c_b, 48, .inl v22))] H := hP
    have hD : va_D A [(hp, .inr (7, [.ref v17, .ref q_d, .int v19, .int v20])), (v17, .inl (c_b, v18, .inl v21)), (q_d, .inl (c_b, 48, .inl v22))] := hD
    refine lv_aload_n hx hb px_d284_55 rfl (lv_at hl 0 rfl) ?_
    refine lv_iload_n hx hb px_d284_56 rfl (lv_at hl 2 rfl) ?_
    refine lv_if_le (tgt := 70) hx hb px_d284_57 (by decide) (fun c57 => ?_) (fun c57 => ?_)
    · have hw := hw.1 c57
      exact S70 x1 x3 x4 x5 v17 v18 v19 v20 v21 v22 (kc + m52_23) (ks + s52_23) H locs ls hm52_23 hs52_23 hP hD hS (lv_sub hl [0, 1, 2, 3, 4] rfl) hw
    · have hw := hw.2 c57
      refine lv_iload hx hb px_d284_60 (lv_at hl 3 rfl) ?_
      refine lv_if_le (tgt := 70) hx hb px_d284_62 (by decide) (fun c62 => ?_) (fun c62 => ?_)
      · have hw := hw.1 c62
        exact S70 x1 x3 x4 x5 v17 v18 v19 v20 v21 v22 (kc + m52_23) (ks + s52_23) H locs ls hm52_23 hs52_23 hP hD hS (lv_sub hl [0, 1, 2, 3, 4] rfl) hw
      · have hw := hw.2 c62
        refine px_ldcS hx hb hown hE0 px_qr2 px_d284_65 ?_
        refine lv_goto (tgt := 72) hx hb px_d284_67 (by decide) ?_
        exact S72 x1 x3 x4 x5 2 v17 v18 v19 v20 v21 v22 (kc + m52_23) (ks + s52_23) H locs ls hm52_23 hs52_23 hP hD hS (lv_sub hl [0, 1, 2, 3, 4] rfl) hw
  have S45 : ∀ (x1 : Int64) (x3 : Int32) (x4 : Int32) (x5 : Int32) (y0 : Nat) (q_b : Nat) (l_b : Nat) (p_length : Int32) (p_full : Int32) (g_b : Nat → Int32) (g_d : Nat → Int32) (kc : Nat) (ks : Nat) (H : Heap) (locs : List Loc) (ls : Array Slot), kc ≤ mc → ks ≤ ms → va_P (dC, dI) vwCl [(hp, .inr (7, [.ref q_b, .ref q_d, .int p_length, .int p_full])), (q_b, .inl (c_b, l_b, .inl g_b)), (q_d, .inl (c_b, 48, .inl g_d))] H → va_D A [(hp, .inr (7, [.ref q_b, .ref q_d, .int p_length, .int p_full])), (q_b, .inl (c_b, l_b, .inl g_b)), (q_d, .inl (c_b, 48, .inl g_d))] → va_S A s.heap H locs → lv_has ls 6 [(0, .ref hp), (1, .long x1), (3, .int x3), (4, .int x4), (5, .int x5)] → w284_L45 mc ms post x1 x3 x4 x5 y0 q_b l_b p_length p_full g_b g_d kc ks → W p l e (headSpec px_s284 ({ frames := 5, cells := mc, slots := ms, locals := 112 })).room s m ([.ref hp, .long a1x, .int a2x, .int a3x]).toArray below meth c H locs kc ks Q (F0 m 45 ls [.ref (adK y0), .ref hp]) := by
    intro x1 x3 x4 x5 y0 q_b l_b p_length p_full g_b g_d kc ks H locs ls hkc hks hP hD hS hl hw
    unfold w284_L45 at hw
    obtain ⟨m45_31, s45_31, hm45_31, hs45_31, hw⟩ := hw
    have hPc := hP.sub (ws' := [(hp, .inr (7, [.ref q_b, .ref q_d, .int p_length, .int p_full])), (q_b, .inl (c_b, l_b, .inl g_b)), (q_d, .inl (c_b, 48, .inl g_d))]) [0, 1, 2] rfl
    have hDc := hD.sub (ws' := [(hp, .inr (7, [.ref q_b, .ref q_d, .int p_length, .int p_full])), (q_b, .inl (c_b, l_b, .inl g_b)), (q_d, .inl (c_b, 48, .inl g_d))]) [0, 1, 2] (by decide) rfl
    have hFc := va_free (wc := [(hp, .inr (7, [.ref q_b, .ref q_d, .int p_length, .int p_full])), (q_b, .inl (c_b, l_b, .inl g_b)), (q_d, .inl (c_b, 48, .inl g_d))]) hD hS hA [0, 1, 2] rfl
    have hKc := hK.sub (tys' := [(c_b, .byte)]) [0] rfl
    refine va_callv (va_runV (As := [.ref (adK y0)]) (rest := []) ⟨hx, hb, hml, hown, htw⟩ (w278_met l dC dI H.size adK adV bo adB tA tS hp q_d c_b m45_31 s45_31 y0 q_b l_b p_length p_full g_b g_d _ hw) (cwV 1 htw (px_gv px_w1409 px_w1412 px_w1413 px_w88 px_g278) rfl rfl rfl (by decide +kernel) ⟨Nat.le_of_ble_eq_true rfl, Nat.le_of_ble_eq_true rfl⟩) ⟨fun a U g mk q => by obtain ⟨q0, q1, qP, qK, qD, qN, qE0⟩ := q; exact ⟨q0, q1, qP, va_K.moved (u := U) (U := U.calling g mk a) (Vm.Alike.refl U.vm) qK, qD, qN.same rfl, qE0.same rfl⟩, va_recv hK hP (ci := 7) (q0 := 0) rfl rfl, fun U hU hW => ⟨rfl, by rw [hU], by rw [hU]; exact hPc, va_K.moved hW.alike hKc, hDc.weaken (fun _ _ _ _ => trivial), hN.warm hW, by rw [hU]; exact hE0.go hS hFc hW⟩⟩ rfl rfl hl.1 rfl (lv_room (Nat.le_of_ble_eq_true rfl)) px_d284_45 ⟨hm45_31, hs45_31⟩) hS (fun q _ h => hFc q h) hFc (fun u t H1 locs ht hvm hw hB hz1 hk1 hS => ?_)
    obtain ⟨v25, v26, v27, v28, v29, v30⟩ := u
    obtain ⟨hP1, hK1, hD1⟩ := hB
    rw [ht] at hP1
    obtain ⟨hP, hD⟩ := va_join (wr := []) (w1 := [(hp, .inr (7, [.ref v25, .ref q_d, .int v27, .int v28])), (v25, .inl (c_b, v26, .inl v29)), (q_d, .inl (c_b, 48, .inl v30))]) hP hD [0, 1, 2] [] rfl rfl (by decide) (by decide) hk1 hFc hP1 hD1
    generalize H1 = H at hP hS ⊢
    have hP : va_P (dC, dI) vwCl [(hp, .inr (7, [.ref v25, .ref q_d, .int v27, .int v28])), (v25, .inl (c_b, v26, .inl v29)), (q_d, .inl (c_b, 48, .inl v30))] H := hP
    have hD : va_D A [(hp, .inr (7, [.ref v25, .ref q_d, .int v27, .int v28])), (v25, .inl (c_b, v26, .inl v29)), (q_d, .inl (c_b, 48, .inl v30))] := hD
    exact S48 x1 x3 x4 x5 v25 v26 v27 v28 v29 v30 (kc + m45_31) (ks + s45_31) H locs ls hm45_31 hs45_31 hP hD hS (lv_sub hl [0, 1, 2, 3, 4] rfl) hw
  have S27 : ∀ (x1 : Int64) (x3 : Int32) (x4 : Int32) (x5 : Int32) (q_b : Nat) (l_b : Nat) (p_length : Int32) (p_full : Int32) (g_b : Nat → Int32) (g_d : Nat → Int32) (kc : Nat) (ks : Nat) (H : Heap) (locs : List Loc) (ls : Array Slot), kc ≤ mc → ks ≤ ms → va_P (dC, dI) vwCl [(hp, .inr (7, [.ref q_b, .ref q_d, .int p_length, .int p_full])), (q_b, .inl (c_b, l_b, .inl g_b)), (q_d, .inl (c_b, 48, .inl g_d))] H → va_D A [(hp, .inr (7, [.ref q_b, .ref q_d, .int p_length, .int p_full])), (q_b, .inl (c_b, l_b, .inl g_b)), (q_d, .inl (c_b, 48, .inl g_d))] → va_S A s.heap H locs → lv_has ls 6 [(0, .ref hp), (1, .long x1), (3, .int x3), (4, .int x4), (5, .int x5)] → w284_L27 mc ms post x1 x3 x4 x5 q_b l_b p_length p_full g_b g_d kc ks → W p l e (headSpec px_s284 ({ frames := 5, cells := mc, slots := ms, locals := 112 })).room s m ([.ref hp, .long a1x, .int a2x, .int a3x]).toArray below meth c H locs kc ks Q (F0 m 27 ls []) := by
    intro x1 x3 x4 x5 q_b l_b p_length p_full g_b g_d kc ks H locs ls hkc hks hP hD hS hl hw
    unfold w284_L27 at hw
    refine lv_aload_n hx hb px_d284_27 rfl (lv_at hl 0 rfl) ?_
    refine lv_lload_n hx hb px_d284_28 rfl (lv_at hl 1 rfl) ?_
    obtain ⟨m29_39, s29_39, hm29_39, hs29_39, hw⟩ := hw
    have hPc := hP.sub (ws' := [(hp, .inr (7, [.ref q_b, .ref q_d, .int p_length, .int p_full])), (q_b, .inl (c_b, l_b, .inl g_b)), (q_d, .inl (c_b, 48, .inl g_d))]) [0, 1, 2] rfl
    have hDc := hD.sub (ws' := [(hp, .inr (7, [.ref q_b, .ref q_d, .int p_length, .int p_full])), (q_b, .inl (c_b, l_b, .inl g_b)), (q_d, .inl (c_b, 48, .inl g_d))]) [0, 1, 2] (by decide) rfl
    have hFc := va_free (wc := [(hp, .inr (7, [.ref q_b, .ref q_d, .int p_length, .int p_full])), (q_b, .inl (c_b, l_b, .inl g_b)), (q_d, .inl (c_b, 48, .inl g_d))]) hD hS hA [0, 1, 2] rfl
    have hKc := hK.sub (tys' := [(c_b, .byte)]) [0] rfl
    refine va_callv (va_runV (As := [.long x1]) (rest := []) ⟨hx, hb, hml, hown, htw⟩ (w269_met l dC dI H.size hp q_d c_b m29_39 s29_39 x1 q_b l_b p_length p_full g_b g_d _ hw) (cwV 1 htw (px_gv px_w1410 px_w1372 px_w1373 px_w88 px_g269) rfl rfl rfl (by decide +kernel) ⟨Nat.le_of_ble_eq_true rfl, Nat.le_of_ble_eq_true rfl⟩) ⟨fun a U g mk q => by obtain ⟨q0, q1, qP, qK, qD, qN⟩ := q; exact ⟨q0, q1, qP, va_K.moved (u := U) (U := U.calling g mk a) (Vm.Alike.refl U.vm) qK, qD, qN.same rfl⟩, va_recv hK hP (ci := 7) (q0 := 0) rfl rfl, fun U hU hW => ⟨rfl, by rw [hU], by rw [hU]; exact hPc, va_K.moved hW.alike hKc, hDc.weaken (fun _ _ _ _ => trivial), hN.warm hW⟩⟩ rfl rfl hl.1 rfl (lv_room (Nat.le_of_ble_eq_true rfl)) px_d284_29 ⟨hm29_39, hs29_39⟩) hS (fun q _ h => hFc q h) hFc (fun u t H1 locs ht hvm hw hB hz1 hk1 hS => ?_)
    obtain ⟨v33, v34, v35, v36, v37, v38⟩ := u
    obtain ⟨hP1, hK1, hD1⟩ := hB
    rw [ht] at hP1
    obtain ⟨hP, hD⟩ := va_join (wr := []) (w1 := [(hp, .inr (7, [.ref v33, .ref q_d, .int v35, .int v36])), (v33, .inl (c_b, v34, .inl v37)), (q_d, .inl (c_b, 48, .inl v38))]) hP hD [0, 1, 2] [] rfl rfl (by decide) (by decide) hk1 hFc hP1 hD1
    generalize H1 = H at hP hS ⊢
    have hP : va_P (dC, dI) vwCl [(hp, .inr (7, [.ref v33, .ref q_d, .int v35, .int v36])), (v33, .inl (c_b, v34, .inl v37)), (q_d, .inl (c_b, 48, .inl v38))] H := hP
    have hD : va_D A [(hp, .inr (7, [.ref v33, .ref q_d, .int v35, .int v36])), (v33, .inl (c_b, v34, .inl v37)), (q_d, .inl (c_b, 48, .inl v38))] := hD
    refine lv_aload_n hx hb px_d284_32 rfl (lv_at hl 0 rfl) ?_
    refine lv_iload hx hb px_d284_33 (lv_at hl 4 rfl) ?_
    refine lv_if_eq (tgt := 43) hx hb px_d284_35 (by decide) (fun c35 => ?_) (fun c35 => ?_)
    · have hw := hw.1 c35
      refine px_ldcS hx hb hown hE0 px_qr2 px_d284_43 ?_
      exact S45 x1 x3 x4 x5 2 v33 v34 v35 v36 v37 v38 (kc + m29_39) (ks + s29_39) H locs ls hm29_39 hs29_39 hP hD hS (lv_sub hl [0, 1, 2, 3, 4] rfl) hw
    · have hw := hw.2 c35
      refine px_ldcS hx hb hown hE0 px_qr1 px_d284_38 ?_
      refine lv_goto (tgt := 45) hx hb px_d284_40 (by decide) ?_
      exact S45 x1 x3 x4 x5 1 v33 v34 v35 v36 v37 v38 (kc + m29_39) (ks + s29_39) H locs ls hm29_39 hs29_39 hP hD hS (lv_sub hl [0, 1, 2, 3, 4] rfl) hw
  have S14 : ∀ (x1 : Int64) (x3 : Int32) (x4 : Int32) (y0 : Int32) (q_b : Nat) (l_b : Nat) (p_length : Int32) (p_full : Int32) (g_b : Nat → Int32) (g_d : Nat → Int32) (kc : Nat) (ks : Nat) (H : Heap) (locs : List Loc) (ls : Array Slot), kc ≤ mc → ks ≤ ms → va_P (dC, dI) vwCl [(hp, .inr (7, [.ref q_b, .ref q_d, .int p_length, .int p_full])), (q_b, .inl (c_b, l_b, .inl g_b)), (q_d, .inl (c_b, 48, .inl g_d))] H → va_D A [(hp, .inr (7, [.ref q_b, .ref q_d, .int p_length, .int p_full])), (q_b, .inl (c_b, l_b, .inl g_b)), (q_d, .inl (c_b, 48, .inl g_d))] → va_S A s.heap H locs → lv_has ls 6 [(0, .ref hp), (1, .long x1), (3, .int x3), (4, .int x4)] → w284_L14 mc ms post x1 x3 x4 y0 q_b l_b p_length p_full g_b g_d kc ks → W p l e (headSpec px_s284 ({ frames := 5, cells := mc, slots := ms, locals := 112 })).room s m ([.ref hp, .long a1x, .int a2x, .int a3x]).toArray below meth c H locs kc ks Q (F0 m 14 ls [.int y0]) := by
    intro x1 x3 x4 y0 q_b l_b p_length p_full g_b g_d kc ks H locs ls hkc hks hP hD hS hl hw
    unfold w284_L14 at hw
    refine lv_istore (lv' := [(5, .int y0), (0, .ref hp), (1, .long x1), (3, .int x3), (4, .int x4)]) hx hb px_d284_14 hl (by decide) rfl (fun ls hl => ?_)
    refine lv_lload_n hx hb px_d284_16 rfl (lv_at hl 2 rfl) ?_
    refine lv_lconst (v := 1) hx hb px_d284_17 (by decide) ?_
    refine W.lcmp hx hb px_d284_18 ?_
    refine lv_if_ne (tgt := 27) hx hb px_d284_19 (by decide) (fun c19 => ?_) (fun c19 => ?_)
    · have hw := hw.1 c19
      exact S27 x1 x3 x4 y0 q_b l_b p_length p_full g_b g_d kc ks H locs ls hkc hks hP hD hS (lv_sub hl [1, 2, 3, 4, 0] rfl) hw
    · have hw := hw.2 c19
      refine lv_iload hx hb px_d284_22 (lv_at hl 0 rfl) ?_
      refine lv_if_eq (tgt := 48) hx hb px_d284_24 (by decide) (fun c24 => ?_) (fun c24 => ?_)
      · have hw := hw.1 c24
        exact S48 x1 x3 x4 y0 q_b l_b p_length p_full g_b g_d kc ks H locs ls hkc hks hP hD hS (lv_sub hl [1, 2, 3, 4, 0] rfl) hw
      · have hw := hw.2 c24
        exact S27 x1 x3 x4 y0 q_b l_b p_length p_full g_b g_d kc ks H locs ls hkc hks hP hD hS (lv_sub hl [1, 2, 3, 4, 0] rfl) hw
  have S13 : ∀ (x1 : Int64) (x3 : Int32) (x4 : Int32) (q_b : Nat) (l_b : Nat) (p_length : Int32) (p_full : Int32) (g_b : Nat → Int32) (g_d : Nat → Int32) (kc : Nat) (ks : Nat) (H : Heap) (locs : List Loc) (ls : Array Slot), kc ≤ mc → ks ≤ ms → va_P (dC, dI) vwCl [(hp, .inr (7, [.ref q_b, .ref q_d, .int p_length, .int p_full])), (q_b, .inl (c_b, l_b, .inl g_b)), (q_d, .inl (c_b, 48, .inl g_d))] H → va_D A [(hp, .inr (7, [.ref q_b, .ref q_d, .int p_length, .int p_full])), (q_b, .inl (c_b, l_b, .inl g_b)), (q_d, .inl (c_b, 48, .inl g_d))] → va_S A s.heap H locs → lv_has ls 6 [(0, .ref hp), (1, .long x1), (3, .int x3), (4, .int x4)] → w284_L13 mc ms post x1 x3 x4 q_b l_b p_length p_full g_b g_d kc ks → W p l e (headSpec px_s284 ({ frames := 5, cells := mc, slots := ms, locals := 112 })).room s m ([.ref hp, .long a1x, .int a2x, .int a3x]).toArray below meth c H locs kc ks Q (F0 m 13 ls []) := by
    intro x1 x3 x4 q_b l_b p_length p_full g_b g_d kc ks H locs ls hkc hks hP hD hS hl hw
    unfold w284_L13 at hw
    refine lv_iconst (v := 0) hx hb px_d284_13 (by decide) ?_
    exact S14 x1 x3 x4 0 q_b l_b p_length p_full g_b g_d kc ks H locs ls hkc hks hP hD hS (lv_sub hl [0, 1, 2, 3] rfl) hw
  unfold w284_wp at hw
  have hS0 := hS
  obtain ⟨H, hH9⟩ : ∃ z, z = s.heap := ⟨_, rfl⟩
  have hP : va_P (dC, dI) vwCl [(hp, .inr (7, [.ref q_b, .ref q_d, .int p_length, .int p_full])), (q_b, .inl (c_b, l_b, .inl g_b)), (q_d, .inl (c_b, 48, .inl g_d))] H := by rw [hH9]; exact hP
  obtain ⟨locs, hlo9⟩ : ∃ z : List Loc, z = [] := ⟨_, rfl⟩
  have hS : va_S A s.heap H locs := by rw [hH9, hlo9]; exact hS
  suffices hG : W p l e (headSpec px_s284 ({ frames := 5, cells := mc, slots := ms, locals := 112 })).room s m ([.ref hp, .long a1x, .int a2x, .int a3x]).toArray below meth c H locs 0 0 Q (F0 m 0 ls []) by rw [hH9, hlo9] at hG; exact hG
  refine lv_iload_n hx hb px_d284_0 rfl (lv_at hl 2 rfl) ?_
  refine lv_if_ne (tgt := 13) hx hb px_d284_1 (by decide) (fun c1 => ?_) (fun c1 => ?_)
  · have hw := hw.1 c1
    exact S13 a1x a2x a3x q_b l_b p_length p_full g_b g_d 0 0 H locs ls (Nat.zero_le mc) (Nat.zero_le ms) hP hD hS (lv_sub hl [0, 1, 2, 3] rfl) hw
  · have hw := hw.2 c1
    refine lv_iload hx hb px_d284_4 (lv_at hl 3 rfl) ?_
    refine lv_if_ne (tgt := 13) hx hb px_d284_6 (by decide) (fun c6 => ?_) (fun c6 => ?_)
    · have hw := hw.1 c6
      exact S13 a1x a2x a3x q_b l_b p_length p_full g_b g_d 0 0 H locs ls (Nat.zero_le mc) (Nat.zero_le ms) hP hD hS (lv_sub hl [0, 1, 2, 3] rfl) hw
    · have hw := hw.2 c6
      refine lv_iconst (v := 1) hx hb px_d284_9 (by decide) ?_
      refine lv_goto (tgt := 14) hx hb px_d284_10 (by decide) ?_
      exact S14 a1x a2x a3x 1 q_b l_b p_length p_full g_b g_d 0 0 H locs ls (Nat.zero_le mc) (Nat.zero_le ms) hP hD hS (lv_sub hl [0, 1, 2, 3] rfl) hw

