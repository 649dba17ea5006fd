/-! MatroidDeskModel.wordOf(Ljava/lang/String;)I -/
def w95_L106 (K14 : Int32 → Int32 → (Nat → Int32) → (Nat → Int32) → Prop) (a1x : Nat) (post : Int32 → (Nat → Int32) → (Nat → Int32) → Prop) : Nat → Int32 → Int32 → Int32 → (Nat → Int32) → (Nat → Int32) → Prop
  | 0 => fun _ _ _ _ _ => False
  | k + 1 => fun x2 x3 x4 iv g_text => a1x < px_qn ∧ (w151_wp a1x (fun r108  => (r108 = 32 → ∀ z2 : Int32, z2 = x3 + 1 → K14 x2 z2 iv g_text) ∧ (¬ r108 = 32 → ∀ z3 : Int32, z3 = x2 + 1 → (w95_L106 K14 a1x post k) z3 x3 x4 iv g_text)) x2)
def w95_L103 (K14 : Int32 → Int32 → (Nat → Int32) → (Nat → Int32) → Prop) (a1x : Nat) (post : Int32 → (Nat → Int32) → (Nat → Int32) → Prop) (x2 : Int32) (x3 : Int32) (x4 : Int32) (iv : Nat → Int32) (g_text : Nat → Int32) : Prop := ∀ z4 : Int32, z4 = x2 + 1 → ∃ j106, w95_L106 K14 a1x post j106 z4 x3 x4 iv g_text
def w95_L72 (K14 : Int32 → Int32 → (Nat → Int32) → (Nat → Int32) → Prop) (a1x : Nat) (post : Int32 → (Nat → Int32) → (Nat → Int32) → Prop) (x2 : Int32) (x3 : Int32) (x4 : Int32) (iv : Nat → Int32) (g_text : Nat → Int32) : Prop := (¬ ((iv 39) + x4) = (iv 40) → w95_L103 K14 a1x post x2 x3 x4 iv g_text) ∧ (((iv 39) + x4) = (iv 40) → a1x < px_qn ∧ (w151_wp a1x (fun r93  => (¬ r93 = 32 → w95_L103 K14 a1x post x2 x3 x4 iv g_text) ∧ (r93 = 32 → post x3 iv g_text)) ((x2 + 1) + x4)))
def w95_L27 (K14 : Int32 → Int32 → (Nat → Int32) → (Nat → Int32) → Prop) (a1x : Nat) (post : Int32 → (Nat → Int32) → (Nat → Int32) → Prop) : Nat → Int32 → Int32 → Int32 → (Nat → Int32) → (Nat → Int32) → Prop
  | 0 => fun _ _ _ _ _ => False
  | k + 1 => fun x2 x3 x4 iv g_text => ((iv 40) ≤ ((iv 39) + x4) → w95_L72 K14 a1x post x2 x3 x4 iv g_text) ∧ (¬ (iv 40) ≤ ((iv 39) + x4) → a1x < px_qn ∧ (w151_wp a1x (fun r48  => vp_in ((iv 39) + x4) 16384 ∧ ((¬ r48 = (g_text (Int32.toNatClampNeg ((iv 39) + x4))) → w95_L72 K14 a1x post x2 x3 x4 iv g_text) ∧ (r48 = (g_text (Int32.toNatClampNeg ((iv 39) + x4))) → ∀ z7 : Int32, z7 = x4 + 1 → (w95_L27 K14 a1x post k) x2 x3 z7 iv g_text))) ((x2 + 1) + x4)))
def w95_L14 (a1x : Nat) (post : Int32 → (Nat → Int32) → (Nat → Int32) → Prop) : Nat → Int32 → Int32 → (Nat → Int32) → (Nat → Int32) → Prop
  | 0 => fun _ _ _ _ => False
  | k + 1 => fun x2 x3 iv g_text => a1x < px_qn ∧ (w149_wp a1x (fun r18  => (r18 ≤ (x2 + 1) → post (-1) iv g_text) ∧ (¬ r18 ≤ (x2 + 1) → ∃ j27, w95_L27 (w95_L14 a1x post k) a1x post j27 x2 x3 0 iv g_text)) )
def w95_wp (a1x : Nat) (post : Int32 → (Nat → Int32) → (Nat → Int32) → Prop) (iv : Nat → Int32) (g_text : Nat → Int32) : Prop := ((iv 38) = 1 → ∃ j14, w95_L14 a1x post j14 0 0 iv g_text) ∧ (¬ (iv 38) = 1 → post (-1) iv g_text)
set_option maxHeartbeats 8000000 in
set_option maxRecDepth 100000 in
theorem w95_met (l : Launch) (dC : Nat → ClassId) (dI : Nat → Nat → Nat) (sz : Nat) (adK : Nat → Nat) (adV : Nat → Nat) (bo : Option Nat) (adB : Nat → Nat) (tA : Nat) (tS : Nat) (h0 : Nat) (rf : Nat → Nat) (a1x : Nat) (c_text : ClassId) (iv : Nat → Int32) (g_text : Nat → Int32) (post : Int32 → (Nat → Int32) → (Nat → Int32) → Prop) (hw : w95_wp a1x post iv g_text) : Met l px_y95 px_s95 ({ frames := 4, cells := 0, slots := 0, locals := 85 }) (va_Pc [.ref h0, .ref (adK a1x)] (fun U => U.heap.size = sz ∧ va_P (dC, dI) vwCl [(h0, .inr (8, px_mf rf iv)), (rf 36, .inl (c_text, 16384, .inl g_text))] U.heap ∧ va_K (dC, dI) vwCl [(c_text, .byte)] U ∧ va_D (fun _ => True) [(h0, .inr (8, px_mf rf iv)), (rf 36, .inl (c_text, 16384, .inl g_text))] ∧ px_N U ∧ px_E adK adV bo adB tA tS (va_A [(h0, .inr (8, px_mf rf iv)), (rf 36, .inl (c_text, 16384, .inl g_text))] sz) U U.heap)) (va_Qi (fun (r : Int32) (u : (Nat → Int32) × (Nat → Int32)) => post r u.1 u.2) (fun (u : (Nat → Int32) × (Nat → Int32)) (t : State) => va_P (dC, dI) vwCl [(h0, .inr (8, px_mf rf u.1)), (rf 36, .inl (c_text, 16384, .inl u.2))] t.heap ∧ va_K (dC, dI) vwCl [(c_text, .byte)] t ∧ va_D (va_A [(h0, .inr (8, px_mf rf iv)), (rf 36, .inl (c_text, 16384, .inl g_text))] sz) [(h0, .inr (8, px_mf rf u.1)), (rf 36, .inl (c_text, 16384, .inl u.2))]) (va_A [(h0, .inr (8, px_mf rf iv)), (rf 36, .inl (c_text, 16384, .inl g_text))] sz)) 0 0 (va_A [(h0, .inr (8, px_mf rf iv)), (rf 36, .inl (c_text, 16384, .inl g_text))] sz) := by
  refine Met.ofW (cc := prog_15_method_56_code) (maxL := 5) (ret := (some .int)) (by decide) rfl ?_
  intro p e s m args below meth c s₁ B hml hv
  obtain ⟨rfl, hsz, hP, hK, hD0, hN, hE0⟩ := hv
  have hx := B.exec
  have hb := B.bytes
  have hr := B.returns
  have htw : ∀ w ∈ px_all, w.before _ s = true := fun w h => atoms_spec (ws := px_s95) B.pre w (List.mem_cons_of_mem _ h)
  have hown : s.vm.findClass "MatroidDeskModel" = some m.cls := findClass_of_methodNamed B.named
  have hlocks := B.notSynchronized
  subst hsz
  have hD := hD0.self (sz := s.heap.size)
  generalize hAe : va_A [(h0, .inr (8, px_mf rf iv)), (rf 36, .inl (c_text, 16384, .inl g_text))] s.heap.size = A at hD hE0 ⊢
  have hA : ∀ q : Nat, s.heap.size ≤ q → A q := fun q h => by rw [← hAe]; exact Or.inr h
  have hS : va_S A s.heap s.heap [] := va_S.rf
  have hP : va_P (dC, dI) vwCl [(h0, .inr (8, px_mf rf iv)), (rf 36, .inl (c_text, 16384, .inl g_text))] s.heap := hP
  have hl := lv_entry ([.ref h0, .ref (adK a1x)]) (n := 5) (Nat.le_of_ble_eq_true rfl)
  rw [lg_entry_eq]
  generalize (lg_sl ([.ref h0, .ref (adK a1x)]) ++ List.replicate (5 - (lg_sl ([.ref h0, .ref (adK a1x)])).length) Slot.unset).toArray = ls at hl ⊢
  have hl : lv_has ls 5 [(0, .ref h0), (1, .ref (adK a1x))] := hl
  generalize hQ : MQ _ _ _ _ _ _ _ = Q
  have S14 : ∀ (k14 : Nat) (x2 : Int32) (x3 : Int32) (iv : Nat → Int32) (g_text : Nat → Int32) (H : Heap) (locs : List Loc) (ls : Array Slot), va_P (dC, dI) vwCl [(h0, .inr (8, px_mf rf iv)), (rf 36, .inl (c_text, 16384, .inl g_text))] H → va_D A [(h0, .inr (8, px_mf rf iv)), (rf 36, .inl (c_text, 16384, .inl g_text))] → va_S A s.heap H locs → lv_has ls 5 [(0, .ref h0), (1, .ref (adK a1x)), (2, .int x2), (3, .int x3)] → w95_L14 a1x post k14 x2 x3 iv g_text → W p l e (headSpec px_s95 ({ frames := 4, cells := 0, slots := 0, locals := 85 })).room s m ([.ref h0, .ref (adK a1x)]).toArray below meth c H locs 0 0 Q (F0 m 14 ls []) := by
    intro k14
    induction k14 with
    | zero => intro x2 x3 iv g_text H locs ls hP hD hS hl hw; exact False.elim hw
    | succ k14 ih14 =>
      have S106 : ∀ (k106 : Nat) (x2 : Int32) (x3 : Int32) (x4 : Int32) (iv : Nat → Int32) (g_text : Nat → Int32) (H : Heap) (locs : List Loc) (ls : Array Slot), va_P (dC, dI) vwCl [(h0, .inr (8, px_mf rf iv)), (rf 36, .inl (c_text, 16384, .inl g_text))] H → va_D A [(h0, .inr (8, px_mf rf iv)), (rf 36, .inl (c_text, 16384, .inl g_text))] → va_S A s.heap H locs → lv_has ls 5 [(0, .ref h0), (1, .ref (adK a1x)), (2, .int x2), (3, .int x3), (4, .int x4)] → w95_L106 (w95_L14 a1x post k14) a1x post k106 x2 x3 x4 iv g_text → W p l e (headSpec px_s95 ({ frames := 4, cells := 0, slots := 0, locals := 85 })).room s m ([.ref h0, .ref (adK a1x)]).toArray below meth c H locs 0 0 Q (F0 m 106 ls []) := by
        intro k106
        induction k106 with
        | zero => intro x2 x3 x4 iv g_text H locs ls hP hD hS hl hw; exact False.elim hw
        | succ k106 ih106 =>
          intro x2 x3 x4 iv g_text H locs ls hP hD hS hl hw
          unfold w95_L106 at hw
          refine lv_aload_n hx hb px_d95_106 rfl (lv_at hl 1 rfl) ?_
          refine lv_iload_n hx hb px_d95_107 rfl (lv_at hl 2 rfl) ?_
          obtain ⟨hp108, hw⟩ := hw
          have hPc := hP.sub (ws' := []) [] rfl
          have hDc := hD.sub (ws' := []) [] (by decide) rfl
          have hFc := va_free (wc := []) hD hS hA [] rfl
          have hKc := hK.sub (tys' := []) [] rfl
          refine va_calli (va_runV (As := [.int x2]) (rest := []) ⟨hx, hb, hml, hown, htw⟩ (w151_met l dC dI H.size adK adV bo adB tA tS a1x x2 _ hw) (cwV 1 htw (px_gv px_w650 px_w894 px_w895 px_w1756 px_g151) rfl rfl rfl (by decide +kernel) ⟨Nat.le_of_ble_eq_true rfl, Nat.le_of_ble_eq_true rfl⟩) ⟨fun a U g mk q => by obtain ⟨q0, q1, qP, qK, qD, qN, qE0⟩ := q; exact ⟨q0, q1, qP, va_K.moved (u := U) (U := U.calling g mk a) (Vm.Alike.refl U.vm) qK, qD, qN.same rfl, qE0.same rfl⟩, vk_recv hE0.1 hp108 hS, fun U hU hW => ⟨rfl, by rw [hU], by rw [hU]; exact hPc, va_K.moved hW.alike hKc, hDc.weaken (fun _ _ _ _ => trivial), hN.warm hW, by rw [hU]; exact hE0.go hS hFc hW⟩⟩ rfl rfl hl.1 rfl (lv_room (Nat.le_of_ble_eq_true rfl)) px_d95_108 ⟨(Nat.le_of_ble_eq_true rfl), (Nat.le_of_ble_eq_true rfl)⟩) hS (fun q _ h => hFc q h) hFc (fun r108 u t H1 locs ht hvm hw hB hz1 hk1 hS => ?_)
          obtain ⟨hP1, hK1, hD1⟩ := hB
          rw [ht] at hP1
          obtain ⟨hP, hD⟩ := va_join (wr := [(h0, .inr (8, px_mf rf iv)), (rf 36, .inl (c_text, 16384, .inl g_text))]) (w1 := []) hP hD [] [0, 1] rfl rfl (by decide) (by decide) hk1 hFc hP1 hD1
          generalize H1 = H at hP hS ⊢
          have hP : va_P (dC, dI) vwCl [(h0, .inr (8, px_mf rf iv)), (rf 36, .inl (c_text, 16384, .inl g_text))] H := hP
          have hD : va_D A [(h0, .inr (8, px_mf rf iv)), (rf 36, .inl (c_text, 16384, .inl g_text))] := hD
          refine lv_bipush (v := 32) hx hb px_d95_111 (by decide) ?_
          refine lv_icmp_eq (tgt := 122) hx hb px_d95_113 (by decide) (fun c113 => ?_) (fun c113 => ?_)
          · have hw := hw.1 c113
            obtain ⟨z2, ez2⟩ : ∃ y : Int32, y = x3 + 1 := ⟨_, rfl⟩
            have hw := hw z2 ez2
            refine lv_iinc (v := z2) (lv' := [(3, .int z2), (0, .ref h0), (1, .ref (adK a1x)), (2, .int x2), (4, .int x4)]) hx hb px_d95_122 hl (k := 3) rfl (by rw [ez2]; rfl) (by decide) rfl (fun ls hl => ?_)
            refine lv_goto (tgt := 14) hx hb px_d95_125 (by decide) ?_
            exact ih14 x2 z2 iv g_text H locs ls hP hD hS (lv_sub hl [1, 2, 3, 0] rfl) hw
          · have hw := hw.2 c113
            obtain ⟨z3, ez3⟩ : ∃ y : Int32, y = x2 + 1 := ⟨_, rfl⟩
            have hw := hw z3 ez3
            refine lv_iinc (v := z3) (lv' := [(2, .int z3), (0, .ref h0), (1, .ref (adK a1x)), (3, .int x3), (4, .int x4)]) hx hb px_d95_116 hl (k := 2) rfl (by rw [ez3]; rfl) (by decide) rfl (fun ls hl => ?_)
            refine lv_goto (tgt := 106) hx hb px_d95_119 (by decide) ?_
            exact ih106 z3 x3 x4 iv g_text H locs ls hP hD hS (lv_sub hl [1, 2, 0, 3, 4] rfl) hw
      have S103 : ∀ (x2 : Int32) (x3 : Int32) (x4 : Int32) (iv : Nat → Int32) (g_text : Nat → Int32) (H : Heap) (locs : List Loc) (ls : Array Slot), va_P (dC, dI) vwCl [(h0, .inr (8, px_mf rf iv)), (rf 36, .inl (c_text, 16384, .inl g_text))] H → va_D A [(h0, .inr (8, px_mf rf iv)), (rf 36, .inl (c_text, 16384, .inl g_text))] → va_S A s.heap H locs → lv_has ls 5 [(0, .ref h0), (1, .ref (adK a1x)), (2, .int x2), (3, .int x3), (4, .int x4)] → w95_L103 (w95_L14 a1x post k14) a1x post x2 x3 x4 iv g_text → W p l e (headSpec px_s95 ({ frames := 4, cells := 0, slots := 0, locals := 85 })).room s m ([.ref h0, .ref (adK a1x)]).toArray below meth c H locs 0 0 Q (F0 m 103 ls []) := by
        intro x2 x3 x4 iv g_text H locs ls hP hD hS hl hw
        unfold w95_L103 at hw
        obtain ⟨z4, ez4⟩ : ∃ y : Int32, y = x2 + 1 := ⟨_, rfl⟩
        have hw := hw z4 ez4
        refine lv_iinc (v := z4) (lv' := [(2, .int z4), (0, .ref h0), (1, .ref (adK a1x)), (3, .int x3), (4, .int x4)]) hx hb px_d95_103 hl (k := 2) rfl (by rw [ez4]; rfl) (by decide) rfl (fun ls hl => ?_)
        obtain ⟨k9, hw⟩ := hw
        exact S106 k9 z4 x3 x4 iv g_text H locs ls hP hD hS (lv_sub hl [1, 2, 0, 3, 4] rfl) hw
      have S72 : ∀ (x2 : Int32) (x3 : Int32) (x4 : Int32) (iv : Nat → Int32) (g_text : Nat → Int32) (H : Heap) (locs : List Loc) (ls : Array Slot), va_P (dC, dI) vwCl [(h0, .inr (8, px_mf rf iv)), (rf 36, .inl (c_text, 16384, .inl g_text))] H → va_D A [(h0, .inr (8, px_mf rf iv)), (rf 36, .inl (c_text, 16384, .inl g_text))] → va_S A s.heap H locs → lv_has ls 5 [(0, .ref h0), (1, .ref (adK a1x)), (2, .int x2), (3, .int x3), (4, .int x4)] → w95_L72 (w95_L14 a1x post k14) a1x post x2 x3 x4 iv g_text → W p l e (headSpec px_s95 ({ frames := 4, cells := 0, slots := 0, locals := 85 })).room s m ([.ref h0, .ref (adK a1x)]).toArray below meth c H locs 0 0 Q (F0 m 72 ls []) := by
        intro x2 x3 x4 iv g_text H locs ls hP hD hS hl hw
        unfold w95_L72 at hw
        refine lv_aload_n hx hb px_d95_72 rfl (lv_at hl 0 rfl) ?_
        refine va_get (D := (dC, dI)) (ci := 8) (v := .int (iv 39)) (C := "MatroidDeskModel") (T := px_T8) (N := 53) hx hb htw px_in8 hown hK hP 0 rfl rfl 39 (by decide) (htw _ px_w330) (fun _ h9 => h9) rfl px_d95_73 ?_
        refine lv_iload hx hb px_d95_76 (lv_at hl 4 rfl) ?_
        refine lv_iadd hx hb px_d95_78 ?_
        refine lv_aload_n hx hb px_d95_79 rfl (lv_at hl 0 rfl) ?_
        refine va_get (D := (dC, dI)) (ci := 8) (v := .int (iv 40)) (C := "MatroidDeskModel") (T := px_T8) (N := 53) hx hb htw px_in8 hown hK hP 0 rfl rfl 40 (by decide) (htw _ px_w328) (fun _ h9 => h9) rfl px_d95_80 ?_
        refine lv_icmp_ne (tgt := 103) hx hb px_d95_83 (by decide) (fun c83 => ?_) (fun c83 => ?_)
        · have hw := hw.1 c83
          exact S103 x2 x3 x4 iv g_text H locs ls hP hD hS (lv_sub hl [0, 1, 2, 3, 4] rfl) hw
        · have hw := hw.2 c83
          refine lv_aload_n hx hb px_d95_86 rfl (lv_at hl 1 rfl) ?_
          refine lv_iload_n hx hb px_d95_87 rfl (lv_at hl 2 rfl) ?_
          refine lv_iconst (v := 1) hx hb px_d95_88 (by decide) ?_
          refine lv_iadd hx hb px_d95_89 ?_
          refine lv_iload hx hb px_d95_90 (lv_at hl 4 rfl) ?_
          refine lv_iadd hx hb px_d95_92 ?_
          obtain ⟨hp93, hw⟩ := hw
          have hPc := hP.sub (ws' := []) [] rfl
          have hDc := hD.sub (ws' := []) [] (by decide) rfl
          have hFc := va_free (wc := []) hD hS hA [] rfl
          have hKc := hK.sub (tys' := []) [] rfl
          refine va_calli (va_runV (As := [.int ((x2 + 1) + x4)]) (rest := []) ⟨hx, hb, hml, hown, htw⟩ (w151_met l dC dI H.size adK adV bo adB tA tS a1x ((x2 + 1) + x4) _ hw) (cwV 1 htw (px_gv px_w650 px_w894 px_w895 px_w1756 px_g151) rfl rfl rfl (by decide +kernel) ⟨Nat.le_of_ble_eq_true rfl, Nat.le_of_ble_eq_true rfl⟩) ⟨fun a U g mk q => by obtain ⟨q0, q1, qP, qK, qD, qN, qE0⟩ := q; exact ⟨q0, q1, qP, va_K.moved (u := U) (U := U.calling g mk a) (Vm.Alike.refl U.vm) qK, qD, qN.same rfl, qE0.same rfl⟩, vk_recv hE0.1 hp93 hS, fun U hU hW => ⟨rfl, by rw [hU], by rw [hU]; exact hPc, va_K.moved hW.alike hKc, hDc.weaken (fun _ _ _ _ => trivial), hN.warm hW, by rw [hU]; exact hE0.go hS hFc hW⟩⟩ rfl rfl hl.1 rfl (lv_room (Nat.le_of_ble_eq_true rfl)) px_d95_93 ⟨(Nat.le_of_ble_eq_true rfl), (Nat.le_of_ble_eq_true rfl)⟩) hS (fun q _ h => hFc q h) hFc (fun r93 u t H1 locs ht hvm hw hB hz1 hk1 hS => ?_)
          obtain ⟨hP1, hK1, hD1⟩ := hB
          rw [ht] at hP1
          obtain ⟨hP, hD⟩ := va_join (wr := [(h0, .inr (8, px_mf rf iv)), (rf 36, .inl (c_text, 16384, .inl g_text))]) (w1 := []) hP hD [] [0, 1] rfl rfl (by decide) (by decide) hk1 hFc hP1 hD1
          generalize H1 = H at hP hS ⊢
          have hP : va_P (dC, dI) vwCl [(h0, .inr (8, px_mf rf iv)), (rf 36, .inl (c_text, 16384, .inl g_text))] H := hP
          have hD : va_D A [(h0, .inr (8, px_mf rf iv)), (rf 36, .inl (c_text, 16384, .inl g_text))] := hD
          refine lv_bipush (v := 32) hx hb px_d95_96 (by decide) ?_
          refine lv_icmp_ne (tgt := 103) hx hb px_d95_98 (by decide) (fun c98 => ?_) (fun c98 => ?_)
          · have hw := hw.1 c98
            exact S103 x2 x3 x4 iv g_text H locs ls hP hD hS (lv_sub hl [0, 1, 2, 3, 4] rfl) hw
          · have hw := hw.2 c98
            refine lv_iload_n hx hb px_d95_101 rfl (lv_at hl 3 rfl) ?_
            rw [← hQ]
            exact W.iret (v := x3) hx hb hr (fun t ht hW => ⟨⟨x3, (iv, g_text), rfl, hw, by rw [ht]; exact hP, va_K.moved hW.alike hK, hD⟩, hS.F ht⟩) hS.2.2 px_d95_102
      have S27 : ∀ (k27 : Nat) (x2 : Int32) (x3 : Int32) (x4 : Int32) (iv : Nat → Int32) (g_text : Nat → Int32) (H : Heap) (locs : List Loc) (ls : Array Slot), va_P (dC, dI) vwCl [(h0, .inr (8, px_mf rf iv)), (rf 36, .inl (c_text, 16384, .inl g_text))] H → va_D A [(h0, .inr (8, px_mf rf iv)), (rf 36, .inl (c_text, 16384, .inl g_text))] → va_S A s.heap H locs → lv_has ls 5 [(0, .ref h0), (1, .ref (adK a1x)), (2, .int x2), (3, .int x3), (4, .int x4)] → w95_L27 (w95_L14 a1x post k14) a1x post k27 x2 x3 x4 iv g_text → W p l e (headSpec px_s95 ({ frames := 4, cells := 0, slots := 0, locals := 85 })).room s m ([.ref h0, .ref (adK a1x)]).toArray below meth c H locs 0 0 Q (F0 m 27 ls []) := by
        intro k27
        induction k27 with
        | zero => intro x2 x3 x4 iv g_text H locs ls hP hD hS hl hw; exact False.elim hw
        | succ k27 ih27 =>
          intro x2 x3 x4 iv g_text H locs ls hP hD hS hl hw
          unfold w95_L27 at hw
          refine lv_aload_n hx hb px_d95_27 rfl (lv_at hl 0 rfl) ?_
          refine va_get (D := (dC, dI)) (ci := 8) (v := .int (iv 39)) (C := "MatroidDeskModel") (T := px_T8) (N := 53) hx hb htw px_in8 hown hK hP 0 rfl rfl 39 (by decide) (htw _ px_w330) (fun _ h9 => h9) rfl px_d95_28 ?_
          refine lv_iload hx hb px_d95_31 (lv_at hl 4 rfl) ?_
          refine lv_iadd hx hb px_d95_33 ?_
          refine lv_aload_n hx hb px_d95_34 rfl (lv_at hl 0 rfl) ?_
          refine va_get (D := (dC, dI)) (ci := 8) (v := .int (iv 40)) (C := "MatroidDeskModel") (T := px_T8) (N := 53) hx hb htw px_in8 hown hK hP 0 rfl rfl 40 (by decide) (htw _ px_w328) (fun _ h9 => h9) rfl px_d95_35 ?_
          refine lv_icmp_ge (tgt := 72) hx hb px_d95_38 (by decide) (fun c38 => ?_) (fun c38 => ?_)
          · have hw := hw.1 c38
            exact S72 x2 x3 x4 iv g_text H locs ls hP hD hS (lv_sub hl [0, 1, 2, 3, 4] rfl) hw
          · have hw := hw.2 c38
            refine lv_aload_n hx hb px_d95_41 rfl (lv_at hl 1 rfl) ?_
            refine lv_iload_n hx hb px_d95_42 rfl (lv_at hl 2 rfl) ?_
            refine lv_iconst (v := 1) hx hb px_d95_43 (by decide) ?_
            refine lv_iadd hx hb px_d95_44 ?_
            refine lv_iload hx hb px_d95_45 (lv_at hl 4 rfl) ?_
            refine lv_iadd hx hb px_d95_47 ?_
            obtain ⟨hp48, hw⟩ := hw
            have hPc := hP.sub (ws' := []) [] rfl
            have hDc := hD.sub (ws' := []) [] (by decide) rfl
            have hFc := va_free (wc := []) hD hS hA [] rfl
            have hKc := hK.sub (tys' := []) [] rfl
            refine va_calli (va_runV (As := [.int ((x2 + 1) + x4)]) (rest := []) ⟨hx, hb, hml, hown, htw⟩ (w151_met l dC dI H.size adK adV bo adB tA tS a1x ((x2 + 1) + x4) _ hw) (cwV 1 htw (px_gv px_w650 px_w894 px_w895 px_w1756 px_g151) rfl rfl rfl (by decide +kernel) ⟨Nat.le_of_ble_eq_true rfl, Nat.le_of_ble_eq_true rfl⟩) ⟨fun a U g mk q => by obtain ⟨q0, q1, qP, qK, qD, qN, qE0⟩ := q; exact ⟨q0, q1, qP, va_K.moved (u := U) (U := U.calling g mk a) (Vm.Alike.refl U.vm) qK, qD, qN.same rfl, qE0.same rfl⟩, vk_recv hE0.1 hp48 hS, fun U hU hW => ⟨rfl, by rw [hU], by rw [hU]; exact hPc, va_K.moved hW.alike hKc, hDc.weaken (fun _ _ _ _ => trivial), hN.warm hW, by rw [hU]; exact hE0.go hS hFc hW⟩⟩ rfl rfl hl.1 rfl (lv_room (Nat.le_of_ble_eq_true rfl)) px_d95_48 ⟨(Nat.le_of_ble_eq_true rfl), (Nat.le_of_ble_eq_true rfl)⟩) hS (fun q _ h => hFc q h) hFc (fun r48 u t H1 locs ht hvm hw hB hz1 hk1 hS => ?_)
            obtain ⟨hP1, hK1, hD1⟩ := hB
            rw [ht] at hP1
            obtain ⟨hP, hD⟩ := va_join (wr := [(h0, .inr (8, px_mf rf iv)), (rf 36, .inl (c_text, 16384, .inl g_text))]) (w1 := []) hP hD [] [0, 1] rfl rfl (by decide) (by decide) hk1 hFc hP1 hD1
            generalize H1 = H at hP hS ⊢
            have hP : va_P (dC, dI) vwCl [(h0, .inr (8, px_mf rf iv)), (rf 36, .inl (c_text, 16384, .inl g_text))] H := hP
            have hD : va_D A [(h0, .inr (8, px_mf rf iv)), (rf 36, .inl (c_text, 16384, .inl g_text))] := hD
            refine lv_aload_n hx hb px_d95_51 rfl (lv_at hl 0 rfl) ?_
            refine va_get (D := (dC, dI)) (ci := 8) (v := .ref (rf 36)) (C := "MatroidDeskModel") (T := px_T8) (N := 53) hx hb htw px_in8 hown hK hP 0 rfl rfl 36 (by decide) (htw _ px_w320) (fun _ h9 => h9) rfl px_d95_52 ?_
            refine lv_aload_n hx hb px_d95_55 rfl (lv_at hl 0 rfl) ?_
            refine va_get (D := (dC, dI)) (ci := 8) (v := .int (iv 39)) (C := "MatroidDeskModel") (T := px_T8) (N := 53) hx hb htw px_in8 hown hK hP 0 rfl rfl 39 (by decide) (htw _ px_w330) (fun _ h9 => h9) rfl px_d95_56 ?_
            refine lv_iload hx hb px_d95_59 (lv_at hl 4 rfl) ?_
            refine lv_iadd hx hb px_d95_61 ?_
            obtain ⟨hi62, hw⟩ := hw
            refine va_bald hx hb hK hP 1 0 rfl rfl hi62 px_d95_62 ?_
            refine lv_icmp_ne (tgt := 72) hx hb px_d95_63 (by decide) (fun c63 => ?_) (fun c63 => ?_)
            · have hw := hw.1 c63
              exact S72 x2 x3 x4 iv g_text H locs ls hP hD hS (lv_sub hl [0, 1, 2, 3, 4] rfl) hw
            · have hw := hw.2 c63
              obtain ⟨z7, ez7⟩ : ∃ y : Int32, y = x4 + 1 := ⟨_, rfl⟩
              have hw := hw z7 ez7
              refine lv_iinc (v := z7) (lv' := [(4, .int z7), (0, .ref h0), (1, .ref (adK a1x)), (2, .int x2), (3, .int x3)]) hx hb px_d95_66 hl (k := 4) rfl (by rw [ez7]; rfl) (by decide) rfl (fun ls hl => ?_)
              refine lv_goto (tgt := 27) hx hb px_d95_69 (by decide) ?_
              exact ih27 x2 x3 z7 iv g_text H locs ls hP hD hS (lv_sub hl [1, 2, 3, 4, 0] rfl) hw
      intro x2 x3 iv g_text H locs ls hP hD hS hl hw
      unfold w95_L14 at hw
      refine lv_iload_n hx hb px_d95_14 rfl (lv_at hl 2 rfl) ?_
      refine lv_iconst (v := 1) hx hb px_d95_15 (by decide) ?_
      refine lv_iadd hx hb px_d95_16 ?_
      refine lv_aload_n hx hb px_d95_17 rfl (lv_at hl 1 rfl) ?_
      obtain ⟨hp18, hw⟩ := hw
      have hPc := hP.sub (ws' := []) [] rfl
      have hDc := hD.sub (ws' := []) [] (by decide) rfl
      have hFc := va_free (wc := []) hD hS hA [] rfl
      have hKc := hK.sub (tys' := []) [] rfl
      refine va_calli (va_runV (As := []) (rest := [.int (x2 + 1)]) ⟨hx, hb, hml, hown, htw⟩ (w149_met l dC dI H.size adK adV bo adB tA tS a1x _ hw) (cwV 0 htw (px_gv px_w649 px_w886 px_w887 px_w1756 px_g149) rfl rfl rfl (by decide +kernel) ⟨Nat.le_of_ble_eq_true rfl, Nat.le_of_ble_eq_true rfl⟩) ⟨fun a U g mk q => by obtain ⟨q0, q1, qP, qK, qD, qN, qE0⟩ := q; exact ⟨q0, q1, qP, va_K.moved (u := U) (U := U.calling g mk a) (Vm.Alike.refl U.vm) qK, qD, qN.same rfl, qE0.same rfl⟩, vk_recv hE0.1 hp18 hS, fun U hU hW => ⟨rfl, by rw [hU], by rw [hU]; exact hPc, va_K.moved hW.alike hKc, hDc.weaken (fun _ _ _ _ => trivial), hN.warm hW, by rw [hU]; exact hE0.go hS hFc hW⟩⟩ rfl rfl hl.1 rfl (lv_room (Nat.le_of_ble_eq_true rfl)) px_d95_18 ⟨(Nat.le_of_ble_eq_true rfl), (Nat.le_of_ble_eq_true rfl)⟩) hS (fun q _ h => hFc q h) hFc (fun r18 u t H1 locs ht hvm hw hB hz1 hk1 hS => ?_)
      obtain ⟨hP1, hK1, hD1⟩ := hB
      rw [ht] at hP1
      obtain ⟨hP, hD⟩ := va_join (wr := [(h0, .inr (8, px_mf rf iv)), (rf 36, .inl (c_text, 16384, .inl g_text))]) (w1 := []) hP hD [] [0, 1] rfl rfl (by decide) (by decide) hk1 hFc hP1 hD1
      generalize H1 = H at hP hS ⊢
      have hP : va_P (dC, dI) vwCl [(h0, .inr (8, px_mf rf iv)), (rf 36, .inl (c_text, 16384, .inl g_text))] H := hP
      have hD : va_D A [(h0, .inr (8, px_mf rf iv)), (rf 36, .inl (c_text, 16384, .inl g_text))] := hD
      refine lv_icmp_ge (tgt := 128) hx hb px_d95_21 (by decide) (fun c21 => ?_) (fun c21 => ?_)
      · have hw := hw.1 c21
        refine lv_iconst (v := (-1)) hx hb px_d95_128 (by decide) ?_
        rw [← hQ]
        exact W.iret (v := (-1)) hx hb hr (fun t ht hW => ⟨⟨(-1), (iv, g_text), rfl, hw, by rw [ht]; exact hP, va_K.moved hW.alike hK, hD⟩, hS.F ht⟩) hS.2.2 px_d95_129
      · have hw := hw.2 c21
        refine lv_iconst (v := 0) hx hb px_d95_24 (by decide) ?_
        refine lv_istore (lv' := [(4, .int 0), (0, .ref h0), (1, .ref (adK a1x)), (2, .int x2), (3, .int x3)]) hx hb px_d95_25 hl (by decide) rfl (fun ls hl => ?_)
        obtain ⟨k9, hw⟩ := hw
        exact S27 k9 x2 x3 0 iv g_text H locs ls hP hD hS (lv_sub hl [1, 2, 3, 4, 0] rfl) hw
  unfold w95_wp at hw
  have hS0 := hS
  obtain ⟨H, hH9⟩ : ∃ z, z = s.heap := ⟨_, rfl⟩
  have hP : va_P (dC, dI) vwCl [(h0, .inr (8, px_mf rf iv)), (rf 36, .inl (c_text, 16384, .inl g_text))] H := by rw [hH9]; exact hP
  obtain ⟨locs, hlo9⟩ : ∃ z : List Loc, z = [] := ⟨_, rfl⟩
  have hS : va_S A s.heap H locs := by rw [hH9, hlo9]; exact hS
  suffices hG : W p l e (headSpec px_s95 ({ frames := 4, cells := 0, slots := 0, locals := 85 })).room s m ([.ref h0, .ref (adK a1x)]).toArray below meth c H locs 0 0 Q (F0 m 0 ls []) by rw [hH9, hlo9] at hG; exact hG
  refine lv_aload_n hx hb px_d95_0 rfl (lv_at hl 0 rfl) ?_
  refine va_get (D := (dC, dI)) (ci := 8) (v := .int (iv 38)) (C := "MatroidDeskModel") (T := px_T8) (N := 53) hx hb htw px_in8 hown hK hP 0 rfl rfl 38 (by decide) (htw _ px_w331) (fun _ h9 => h9) rfl px_d95_1 ?_
  refine lv_iconst (v := 1) hx hb px_d95_4 (by decide) ?_
  refine lv_icmp_eq (tgt := 10) hx hb px_d95_5 (by decide) (fun c5 => ?_) (fun c5 => ?_)
  · have hw := hw.1 c5
    refine lv_iconst (v := 0) hx hb px_d95_10 (by decide) ?_
    refine lv_istore_n (lv' := [(2, .int 0), (0, .ref h0), (1, .ref (adK a1x))]) hx hb px_d95_11 rfl hl (by decide) rfl (fun ls hl => ?_)
    refine lv_iconst (v := 0) hx hb px_d95_12 (by decide) ?_
    refine lv_istore_n (lv' := [(3, .int 0), (2, .int 0), (0, .ref h0), (1, .ref (adK a1x))]) hx hb px_d95_13 rfl hl (by decide) rfl (fun ls hl => ?_)
    obtain ⟨k9, hw⟩ := hw
    exact S14 k9 0 0 iv g_text H locs ls hP hD hS (lv_sub hl [2, 3, 1, 0] rfl) hw
  · have hw := hw.2 c5
    refine lv_iconst (v := (-1)) hx hb px_d95_8 (by decide) ?_
    rw [← hQ]
    exact W.iret (v := (-1)) hx hb hr (fun t ht hW => ⟨⟨(-1), (iv, g_text), rfl, hw, by rw [ht]; exact hP, va_K.moved hW.alike hK, hD⟩, hS.F ht⟩) hS.2.2 px_d95_9

/-! MatroidDeskModel.maker()V -/
def w96_L153 (post : (Nat → Int32) → (Nat → Int32) → Prop) (x1 : Int32) (iv : Nat → Int32) (g_text : Nat → Int32) : Prop := post iv g_text
def w96_L135 (post : (Nat → Int32) → (Nat → Int32) → Prop) (x1 : Int32) (iv : Nat → Int32) (g_text : Nat → Int32) : Prop := mns_wp (fun v1 v2 => w96_L153 post x1 v1 v2) 0 iv g_text
def w96_L74 (post : (Nat → Int32) → (Nat → Int32) → Prop) (x1 : Int32) (y0 : Int32) (iv : Nat → Int32) (g_text : Nat → Int32) : Prop := mwa_wp (fun v3 v4 => mnu_wp (fun v5 v6 => mns_wp (fun v7 v8 => w96_L153 post x1 v7 v8) 1 v5 v6) v3 v4) y0 iv g_text
def w96_L73 (post : (Nat → Int32) → (Nat → Int32) → Prop) (x1 : Int32) (iv : Nat → Int32) (g_text : Nat → Int32) : Prop := w96_L74 post x1 0 iv g_text
def w96_L69 (post : (Nat → Int32) → (Nat → Int32) → Prop) (x1 : Int32) (iv : Nat → Int32) (g_text : Nat → Int32) : Prop := w96_L74 post x1 1 iv g_text
def w96_L18 (post : (Nat → Int32) → (Nat → Int32) → Prop) (x1 : Int32) (y0 : Int32) (iv : Nat → Int32) (g_text : Nat → Int32) : Prop := mwa_wp (fun v9 v10 => (¬ x1 = 0 → (¬ x1 = 1 → (¬ x1 = 2 → mnm_wp (fun v11 v12 => (x1 = 4 → w96_L135 post x1 v11 v12) ∧ (¬ x1 = 4 → (¬ x1 = 5 → (¬ x1 = 6 → w96_L153 post x1 v11 v12) ∧ (x1 = 6 → mnm_wp (fun v13 v14 => w96_L153 post x1 v13 v14) v11 v12)) ∧ (x1 = 5 → w96_L135 post x1 v11 v12))) v9 v10) ∧ (x1 = 2 → mnu_wp (fun v15 v16 => mnu_wp (fun v17 v18 => w96_L153 post x1 v17 v18) v15 v16) v9 v10)) ∧ (x1 = 1 → mnu_wp (fun v19 v20 => med_wp (fun v21 v22 => w96_L153 post x1 v21 v22) v19 v20) v9 v10)) ∧ (x1 = 0 → ((v9 38) = 2 → w96_L69 post x1 v9 v10) ∧ (¬ (v9 38) = 2 → (¬ (v9 38) = 1 → w96_L73 post x1 v9 v10) ∧ ((v9 38) = 1 → (¬ (v9 40) = ((v9 39) + 1) → w96_L73 post x1 v9 v10) ∧ ((v9 40) = ((v9 39) + 1) → vp_in (v9 39) 16384 ∧ ((¬ (v10 (Int32.toNatClampNeg (v9 39))) = 81 → w96_L73 post x1 v9 v10) ∧ ((v10 (Int32.toNatClampNeg (v9 39))) = 81 → w96_L69 post x1 v9 v10))))))) y0 iv g_text
def w96_wp (post : (Nat → Int32) → (Nat → Int32) → Prop) (iv : Nat → Int32) (g_text : Nat → Int32) : Prop := (w95_wp 9 (fun r4 v23 v24 => (r4 < 0 → w96_L18 post r4 0 v23 v24) ∧ (¬ r4 < 0 → w96_L18 post r4 1 v23 v24)) iv g_text)
set_option maxHeartbeats 8000000 in
set_option maxRecDepth 100000 in
theorem w96_met (l : Launch) (dC : Nat → ClassId) (dI : Nat → Nat → Nat) (sz : Nat) (adK : Nat → Nat) (adV : Nat → Nat) (bo : Option Nat) (adB : Nat → Nat) (tA : Nat) (tS : Nat) (h0 : Nat) (rf : Nat → Nat) (c_text : ClassId) (iv : Nat → Int32) (g_text : Nat → Int32) (post : (Nat → Int32) → (Nat → Int32) → Prop) (hw : w96_wp post iv g_text) : Met l px_y96 px_s96 ({ frames := 5, cells := 0, slots := 0, locals := 109 }) (va_Pc [.ref h0] (fun U => U.heap.size = sz ∧ va_P (dC, dI) vwCl [(h0, .inr (8, px_mf rf iv)), (rf 36, .inl (c_text, 16384, .inl g_text))] U.heap ∧ va_K (dC, dI) vwCl [(c_text, .byte)] U ∧ va_D (fun _ => True) [(h0, .inr (8, px_mf rf iv)), (rf 36, .inl (c_text, 16384, .inl g_text))] ∧ px_N U ∧ px_E adK adV bo adB tA tS (va_A [(h0, .inr (8, px_mf rf iv)), (rf 36, .inl (c_text, 16384, .inl g_text))] sz) U U.heap)) (va_Qv (fun (u : (Nat → Int32) × (Nat → Int32)) => post u.1 u.2) (fun (u : (Nat → Int32) × (Nat → Int32)) (t : State) => va_P (dC, dI) vwCl [(h0, .inr (8, px_mf rf u.1)), (rf 36, .inl (c_text, 16384, .inl u.2))] t.heap ∧ va_K (dC, dI) vwCl [(c_text, .byte)] t ∧ va_D (va_A [(h0, .inr (8, px_mf rf iv)), (rf 36, .inl (c_text, 16384, .inl g_text))] sz) [(h0, .inr (8, px_mf rf u.1)), (rf 36, .inl (c_text, 16384, .inl u.2))]) (va_A [(h0, .inr (8, px_mf rf iv)), (rf 36, .inl (c_text, 16384, .inl g_text))] sz)) 0 0 (va_A [(h0, .inr (8, px_mf rf iv)), (rf 36, .inl (c_text, 16384, .inl g_text))] sz) := by
  refine Met.ofW (cc := prog_15_method_62_code) (maxL := 2) (ret := none) (by decide) rfl ?_
  intro p e s m args below meth c s₁ B hml hv
  obtain ⟨rfl, hsz, hP, hK, hD0, hN, hE0⟩ := hv
  have hx := B.exec
  have hb := B.bytes
  have hr := B.returns
  have htw : ∀ w ∈ px_all, w.before _ s = true := fun w h => atoms_spec (ws := px_s96) B.pre w (List.mem_cons_of_mem _ h)
  have hown : s.vm.findClass "MatroidDeskModel" = some m.cls := findClass_of_methodNamed B.named
  have hlocks := B.notSynchronized
  subst hsz
  have hD := hD0.self (sz := s.heap.size)
  generalize hAe : va_A [(h0, .inr (8, px_mf rf iv)), (rf 36, .inl (c_text, 16384, .inl g_text))] s.heap.size = A at hD hE0 ⊢
  have hA : ∀ q : Nat, s.heap.size ≤ q → A q := fun q h => by rw [← hAe]; exact Or.inr h
  have hS : va_S A s.heap s.heap [] := va_S.rf
  have hP : va_P (dC, dI) vwCl [(h0, .inr (8, px_mf rf iv)), (rf 36, .inl (c_text, 16384, .inl g_text))] s.heap := hP
  have hl := lv_entry ([.ref h0]) (n := 2) (Nat.le_of_ble_eq_true rfl)
  rw [lg_entry_eq]
  generalize (lg_sl ([.ref h0]) ++ List.replicate (2 - (lg_sl ([.ref h0])).length) Slot.unset).toArray = ls at hl ⊢
  have hl : lv_has ls 2 [(0, .ref h0)] := hl
  generalize hQ : MQ _ _ _ _ _ _ _ = Q
  have S153 : ∀ (x1 : Int32) (iv : Nat → Int32) (g_text : Nat → Int32) (H : Heap) (locs : List Loc) (ls : Array Slot), va_P (dC, dI) vwCl [(h0, .inr (8, px_mf rf iv)), (rf 36, .inl (c_text, 16384, .inl g_text))] H → va_D A [(h0, .inr (8, px_mf rf iv)), (rf 36, .inl (c_text, 16384, .inl g_text))] → va_S A s.heap H locs → lv_has ls 2 [(0, .ref h0), (1, .int x1)] → w96_L153 post x1 iv g_text → W p l e (headSpec px_s96 ({ frames := 5, cells := 0, slots := 0, locals := 109 })).room s m ([.ref h0]).toArray below meth c H locs 0 0 Q (F0 m 153 ls []) := by
    intro x1 iv g_text H locs ls hP hD hS hl hw
    unfold w96_L153 at hw
    rw [← hQ]
    exact W.vret hx hb hr (fun t ht hW => ⟨⟨(iv, g_text), rfl, hw, by rw [ht]; exact hP, va_K.moved hW.alike hK, hD⟩, hS.F ht⟩) hS.2.2 px_d96_153
  have S135 : ∀ (x1 : Int32) (iv : Nat → Int32) (g_text : Nat → Int32) (H : Heap) (locs : List Loc) (ls : Array Slot), va_P (dC, dI) vwCl [(h0, .inr (8, px_mf rf iv)), (rf 36, .inl (c_text, 16384, .inl g_text))] H → va_D A [(h0, .inr (8, px_mf rf iv)), (rf 36, .inl (c_text, 16384, .inl g_text))] → va_S A s.heap H locs → lv_has ls 2 [(0, .ref h0), (1, .int x1)] → w96_L135 post x1 iv g_text → W p l e (headSpec px_s96 ({ frames := 5, cells := 0, slots := 0, locals := 109 })).room s m ([.ref h0]).toArray below meth c H locs 0 0 Q (F0 m 135 ls []) := by
    intro x1 iv g_text H locs ls hP hD hS hl hw
    unfold w96_L135 at hw
    refine lv_aload_n hx hb px_d96_135 rfl (lv_at hl 0 rfl) ?_
    refine lv_iconst (v := 0) hx hb px_d96_136 (by decide) ?_
    have hPc := hP.sub (ws' := [(h0, .inr (8, px_mf rf iv)), (rf 36, .inl (c_text, 16384, .inl g_text))]) [0, 1] rfl
    have hDc := hD.sub (ws' := [(h0, .inr (8, px_mf rf iv)), (rf 36, .inl (c_text, 16384, .inl g_text))]) [0, 1] (by decide) rfl
    have hKc := hK.sub (tys' := [(c_text, .byte)]) [0] rfl
    have hFc := va_free (wc := [(h0, .inr (8, px_mf rf iv)), (rf 36, .inl (c_text, 16384, .inl g_text))]) hD hS hA [0, 1] rfl
    refine va_callv (va_runV (As := [.int 0]) (rest := []) ⟨hx, hb, hml, hown, htw⟩ (mns_met l dC dI H.size h0 rf c_text 0 iv g_text _ hw) (cwV 1 htw (px_gv px_w655 px_w355 px_w356 px_w94 px_g31) rfl rfl rfl (by decide +kernel) ⟨Nat.le_of_ble_eq_true rfl, Nat.le_of_ble_eq_true rfl⟩) ⟨fun a U g mk q => by obtain ⟨q0, q1, qP, qK, qD, qN⟩ := q; exact ⟨q0, q1, qP, va_K.moved (u := U) (U := U.calling g mk a) (Vm.Alike.refl U.vm) qK, qD, qN.same rfl⟩, va_recv hK hP (ci := 8) (q0 := 0) rfl rfl, fun U hU hW => ⟨rfl, by rw [hU], by rw [hU]; exact hPc, va_K.moved hW.alike hKc, hDc.weaken (fun _ _ _ _ => trivial), hN.warm hW⟩⟩ rfl rfl hl.1 rfl (lv_room (Nat.le_of_ble_eq_true rfl)) px_d96_137 ⟨(Nat.le_of_ble_eq_true rfl), (Nat.le_of_ble_eq_true rfl)⟩) hS (fun q _ h => hFc q h) hFc (fun u t H1 locs ht hvm hw hB hz1 hk1 hS => ?_)
    obtain ⟨v1, v2⟩ := u
    obtain ⟨hP1, hK1, hD1⟩ := hB
    rw [ht] at hP1
    have hK1 := va_K.moved hvm.symm hK1
    obtain ⟨hP, hD⟩ := va_join (wr := []) (w1 := [(h0, .inr (8, px_mf rf v1)), (rf 36, .inl (c_text, 16384, .inl v2))]) hP hD [0, 1] [] rfl rfl (by decide) (by decide) hk1 hFc hP1 hD1
    generalize H1 = H at hP hS ⊢
    have hP : va_P (dC, dI) vwCl [(h0, .inr (8, px_mf rf v1)), (rf 36, .inl (c_text, 16384, .inl v2))] H := hP
    have hD : va_D A [(h0, .inr (8, px_mf rf v1)), (rf 36, .inl (c_text, 16384, .inl v2))] := hD
    refine lv_goto (tgt := 153) hx hb px_d96_140 (by decide) ?_
    exact S153 x1 v1 v2 H locs ls hP hD hS (lv_sub hl [0, 1] rfl) hw
  have S74 : ∀ (x1 : Int32) (y0 : Int32) (iv : Nat → Int32) (g_text : Nat → Int32) (H : Heap) (locs : List Loc) (ls : Array Slot), va_P (dC, dI) vwCl [(h0, .inr (8, px_mf rf iv)), (rf 36, .inl (c_text, 16384, .inl g_text))] H → va_D A [(h0, .inr (8, px_mf rf iv)), (rf 36, .inl (c_text, 16384, .inl g_text))] → va_S A s.heap H locs → lv_has ls 2 [(0, .ref h0), (1, .int x1)] → w96_L74 post x1 y0 iv g_text → W p l e (headSpec px_s96 ({ frames := 5, cells := 0, slots := 0, locals := 109 })).room s m ([.ref h0]).toArray below meth c H locs 0 0 Q (F0 m 74 ls [.int y0, .ref h0]) := by
    intro x1 y0 iv g_text H locs ls hP hD hS hl hw
    unfold w96_L74 at hw
    have hPc := hP.sub (ws' := [(h0, .inr (8, px_mf rf iv)), (rf 36, .inl (c_text, 16384, .inl g_text))]) [0, 1] rfl
    have hDc := hD.sub (ws' := [(h0, .inr (8, px_mf rf iv)), (rf 36, .inl (c_text, 16384, .inl g_text))]) [0, 1] (by decide) rfl
    have hKc := hK.sub (tys' := [(c_text, .byte)]) [0] rfl
    have hFc := va_free (wc := [(h0, .inr (8, px_mf rf iv)), (rf 36, .inl (c_text, 16384, .inl g_text))]) hD hS hA [0, 1] rfl
    refine va_callv (va_runV (As := [.int y0]) (rest := []) ⟨hx, hb, hml, hown, htw⟩ (mwa_met l dC dI H.size h0 rf c_text y0 iv g_text _ hw) (cwV 1 htw (px_gv px_w350 px_w341 px_w342 px_w94 px_g28) rfl rfl rfl (by decide +kernel) ⟨Nat.le_of_ble_eq_true rfl, Nat.le_of_ble_eq_true rfl⟩) ⟨fun a U g mk q => by obtain ⟨q0, q1, qP, qK, qD, qN⟩ := q; exact ⟨q0, q1, qP, va_K.moved (u := U) (U := U.calling g mk a) (Vm.Alike.refl U.vm) qK, qD, qN.same rfl⟩, va_recv hK hP (ci := 8) (q0 := 0) rfl rfl, fun U hU hW => ⟨rfl, by rw [hU], by rw [hU]; exact hPc, va_K.moved hW.alike hKc, hDc.weaken (fun _ _ _ _ => trivial), hN.warm hW⟩⟩ rfl rfl hl.1 rfl (lv_room (Nat.le_of_ble_eq_true rfl)) px_d96_74 ⟨(Nat.le_of_ble_eq_true rfl), (Nat.le_of_ble_eq_true rfl)⟩) hS (fun q _ h => hFc q h) hFc (fun u t H1 locs ht hvm hw hB hz1 hk1 hS => ?_)
    obtain ⟨v3, v4⟩ := u
    obtain ⟨hP1, hK1, hD1⟩ := hB
    rw [ht] at hP1
    have hK1 := va_K.moved hvm.symm hK1
    obtain ⟨hP, hD⟩ := va_join (wr := []) (w1 := [(h0, .inr (8, px_mf rf v3)), (rf 36, .inl (c_text, 16384, .inl v4))]) hP hD [0, 1] [] rfl rfl (by decide) (by decide) hk1 hFc hP1 hD1
    generalize H1 = H at hP hS ⊢
    have hP : va_P (dC, dI) vwCl [(h0, .inr (8, px_mf rf v3)), (rf 36, .inl (c_text, 16384, .inl v4))] H := hP
    have hD : va_D A [(h0, .inr (8, px_mf rf v3)), (rf 36, .inl (c_text, 16384, .inl v4))] := hD
    refine lv_aload_n hx hb px_d96_77 rfl (lv_at hl 0 rfl) ?_
    have hPc := hP.sub (ws' := [(h0, .inr (8, px_mf rf v3)), (rf 36, .inl (c_text, 16384, .inl v4))]) [0, 1] rfl
    have hDc := hD.sub (ws' := [(h0, .inr (8, px_mf rf v3)), (rf 36, .inl (c_text, 16384, .inl v4))]) [0, 1] (by decide) rfl
    have hKc := hK.sub (tys' := [(c_text, .byte)]) [0] rfl
    have hFc := va_free (wc := [(h0, .inr (8, px_mf rf v3)), (rf 36, .inl (c_text, 16384, .inl v4))]) hD hS hA [0, 1] rfl
    refine va_callv (va_runV (As := []) (rest := []) ⟨hx, hb, hml, hown, htw⟩ (mnu_met l dC dI H.size h0 rf c_text v3 v4 _ hw) (cwV 0 htw (px_gv px_w360 px_w352 px_w353 px_w94 px_g30) rfl rfl rfl (by decide +kernel) ⟨Nat.le_of_ble_eq_true rfl, Nat.le_of_ble_eq_true rfl⟩) ⟨fun a U g mk q => by obtain ⟨q0, q1, qP, qK, qD, qN⟩ := q; exact ⟨q0, q1, qP, va_K.moved (u := U) (U := U.calling g mk a) (Vm.Alike.refl U.vm) qK, qD, qN.same rfl⟩, va_recv hK hP (ci := 8) (q0 := 0) rfl rfl, fun U hU hW => ⟨rfl, by rw [hU], by rw [hU]; exact hPc, va_K.moved hW.alike hKc, hDc.weaken (fun _ _ _ _ => trivial), hN.warm hW⟩⟩ rfl rfl hl.1 rfl (lv_room (Nat.le_of_ble_eq_true rfl)) px_d96_78 ⟨(Nat.le_of_ble_eq_true rfl), (Nat.le_of_ble_eq_true rfl)⟩) hS (fun q _ h => hFc q h) hFc (fun u t H1 locs ht hvm hw hB hz1 hk1 hS => ?_)
    obtain ⟨v5, v6⟩ := u
    obtain ⟨hP1, hK1, hD1⟩ := hB
    rw [ht] at hP1
    have hK1 := va_K.moved hvm.symm hK1
    obtain ⟨hP, hD⟩ := va_join (wr := []) (w1 := [(h0, .inr (8, px_mf rf v5)), (rf 36, .inl (c_text, 16384, .inl v6))]) hP hD [0, 1] [] rfl rfl (by decide) (by decide) hk1 hFc hP1 hD1
    generalize H1 = H at hP hS ⊢
    have hP : va_P (dC, dI) vwCl [(h0, .inr (8, px_mf rf v5)), (rf 36, .inl (c_text, 16384, .inl v6))] H := hP
    have hD : va_D A [(h0, .inr (8, px_mf rf v5)), (rf 36, .inl (c_text, 16384, .inl v6))] := hD
    refine lv_aload_n hx hb px_d96_81 rfl (lv_at hl 0 rfl) ?_
    refine lv_iconst (v := 1) hx hb px_d96_82 (by decide) ?_
    have hPc := hP.sub (ws' := [(h0, .inr (8, px_mf rf v5)), (rf 36, .inl (c_text, 16384, .inl v6))]) [0, 1] rfl
    have hDc := hD.sub (ws' := [(h0, .inr (8, px_mf rf v5)), (rf 36, .inl (c_text, 16384, .inl v6))]) [0, 1] (by decide) rfl
    have hKc := hK.sub (tys' := [(c_text, .byte)]) [0] rfl
    have hFc := va_free (wc := [(h0, .inr (8, px_mf rf v5)), (rf 36, .inl (c_text, 16384, .inl v6))]) hD hS hA [0, 1] rfl
    refine va_callv (va_runV (As := [.int 1]) (rest := []) ⟨hx, hb, hml, hown, htw⟩ (mns_met l dC dI H.size h0 rf c_text 1 v5 v6 _ hw) (cwV 1 htw (px_gv px_w655 px_w355 px_w356 px_w94 px_g31) rfl rfl rfl (by decide +kernel) ⟨Nat.le_of_ble_eq_true rfl, Nat.le_of_ble_eq_true rfl⟩) ⟨fun a U g mk q => by obtain ⟨q0, q1, qP, qK, qD, qN⟩ := q; exact ⟨q0, q1, qP, va_K.moved (u := U) (U := U.calling g mk a) (Vm.Alike.refl U.vm) qK, qD, qN.same rfl⟩, va_recv hK hP (ci := 8) (q0 := 0) rfl rfl, fun U hU hW => ⟨rfl, by rw [hU], by rw [hU]; exact hPc, va_K.moved hW.alike hKc, hDc.weaken (fun _ _ _ _ => trivial), hN.warm hW⟩⟩ rfl rfl hl.1 rfl (lv_room (Nat.le_of_ble_eq_true rfl)) px_d96_83 ⟨(Nat.le_of_ble_eq_true rfl), (Nat.le_of_ble_eq_true rfl)⟩) hS (fun q _ h => hFc q h) hFc (fun u t H1 locs ht hvm hw hB hz1 hk1 hS => ?_)
    obtain ⟨v7, v8⟩ := u
    obtain ⟨hP1, hK1, hD1⟩ := hB
    rw [ht] at hP1
    have hK1 := va_K.moved hvm.symm hK1
    obtain ⟨hP, hD⟩ := va_join (wr := []) (w1 := [(h0, .inr (8, px_mf rf v7)), (rf 36, .inl (c_text, 16384, .inl v8))]) hP hD [0, 1] [] rfl rfl (by decide) (by decide) hk1 hFc hP1 hD1
    generalize H1 = H at hP hS ⊢
    have hP : va_P (dC, dI) vwCl [(h0, .inr (8, px_mf rf v7)), (rf 36, .inl (c_text, 16384, .inl v8))] H := hP
    have hD : va_D A [(h0, .inr (8, px_mf rf v7)), (rf 36, .inl (c_text, 16384, .inl v8))] := hD
    refine lv_goto (tgt := 153) hx hb px_d96_86 (by decide) ?_
    exact S153 x1 v7 v8 H locs ls hP hD hS (lv_sub hl [0, 1] rfl) hw
  have S73 : ∀ (x1 : Int32) (iv : Nat → Int32) (g_text : Nat → Int32) (H : Heap) (locs : List Loc) (ls : Array Slot), va_P (dC, dI) vwCl [(h0, .inr (8, px_mf rf iv)), (rf 36, .inl (c_text, 16384, .inl g_text))] H → va_D A [(h0, .inr (8, px_mf rf iv)), (rf 36, .inl (c_text, 16384, .inl g_text))] → va_S A s.heap H locs → lv_has ls 2 [(0, .ref h0), (1, .int x1)] → w96_L73 post x1 iv g_text → W p l e (headSpec px_s96 ({ frames := 5, cells := 0, slots := 0, locals := 109 })).room s m ([.ref h0]).toArray below meth c H locs 0 0 Q (F0 m 73 ls [.ref h0]) := by
    intro x1 iv g_text H locs ls hP hD hS hl hw
    unfold w96_L73 at hw
    refine lv_iconst (v := 0) hx hb px_d96_73 (by decide) ?_
    exact S74 x1 0 iv g_text H locs ls hP hD hS (lv_sub hl [0, 1] rfl) hw
  have S69 : ∀ (x1 : Int32) (iv : Nat → Int32) (g_text : Nat → Int32) (H : Heap) (locs : List Loc) (ls : Array Slot), va_P (dC, dI) vwCl [(h0, .inr (8, px_mf rf iv)), (rf 36, .inl (c_text, 16384, .inl g_text))] H → va_D A [(h0, .inr (8, px_mf rf iv)), (rf 36, .inl (c_text, 16384, .inl g_text))] → va_S A s.heap H locs → lv_has ls 2 [(0, .ref h0), (1, .int x1)] → w96_L69 post x1 iv g_text → W p l e (headSpec px_s96 ({ frames := 5, cells := 0, slots := 0, locals := 109 })).room s m ([.ref h0]).toArray below meth c H locs 0 0 Q (F0 m 69 ls [.ref h0]) := by
    intro x1 iv g_text H locs ls hP hD hS hl hw
    unfold w96_L69 at hw
    refine lv_iconst (v := 1) hx hb px_d96_69 (by decide) ?_
    refine lv_goto (tgt := 74) hx hb px_d96_70 (by decide) ?_
    exact S74 x1 1 iv g_text H locs ls hP hD hS (lv_sub hl [0, 1] rfl) hw
  have S18 : ∀ (x1 : Int32) (y0 : Int32) (iv : Nat → Int32) (g_text : Nat → Int32) (H : Heap) (locs : List Loc) (ls : Array Slot), va_P (dC, dI) vwCl [(h0, .inr (8, px_mf rf iv)), (rf 36, .inl (c_text, 16384, .inl g_text))] H → va_D A [(h0, .inr (8, px_mf rf iv)), (rf 36, .inl (c_text, 16384, .inl g_text))] → va_S A s.heap H locs → lv_has ls 2 [(0, .ref h0), (1, .int x1)] → w96_L18 post x1 y0 iv g_text → W p l e (headSpec px_s96 ({ frames := 5, cells := 0, slots := 0, locals := 109 })).room s m ([.ref h0]).toArray below meth c H locs 0 0 Q (F0 m 18 ls [.int y0, .ref h0]) := by
    intro x1 y0 iv g_text H locs ls hP hD hS hl hw
    unfold w96_L18 at hw
    have hPc := hP.sub (ws' := [(h0, .inr (8, px_mf rf iv)), (rf 36, .inl (c_text, 16384, .inl g_text))]) [0, 1] rfl
    have hDc := hD.sub (ws' := [(h0, .inr (8, px_mf rf iv)), (rf 36, .inl (c_text, 16384, .inl g_text))]) [0, 1] (by decide) rfl
    have hKc := hK.sub (tys' := [(c_text, .byte)]) [0] rfl
    have hFc := va_free (wc := [(h0, .inr (8, px_mf rf iv)), (rf 36, .inl (c_text, 16384, .inl g_text))]) hD hS hA [0, 1] rfl
    refine va_callv (va_runV (As := [.int y0]) (rest := []) ⟨hx, hb, hml, hown, htw⟩ (mwa_met l dC dI H.size h0 rf c_text y0 iv g_text _ hw) (cwV 1 htw (px_gv px_w350 px_w341 px_w342 px_w94 px_g28) rfl rfl rfl (by decide +kernel) ⟨Nat.le_of_ble_eq_true rfl, Nat.le_of_ble_eq_true rfl⟩) ⟨fun a U g mk q => by obtain ⟨q0, q1, qP, qK, qD, qN⟩ := q; exact ⟨q0, q1, qP, va_K.moved (u := U) (U := U.calling g mk a) (Vm.Alike.refl U.vm) qK, qD, qN.same rfl⟩, va_recv hK hP (ci := 8) (q0 := 0) rfl rfl, fun U hU hW => ⟨rfl, by rw [hU], by rw [hU]; exact hPc, va_K.moved hW.alike hKc, hDc.weaken (fun _ _ _ _ => trivial), hN.warm hW⟩⟩ rfl rfl hl.1 rfl (lv_room (Nat.le_of_ble_eq_true rfl)) px_d96_18 ⟨(Nat.le_of_ble_eq_true rfl), (Nat.le_of_ble_eq_true rfl)⟩) hS (fun q _ h => hFc q h) hFc (fun u t H1 locs ht hvm hw hB hz1 hk1 hS => ?_)
    obtain ⟨v9, v10⟩ := u
    obtain ⟨hP1, hK1, hD1⟩ := hB
    rw [ht] at hP1
    have hK1 := va_K.moved hvm.symm hK1
    obtain ⟨hP, hD⟩ := va_join (wr := []) (w1 := [(h0, .inr (8, px_mf rf v9)), (rf 36, .inl (c_text, 16384, .inl v10))]) hP hD [0, 1] [] rfl rfl (by decide) (by decide) hk1 hFc hP1 hD1
    generalize H1 = H at hP hS ⊢
    have hP : va_P (dC, dI) vwCl [(h0, .inr (8, px_mf rf v9)), (rf 36, .inl (c_text, 16384, .inl v10))] H := hP
    have hD : va_D A [(h0, .inr (8, px_mf rf v9)), (rf 36, .inl (c_text, 16384, .inl v10))] := hD
    refine lv_iload_n hx hb px_d96_21 rfl (lv_at hl 1 rfl) ?_
    refine lv_if_ne (tgt := 89) hx hb px_d96_22 (by decide) (fun c22 => ?_) (fun c22 => ?_)
    · have hw := hw.1 c22
      refine lv_iload_n hx hb px_d96_89 rfl (lv_at hl 1 rfl) ?_
      refine lv_iconst (v := 1) hx hb px_d96_90 (by decide) ?_
      refine lv_icmp_ne (tgt := 105) hx hb px_d96_91 (by decide) (fun c91 => ?_) (fun c91 => ?_)
      · have hw := hw.1 c91
        refine lv_iload_n hx hb px_d96_105 rfl (lv_at hl 1 rfl) ?_
        refine lv_iconst (v := 2) hx hb px_d96_106 (by decide) ?_
        refine lv_icmp_ne (tgt := 121) hx hb px_d96_107 (by decide) (fun c107 => ?_) (fun c107 => ?_)
        · have hw := hw.1 c107
          refine lv_aload_n hx hb px_d96_121 rfl (lv_at hl 0 rfl) ?_
          have hPc := hP.sub (ws' := [(h0, .inr (8, px_mf rf v9)), (rf 36, .inl (c_text, 16384, .inl v10))]) [0, 1] rfl
          have hDc := hD.sub (ws' := [(h0, .inr (8, px_mf rf v9)), (rf 36, .inl (c_text, 16384, .inl v10))]) [0, 1] (by decide) rfl
          have hKc := hK.sub (tys' := [(c_text, .byte)]) [0] rfl
          have hFc := va_free (wc := [(h0, .inr (8, px_mf rf v9)), (rf 36, .inl (c_text, 16384, .inl v10))]) hD hS hA [0, 1] rfl
          refine va_callv (va_runV (As := []) (rest := []) ⟨hx, hb, hml, hown, htw⟩ (mnm_met l dC dI H.size h0 rf c_text v9 v10 _ hw) (cwV 0 htw (px_gv px_w657 px_w347 px_w348 px_w94 px_g29) rfl rfl rfl (by decide +kernel) ⟨Nat.le_of_ble_eq_true rfl, Nat.le_of_ble_eq_true rfl⟩) ⟨fun a U g mk q => by obtain ⟨q0, q1, qP, qK, qD, qN⟩ := q; exact ⟨q0, q1, qP, va_K.moved (u := U) (U := U.calling g mk a) (Vm.Alike.refl U.vm) qK, qD, qN.same rfl⟩, va_recv hK hP (ci := 8) (q0 := 0) rfl rfl, fun U hU hW => ⟨rfl, by rw [hU], by rw [hU]; exact hPc, va_K.moved hW.alike hKc, hDc.weaken (fun _ _ _ _ => trivial), hN.warm hW⟩⟩ rfl rfl hl.1 rfl (lv_room (Nat.le_of_ble_eq_true rfl)) px_d96_122 ⟨(Nat.le_of_ble_eq_true rfl), (Nat.le_of_ble_eq_true rfl)⟩) hS (fun q _ h => hFc q h) hFc (fun u t H1 locs ht hvm hw hB hz1 hk1 hS => ?_)
          obtain ⟨v11, v12⟩ := u
          obtain ⟨hP1, hK1, hD1⟩ := hB
          rw [ht] at hP1
          have hK1 := va_K.moved hvm.symm hK1
          obtain ⟨hP, hD⟩ := va_join (wr := []) (w1 := [(h0, .inr (8, px_mf rf v11)), (rf 36, .inl (c_text, 16384, .inl v12))]) hP hD [0, 1] [] rfl rfl (by decide) (by decide) hk1 hFc hP1 hD1
          generalize H1 = H at hP hS ⊢
          have hP : va_P (dC, dI) vwCl [(h0, .inr (8, px_mf rf v11)), (rf 36, .inl (c_text, 16384, .inl v12))] H := hP
          have hD : va_D A [(h0, .inr (8, px_mf rf v11)), (rf 36, .inl (c_text, 16384, .inl v12))] := hD
          refine lv_iload_n hx hb px_d96_125 rfl (lv_at hl 1 rfl) ?_
          refine lv_iconst (v := 4) hx hb px_d96_126 (by decide) ?_
          refine lv_icmp_eq (tgt := 135) hx hb px_d96_127 (by decide) (fun c127 => ?_) (fun c127 => ?_)
          · have hw := hw.1 c127
            exact S135 x1 v11 v12 H locs ls hP hD hS (lv_sub hl [0, 1] rfl) hw
          · have hw := hw.2 c127
            refine lv_iload_n hx hb px_d96_130 rfl (lv_at hl 1 rfl) ?_
            refine lv_iconst (v := 5) hx hb px_d96_131 (by decide) ?_
            refine lv_icmp_ne (tgt := 143) hx hb px_d96_132 (by decide) (fun c132 => ?_) (fun c132 => ?_)
            · have hw := hw.1 c132
              refine lv_iload_n hx hb px_d96_143 rfl (lv_at hl 1 rfl) ?_
              refine lv_bipush (v := 6) hx hb px_d96_144 (by decide) ?_
              refine lv_icmp_ne (tgt := 153) hx hb px_d96_146 (by decide) (fun c146 => ?_) (fun c146 => ?_)
              · have hw := hw.1 c146
                exact S153 x1 v11 v12 H locs ls hP hD hS (lv_sub hl [0, 1] rfl) hw
              · have hw := hw.2 c146
                refine lv_aload_n hx hb px_d96_149 rfl (lv_at hl 0 rfl) ?_
                have hPc := hP.sub (ws' := [(h0, .inr (8, px_mf rf v11)), (rf 36, .inl (c_text, 16384, .inl v12))]) [0, 1] rfl
                have hDc := hD.sub (ws' := [(h0, .inr (8, px_mf rf v11)), (rf 36, .inl (c_text, 16384, .inl v12))]) [0, 1] (by decide) rfl
                have hKc := hK.sub (tys' := [(c_text, .byte)]) [0] rfl
                have hFc := va_free (wc := [(h0, .inr (8, px_mf rf v11)), (rf 36, .inl (c_text, 16384, .inl v12))]) hD hS hA [0, 1] rfl
                refine va_callv (va_runV (As := []) (rest := []) ⟨hx, hb, hml, hown, htw⟩ (mnm_met l dC dI H.size h0 rf c_text v11 v12 _ hw) (cwV 0 htw (px_gv px_w657 px_w347 px_w348 px_w94 px_g29) rfl rfl rfl (by decide +kernel) ⟨Nat.le_of_ble_eq_true rfl, Nat.le_of_ble_eq_true rfl⟩) ⟨fun a U g mk q => by obtain ⟨q0, q1, qP, qK, qD, qN⟩ := q; exact ⟨q0, q1, qP, va_K.moved (u := U) (U := U.calling g mk a) (Vm.Alike.refl U.vm) qK, qD, qN.same rfl⟩, va_recv hK hP (ci := 8) (q0 := 0) rfl rfl, fun U hU hW => ⟨rfl, by rw [hU], by rw [hU]; exact hPc, va_K.moved hW.alike hKc, hDc.weaken (fun _ _ _ _ => trivial), hN.warm hW⟩⟩ rfl rfl hl.1 rfl (lv_room (Nat.le_of_ble_eq_true rfl)) px_d96_150 ⟨(Nat.le_of_ble_eq_true rfl), (Nat.le_of_ble_eq_true rfl)⟩) hS (fun q _ h => hFc q h) hFc (fun u t H1 locs ht hvm hw hB hz1 hk1 hS => ?_)
                obtain ⟨v13, v14⟩ := u
                obtain ⟨hP1, hK1, hD1⟩ := hB
                rw [ht] at hP1
                have hK1 := va_K.moved hvm.symm hK1
                obtain ⟨hP, hD⟩ := va_join (wr := []) (w1 := [(h0, .inr (8, px_mf rf v13)), (rf 36, .inl (c_text, 16384, .inl v14))]) hP hD [0, 1] [] rfl rfl (by decide) (by decide) hk1 hFc hP1 hD1
                generalize H1 = H at hP hS ⊢
                have hP : va_P (dC, dI) vwCl [(h0, .inr (8, px_mf rf v13)), (rf 36, .inl (c_text, 16384, .inl v14))] H := hP
                have hD : va_D A [(h0, .inr (8, px_mf rf v13)), (rf 36, .inl (c_text, 16384, .inl v14))] := hD
                exact S153 x1 v13 v14 H locs ls hP hD hS (lv_sub hl [0, 1] rfl) hw
            · have hw := hw.2 c132
              exact S135 x1 v11 v12 H locs ls hP hD hS (lv_sub hl [0, 1] rfl) hw
        · have hw := hw.2 c107
          refine lv_aload_n hx hb px_d96_110 rfl (lv_at hl 0 rfl) ?_
          have hPc := hP.sub (ws' := [(h0, .inr (8, px_mf rf v9)), (rf 36, .inl (c_text, 16384, .inl v10))]) [0, 1] rfl
          have hDc := hD.sub (ws' := [(h0, .inr (8, px_mf rf v9)), (rf 36, .inl (c_text, 16384, .inl v10))]) [0, 1] (by decide) rfl
          have hKc := hK.sub (tys' := [(c_text, .byte)]) [0] rfl
          have hFc := va_free (wc := [(h0, .inr (8, px_mf rf v9)), (rf 36, .inl (c_text, 16384, .inl v10))]) hD hS hA [0, 1] rfl
          refine va_callv (va_runV (As := []) (rest := []) ⟨hx, hb, hml, hown, htw⟩ (mnu_met l dC dI H.size h0 rf c_text v9 v10 _ hw) (cwV 0 htw (px_gv px_w360 px_w352 px_w353 px_w94 px_g30) rfl rfl rfl (by decide +kernel) ⟨Nat.le_of_ble_eq_true rfl, Nat.le_of_ble_eq_true rfl⟩) ⟨fun a U g mk q => by obtain ⟨q0, q1, qP, qK, qD, qN⟩ := q; exact ⟨q0, q1, qP, va_K.moved (u := U) (U := U.calling g mk a) (Vm.Alike.refl U.vm) qK, qD, qN.same rfl⟩, va_recv hK hP (ci := 8) (q0 := 0) rfl rfl, fun U hU hW => ⟨rfl, by rw [hU], by rw [hU]; exact hPc, va_K.moved hW.alike hKc, hDc.weaken (fun _ _ _ _ => trivial), hN.warm hW⟩⟩ rfl rfl hl.1 rfl (lv_room (Nat.le_of_ble_eq_true rfl)) px_d96_111 ⟨(Nat.le_of_ble_eq_true rfl), (Nat.le_of_ble_eq_true rfl)⟩) hS (fun q _ h => hFc q h) hFc (fun u t H1 locs ht hvm hw hB hz1 hk1 hS => ?_)
          obtain ⟨v15, v16⟩ := u
          obtain ⟨hP1, hK1, hD1⟩ := hB
          rw [ht] at hP1
          have hK1 := va_K.moved hvm.symm hK1
          obtain ⟨hP, hD⟩ := va_join (wr := []) (w1 := [(h0, .inr (8, px_mf rf v15)), (rf 36, .inl (c_text, 16384, .inl v16))]) hP hD [0, 1] [] rfl rfl (by decide) (by decide) hk1 hFc hP1 hD1
          generalize H1 = H at hP hS ⊢
          have hP : va_P (dC, dI) vwCl [(h0, .inr (8, px_mf rf v15)), (rf 36, .inl (c_text, 16384, .inl v16))] H := hP
          have hD : va_D A [(h0, .inr (8, px_mf rf v15)), (rf 36, .inl (c_text, 16384, .inl v16))] := hD
          refine lv_aload_n hx hb px_d96_114 rfl (lv_at hl 0 rfl) ?_
          have hPc := hP.sub (ws' := [(h0, .inr (8, px_mf rf v15)), (rf 36, .inl (c_text, 16384, .inl v16))]) [0, 1] rfl
          have hDc := hD.sub (ws' := [(h0, .inr (8, px_mf rf v15)), (rf 36, .inl (c_text, 16384, .inl v16))]) [0, 1] (by decide) rfl
          have hKc := hK.sub (tys' := [(c_text, .byte)]) [0] rfl
          have hFc := va_free (wc := [(h0, .inr (8, px_mf rf v15)), (rf 36, .inl (c_text, 16384, .inl v16))]) hD hS hA [0, 1] rfl
          refine va_callv (va_runV (As := []) (rest := []) ⟨hx, hb, hml, hown, htw⟩ (mnu_met l dC dI H.size h0 rf c_text v15 v16 _ hw) (cwV 0 htw (px_gv px_w360 px_w352 px_w353 px_w94 px_g30) rfl rfl rfl (by decide +kernel) ⟨Nat.le_of_ble_eq_true rfl, Nat.le_of_ble_eq_true rfl⟩) ⟨fun a U g mk q => by obtain ⟨q0, q1, qP, qK, qD, qN⟩ := q; exact ⟨q0, q1, qP, va_K.moved (u := U) (U := U.calling g mk a) (Vm.Alike.refl U.vm) qK, qD, qN.same rfl⟩, va_recv hK hP (ci := 8) (q0 := 0) rfl rfl, fun U hU hW => ⟨rfl, by rw [hU], by rw [hU]; exact hPc, va_K.moved hW.alike hKc, hDc.weaken (fun _ _ _ _ => trivial), hN.warm hW⟩⟩ rfl rfl hl.1 rfl (lv_room (Nat.le_of_ble_eq_true rfl)) px_d96_115 ⟨(Nat.le_of_ble_eq_true rfl), (Nat.le_of_ble_eq_true rfl)⟩) hS (fun q _ h => hFc q h) hFc (fun u t H1 locs ht hvm hw hB hz1 hk1 hS => ?_)
          obtain ⟨v17, v18⟩ := u
          obtain ⟨hP1, hK1, hD1⟩ := hB
          rw [ht] at hP1
          have hK1 := va_K.moved hvm.symm hK1
          obtain ⟨hP, hD⟩ := va_join (wr := []) (w1 := [(h0, .inr (8, px_mf rf v17)), (rf 36, .inl (c_text, 16384, .inl v18))]) hP hD [0, 1] [] rfl rfl (by decide) (by decide) hk1 hFc hP1 hD1
          generalize H1 = H at hP hS ⊢
          have hP : va_P (dC, dI) vwCl [(h0, .inr (8, px_mf rf v17)), (rf 36, .inl (c_text, 16384, .inl v18))] H := hP
          have hD : va_D A [(h0, .inr (8, px_mf rf v17)), (rf 36, .inl (c_text, 16384, .inl v18))] := hD
          refine lv_goto (tgt := 153) hx hb px_d96_118 (by decide) ?_
          exact S153 x1 v17 v18 H locs ls hP hD hS (lv_sub hl [0, 1] rfl) hw
      · have hw := hw.2 c91
        refine lv_aload_n hx hb px_d96_94 rfl (lv_at hl 0 rfl) ?_
        have hPc := hP.sub (ws' := [(h0, .inr (8, px_mf rf v9)), (rf 36, .inl (c_text, 16384, .inl v10))]) [0, 1] rfl
        have hDc := hD.sub (ws' := [(h0, .inr (8, px_mf rf v9)), (rf 36, .inl (c_text, 16384, .inl v10))]) [0, 1] (by decide) rfl
        have hKc := hK.sub (tys' := [(c_text, .byte)]) [0] rfl
        have hFc := va_free (wc := [(h0, .inr (8, px_mf rf v9)), (rf 36, .inl (c_text, 16384, .inl v10))]) hD hS hA [0, 1] rfl
        refine va_callv (va_runV (As := []) (rest := []) ⟨hx, hb, hml, hown, htw⟩ (mnu_met l dC dI H.size h0 rf c_text v9 v10 _ hw) (cwV 0 htw (px_gv px_w360 px_w352 px_w353 px_w94 px_g30) rfl rfl rfl (by decide +kernel) ⟨Nat.le_of_ble_eq_true rfl, Nat.le_of_ble_eq_true rfl⟩) ⟨fun a U g mk q => by obtain ⟨q0, q1, qP, qK, qD, qN⟩ := q; exact ⟨q0, q1, qP, va_K.moved (u := U) (U := U.calling g mk a) (Vm.Alike.refl U.vm) qK, qD, qN.same rfl⟩, va_recv hK hP (ci := 8) (q0 := 0) rfl rfl, fun U hU hW => ⟨rfl, by rw [hU], by rw [hU]; exact hPc, va_K.moved hW.alike hKc, hDc.weaken (fun _ _ _ _ => trivial), hN.warm hW⟩⟩ rfl rfl hl.1 rfl (lv_room (Nat.le_of_ble_eq_true rfl)) px_d96_95 ⟨(Nat.le_of_ble_eq_true rfl), (Nat.le_of_ble_eq_true rfl)⟩) hS (fun q _ h => hFc q h) hFc (fun u t H1 locs ht hvm hw hB hz1 hk1 hS => ?_)
        obtain ⟨v19, v20⟩ := u
        obtain ⟨hP1, hK1, hD1⟩ := hB
        rw [ht] at hP1
        have hK1 := va_K.moved hvm.symm hK1
        obtain ⟨hP, hD⟩ := va_join (wr := []) (w1 := [(h0, .inr (8, px_mf rf v19)), (rf 36, .inl (c_text, 16384, .inl v20))]) hP hD [0, 1] [] rfl rfl (by decide) (by decide) hk1 hFc hP1 hD1
        generalize H1 = H at hP hS ⊢
        have hP : va_P (dC, dI) vwCl [(h0, .inr (8, px_mf rf v19)), (rf 36, .inl (c_text, 16384, .inl v20))] H := hP
        have hD : va_D A [(h0, .inr (8, px_mf rf v19)), (rf 36, .inl (c_text, 16384, .inl v20))] := hD
        refine lv_aload_n hx hb px_d96_98 rfl (lv_at hl 0 rfl) ?_
        have hPc := hP.sub (ws' := [(h0, .inr (8, px_mf rf v19)), (rf 36, .inl (c_text, 16384, .inl v20))]) [0, 1] rfl
        have hDc := hD.sub (ws' := [(h0, .inr (8, px_mf rf v19)), (rf 36, .inl (c_text, 16384, .inl v20))]) [0, 1] (by decide) rfl
        have hKc := hK.sub (tys' := [(c_text, .byte)]) [0] rfl
        have hFc := va_free (wc := [(h0, .inr (8, px_mf rf v19)), (rf 36, .inl (c_text, 16384, .inl v20))]) hD hS hA [0, 1] rfl
        refine va_callv (va_runV (As := []) (rest := []) ⟨hx, hb, hml, hown, htw⟩ (med_met l dC dI H.size h0 rf c_text v19 v20 _ hw) (cwV 0 htw (px_gv px_w656 px_w358 px_w359 px_w94 px_g32) rfl rfl rfl (by decide +kernel) ⟨Nat.le_of_ble_eq_true rfl, Nat.le_of_ble_eq_true rfl⟩) ⟨fun a U g mk q => by obtain ⟨q0, q1, qP, qK, qD, qN⟩ := q; exact ⟨q0, q1, qP, va_K.moved (u := U) (U := U.calling g mk a) (Vm.Alike.refl U.vm) qK, qD, qN.same rfl⟩, va_recv hK hP (ci := 8) (q0 := 0) rfl rfl, fun U hU hW => ⟨rfl, by rw [hU], by rw [hU]; exact hPc, va_K.moved hW.alike hKc, hDc.weaken (fun _ _ _ _ => trivial), hN.warm hW⟩⟩ rfl rfl hl.1 rfl (lv_room (Nat.le_of_ble_eq_true rfl)) px_d96_99 ⟨(Nat.le_of_ble_eq_true rfl), (Nat.le_of_ble_eq_true rfl)⟩) hS (fun q _ h => hFc q h) hFc (fun u t H1 locs ht hvm hw hB hz1 hk1 hS => ?_)
        obtain ⟨v21, v22⟩ := u
        obtain ⟨hP1, hK1, hD1⟩ := hB
        rw [ht] at hP1
        have hK1 := va_K.moved hvm.symm hK1
        obtain ⟨hP, hD⟩ := va_join (wr := []) (w1 := [(h0, .inr (8, px_mf rf v21)), (rf 36, .inl (c_text, 16384, .inl v22))]) hP hD [0, 1] [] rfl rfl (by decide) (by decide) hk1 hFc hP1 hD1
        generalize H1 = H at hP hS ⊢
        have hP : va_P (dC, dI) vwCl [(h0, .inr (8, px_mf rf v21)), (rf 36, .inl (c_text, 16384, .inl v22))] H := hP
        have hD : va_D A [(h0, .inr (8, px_mf rf v21)), (rf 36, .inl (c_text, 16384, .inl v22))] := hD
        refine lv_goto (tgt := 153) hx hb px_d96_102 (by decide) ?_
        exact S153 x1 v21 v22 H locs ls hP hD hS (lv_sub hl [0, 1] rfl) hw
    · have hw := hw.2 c22
      refine lv_aload_n hx hb px_d96_25 rfl (lv_at hl 0 rfl) ?_
      refine lv_aload_n hx hb px_d96_26 rfl (lv_at hl 0 rfl) ?_
      refine va_get (D := (dC, dI)) (ci := 8) (v := .int (v9 38)) (C := "MatroidDeskModel") (T := px_T8) (N := 53) hx hb htw px_in8 hown hK hP 0 rfl rfl 38 (by decide) (htw _ px_w331) (fun _ h9 => h9) rfl px_d96_27 ?_
      refine lv_iconst (v := 2) hx hb px_d96_30 (by decide) ?_
      refine lv_icmp_eq (tgt := 69) hx hb px_d96_31 (by decide) (fun c31 => ?_) (fun c31 => ?_)
      · have hw := hw.1 c31
        exact S69 x1 v9 v10 H locs ls hP hD hS (lv_sub hl [0, 1] rfl) hw
      · have hw := hw.2 c31
        refine lv_aload_n hx hb px_d96_34 rfl (lv_at hl 0 rfl) ?_
        refine va_get (D := (dC, dI)) (ci := 8) (v := .int (v9 38)) (C := "MatroidDeskModel") (T := px_T8) (N := 53) hx hb htw px_in8 hown hK hP 0 rfl rfl 38 (by decide) (htw _ px_w331) (fun _ h9 => h9) rfl px_d96_35 ?_
        refine lv_iconst (v := 1) hx hb px_d96_38 (by decide) ?_
        refine lv_icmp_ne (tgt := 73) hx hb px_d96_39 (by decide) (fun c39 => ?_) (fun c39 => ?_)
        · have hw := hw.1 c39
          exact S73 x1 v9 v10 H locs ls hP hD hS (lv_sub hl [0, 1] rfl) hw
        · have hw := hw.2 c39
          refine lv_aload_n hx hb px_d96_42 rfl (lv_at hl 0 rfl) ?_
          refine va_get (D := (dC, dI)) (ci := 8) (v := .int (v9 40)) (C := "MatroidDeskModel") (T := px_T8) (N := 53) hx hb htw px_in8 hown hK hP 0 rfl rfl 40 (by decide) (htw _ px_w328) (fun _ h9 => h9) rfl px_d96_43 ?_
          refine lv_aload_n hx hb px_d96_46 rfl (lv_at hl 0 rfl) ?_
          refine va_get (D := (dC, dI)) (ci := 8) (v := .int (v9 39)) (C := "MatroidDeskModel") (T := px_T8) (N := 53) hx hb htw px_in8 hown hK hP 0 rfl rfl 39 (by decide) (htw _ px_w330) (fun _ h9 => h9) rfl px_d96_47 ?_
          refine lv_iconst (v := 1) hx hb px_d96_50 (by decide) ?_
          refine lv_iadd hx hb px_d96_51 ?_
          refine lv_icmp_ne (tgt := 73) hx hb px_d96_52 (by decide) (fun c52 => ?_) (fun c52 => ?_)
          · have hw := hw.1 c52
            exact S73 x1 v9 v10 H locs ls hP hD hS (lv_sub hl [0, 1] rfl) hw
          · have hw := hw.2 c52
            refine lv_aload_n hx hb px_d96_55 rfl (lv_at hl 0 rfl) ?_
            refine va_get (D := (dC, dI)) (ci := 8) (v := .ref (rf 36)) (C := "MatroidDeskModel") (T := px_T8) (N := 53) hx hb htw px_in8 hown hK hP 0 rfl rfl 36 (by decide) (htw _ px_w320) (fun _ h9 => h9) rfl px_d96_56 ?_
            refine lv_aload_n hx hb px_d96_59 rfl (lv_at hl 0 rfl) ?_
            refine va_get (D := (dC, dI)) (ci := 8) (v := .int (v9 39)) (C := "MatroidDeskModel") (T := px_T8) (N := 53) hx hb htw px_in8 hown hK hP 0 rfl rfl 39 (by decide) (htw _ px_w330) (fun _ h9 => h9) rfl px_d96_60 ?_
            obtain ⟨hi63, hw⟩ := hw
            refine va_bald hx hb hK hP 1 0 rfl rfl hi63 px_d96_63 ?_
            refine lv_bipush (v := 81) hx hb px_d96_64 (by decide) ?_
            refine lv_icmp_ne (tgt := 73) hx hb px_d96_66 (by decide) (fun c66 => ?_) (fun c66 => ?_)
            · have hw := hw.1 c66
              exact S73 x1 v9 v10 H locs ls hP hD hS (lv_sub hl [0, 1] rfl) hw
            · have hw := hw.2 c66
              exact S69 x1 v9 v10 H locs ls hP hD hS (lv_sub hl [0, 1] rfl) hw
  unfold w96_wp at hw
  have hS0 := hS
  obtain ⟨H, hH9⟩ : ∃ z, z = s.heap := ⟨_, rfl⟩
  have hP : va_P (dC, dI) vwCl [(h0, .inr (8, px_mf rf iv)), (rf 36, .inl (c_text, 16384, .inl g_text))] H := by rw [hH9]; exact hP
  obtain ⟨locs, hlo9⟩ : ∃ z : List Loc, z = [] := ⟨_, rfl⟩
  have hS : va_S A s.heap H locs := by rw [hH9, hlo9]; exact hS
  suffices hG : W p l e (headSpec px_s96 ({ frames := 5, cells := 0, slots := 0, locals := 109 })).room s m ([.ref h0]).toArray below meth c H locs 0 0 Q (F0 m 0 ls []) by rw [hH9, hlo9] at hG; exact hG
  refine lv_aload_n hx hb px_d96_0 rfl (lv_at hl 0 rfl) ?_
  refine px_ldcwE hx hb hown hE0 px_qr12 px_d96_1 ?_
  have hPc := hP.sub (ws' := [(h0, .inr (8, px_mf rf iv)), (rf 36, .inl (c_text, 16384, .inl g_text))]) [0, 1] rfl
  have hDc := hD.sub (ws' := [(h0, .inr (8, px_mf rf iv)), (rf 36, .inl (c_text, 16384, .inl g_text))]) [0, 1] (by decide) rfl
  have hFc := va_free (wc := [(h0, .inr (8, px_mf rf iv)), (rf 36, .inl (c_text, 16384, .inl g_text))]) hD hS hA [0, 1] rfl
  have hKc := hK.sub (tys' := [(c_text, .byte)]) [0] rfl
  refine va_calli (va_runV (As := [.ref (adK 9)]) (rest := []) ⟨hx, hb, hml, hown, htw⟩ (w95_met l dC dI H.size adK adV bo adB tA tS h0 rf 9 c_text iv g_text _ hw) (cwV 1 htw (px_gv px_w654 px_w647 px_w648 px_w94 px_g95) rfl rfl rfl (by decide +kernel) ⟨Nat.le_of_ble_eq_true rfl, Nat.le_of_ble_eq_true rfl⟩) ⟨fun a U g mk q => by obtain ⟨q0, q1, qP, qK, qD, qN, qE0⟩ := q; exact ⟨q0, q1, qP, va_K.moved (u := U) (U := U.calling g mk a) (Vm.Alike.refl U.vm) qK, qD, qN.same rfl, qE0.same rfl⟩, va_recv hK hP (ci := 8) (q0 := 0) rfl rfl, fun U hU hW => ⟨rfl, by rw [hU], by rw [hU]; exact hPc, va_K.moved hW.alike hKc, hDc.weaken (fun _ _ _ _ => trivial), hN.warm hW, by rw [hU]; exact hE0.go hS hFc hW⟩⟩ rfl rfl hl.1 rfl (lv_room (Nat.le_of_ble_eq_true rfl)) px_d96_4 ⟨(Nat.le_of_ble_eq_true rfl), (Nat.le_of_ble_eq_true rfl)⟩) hS (fun q _ h => hFc q h) hFc (fun r4 u t H1 locs ht hvm hw hB hz1 hk1 hS => ?_)
  obtain ⟨v23, v24⟩ := u
  obtain ⟨hP1, hK1, hD1⟩ := hB
  rw [ht] at hP1
  obtain ⟨hP, hD⟩ := va_join (wr := []) (w1 := [(h0, .inr (8, px_mf rf v23)), (rf 36, .inl (c_text, 16384, .inl v24))]) hP hD [0, 1] [] rfl rfl (by decide) (by decide) hk1 hFc hP1 hD1
  generalize H1 = H at hP hS ⊢
  have hP : va_P (dC, dI) vwCl [(h0, .inr (8, px_mf rf v23)), (rf 36, .inl (c_text, 16384, .inl v24))] H := hP
  have hD : va_D A [(h0, .inr (8, px_mf rf v23)), (rf 36, .inl (c_text, 16384, .inl v24))] := hD
  refine lv_istore_n (lv' := [(1, .int r4), (0, .ref h0)]) hx hb px_d96_7 rfl hl (by decide) rfl (fun ls hl => ?_)
  refine lv_aload_n hx hb px_d96_8 rfl (lv_at hl 1 rfl) ?_
  refine lv_iload_n hx hb px_d96_9 rfl (lv_at hl 0 rfl) ?_
  refine lv_if_lt (tgt := 17) hx hb px_d96_10 (by decide) (fun c10 => ?_) (fun c10 => ?_)
  · have hw := hw.1 c10
    refine lv_iconst (v := 0) hx hb px_d96_17 (by decide) ?_
    exact S18 r4 0 v23 v24 H locs ls hP hD hS (lv_sub hl [1, 0] rfl) hw
  · have hw := hw.2 c10
    refine lv_iconst (v := 1) hx hb px_d96_13 (by decide) ?_
    refine lv_goto (tgt := 18) hx hb px_d96_14 (by decide) ?_
    exact S18 r4 1 v23 v24 H locs ls hP hD hS (lv_sub hl [1, 0] rfl) hw

/-! MatroidDeskModel.isScript()Z -/
def w97_L170 (post : Int32 → (Nat → Int32) → (Nat → Int32) → Prop) (x1 : Int32) (y0 : Int32) (iv : Nat → Int32) (g_text : Nat → Int32) : Prop := narrow .boolean (.int y0) = .int y0 ∧ post y0 iv g_text
def w97_L158 (post : Int32 → (Nat → Int32) → (Nat → Int32) → Prop) (x1 : Int32) (iv : Nat → Int32) (g_text : Nat → Int32) : Prop := (¬ (iv 41) = 0 → w97_L170 post x1 0 iv g_text) ∧ ((iv 41) = 0 → w97_L170 post x1 1 iv g_text)
def w97_L149 (K16 : Int32 → (Nat → Int32) → (Nat → Int32) → Prop) (post : Int32 → (Nat → Int32) → (Nat → Int32) → Prop) (x1 : Int32) (y0 : Int32) (iv : Nat → Int32) (g_text : Nat → Int32) : Prop := mwa_wp (fun v1 v2 => ∀ z3 : Int32, z3 = x1 + 1 → K16 z3 v1 v2) y0 iv g_text
def w97_L134 (K16 : Int32 → (Nat → Int32) → (Nat → Int32) → Prop) (post : Int32 → (Nat → Int32) → (Nat → Int32) → Prop) (x1 : Int32) (iv : Nat → Int32) (g_text : Nat → Int32) : Prop := (¬ (iv 38) = 59 → w97_L149 K16 post x1 0 iv g_text) ∧ ((iv 38) = 59 → w97_L149 K16 post x1 1 iv g_text)
def w97_L130 (K16 : Int32 → (Nat → Int32) → (Nat → Int32) → Prop) (post : Int32 → (Nat → Int32) → (Nat → Int32) → Prop) (x1 : Int32) (x2 : Int32) (iv : Nat → Int32) (g_text : Nat → Int32) : Prop := mnm_wp (fun v4 v5 => w97_L134 K16 post x1 v4 v5) iv g_text
def w97_L99 (K16 : Int32 → (Nat → Int32) → (Nat → Int32) → Prop) (post : Int32 → (Nat → Int32) → (Nat → Int32) → Prop) (x1 : Int32) (x2 : Int32) (y0 : Int32) (iv : Nat → Int32) (g_text : Nat → Int32) : Prop := mwa_wp (fun v6 v7 => mnm_wp (fun v8 v9 => (¬ x2 = 0 → (x2 = 8 → w97_L130 K16 post x1 x2 v8 v9) ∧ (¬ x2 = 8 → (¬ x2 = 11 → w97_L134 K16 post x1 v8 v9) ∧ (x2 = 11 → w97_L130 K16 post x1 x2 v8 v9))) ∧ (x2 = 0 → mns_wp (fun v10 v11 => w97_L134 K16 post x1 v10 v11) 0 v8 v9)) v6 v7) y0 iv g_text
def w97_L71 (K16 : Int32 → (Nat → Int32) → (Nat → Int32) → Prop) (post : Int32 → (Nat → Int32) → (Nat → Int32) → Prop) (x1 : Int32) (y0 : Int32) (iv : Nat → Int32) (g_text : Nat → Int32) : Prop := mwa_wp (fun v12 v13 => (w96_wp (fun v14 v15 => w97_L134 K16 post x1 v14 v15) v12 v13)) y0 iv g_text
def w97_L16 (post : Int32 → (Nat → Int32) → (Nat → Int32) → Prop) : Nat → Int32 → (Nat → Int32) → (Nat → Int32) → Prop
  | 0 => fun _ _ _ => False
  | k + 1 => fun x1 iv g_text => (¬ (iv 41) = 0 → w97_L158 post x1 iv g_text) ∧ ((iv 41) = 0 → ((iv 38) = 0 → w97_L158 post x1 iv g_text) ∧ (¬ (iv 38) = 0 → (¬ x1 = 400 → min__wp (fun r46 v17 v18 => (r46 = 0 → (w95_wp 10 (fun r85 v19 v20 => (r85 < 0 → w97_L99 (w97_L16 post k) post x1 r85 0 v19 v20) ∧ (¬ r85 < 0 → w97_L99 (w97_L16 post k) post x1 r85 1 v19 v20)) v17 v18)) ∧ (¬ r46 = 0 → mnx_wp (fun v22 v23 => (¬ (v22 38) = 61 → w97_L71 (w97_L16 post k) post x1 0 v22 v23) ∧ ((v22 38) = 61 → w97_L71 (w97_L16 post k) post x1 1 v22 v23)) v17 v18)) iv g_text) ∧ (x1 = 400 → mwa_wp (fun v24 v25 => w97_L134 (w97_L16 post k) post x1 v24 v25) 0 iv g_text)))
def w97_wp (post : Int32 → (Nat → Int32) → (Nat → Int32) → Prop) (iv : Nat → Int32) (g_text : Nat → Int32) : Prop := mnx_wp (fun v26 v27 => ∃ j16, w97_L16 post j16 0 v26 v27) (va_up (va_up iv 41 0) 40 0) g_text
set_option maxHeartbeats 8000000 in
set_option maxRecDepth 100000 in
theorem w97_met (l : Launch) (dC : Nat → ClassId) (dI : Nat → Nat → Nat) (sz : Nat) (adK : Nat → Nat) (adV : Nat → Nat) (bo : Option Nat) (adB : Nat → Nat) (tA : Nat) (tS : Nat) (h0 : Nat) (rf : Nat → Nat) (c_text : ClassId) (iv : Nat → Int32) (g_text : Nat → Int32) (post : Int32 → (Nat → Int32) → (Nat → Int32) → Prop) (hw : w97_wp post iv g_text) : Met l px_y97 px_s97 ({ frames := 6, cells := 0, slots := 0, locals := 130 }) (va_Pc [.ref h0] (fun U => U.heap.size = sz ∧ va_P (dC, dI) vwCl [(h0, .inr (8, px_mf rf iv)), (rf 36, .inl (c_text, 16384, .inl g_text))] U.heap ∧ va_K (dC, dI) vwCl [(c_text, .byte)] U ∧ va_D (fun _ => True) [(h0, .inr (8, px_mf rf iv)), (rf 36, .inl (c_text, 16384, .inl g_text))] ∧ px_N U ∧ px_E adK adV bo adB tA tS (va_A [(h0, .inr (8, px_mf rf iv)), (rf 36, .inl (c_text, 16384, .inl g_text))] sz) U U.heap)) (va_Qi (fun (r : Int32) (u : (Nat → Int32) × (Nat → Int32)) => post r u.1 u.2) (fun (u : (Nat → Int32) × (Nat → Int32)) (t : State) => va_P (dC, dI) vwCl [(h0, .inr (8, px_mf rf u.1)), (rf 36, .inl (c_text, 16384, .inl u.2))] t.heap ∧ va_K (dC, dI) vwCl [(c_text, .byte)] t ∧ va_D (va_A [(h0, .inr (8, px_mf rf iv)), (rf 36, .inl (c_text, 16384, .inl g_text))] sz) [(h0, .inr (8, px_mf rf u.1)), (rf 36, .inl (c_text, 16384, .inl u.2))]) (va_A [(h0, .inr (8, px_mf rf iv)), (rf 36, .inl (c_text, 16384, .inl g_text))] sz)) 0 0 (va_A [(h0, .inr (8, px_mf rf iv)), (rf 36, .inl (c_text, 16384, .inl g_text))] sz) := by
  refine Met.ofW (cc := prog_15_method_63_code) (maxL := 3) (ret := (some .boolean)) (by decide) rfl ?_
  intro p e s m args below meth c s₁ B hml hv
  obtain ⟨rfl, hsz, hP, hK, hD0, hN, hE0⟩ := hv
  have hx := B.exec
  have hb := B.bytes
  have hr := B.returns
  have htw : ∀ w ∈ px_all, w.before _ s = true := fun w h => atoms_spec (ws := px_s97) B.pre w (List.mem_cons_of_mem _ h)
  have hown : s.vm.findClass "MatroidDeskModel" = some m.cls := findClass_of_methodNamed B.named
  have hlocks := B.notSynchronized
  subst hsz
  have hD := hD0.self (sz := s.heap.size)
  generalize hAe : va_A [(h0, .inr (8, px_mf rf iv)), (rf 36, .inl (c_text, 16384, .inl g_text))] s.heap.size = A at hD hE0 ⊢
  have hA : ∀ q : Nat, s.heap.size ≤ q → A q := fun q h => by rw [← hAe]; exact Or.inr h
  have hS : va_S A s.heap s.heap [] := va_S.rf
  have hP : va_P (dC, dI) vwCl [(h0, .inr (8, px_mf rf iv)), (rf 36, .inl (c_text, 16384, .inl g_text))] s.heap := hP
  have hl := lv_entry ([.ref h0]) (n := 3) (Nat.le_of_ble_eq_true rfl)
  rw [lg_entry_eq]
  generalize (lg_sl ([.ref h0]) ++ List.replicate (3 - (lg_sl ([.ref h0])).length) Slot.unset).toArray = ls at hl ⊢
  have hl : lv_has ls 3 [(0, .ref h0)] := hl
  generalize hQ : MQ _ _ _ _ _ _ _ = Q
  have S170 : ∀ (x1 : Int32) (y0 : Int32) (iv : Nat → Int32) (g_text : Nat → Int32) (H : Heap) (locs : List Loc) (ls : Array Slot), va_P (dC, dI) vwCl [(h0, .inr (8, px_mf rf iv)), (rf 36, .inl (c_text, 16384, .inl g_text))] H → va_D A [(h0, .inr (8, px_mf rf iv)), (rf 36, .inl (c_text, 16384, .inl g_text))] → va_S A s.heap H locs → lv_has ls 3 [(0, .ref h0), (1, .int x1)] → w97_L170 post x1 y0 iv g_text → W p l e (headSpec px_s97 ({ frames := 6, cells := 0, slots := 0, locals := 130 })).room s m ([.ref h0]).toArray below meth c H locs 0 0 Q (F0 m 170 ls [.int y0]) := by
    intro x1 y0 iv g_text H locs ls hP hD hS hl hw
    unfold w97_L170 at hw
    obtain ⟨hz9, hw⟩ := hw
    rw [← hQ]
    exact W.zret (v := y0) hx hb hr hz9 (fun t ht hW => ⟨⟨y0, (iv, g_text), rfl, hw, by rw [ht]; exact hP, va_K.moved hW.alike hK, hD⟩, hS.F ht⟩) hS.2.2 px_d97_170
  have S158 : ∀ (x1 : Int32) (iv : Nat → Int32) (g_text : Nat → Int32) (H : Heap) (locs : List Loc) (ls : Array Slot), va_P (dC, dI) vwCl [(h0, .inr (8, px_mf rf iv)), (rf 36, .inl (c_text, 16384, .inl g_text))] H → va_D A [(h0, .inr (8, px_mf rf iv)), (rf 36, .inl (c_text, 16384, .inl g_text))] → va_S A s.heap H locs → lv_has ls 3 [(0, .ref h0), (1, .int x1)] → w97_L158 post x1 iv g_text → W p l e (headSpec px_s97 ({ frames := 6, cells := 0, slots := 0, locals := 130 })).room s m ([.ref h0]).toArray below meth c H locs 0 0 Q (F0 m 158 ls []) := by
    intro x1 iv g_text H locs ls hP hD hS hl hw
    unfold w97_L158 at hw
    refine lv_aload_n hx hb px_d97_158 rfl (lv_at hl 0 rfl) ?_
    refine va_get (D := (dC, dI)) (ci := 8) (v := .int (iv 41)) (C := "MatroidDeskModel") (T := px_T8) (N := 53) hx hb htw px_in8 hown hK hP 0 rfl rfl 41 (by decide) (htw _ px_w343) (fun _ h9 => h9) rfl px_d97_159 ?_
    refine lv_if_ne (tgt := 169) hx hb px_d97_162 (by decide) (fun c162 => ?_) (fun c162 => ?_)
    · have hw := hw.1 c162
      refine lv_iconst (v := 0) hx hb px_d97_169 (by decide) ?_
      exact S170 x1 0 iv g_text H locs ls hP hD hS (lv_sub hl [0, 1] rfl) hw
    · have hw := hw.2 c162
      refine lv_iconst (v := 1) hx hb px_d97_165 (by decide) ?_
      refine lv_goto (tgt := 170) hx hb px_d97_166 (by decide) ?_
      exact S170 x1 1 iv g_text H locs ls hP hD hS (lv_sub hl [0, 1] rfl) hw
  have S16 : ∀ (k16 : Nat) (x1 : Int32) (iv : Nat → Int32) (g_text : Nat → Int32) (H : Heap) (locs : List Loc) (ls : Array Slot), va_P (dC, dI) vwCl [(h0, .inr (8, px_mf rf iv)), (rf 36, .inl (c_text, 16384, .inl g_text))] H → va_D A [(h0, .inr (8, px_mf rf iv)), (rf 36, .inl (c_text, 16384, .inl g_text))] → va_S A s.heap H locs → lv_has ls 3 [(0, .ref h0), (1, .int x1)] → w97_L16 post k16 x1 iv g_text → W p l e (headSpec px_s97 ({ frames := 6, cells := 0, slots := 0, locals := 130 })).room s m ([.ref h0]).toArray below meth c H locs 0 0 Q (F0 m 16 ls []) := by
    intro k16
    induction k16 with
    | zero => intro x1 iv g_text H locs ls hP hD hS hl hw; exact False.elim hw
    | succ k16 ih16 =>
      have S149 : ∀ (x1 : Int32) (y0 : Int32) (iv : Nat → Int32) (g_text : Nat → Int32) (H : Heap) (locs : List Loc) (ls : Array Slot), va_P (dC, dI) vwCl [(h0, .inr (8, px_mf rf iv)), (rf 36, .inl (c_text, 16384, .inl g_text))] H → va_D A [(h0, .inr (8, px_mf rf iv)), (rf 36, .inl (c_text, 16384, .inl g_text))] → va_S A s.heap H locs → lv_has ls 3 [(0, .ref h0), (1, .int x1)] → w97_L149 (w97_L16 post k16) post x1 y0 iv g_text → W p l e (headSpec px_s97 ({ frames := 6, cells := 0, slots := 0, locals := 130 })).room s m ([.ref h0]).toArray below meth c H locs 0 0 Q (F0 m 149 ls [.int y0, .ref h0]) := by
        intro x1 y0 iv g_text H locs ls hP hD hS hl hw
        unfold w97_L149 at hw
        have hPc := hP.sub (ws' := [(h0, .inr (8, px_mf rf iv)), (rf 36, .inl (c_text, 16384, .inl g_text))]) [0, 1] rfl
        have hDc := hD.sub (ws' := [(h0, .inr (8, px_mf rf iv)), (rf 36, .inl (c_text, 16384, .inl g_text))]) [0, 1] (by decide) rfl
        have hKc := hK.sub (tys' := [(c_text, .byte)]) [0] rfl
        have hFc := va_free (wc := [(h0, .inr (8, px_mf rf iv)), (rf 36, .inl (c_text, 16384, .inl g_text))]) hD hS hA [0, 1] rfl
        refine va_callv (va_runV (As := [.int y0]) (rest := []) ⟨hx, hb, hml, hown, htw⟩ (mwa_met l dC dI H.size h0 rf c_text y0 iv g_text _ hw) (cwV 1 htw (px_gv px_w350 px_w341 px_w342 px_w94 px_g28) rfl rfl rfl (by decide +kernel) ⟨Nat.le_of_ble_eq_true rfl, Nat.le_of_ble_eq_true rfl⟩) ⟨fun a U g mk q => by obtain ⟨q0, q1, qP, qK, qD, qN⟩ := q; exact ⟨q0, q1, qP, va_K.moved (u := U) (U := U.calling g mk a) (Vm.Alike.refl U.vm) qK, qD, qN.same rfl⟩, va_recv hK hP (ci := 8) (q0 := 0) rfl rfl, fun U hU hW => ⟨rfl, by rw [hU], by rw [hU]; exact hPc, va_K.moved hW.alike hKc, hDc.weaken (fun _ _ _ _ => trivial), hN.warm hW⟩⟩ rfl rfl hl.1 rfl (lv_room (Nat.le_of_ble_eq_true rfl)) px_d97_149 ⟨(Nat.le_of_ble_eq_true rfl), (Nat.le_of_ble_eq_true rfl)⟩) hS (fun q _ h => hFc q h) hFc (fun u t H1 locs ht hvm hw hB hz1 hk1 hS => ?_)
        obtain ⟨v1, v2⟩ := u
        obtain ⟨hP1, hK1, hD1⟩ := hB
        rw [ht] at hP1
        have hK1 := va_K.moved hvm.symm hK1
        obtain ⟨hP, hD⟩ := va_join (wr := []) (w1 := [(h0, .inr (8, px_mf rf v1)), (rf 36, .inl (c_text, 16384, .inl v2))]) hP hD [0, 1] [] rfl rfl (by decide) (by decide) hk1 hFc hP1 hD1
        generalize H1 = H at hP hS ⊢
        have hP : va_P (dC, dI) vwCl [(h0, .inr (8, px_mf rf v1)), (rf 36, .inl (c_text, 16384, .inl v2))] H := hP
        have hD : va_D A [(h0, .inr (8, px_mf rf v1)), (rf 36, .inl (c_text, 16384, .inl v2))] := hD
        obtain ⟨z3, ez3⟩ : ∃ y : Int32, y = x1 + 1 := ⟨_, rfl⟩
        have hw := hw z3 ez3
        refine lv_iinc (v := z3) (lv' := [(1, .int z3), (0, .ref h0)]) hx hb px_d97_152 hl (k := 1) rfl (by rw [ez3]; rfl) (by decide) rfl (fun ls hl => ?_)
        refine lv_goto (tgt := 16) hx hb px_d97_155 (by decide) ?_
        exact ih16 z3 v1 v2 H locs ls hP hD hS (lv_sub hl [1, 0] rfl) hw
      have S134 : ∀ (x1 : Int32) (iv : Nat → Int32) (g_text : Nat → Int32) (H : Heap) (locs : List Loc) (ls : Array Slot), va_P (dC, dI) vwCl [(h0, .inr (8, px_mf rf iv)), (rf 36, .inl (c_text, 16384, .inl g_text))] H → va_D A [(h0, .inr (8, px_mf rf iv)), (rf 36, .inl (c_text, 16384, .inl g_text))] → va_S A s.heap H locs → lv_has ls 3 [(0, .ref h0), (1, .int x1)] → w97_L134 (w97_L16 post k16) post x1 iv g_text → W p l e (headSpec px_s97 ({ frames := 6, cells := 0, slots := 0, locals := 130 })).room s m ([.ref h0]).toArray below meth c H locs 0 0 Q (F0 m 134 ls []) := by
        intro x1 iv g_text H locs ls hP hD hS hl hw
        unfold w97_L134 at hw
        refine lv_aload_n hx hb px_d97_134 rfl (lv_at hl 0 rfl) ?_
        refine lv_aload_n hx hb px_d97_135 rfl (lv_at hl 0 rfl) ?_
        refine va_get (D := (dC, dI)) (ci := 8) (v := .int (iv 38)) (C := "MatroidDeskModel") (T := px_T8) (N := 53) hx hb htw px_in8 hown hK hP 0 rfl rfl 38 (by decide) (htw _ px_w331) (fun _ h9 => h9) rfl px_d97_136 ?_
        refine lv_bipush (v := 59) hx hb px_d97_139 (by decide) ?_
        refine lv_icmp_ne (tgt := 148) hx hb px_d97_141 (by decide) (fun c141 => ?_) (fun c141 => ?_)
        · have hw := hw.1 c141
          refine lv_iconst (v := 0) hx hb px_d97_148 (by decide) ?_
          exact S149 x1 0 iv g_text H locs ls hP hD hS (lv_sub hl [0, 1] rfl) hw
        · have hw := hw.2 c141
          refine lv_iconst (v := 1) hx hb px_d97_144 (by decide) ?_
          refine lv_goto (tgt := 149) hx hb px_d97_145 (by decide) ?_
          exact S149 x1 1 iv g_text H locs ls hP hD hS (lv_sub hl [0, 1] rfl) hw
      have S130 : ∀ (x1 : Int32) (x2 : Int32) (iv : Nat → Int32) (g_text : Nat → Int32) (H : Heap) (locs : List Loc) (ls : Array Slot), va_P (dC, dI) vwCl [(h0, .inr (8, px_mf rf iv)), (rf 36, .inl (c_text, 16384, .inl g_text))] H → va_D A [(h0, .inr (8, px_mf rf iv)), (rf 36, .inl (c_text, 16384, .inl g_text))] → va_S A s.heap H locs → lv_has ls 3 [(0, .ref h0), (1, .int x1), (2, .int x2)] → w97_L130 (w97_L16 post k16) post x1 x2 iv g_text → W p l e (headSpec px_s97 ({ frames := 6, cells := 0, slots := 0, locals := 130 })).room s m ([.ref h0]).toArray below meth c H locs 0 0 Q (F0 m 130 ls []) := by
        intro x1 x2 iv g_text H locs ls hP hD hS hl hw
        unfold w97_L130 at hw
        refine lv_aload_n hx hb px_d97_130 rfl (lv_at hl 0 rfl) ?_
        have hPc := hP.sub (ws' := [(h0, .inr (8, px_mf rf iv)), (rf 36, .inl (c_text, 16384, .inl g_text))]) [0, 1] rfl
        have hDc := hD.sub (ws' := [(h0, .inr (8, px_mf rf iv)), (rf 36, .inl (c_text, 16384, .inl g_text))]) [0, 1] (by decide) rfl
        have hKc := hK.sub (tys' := [(c_text, .byte)]) [0] rfl
        have hFc := va_free (wc := [(h0, .inr (8, px_mf rf iv)), (rf 36, .inl (c_text, 16384, .inl g_text))]) hD hS hA [0, 1] rfl
        refine va_callv (va_runV (As := []) (rest := []) ⟨hx, hb, hml, hown, htw⟩ (mnm_met l dC dI H.size h0 rf c_text iv g_text _ hw) (cwV 0 htw (px_gv px_w657 px_w347 px_w348 px_w94 px_g29) rfl rfl rfl (by decide +kernel) ⟨Nat.le_of_ble_eq_true rfl, Nat.le_of_ble_eq_true rfl⟩) ⟨fun a U g mk q => by obtain ⟨q0, q1, qP, qK, qD, qN⟩ := q; exact ⟨q0, q1, qP, va_K.moved (u := U) (U := U.calling g mk a) (Vm.Alike.refl U.vm) qK, qD, qN.same rfl⟩, va_recv hK hP (ci := 8) (q0 := 0) rfl rfl, fun U hU hW => ⟨rfl, by rw [hU], by rw [hU]; exact hPc, va_K.moved hW.alike hKc, hDc.weaken (fun _ _ _ _ => trivial), hN.warm hW⟩⟩ rfl rfl hl.1 rfl (lv_room (Nat.le_of_ble_eq_true rfl)) px_d97_131 ⟨(Nat.le_of_ble_eq_true rfl), (Nat.le_of_ble_eq_true rfl)⟩) hS (fun q _ h => hFc q h) hFc (fun u t H1 locs ht hvm hw hB hz1 hk1 hS => ?_)
        obtain ⟨v4, v5⟩ := u
        obtain ⟨hP1, hK1, hD1⟩ := hB
        rw [ht] at hP1
        have hK1 := va_K.moved hvm.symm hK1
        obtain ⟨hP, hD⟩ := va_join (wr := []) (w1 := [(h0, .inr (8, px_mf rf v4)), (rf 36, .inl (c_text, 16384, .inl v5))]) hP hD [0, 1] [] rfl rfl (by decide) (by decide) hk1 hFc hP1 hD1
        generalize H1 = H at hP hS ⊢
        have hP : va_P (dC, dI) vwCl [(h0, .inr (8, px_mf rf v4)), (rf 36, .inl (c_text, 16384, .inl v5))] H := hP
        have hD : va_D A [(h0, .inr (8, px_mf rf v4)), (rf 36, .inl (c_text, 16384, .inl v5))] := hD
        exact S134 x1 v4 v5 H locs ls hP hD hS (lv_sub hl [0, 1] rfl) hw
      have S99 : ∀ (x1 : Int32) (x2 : Int32) (y0 : Int32) (iv : Nat → Int32) (g_text : Nat → Int32) (H : Heap) (locs : List Loc) (ls : Array Slot), va_P (dC, dI) vwCl [(h0, .inr (8, px_mf rf iv)), (rf 36, .inl (c_text, 16384, .inl g_text))] H → va_D A [(h0, .inr (8, px_mf rf iv)), (rf 36, .inl (c_text, 16384, .inl g_text))] → va_S A s.heap H locs → lv_has ls 3 [(0, .ref h0), (1, .int x1), (2, .int x2)] → w97_L99 (w97_L16 post k16) post x1 x2 y0 iv g_text → W p l e (headSpec px_s97 ({ frames := 6, cells := 0, slots := 0, locals := 130 })).room s m ([.ref h0]).toArray below meth c H locs 0 0 Q (F0 m 99 ls [.int y0, .ref h0]) := by
        intro x1 x2 y0 iv g_text H locs ls hP hD hS hl hw
        unfold w97_L99 at hw
        have hPc := hP.sub (ws' := [(h0, .inr (8, px_mf rf iv)), (rf 36, .inl (c_text, 16384, .inl g_text))]) [0, 1] rfl
        have hDc := hD.sub (ws' := [(h0, .inr (8, px_mf rf iv)), (rf 36, .inl (c_text, 16384, .inl g_text))]) [0, 1] (by decide) rfl
        have hKc := hK.sub (tys' := [(c_text, .byte)]) [0] rfl
        have hFc := va_free (wc := [(h0, .inr (8, px_mf rf iv)), (rf 36, .inl (c_text, 16384, .inl g_text))]) hD hS hA [0, 1] rfl
        refine va_callv (va_runV (As := [.int y0]) (rest := []) ⟨hx, hb, hml, hown, htw⟩ (mwa_met l dC dI H.size h0 rf c_text y0 iv g_text _ hw) (cwV 1 htw (px_gv px_w350 px_w341 px_w342 px_w94 px_g28) rfl rfl rfl (by decide +kernel) ⟨Nat.le_of_ble_eq_true rfl, Nat.le_of_ble_eq_true rfl⟩) ⟨fun a U g mk q => by obtain ⟨q0, q1, qP, qK, qD, qN⟩ := q; exact ⟨q0, q1, qP, va_K.moved (u := U) (U := U.calling g mk a) (Vm.Alike.refl U.vm) qK, qD, qN.same rfl⟩, va_recv hK hP (ci := 8) (q0 := 0) rfl rfl, fun U hU hW => ⟨rfl, by rw [hU], by rw [hU]; exact hPc, va_K.moved hW.alike hKc, hDc.weaken (fun _ _ _ _ => trivial), hN.warm hW⟩⟩ rfl rfl hl.1 rfl (lv_room (Nat.le_of_ble_eq_true rfl)) px_d97_99 ⟨(Nat.le_of_ble_eq_true rfl), (Nat.le_of_ble_eq_true rfl)⟩) hS (fun q _ h => hFc q h) hFc (fun u t H1 locs ht hvm hw hB hz1 hk1 hS => ?_)
        obtain ⟨v6, v7⟩ := u
        obtain ⟨hP1, hK1, hD1⟩ := hB
        rw [ht] at hP1
        have hK1 := va_K.moved hvm.symm hK1
        obtain ⟨hP, hD⟩ := va_join (wr := []) (w1 := [(h0, .inr (8, px_mf rf v6)), (rf 36, .inl (c_text, 16384, .inl v7))]) hP hD [0, 1] [] rfl rfl (by decide) (by decide) hk1 hFc hP1 hD1
        generalize H1 = H at hP hS ⊢
        have hP : va_P (dC, dI) vwCl [(h0, .inr (8, px_mf rf v6)), (rf 36, .inl (c_text, 16384, .inl v7))] H := hP
        have hD : va_D A [(h0, .inr (8, px_mf rf v6)), (rf 36, .inl (c_text, 16384, .inl v7))] := hD
        refine lv_aload_n hx hb px_d97_102 rfl (lv_at hl 0 rfl) ?_
        have hPc := hP.sub (ws' := [(h0, .inr (8, px_mf rf v6)), (rf 36, .inl (c_text, 16384, .inl v7))]) [0, 1] rfl
        have hDc := hD.sub (ws' := [(h0, .inr (8, px_mf rf v6)), (rf 36, .inl (c_text, 16384, .inl v7))]) [0, 1] (by decide) rfl
        have hKc := hK.sub (tys' := [(c_text, .byte)]) [0] rfl
        have hFc := va_free (wc := [(h0, .inr (8, px_mf rf v6)), (rf 36, .inl (c_text, 16384, .inl v7))]) hD hS hA [0, 1] rfl
        refine va_callv (va_runV (As := []) (rest := []) ⟨hx, hb, hml, hown, htw⟩ (mnm_met l dC dI H.size h0 rf c_text v6 v7 _ hw) (cwV 0 htw (px_gv px_w657 px_w347 px_w348 px_w94 px_g29) rfl rfl rfl (by decide +kernel) ⟨Nat.le_of_ble_eq_true rfl, Nat.le_of_ble_eq_true rfl⟩) ⟨fun a U g mk q => by obtain ⟨q0, q1, qP, qK, qD, qN⟩ := q; exact ⟨q0, q1, qP, va_K.moved (u := U) (U := U.calling g mk a) (Vm.Alike.refl U.vm) qK, qD, qN.same rfl⟩, va_recv hK hP (ci := 8) (q0 := 0) rfl rfl, fun U hU hW => ⟨rfl, by rw [hU], by rw [hU]; exact hPc, va_K.moved hW.alike hKc, hDc.weaken (fun _ _ _ _ => trivial), hN.warm hW⟩⟩ rfl rfl hl.1 rfl (lv_room (Nat.le_of_ble_eq_true rfl)) px_d97_103 ⟨(Nat.le_of_ble_eq_true rfl), (Nat.le_of_ble_eq_true rfl)⟩) hS (fun q _ h => hFc q h) hFc (fun u t H1 locs ht hvm hw hB hz1 hk1 hS => ?_)
        obtain ⟨v8, v9⟩ := u
        obtain ⟨hP1, hK1, hD1⟩ := hB
        rw [ht] at hP1
        have hK1 := va_K.moved hvm.symm hK1
        obtain ⟨hP, hD⟩ := va_join (wr := []) (w1 := [(h0, .inr (8, px_mf rf v8)), (rf 36, .inl (c_text, 16384, .inl v9))]) hP hD [0, 1] [] rfl rfl (by decide) (by decide) hk1 hFc hP1 hD1
        generalize H1 = H at hP hS ⊢
        have hP : va_P (dC, dI) vwCl [(h0, .inr (8, px_mf rf v8)), (rf 36, .inl (c_text, 16384, .inl v9))] H := hP
        have hD : va_D A [(h0, .inr (8, px_mf rf v8)), (rf 36, .inl (c_text, 16384, .inl v9))] := hD
        refine lv_iload_n hx hb px_d97_106 rfl (lv_at hl 2 rfl) ?_
        refine lv_if_ne (tgt := 118) hx hb px_d97_107 (by decide) (fun c107 => ?_) (fun c107 => ?_)
        · have hw := hw.1 c107
          refine lv_iload_n hx hb px_d97_118 rfl (lv_at hl 2 rfl) ?_
          refine lv_bipush (v := 8) hx hb px_d97_119 (by decide) ?_
          refine lv_icmp_eq (tgt := 130) hx hb px_d97_121 (by decide) (fun c121 => ?_) (fun c121 => ?_)
          · have hw := hw.1 c121
            exact S130 x1 x2 v8 v9 H locs ls hP hD hS (lv_sub hl [0, 1, 2] rfl) hw
          · have hw := hw.2 c121
            refine lv_iload_n hx hb px_d97_124 rfl (lv_at hl 2 rfl) ?_
            refine lv_bipush (v := 11) hx hb px_d97_125 (by decide) ?_
            refine lv_icmp_ne (tgt := 134) hx hb px_d97_127 (by decide) (fun c127 => ?_) (fun c127 => ?_)
            · have hw := hw.1 c127
              exact S134 x1 v8 v9 H locs ls hP hD hS (lv_sub hl [0, 1] rfl) hw
            · have hw := hw.2 c127
              exact S130 x1 x2 v8 v9 H locs ls hP hD hS (lv_sub hl [0, 1, 2] rfl) hw
        · have hw := hw.2 c107
          refine lv_aload_n hx hb px_d97_110 rfl (lv_at hl 0 rfl) ?_
          refine lv_iconst (v := 0) hx hb px_d97_111 (by decide) ?_
          have hPc := hP.sub (ws' := [(h0, .inr (8, px_mf rf v8)), (rf 36, .inl (c_text, 16384, .inl v9))]) [0, 1] rfl
          have hDc := hD.sub (ws' := [(h0, .inr (8, px_mf rf v8)), (rf 36, .inl (c_text, 16384, .inl v9))]) [0, 1] (by decide) rfl
          have hKc := hK.sub (tys' := [(c_text, .byte)]) [0] rfl
          have hFc := va_free (wc := [(h0, .inr (8, px_mf rf v8)), (rf 36, .inl (c_text, 16384, .inl v9))]) hD hS hA [0, 1] rfl
          refine va_callv (va_runV (As := [.int 0]) (rest := []) ⟨hx, hb, hml, hown, htw⟩ (mns_met l dC dI H.size h0 rf c_text 0 v8 v9 _ hw) (cwV 1 htw (px_gv px_w655 px_w355 px_w356 px_w94 px_g31) rfl rfl rfl (by decide +kernel) ⟨Nat.le_of_ble_eq_true rfl, Nat.le_of_ble_eq_true rfl⟩) ⟨fun a U g mk q => by obtain ⟨q0, q1, qP, qK, qD, qN⟩ := q; exact ⟨q0, q1, qP, va_K.moved (u := U) (U := U.calling g mk a) (Vm.Alike.refl U.vm) qK, qD, qN.same rfl⟩, va_recv hK hP (ci := 8) (q0 := 0) rfl rfl, fun U hU hW => ⟨rfl, by rw [hU], by rw [hU]; exact hPc, va_K.moved hW.alike hKc, hDc.weaken (fun _ _ _ _ => trivial), hN.warm hW⟩⟩ rfl rfl hl.1 rfl (lv_room (Nat.le_of_ble_eq_true rfl)) px_d97_112 ⟨(Nat.le_of_ble_eq_true rfl), (Nat.le_of_ble_eq_true rfl)⟩) hS (fun q _ h => hFc q h) hFc (fun u t H1 locs ht hvm hw hB hz1 hk1 hS => ?_)
          obtain ⟨v10, v11⟩ := u
          obtain ⟨hP1, hK1, hD1⟩ := hB
          rw [ht] at hP1
          have hK1 := va_K.moved hvm.symm hK1
          obtain ⟨hP, hD⟩ := va_join (wr := []) (w1 := [(h0, .inr (8, px_mf rf v10)), (rf 36, .inl (c_text, 16384, .inl v11))]) hP hD [0, 1] [] rfl rfl (by decide) (by decide) hk1 hFc hP1 hD1
          generalize H1 = H at hP hS ⊢
          have hP : va_P (dC, dI) vwCl [(h0, .inr (8, px_mf rf v10)), (rf 36, .inl (c_text, 16384, .inl v11))] H := hP
          have hD : va_D A [(h0, .inr (8, px_mf rf v10)), (rf 36, .inl (c_text, 16384, .inl v11))] := hD
          refine lv_goto (tgt := 134) hx hb px_d97_115 (by decide) ?_
          exact S134 x1 v10 v11 H locs ls hP hD hS (lv_sub hl [0, 1] rfl) hw
      have S71 : ∀ (x1 : Int32) (y0 : Int32) (iv : Nat → Int32) (g_text : Nat → Int32) (H : Heap) (locs : List Loc) (ls : Array Slot), va_P (dC, dI) vwCl [(h0, .inr (8, px_mf rf iv)), (rf 36, .inl (c_text, 16384, .inl g_text))] H → va_D A [(h0, .inr (8, px_mf rf iv)), (rf 36, .inl (c_text, 16384, .inl g_text))] → va_S A s.heap H locs → lv_has ls 3 [(0, .ref h0), (1, .int x1)] → w97_L71 (w97_L16 post k16) post x1 y0 iv g_text → W p l e (headSpec px_s97 ({ frames := 6, cells := 0, slots := 0, locals := 130 })).room s m ([.ref h0]).toArray below meth c H locs 0 0 Q (F0 m 71 ls [.int y0, .ref h0]) := by
        intro x1 y0 iv g_text H locs ls hP hD hS hl hw
        unfold w97_L71 at hw
        have hPc := hP.sub (ws' := [(h0, .inr (8, px_mf rf iv)), (rf 36, .inl (c_text, 16384, .inl g_text))]) [0, 1] rfl
        have hDc := hD.sub (ws' := [(h0, .inr (8, px_mf rf iv)), (rf 36, .inl (c_text, 16384, .inl g_text))]) [0, 1] (by decide) rfl
        have hKc := hK.sub (tys' := [(c_text, .byte)]) [0] rfl
        have hFc := va_free (wc := [(h0, .inr (8, px_mf rf iv)), (rf 36, .inl (c_text, 16384, .inl g_text))]) hD hS hA [0, 1] rfl
        refine va_callv (va_runV (As := [.int y0]) (rest := []) ⟨hx, hb, hml, hown, htw⟩ (mwa_met l dC dI H.size h0 rf c_text y0 iv g_text _ hw) (cwV 1 htw (px_gv px_w350 px_w341 px_w342 px_w94 px_g28) rfl rfl rfl (by decide +kernel) ⟨Nat.le_of_ble_eq_true rfl, Nat.le_of_ble_eq_true rfl⟩) ⟨fun a U g mk q => by obtain ⟨q0, q1, qP, qK, qD, qN⟩ := q; exact ⟨q0, q1, qP, va_K.moved (u := U) (U := U.calling g mk a) (Vm.Alike.refl U.vm) qK, qD, qN.same rfl⟩, va_recv hK hP (ci := 8) (q0 := 0) rfl rfl, fun U hU hW => ⟨rfl, by rw [hU], by rw [hU]; exact hPc, va_K.moved hW.alike hKc, hDc.weaken (fun _ _ _ _ => trivial), hN.warm hW⟩⟩ rfl rfl hl.1 rfl (lv_room (Nat.le_of_ble_eq_true rfl)) px_d97_71 ⟨(Nat.le_of_ble_eq_true rfl), (Nat.le_of_ble_eq_true rfl)⟩) hS (fun q _ h => hFc q h) hFc (fun u t H1 locs ht hvm hw hB hz1 hk1 hS => ?_)
        obtain ⟨v12, v13⟩ := u
        obtain ⟨hP1, hK1, hD1⟩ := hB
        rw [ht] at hP1
        have hK1 := va_K.moved hvm.symm hK1
        obtain ⟨hP, hD⟩ := va_join (wr := []) (w1 := [(h0, .inr (8, px_mf rf v12)), (rf 36, .inl (c_text, 16384, .inl v13))]) hP hD [0, 1] [] rfl rfl (by decide) (by decide) hk1 hFc hP1 hD1
        generalize H1 = H at hP hS ⊢
        have hP : va_P (dC, dI) vwCl [(h0, .inr (8, px_mf rf v12)), (rf 36, .inl (c_text, 16384, .inl v13))] H := hP
        have hD : va_D A [(h0, .inr (8, px_mf rf v12)), (rf 36, .inl (c_text, 16384, .inl v13))] := hD
        refine lv_aload_n hx hb px_d97_74 rfl (lv_at hl 0 rfl) ?_
        have hPc := hP.sub (ws' := [(h0, .inr (8, px_mf rf v12)), (rf 36, .inl (c_text, 16384, .inl v13))]) [0, 1] rfl
        have hDc := hD.sub (ws' := [(h0, .inr (8, px_mf rf v12)), (rf 36, .inl (c_text, 16384, .inl v13))]) [0, 1] (by decide) rfl
        have hFc := va_free (wc := [(h0, .inr (8, px_mf rf v12)), (rf 36, .inl (c_text, 16384, .inl v13))]) hD hS hA [0, 1] rfl
        have hKc := hK.sub (tys' := [(c_text, .byte)]) [0] rfl
        refine va_callv (va_runV (As := []) (rest := []) ⟨hx, hb, hml, hown, htw⟩ (w96_met l dC dI H.size adK adV bo adB tA tS h0 rf c_text v12 v13 _ hw) (cwV 0 htw (px_gv px_w661 px_w652 px_w653 px_w94 px_g96) rfl rfl rfl (by decide +kernel) ⟨Nat.le_of_ble_eq_true rfl, Nat.le_of_ble_eq_true rfl⟩) ⟨fun a U g mk q => by obtain ⟨q0, q1, qP, qK, qD, qN, qE0⟩ := q; exact ⟨q0, q1, qP, va_K.moved (u := U) (U := U.calling g mk a) (Vm.Alike.refl U.vm) qK, qD, qN.same rfl, qE0.same rfl⟩, va_recv hK hP (ci := 8) (q0 := 0) rfl rfl, fun U hU hW => ⟨rfl, by rw [hU], by rw [hU]; exact hPc, va_K.moved hW.alike hKc, hDc.weaken (fun _ _ _ _ => trivial), hN.warm hW, by rw [hU]; exact hE0.go hS hFc hW⟩⟩ rfl rfl hl.1 rfl (lv_room (Nat.le_of_ble_eq_true rfl)) px_d97_75 ⟨(Nat.le_of_ble_eq_true rfl), (Nat.le_of_ble_eq_true rfl)⟩) hS (fun q _ h => hFc q h) hFc (fun u t H1 locs ht hvm hw hB hz1 hk1 hS => ?_)
        obtain ⟨v14, v15⟩ := u
        obtain ⟨hP1, hK1, hD1⟩ := hB
        rw [ht] at hP1
        obtain ⟨hP, hD⟩ := va_join (wr := []) (w1 := [(h0, .inr (8, px_mf rf v14)), (rf 36, .inl (c_text, 16384, .inl v15))]) hP hD [0, 1] [] rfl rfl (by decide) (by decide) hk1 hFc hP1 hD1
        generalize H1 = H at hP hS ⊢
        have hP : va_P (dC, dI) vwCl [(h0, .inr (8, px_mf rf v14)), (rf 36, .inl (c_text, 16384, .inl v15))] H := hP
        have hD : va_D A [(h0, .inr (8, px_mf rf v14)), (rf 36, .inl (c_text, 16384, .inl v15))] := hD
        refine lv_goto (tgt := 134) hx hb px_d97_78 (by decide) ?_
        exact S134 x1 v14 v15 H locs ls hP hD hS (lv_sub hl [0, 1] rfl) hw
      intro x1 iv g_text H locs ls hP hD hS hl hw
      unfold w97_L16 at hw
      refine lv_aload_n hx hb px_d97_16 rfl (lv_at hl 0 rfl) ?_
      refine va_get (D := (dC, dI)) (ci := 8) (v := .int (iv 41)) (C := "MatroidDeskModel") (T := px_T8) (N := 53) hx hb htw px_in8 hown hK hP 0 rfl rfl 41 (by decide) (htw _ px_w343) (fun _ h9 => h9) rfl px_d97_17 ?_
      refine lv_if_ne (tgt := 158) hx hb px_d97_20 (by decide) (fun c20 => ?_) (fun c20 => ?_)
      · have hw := hw.1 c20
        exact S158 x1 iv g_text H locs ls hP hD hS (lv_sub hl [0, 1] rfl) hw
      · have hw := hw.2 c20
        refine lv_aload_n hx hb px_d97_23 rfl (lv_at hl 0 rfl) ?_
        refine va_get (D := (dC, dI)) (ci := 8) (v := .int (iv 38)) (C := "MatroidDeskModel") (T := px_T8) (N := 53) hx hb htw px_in8 hown hK hP 0 rfl rfl 38 (by decide) (htw _ px_w331) (fun _ h9 => h9) rfl px_d97_24 ?_
        refine lv_if_eq (tgt := 158) hx hb px_d97_27 (by decide) (fun c27 => ?_) (fun c27 => ?_)
        · have hw := hw.1 c27
          exact S158 x1 iv g_text H locs ls hP hD hS (lv_sub hl [0, 1] rfl) hw
        · have hw := hw.2 c27
          refine lv_iload_n hx hb px_d97_30 rfl (lv_at hl 1 rfl) ?_
          refine lv_sipush (v := 400) hx hb px_d97_31 (by decide) ?_
          refine lv_icmp_ne (tgt := 45) hx hb px_d97_34 (by decide) (fun c34 => ?_) (fun c34 => ?_)
          · have hw := hw.1 c34
            refine lv_aload_n hx hb px_d97_45 rfl (lv_at hl 0 rfl) ?_
            have hPc := hP.sub (ws' := [(h0, .inr (8, px_mf rf iv)), (rf 36, .inl (c_text, 16384, .inl g_text))]) [0, 1] rfl
            have hDc := hD.sub (ws' := [(h0, .inr (8, px_mf rf iv)), (rf 36, .inl (c_text, 16384, .inl g_text))]) [0, 1] (by decide) rfl
            have hKc := hK.sub (tys' := [(c_text, .byte)]) [0] rfl
            have hFc := va_free (wc := [(h0, .inr (8, px_mf rf iv)), (rf 36, .inl (c_text, 16384, .inl g_text))]) hD hS hA [0, 1] rfl
            refine va_calli (va_runV (As := []) (rest := []) ⟨hx, hb, hml, hown, htw⟩ (min__met l dC dI H.size h0 rf c_text iv g_text _ hw) (cwV 0 htw (px_gv px_w349 px_w338 px_w339 px_w94 px_g27) rfl rfl rfl (by decide +kernel) ⟨Nat.le_of_ble_eq_true rfl, Nat.le_of_ble_eq_true rfl⟩) ⟨fun a U g mk q => by obtain ⟨q0, q1, qP, qK, qD, qN⟩ := q; exact ⟨q0, q1, qP, va_K.moved (u := U) (U := U.calling g mk a) (Vm.Alike.refl U.vm) qK, qD, qN.same rfl⟩, va_recv hK hP (ci := 8) (q0 := 0) rfl rfl, fun U hU hW => ⟨rfl, by rw [hU], by rw [hU]; exact hPc, va_K.moved hW.alike hKc, hDc.weaken (fun _ _ _ _ => trivial), hN.warm hW⟩⟩ rfl rfl hl.1 rfl (lv_room (Nat.le_of_ble_eq_true rfl)) px_d97_46 ⟨(Nat.le_of_ble_eq_true rfl), (Nat.le_of_ble_eq_true rfl)⟩) hS (fun q _ h => hFc q h) hFc (fun r46 u t H1 locs ht hvm hw hB hz1 hk1 hS => ?_)
            obtain ⟨v17, v18⟩ := u
            obtain ⟨hP1, hK1, hD1⟩ := hB
            rw [ht] at hP1
            have hK1 := va_K.moved hvm.symm hK1
            obtain ⟨hP, hD⟩ := va_join (wr := []) (w1 := [(h0, .inr (8, px_mf rf v17)), (rf 36, .inl (c_text, 16384, .inl v18))]) hP hD [0, 1] [] rfl rfl (by decide) (by decide) hk1 hFc hP1 hD1
            generalize H1 = H at hP hS ⊢
            have hP : va_P (dC, dI) vwCl [(h0, .inr (8, px_mf rf v17)), (rf 36, .inl (c_text, 16384, .inl v18))] H := hP
            have hD : va_D A [(h0, .inr (8, px_mf rf v17)), (rf 36, .inl (c_text, 16384, .inl v18))] := hD
            refine lv_if_eq (tgt := 81) hx hb px_d97_49 (by decide) (fun c49 => ?_) (fun c49 => ?_)
            · have hw := hw.1 c49
              refine lv_aload_n hx hb px_d97_81 rfl (lv_at hl 0 rfl) ?_
              refine px_ldcwE hx hb hown hE0 px_qr13 px_d97_82 ?_
              have hPc := hP.sub (ws' := [(h0, .inr (8, px_mf rf v17)), (rf 36, .inl (c_text, 16384, .inl v18))]) [0, 1] rfl
              have hDc := hD.sub (ws' := [(h0, .inr (8, px_mf rf v17)), (rf 36, .inl (c_text, 16384, .inl v18))]) [0, 1] (by decide) rfl
              have hFc := va_free (wc := [(h0, .inr (8, px_mf rf v17)), (rf 36, .inl (c_text, 16384, .inl v18))]) hD hS hA [0, 1] rfl
              have hKc := hK.sub (tys' := [(c_text, .byte)]) [0] rfl
              refine va_calli (va_runV (As := [.ref (adK 10)]) (rest := []) ⟨hx, hb, hml, hown, htw⟩ (w95_met l dC dI H.size adK adV bo adB tA tS h0 rf 10 c_text v17 v18 _ hw) (cwV 1 htw (px_gv px_w654 px_w647 px_w648 px_w94 px_g95) rfl rfl rfl (by decide +kernel) ⟨Nat.le_of_ble_eq_true rfl, Nat.le_of_ble_eq_true rfl⟩) ⟨fun a U g mk q => by obtain ⟨q0, q1, qP, qK, qD, qN, qE0⟩ := q; exact ⟨q0, q1, qP, va_K.moved (u := U) (U := U.calling g mk a) (Vm.Alike.refl U.vm) qK, qD, qN.same rfl, qE0.same rfl⟩, va_recv hK hP (ci := 8) (q0 := 0) rfl rfl, fun U hU hW => ⟨rfl, by rw [hU], by rw [hU]; exact hPc, va_K.moved hW.alike hKc, hDc.weaken (fun _ _ _ _ => trivial), hN.warm hW, by rw [hU]; exact hE0.go hS hFc hW⟩⟩ rfl rfl hl.1 rfl (lv_room (Nat.le_of_ble_eq_true rfl)) px_d97_85 ⟨(Nat.le_of_ble_eq_true rfl), (Nat.le_of_ble_eq_true rfl)⟩) hS (fun q _ h => hFc q h) hFc (fun r85 u t H1 locs ht hvm hw hB hz1 hk1 hS => ?_)
              obtain ⟨v19, v20⟩ := u
              obtain ⟨hP1, hK1, hD1⟩ := hB
              rw [ht] at hP1
              obtain ⟨hP, hD⟩ := va_join (wr := []) (w1 := [(h0, .inr (8, px_mf rf v19)), (rf 36, .inl (c_text, 16384, .inl v20))]) hP hD [0, 1] [] rfl rfl (by decide) (by decide) hk1 hFc hP1 hD1
              generalize H1 = H at hP hS ⊢
              have hP : va_P (dC, dI) vwCl [(h0, .inr (8, px_mf rf v19)), (rf 36, .inl (c_text, 16384, .inl v20))] H := hP
              have hD : va_D A [(h0, .inr (8, px_mf rf v19)), (rf 36, .inl (c_text, 16384, .inl v20))] := hD
              refine lv_istore_n (lv' := [(2, .int r85), (0, .ref h0), (1, .int x1)]) hx hb px_d97_88 rfl hl (by decide) rfl (fun ls hl => ?_)
              refine lv_aload_n hx hb px_d97_89 rfl (lv_at hl 1 rfl) ?_
              refine lv_iload_n hx hb px_d97_90 rfl (lv_at hl 0 rfl) ?_
              refine lv_if_lt (tgt := 98) hx hb px_d97_91 (by decide) (fun c91 => ?_) (fun c91 => ?_)
              · have hw := hw.1 c91
                refine lv_iconst (v := 0) hx hb px_d97_98 (by decide) ?_
                exact S99 x1 r85 0 v19 v20 H locs ls hP hD hS (lv_sub hl [1, 2, 0] rfl) hw
              · have hw := hw.2 c91
                refine lv_iconst (v := 1) hx hb px_d97_94 (by decide) ?_
                refine lv_goto (tgt := 99) hx hb px_d97_95 (by decide) ?_
                exact S99 x1 r85 1 v19 v20 H locs ls hP hD hS (lv_sub hl [1, 2, 0] rfl) hw
            · have hw := hw.2 c49
              refine lv_aload_n hx hb px_d97_52 rfl (lv_at hl 0 rfl) ?_
              have hPc := hP.sub (ws' := [(h0, .inr (8, px_mf rf v17)), (rf 36, .inl (c_text, 16384, .inl v18))]) [0, 1] rfl
              have hDc := hD.sub (ws' := [(h0, .inr (8, px_mf rf v17)), (rf 36, .inl (c_text, 16384, .inl v18))]) [0, 1] (by decide) rfl
              have hKc := hK.sub (tys' := [(c_text, .byte)]) [0] rfl
              have hFc := va_free (wc := [(h0, .inr (8, px_mf rf v17)), (rf 36, .inl (c_text, 16384, .inl v18))]) hD hS hA [0, 1] rfl
              refine va_callv (va_runV (As := []) (rest := []) ⟨hx, hb, hml, hown, htw⟩ (mnx_met l dC dI H.size h0 rf c_text v17 v18 _ hw) (cwV 0 htw (px_gv px_w345 px_w326 px_w327 px_w94 px_g25) rfl rfl rfl (by decide +kernel) ⟨Nat.le_of_ble_eq_true rfl, Nat.le_of_ble_eq_true rfl⟩) ⟨fun a U g mk q => by obtain ⟨q0, q1, qP, qK, qD, qN⟩ := q; exact ⟨q0, q1, qP, va_K.moved (u := U) (U := U.calling g mk a) (Vm.Alike.refl U.vm) qK, qD, qN.same rfl⟩, va_recv hK hP (ci := 8) (q0 := 0) rfl rfl, fun U hU hW => ⟨rfl, by rw [hU], by rw [hU]; exact hPc, va_K.moved hW.alike hKc, hDc.weaken (fun _ _ _ _ => trivial), hN.warm hW⟩⟩ rfl rfl hl.1 rfl (lv_room (Nat.le_of_ble_eq_true rfl)) px_d97_53 ⟨(Nat.le_of_ble_eq_true rfl), (Nat.le_of_ble_eq_true rfl)⟩) hS (fun q _ h => hFc q h) hFc (fun u t H1 locs ht hvm hw hB hz1 hk1 hS => ?_)
              obtain ⟨v22, v23⟩ := u
              obtain ⟨hP1, hK1, hD1⟩ := hB
              rw [ht] at hP1
              have hK1 := va_K.moved hvm.symm hK1
              obtain ⟨hP, hD⟩ := va_join (wr := []) (w1 := [(h0, .inr (8, px_mf rf v22)), (rf 36, .inl (c_text, 16384, .inl v23))]) hP hD [0, 1] [] rfl rfl (by decide) (by decide) hk1 hFc hP1 hD1
              generalize H1 = H at hP hS ⊢
              have hP : va_P (dC, dI) vwCl [(h0, .inr (8, px_mf rf v22)), (rf 36, .inl (c_text, 16384, .inl v23))] H := hP
              have hD : va_D A [(h0, .inr (8, px_mf rf v22)), (rf 36, .inl (c_text, 16384, .inl v23))] := hD
              refine lv_aload_n hx hb px_d97_56 rfl (lv_at hl 0 rfl) ?_
              refine lv_aload_n hx hb px_d97_57 rfl (lv_at hl 0 rfl) ?_
              refine va_get (D := (dC, dI)) (ci := 8) (v := .int (v22 38)) (C := "MatroidDeskModel") (T := px_T8) (N := 53) hx hb htw px_in8 hown hK hP 0 rfl rfl 38 (by decide) (htw _ px_w331) (fun _ h9 => h9) rfl px_d97_58 ?_
              refine lv_bipush (v := 61) hx hb px_d97_61 (by decide) ?_
              refine lv_icmp_ne (tgt := 70) hx hb px_d97_63 (by decide) (fun c63 => ?_) (fun c63 => ?_)
              · have hw := hw.1 c63
                refine lv_iconst (v := 0) hx hb px_d97_70 (by decide) ?_
                exact S71 x1 0 v22 v23 H locs ls hP hD hS (lv_sub hl [0, 1] rfl) hw
              · have hw := hw.2 c63
                refine lv_iconst (v := 1) hx hb px_d97_66 (by decide) ?_
                refine lv_goto (tgt := 71) hx hb px_d97_67 (by decide) ?_
                exact S71 x1 1 v22 v23 H locs ls hP hD hS (lv_sub hl [0, 1] rfl) hw
          · have hw := hw.2 c34
            refine lv_aload_n hx hb px_d97_37 rfl (lv_at hl 0 rfl) ?_
            refine lv_iconst (v := 0) hx hb px_d97_38 (by decide) ?_
            have hPc := hP.sub (ws' := [(h0, .inr (8, px_mf rf iv)), (rf 36, .inl (c_text, 16384, .inl g_text))]) [0, 1] rfl
            have hDc := hD.sub (ws' := [(h0, .inr (8, px_mf rf iv)), (rf 36, .inl (c_text, 16384, .inl g_text))]) [0, 1] (by decide) rfl
            have hKc := hK.sub (tys' := [(c_text, .byte)]) [0] rfl
            have hFc := va_free (wc := [(h0, .inr (8, px_mf rf iv)), (rf 36, .inl (c_text, 16384, .inl g_text))]) hD hS hA [0, 1] rfl
            refine va_callv (va_runV (As := [.int 0]) (rest := []) ⟨hx, hb, hml, hown, htw⟩ (mwa_met l dC dI H.size h0 rf c_text 0 iv g_text _ hw) (cwV 1 htw (px_gv px_w350 px_w341 px_w342 px_w94 px_g28) rfl rfl rfl (by decide +kernel) ⟨Nat.le_of_ble_eq_true rfl, Nat.le_of_ble_eq_true rfl⟩) ⟨fun a U g mk q => by obtain ⟨q0, q1, qP, qK, qD, qN⟩ := q; exact ⟨q0, q1, qP, va_K.moved (u := U) (U := U.calling g mk a) (Vm.Alike.refl U.vm) qK, qD, qN.same rfl⟩, va_recv hK hP (ci := 8) (q0 := 0) rfl rfl, fun U hU hW => ⟨rfl, by rw [hU], by rw [hU]; exact hPc, va_K.moved hW.alike hKc, hDc.weaken (fun _ _ _ _ => trivial), hN.warm hW⟩⟩ rfl rfl hl.1 rfl (lv_room (Nat.le_of_ble_eq_true rfl)) px_d97_39 ⟨(Nat.le_of_ble_eq_true rfl), (Nat.le_of_ble_eq_true rfl)⟩) hS (fun q _ h => hFc q h) hFc (fun u t H1 locs ht hvm hw hB hz1 hk1 hS => ?_)
            obtain ⟨v24, v25⟩ := u
            obtain ⟨hP1, hK1, hD1⟩ := hB
            rw [ht] at hP1
            have hK1 := va_K.moved hvm.symm hK1
            obtain ⟨hP, hD⟩ := va_join (wr := []) (w1 := [(h0, .inr (8, px_mf rf v24)), (rf 36, .inl (c_text, 16384, .inl v25))]) hP hD [0, 1] [] rfl rfl (by decide) (by decide) hk1 hFc hP1 hD1
            generalize H1 = H at hP hS ⊢
            have hP : va_P (dC, dI) vwCl [(h0, .inr (8, px_mf rf v24)), (rf 36, .inl (c_text, 16384, .inl v25))] H := hP
            have hD : va_D A [(h0, .inr (8, px_mf rf v24)), (rf 36, .inl (c_text, 16384, .inl v25))] := hD
            refine lv_goto (tgt := 134) hx hb px_d97_42 (by decide) ?_
            exact S134 x1 v24 v25 H locs ls hP hD hS (lv_sub hl [0, 1] rfl) hw
  unfold w97_wp at hw
  have hS0 := hS
  obtain ⟨H, hH9⟩ : ∃ z, z = s.heap := ⟨_, rfl⟩
  have hP : va_P (dC, dI) vwCl [(h0, .inr (8, px_mf rf iv)), (rf 36, .inl (c_text, 16384, .inl g_text))] H := by rw [hH9]; exact hP
  obtain ⟨locs, hlo9⟩ : ∃ z : List Loc, z = [] := ⟨_, rfl⟩
  have hS : va_S A s.heap H locs := by rw [hH9, hlo9]; exact hS
  suffices hG : W p l e (headSpec px_s97 ({ frames := 6, cells := 0, slots := 0, locals := 130 })).room s m ([.ref h0]).toArray below meth c H locs 0 0 Q (F0 m 0 ls []) by rw [hH9, hlo9] at hG; exact hG
  refine lv_aload_n hx hb px_d97_0 rfl (lv_at hl 0 rfl) ?_
  refine lv_iconst (v := 0) hx hb px_d97_1 (by decide) ?_
  refine va_put (D := (dC, dI)) (ci := 8) (v := .int 0) (ty := .boolean) (C := "MatroidDeskModel") (T := px_T8) (N := 53) hx hb htw px_in8 px_ty8 px_tyok8 px_nm8 hown hK hP hD hS 0 rfl rfl 41 (by decide) (htw _ px_w343) (fun _ h9 => h9) rfl (by decide +kernel) (by decide +kernel) (by decide +kernel) (Nat.le_of_ble_eq_true rfl) px_d97_2 (fun H locs hP hD hS => ?_)
  rw [px_ms41] at hP hD
  have hP : va_P (dC, dI) vwCl [(h0, .inr (8, px_mf rf (va_up iv 41 0))), (rf 36, .inl (c_text, 16384, .inl g_text))] H := hP
  have hD : va_D A [(h0, .inr (8, px_mf rf (va_up iv 41 0))), (rf 36, .inl (c_text, 16384, .inl g_text))] := hD
  refine lv_aload_n hx hb px_d97_5 rfl (lv_at hl 0 rfl) ?_
  refine lv_iconst (v := 0) hx hb px_d97_6 (by decide) ?_
  refine va_put (D := (dC, dI)) (ci := 8) (v := .int 0) (ty := .int) (C := "MatroidDeskModel") (T := px_T8) (N := 53) hx hb htw px_in8 px_ty8 px_tyok8 px_nm8 hown hK hP hD hS 0 rfl rfl 40 (by decide) (htw _ px_w328) (fun _ h9 => h9) rfl (by decide +kernel) rfl rfl (Nat.le_of_ble_eq_true rfl) px_d97_7 (fun H locs hP hD hS => ?_)
  rw [px_ms40] at hP hD
  have hP : va_P (dC, dI) vwCl [(h0, .inr (8, px_mf rf (va_up (va_up iv 41 0) 40 0))), (rf 36, .inl (c_text, 16384, .inl g_text))] H := hP
  have hD : va_D A [(h0, .inr (8, px_mf rf (va_up (va_up iv 41 0) 40 0))), (rf 36, .inl (c_text, 16384, .inl g_text))] := hD
  refine lv_aload_n hx hb px_d97_10 rfl (lv_at hl 0 rfl) ?_
  have hPc := hP.sub (ws' := [(h0, .inr (8, px_mf rf (va_up (va_up iv 41 0) 40 0))), (rf 36, .inl (c_text, 16384, .inl g_text))]) [0, 1] rfl
  have hDc := hD.sub (ws' := [(h0, .inr (8, px_mf rf (va_up (va_up iv 41 0) 40 0))), (rf 36, .inl (c_text, 16384, .inl g_text))]) [0, 1] (by decide) rfl
  have hKc := hK.sub (tys' := [(c_text, .byte)]) [0] rfl
  have hFc := va_free (wc := [(h0, .inr (8, px_mf rf (va_up (va_up iv 41 0) 40 0))), (rf 36, .inl (c_text, 16384, .inl g_text))]) hD hS hA [0, 1] rfl
  refine va_callv (va_runV (As := []) (rest := []) ⟨hx, hb, hml, hown, htw⟩ (mnx_met l dC dI H.size h0 rf c_text (va_up (va_up iv 41 0) 40 0) g_text _ hw) (cwV 0 htw (px_gv px_w345 px_w326 px_w327 px_w94 px_g25) rfl rfl rfl (by decide +kernel) ⟨Nat.le_of_ble_eq_true rfl, Nat.le_of_ble_eq_true rfl⟩) ⟨fun a U g mk q => by obtain ⟨q0, q1, qP, qK, qD, qN⟩ := q; exact ⟨q0, q1, qP, va_K.moved (u := U) (U := U.calling g mk a) (Vm.Alike.refl U.vm) qK, qD, qN.same rfl⟩, va_recv hK hP (ci := 8) (q0 := 0) rfl rfl, fun U hU hW => ⟨rfl, by rw [hU], by rw [hU]; exact hPc, va_K.moved hW.alike hKc, hDc.weaken (fun _ _ _ _ => trivial), hN.warm hW⟩⟩ rfl rfl hl.1 rfl (lv_room (Nat.le_of_ble_eq_true rfl)) px_d97_11 ⟨(Nat.le_of_ble_eq_true rfl), (Nat.le_of_ble_eq_true rfl)⟩) hS (fun q _ h => hFc q h) hFc (fun u t H1 locs ht hvm hw hB hz1 hk1 hS => ?_)
  obtain ⟨v26, v27⟩ := u
  obtain ⟨hP1, hK1, hD1⟩ := hB
  rw [ht] at hP1
  have hK1 := va_K.moved hvm.symm hK1
  obtain ⟨hP, hD⟩ := va_join (wr := []) (w1 := [(h0, .inr (8, px_mf rf v26)), (rf 36, .inl (c_text, 16384, .inl v27))]) hP hD [0, 1] [] rfl rfl (by decide) (by decide) hk1 hFc hP1 hD1
  generalize H1 = H at hP hS ⊢
  have hP : va_P (dC, dI) vwCl [(h0, .inr (8, px_mf rf v26)), (rf 36, .inl (c_text, 16384, .inl v27))] H := hP
  have hD : va_D A [(h0, .inr (8, px_mf rf v26)), (rf 36, .inl (c_text, 16384, .inl v27))] := hD
  refine lv_iconst (v := 0) hx hb px_d97_14 (by decide) ?_
  refine lv_istore_n (lv' := [(1, .int 0), (0, .ref h0)]) hx hb px_d97_15 rfl hl (by decide) rfl (fun ls hl => ?_)
  obtain ⟨k9, hw⟩ := hw
  exact S16 k9 0 v26 v27 H locs ls hP hD hS (lv_sub hl [1, 0] rfl) hw

