set_option maxHeartbeats 8000000 in
set_option maxRecDepth 100000 in
/-- list(more, from, set, n): what it lays down -/
theorem px_list (l : Launch) (dC : Nat → ClassId) (dI : Nat → Nat → Nat) : ∀ (d : Nat), d ≤ 12 → ∀ (sz h0 qo qz : Nat) (cO cZ : ClassId) (fs : List Value) (f0 g0 : Nat → Int32) (fr st n : Nat), fr ≤ 12 → st < 2 ^ fr → n + px_bn (12 - fr) d ≤ 4096 → fs[27]? = some (.ref qo) → fs[28]? = some (.ref qz) → Met l px_y63 px_s63 ({ frames := d, cells := 0, slots := 0, locals := 26 * d }) (va_Pc [.ref h0, .int (nI d), .int (nI fr), .int (nI st), .int (nI n)] (fun U => U.heap.size = sz ∧ va_P (dC, dI) vwCl [(h0, .inr (8, fs)), (qo, .inl (cO, 4096, .inl f0)), (qz, .inl (cZ, 4096, .inl g0))] U.heap ∧ va_K (dC, dI) vwCl [(cO, .int), (cZ, .int)] U ∧ va_D (fun _ => True) [(h0, .inr (8, fs)), (qo, .inl (cO, 4096, .inl f0)), (qz, .inl (cZ, 4096, .inl g0))] ∧ px_N U)) (va_Qi (fun (r : Int32) (_ : Unit) => r = nI (n + px_bn (12 - fr) d)) (fun (_ : Unit) (t : State) => ∃ (f' g' : Nat → Int32), va_P (dC, dI) vwCl [(h0, .inr (8, fs)), (qo, .inl (cO, 4096, .inl f')), (qz, .inl (cZ, 4096, .inl g'))] t.heap ∧ va_K (dC, dI) vwCl [(cO, .int), (cZ, .int)] t ∧ va_D (va_A [(h0, .inr (8, fs)), (qo, .inl (cO, 4096, .inl f0)), (qz, .inl (cZ, 4096, .inl g0))] sz) [(h0, .inr (8, fs)), (qo, .inl (cO, 4096, .inl f')), (qz, .inl (cZ, 4096, .inl g'))] ∧ px_lo f0 f' n (x_lst d fr st) ∧ px_zz d st (x_lst d fr st) g0 g') (va_A [(h0, .inr (8, fs)), (qo, .inl (cO, 4096, .inl f0)), (qz, .inl (cZ, 4096, .inl g0))] sz)) 0 0 (va_A [(h0, .inr (8, fs)), (qo, .inl (cO, 4096, .inl f0)), (qz, .inl (cZ, 4096, .inl g0))] sz) := by
  intro d
  induction d with
  | zero =>
    intro _ sz h0 qo qz cO cZ fs f0 g0 fr st n hfr hst hn ho hz
    refine Met.ofW (cc := prog_15_method_18_code) (maxL := 7) (ret := (some .int)) (by decide) rfl ?_
    intro p e s m args below meth c s₁ B hml hv
    obtain ⟨rfl, hsz, hP, hK, hD0, hN⟩ := hv
    have hx := B.exec
    have hb := B.bytes
    have hr := B.returns
    have htw : ∀ w ∈ px_all, w.before _ s = true := fun w h => atoms_spec (ws := px_s63) B.pre w (List.mem_cons_of_mem _ h)
    have hown : s.vm.findClass "MatroidDeskModel" = some m.cls := findClass_of_methodNamed B.named
    have hlocks := B.notSynchronized
    subst hsz
    have hD := hD0.self (sz := s.heap.size)
    generalize hAe : va_A [(h0, .inr (8, fs)), (qo, .inl (cO, 4096, .inl f0)), (qz, .inl (cZ, 4096, .inl g0))] s.heap.size = A at hD ⊢
    have hA : ∀ q : Nat, s.heap.size ≤ q → A q := fun q h => by rw [← hAe]; exact Or.inr h
    have hS : va_S A s.heap s.heap [] := va_S.rf
    have hP : va_P (dC, dI) vwCl [(h0, .inr (8, fs)), (qo, .inl (cO, 4096, .inl f0)), (qz, .inl (cZ, 4096, .inl g0))] s.heap := hP
    have hl := lv_entry ([.ref h0, .int (nI 0), .int (nI fr), .int (nI st), .int (nI n)]) (n := 7) (Nat.le_of_ble_eq_true rfl)
    rw [lg_entry_eq]
    generalize (lg_sl ([.ref h0, .int (nI 0), .int (nI fr), .int (nI st), .int (nI n)]) ++ List.replicate (7 - (lg_sl ([.ref h0, .int (nI 0), .int (nI fr), .int (nI st), .int (nI n)])).length) Slot.unset).toArray = ls at hl ⊢
    have hl : lv_has ls 7 [(0, .ref h0), (1, .int (nI 0)), (2, .int (nI fr)), (3, .int (nI st)), (4, .int (nI n))] := hl
    have hlt : n < 4096 := by rw [px_bn0] at hn; omega
    refine lv_iload_n hx hb px_d63_0 rfl (lv_at hl 1 rfl) ?_
    refine lv_if_ne (tgt := 17) hx hb px_d63_1 (by decide) (fun h9 => absurd nI_0 h9) (fun _ => ?_)
    refine lv_aload_n hx hb px_d63_4 rfl (lv_at hl 0 rfl) ?_
    refine va_get (D := (dC, dI)) (ci := 8) (v := .ref qo) (C := "MatroidDeskModel") (T := px_T8) (N := 53) hx hb htw px_in8 hown hK hP 0 rfl rfl 27 (by decide) (htw _ px_w512) (fun _ h9 => h9) ho px_d63_5 ?_
    refine lv_iload hx hb px_d63_8 (lv_at hl 4 rfl) ?_
    refine lv_iload_n hx hb px_d63_10 rfl (lv_at hl 3 rfl) ?_
    refine va_iast hx hb hK hP hD hS 1 0 rfl rfl (vp_in_nI hlt (by decide)) px_d63_11 (fun H locs hP hD hS => ?_)
    have hP : va_P (dC, dI) vwCl [(h0, .inr (8, fs)), (qo, .inl (cO, 4096, .inl (upd f0 (Int32.toNatClampNeg (nI n)) (nI st)))), (qz, .inl (cZ, 4096, .inl g0))] H := hP
    have hD : va_D A [(h0, .inr (8, fs)), (qo, .inl (cO, 4096, .inl (upd f0 (Int32.toNatClampNeg (nI n)) (nI st)))), (qz, .inl (cZ, 4096, .inl g0))] := hD
    refine lv_iload hx hb px_d63_12 (lv_at hl 4 rfl) ?_
    refine lv_iconst (v := 1) hx hb px_d63_14 (by decide) ?_
    refine lv_iadd hx hb px_d63_15 ?_
    have hK9 := hK
    exact W.iret (v := nI n + 1) hx hb hr (fun t ht hW => ⟨⟨nI n + 1, (), rfl, by rw [px_bn0, nI_1], (upd f0 (Int32.toNatClampNeg (nI n)) (nI st)), g0, by rw [ht]; exact hP, va_K.moved hW.alike hK, hD, px_lo1 hlt, ⟨fun _ h => absurd rfl h, fun _ => rfl⟩⟩, hS.F ht⟩) hS.2.2 px_d63_16
  | succ d ih =>
    intro hd sz h0 qo qz cO cZ fs f0 g0 fr st n hfr hst hn ho hz
    refine Met.ofW (cc := prog_15_method_18_code) (maxL := 7) (ret := (some .int)) (by decide) rfl ?_
    intro p e s m args below meth c s₁ B hml hv
    obtain ⟨rfl, hsz, hP, hK, hD0, hN⟩ := hv
    have hx := B.exec
    have hb := B.bytes
    have hr := B.returns
    have htw : ∀ w ∈ px_all, w.before _ s = true := fun w h => atoms_spec (ws := px_s63) B.pre w (List.mem_cons_of_mem _ h)
    have hown : s.vm.findClass "MatroidDeskModel" = some m.cls := findClass_of_methodNamed B.named
    have hlocks := B.notSynchronized
    subst hsz
    have hD := hD0.self (sz := s.heap.size)
    generalize hAe : va_A [(h0, .inr (8, fs)), (qo, .inl (cO, 4096, .inl f0)), (qz, .inl (cZ, 4096, .inl g0))] s.heap.size = A at hD ⊢
    have hA : ∀ q : Nat, s.heap.size ≤ q → A q := fun q h => by rw [← hAe]; exact Or.inr h
    have hS : va_S A s.heap s.heap [] := va_S.rf
    have hP : va_P (dC, dI) vwCl [(h0, .inr (8, fs)), (qo, .inl (cO, 4096, .inl f0)), (qz, .inl (cZ, 4096, .inl g0))] s.heap := hP
    have hl := lv_entry ([.ref h0, .int (nI (d + 1)), .int (nI fr), .int (nI st), .int (nI n)]) (n := 7) (Nat.le_of_ble_eq_true rfl)
    rw [lg_entry_eq]
    generalize (lg_sl ([.ref h0, .int (nI (d + 1)), .int (nI fr), .int (nI st), .int (nI n)]) ++ List.replicate (7 - (lg_sl ([.ref h0, .int (nI (d + 1)), .int (nI fr), .int (nI st), .int (nI n)])).length) Slot.unset).toArray = ls at hl ⊢
    have hl : lv_has ls 7 [(0, .ref h0), (1, .int (nI (d + 1))), (2, .int (nI fr)), (3, .int (nI st)), (4, .int (nI n))] := hl
    generalize hQ : MQ _ _ _ _ _ _ _ = Q
    have hLL := x_lstlen (d + 1) (12 - fr) fr st (by omega)
    have fin : ∀ (f g : Nat → Int32) (H : Heap) (locs : List Loc) (ls : Array Slot) (nx : Nat), nx = n + px_bn (12 - fr) (d + 1) → px_lo f0 f n (x_lst (d + 1) fr st) → px_zz (d + 1) st (x_lst (d + 1) fr st) g0 g → va_P (dC, dI) vwCl [(h0, .inr (8, fs)), (qo, .inl (cO, 4096, .inl f)), (qz, .inl (cZ, 4096, .inl g))] H → va_D A [(h0, .inr (8, fs)), (qo, .inl (cO, 4096, .inl f)), (qz, .inl (cZ, 4096, .inl g))] → va_S A s.heap H locs → lv_has ls 7 [(5, .int (nI nx))] → W p l e (headSpec px_s63 ({ frames := (d + 1), cells := 0, slots := 0, locals := 26 * (d + 1) })).room s m ([.ref h0, .int (nI (d + 1)), .int (nI fr), .int (nI st), .int (nI n)]).toArray below meth c H locs 0 0 Q (F0 m 94 ls []) := by
      intro f g H locs ls nx hnx hok hzz hP hD hS hl
      refine lv_iload hx hb px_d63_94 (lv_at hl 0 rfl) ?_
      rw [← hQ]
      exact W.iret (v := nI nx) hx hb hr (fun t ht hW => ⟨⟨nI nx, (), rfl, by rw [hnx], f, g, by rw [ht]; exact hP, va_K.moved hW.alike hK, hD, hok, hzz⟩, hS.F ht⟩) hS.2.2 px_d63_96
    have lp2 : ∀ (j k nx : Nat) (f g : Nat → Int32) (H : Heap) (locs : List Loc) (ls : Array Slot), st = 0 → nx = n + px_bn (12 - fr) (d + 1) → k + j = nx → n ≤ k → px_lo f0 f n (x_lst (d + 1) fr st) → (∀ S, g S = if S ∈ (x_lst (d + 1) fr st).take (k - n) then nI (d + 1) else g0 S) → va_P (dC, dI) vwCl [(h0, .inr (8, fs)), (qo, .inl (cO, 4096, .inl f)), (qz, .inl (cZ, 4096, .inl g))] H → va_D A [(h0, .inr (8, fs)), (qo, .inl (cO, 4096, .inl f)), (qz, .inl (cZ, 4096, .inl g))] → va_S A s.heap H locs → lv_has ls 7 [(6, .int (nI k)), (5, .int (nI nx)), (0, .ref h0), (1, .int (nI (d + 1)))] → W p l e (headSpec px_s63 ({ frames := (d + 1), cells := 0, slots := 0, locals := 26 * (d + 1) })).room s m ([.ref h0, .int (nI (d + 1)), .int (nI fr), .int (nI st), .int (nI n)]).toArray below meth c H locs 0 0 Q (F0 m 68 ls []) := by
      intro j
      induction j with
      | zero =>
        intro k nx f g H locs ls hs0 hnx hk hnk hok hg hP hD hS hl
        rw [List.take_of_length_le (by omega)] at hg
        refine lv_iload hx hb px_d63_68 (lv_at hl 0 rfl) ?_
        refine lv_iload hx hb px_d63_70 (lv_at hl 1 rfl) ?_
        refine lv_icmp_ge (tgt := 94) hx hb px_d63_72 (by decide) (fun _ => ?_) (fun h9 => absurd (nI_le (by omega) (by omega)) h9)
        exact fin f g H locs ls nx hnx hok ⟨fun _ _ => hg, fun z => absurd ⟨hs0, by omega⟩ z⟩ hP hD hS (lv_sub hl [1] rfl)
      | succ j ih2 =>
        intro k nx f g H locs ls hs0 hnx hk hnk hok hg hP hD hS hl
        have hin : k - n < (x_lst (d + 1) fr st).length := by omega
        have hgu := List.getElem?_eq_getElem hin
        generalize hue : (x_lst (d + 1) fr st)[k - n] = u at hgu
        have hu : u < 4096 := x_lst4 hfr hst (List.mem_of_getElem? hgu)
        have eu : f k = nI u := by
          have := hok.2 _ _ hgu
          rw [show n + (k - n) = k by omega] at this
          exact this
        refine lv_iload hx hb px_d63_68 (lv_at hl 0 rfl) ?_
        refine lv_iload hx hb px_d63_70 (lv_at hl 1 rfl) ?_
        refine lv_icmp_ge (tgt := 94) hx hb px_d63_72 (by decide) (fun h9 => absurd h9 (nI_ge (by omega) (by omega))) (fun _ => ?_)
        refine lv_aload_n hx hb px_d63_75 rfl (lv_at hl 2 rfl) ?_
        refine va_get (D := (dC, dI)) (ci := 8) (v := .ref qz) (C := "MatroidDeskModel") (T := px_T8) (N := 53) hx hb htw px_in8 hown hK hP 0 rfl rfl 28 (by decide) (htw _ px_w513) (fun _ h9 => h9) hz px_d63_76 ?_
        refine lv_aload_n hx hb px_d63_79 rfl (lv_at hl 2 rfl) ?_
        refine va_get (D := (dC, dI)) (ci := 8) (v := .ref qo) (C := "MatroidDeskModel") (T := px_T8) (N := 53) hx hb htw px_in8 hown hK hP 0 rfl rfl 27 (by decide) (htw _ px_w512) (fun _ h9 => h9) ho px_d63_80 ?_
        refine lv_iload hx hb px_d63_83 (lv_at hl 0 rfl) ?_
        refine va_iald hx hb hK hP 1 0 rfl rfl (vp_in_nI (show k < 4096 by omega) (by decide)) px_d63_85 ?_
        refine lv_topi (nm_r (e' := (nI u)) (by rw [nI_clamp (by omega)]; exact eu) ?_)
        refine lv_iload_n hx hb px_d63_86 rfl (lv_at hl 3 rfl) ?_
        refine va_iast hx hb hK hP hD hS 2 1 rfl rfl (vp_in_nI hu (by decide)) px_d63_87 (fun H locs hP hD hS => ?_)
        have hP : va_P (dC, dI) vwCl [(h0, .inr (8, fs)), (qo, .inl (cO, 4096, .inl f)), (qz, .inl (cZ, 4096, .inl (upd g (Int32.toNatClampNeg (nI u)) (nI (d + 1)))))] H := hP
        have hD : va_D A [(h0, .inr (8, fs)), (qo, .inl (cO, 4096, .inl f)), (qz, .inl (cZ, 4096, .inl (upd g (Int32.toNatClampNeg (nI u)) (nI (d + 1)))))] := hD
        refine lv_iinc (v := nI (k + 1)) (lv' := [(6, .int (nI (k + 1))), (5, .int (nI nx)), (0, .ref h0), (1, .int (nI (d + 1)))]) hx hb px_d63_88 hl (k := 0) rfl (show nI k + 1 = nI (k + 1) from nI_1 k) (by decide) rfl (fun ls hl => ?_)
        refine lv_goto (tgt := 68) hx hb px_d63_91 (by decide) ?_
        have hg2 := px_tk hu hgu hg
        rw [show k - n + 1 = k + 1 - n by omega] at hg2
        exact ih2 (k + 1) nx f _ H locs ls hs0 hnx (by omega) (by omega) hok hg2 hP hD hS (lv_sub hl [0, 1, 2, 3] rfl)
    have lp1 : ∀ (j e' nx : Nat) (Lp : List Nat) (f g : Nat → Int32) (H : Heap) (locs : List Loc) (ls : Array Slot), e' + j = 13 → fr ≤ e' → n ≤ nx → nx + px_bn (12 - e') (d + 1) = n + px_bn (12 - fr) (d + 1) → Lp ++ x_lst (d + 1) e' st = x_lst (d + 1) fr st → nx = n + Lp.length → px_lo f0 f n Lp → g = g0 → va_P (dC, dI) vwCl [(h0, .inr (8, fs)), (qo, .inl (cO, 4096, .inl f)), (qz, .inl (cZ, 4096, .inl g))] H → va_D A [(h0, .inr (8, fs)), (qo, .inl (cO, 4096, .inl f)), (qz, .inl (cZ, 4096, .inl g))] → va_S A s.heap H locs → lv_has ls 7 [(6, .int (nI e')), (5, .int (nI nx)), (0, .ref h0), (1, .int (nI (d + 1))), (3, .int (nI st)), (4, .int (nI n))] → W p l e (headSpec px_s63 ({ frames := (d + 1), cells := 0, slots := 0, locals := 26 * (d + 1) })).room s m ([.ref h0, .int (nI (d + 1)), .int (nI fr), .int (nI st), .int (nI n)]).toArray below meth c H locs 0 0 Q (F0 m 24 ls []) := by
      intro j
      induction j with
      | zero =>
        intro e' nx Lp f g H locs ls hj hfe hnn hnx hLp hnl hok hgg hP hD hS hl
        refine lv_iload hx hb px_d63_24 (lv_at hl 0 rfl) ?_
        refine lv_iload_n hx hb px_d63_26 rfl (lv_at hl 3 rfl) ?_
        refine lv_iadd hx hb px_d63_27 ?_
        refine lv_topi (nm_r (e' := (nI (e' + (d + 1)))) (nI_add e' (d + 1)) ?_)
        refine lv_bipush (v := 12) hx hb px_d63_28 (by decide) ?_
        have hz0 : px_bn (12 - e') (d + 1) = 0 := px_bnZ _ _ (by omega)
        rw [hz0, Nat.add_zero] at hnx
        rw [x_lstZ (show 12 ≤ e' + d by omega), List.append_nil] at hLp
        rw [hLp] at hok
        refine lv_icmp_gt (tgt := 60) hx hb px_d63_30 (by decide) (fun _ => ?_) (fun h9 => absurd (show nI 12 < nI (e' + (d + 1)) from nI_lt (by omega) (by omega)) h9)
        refine lv_iload_n hx hb px_d63_60 rfl (lv_at hl 4 rfl) ?_
        refine lv_if_ne (tgt := 94) hx hb px_d63_61 (by decide) (fun c63 => ?_) (fun c63 => ?_)
        · exact fin f g H locs ls nx hnx hok ⟨fun z => absurd (show nI st = 0 by rw [z]; exact nI_0) c63, fun _ => hgg⟩ hP hD hS (lv_sub hl [1] rfl)
        · have hs0 : st = 0 := by
            have hs4 := px_st4 hst hfr
            rw [← nI_0, nI_eq (by omega) (by omega)] at c63
            exact c63
          refine lv_iload hx hb px_d63_64 (lv_at hl 5 rfl) ?_
          refine lv_istore (lv' := [(6, .int (nI n)), (5, .int (nI nx)), (0, .ref h0), (1, .int (nI (d + 1))), (3, .int (nI st)), (4, .int (nI n))]) hx hb px_d63_66 hl (by decide) rfl (fun ls hl => ?_)
          exact lp2 (nx - n) n nx f g H locs ls hs0 hnx (by omega) (Nat.le_refl n) hok (fun S => by rw [Nat.sub_self, List.take_zero, if_neg (by simp), hgg]) hP hD hS (lv_sub hl [0, 1, 2, 3] rfl)
      | succ j ih1 =>
        intro e' nx Lp f g H locs ls hj hfe hnn hnx hLp hnl hok hgg hP hD hS hl
        refine lv_iload hx hb px_d63_24 (lv_at hl 0 rfl) ?_
        refine lv_iload_n hx hb px_d63_26 rfl (lv_at hl 3 rfl) ?_
        refine lv_iadd hx hb px_d63_27 ?_
        refine lv_topi (nm_r (e' := (nI (e' + (d + 1)))) (nI_add e' (d + 1)) ?_)
        refine lv_bipush (v := 12) hx hb px_d63_28 (by decide) ?_
        rcases Nat.lt_or_ge 12 (e' + (d + 1)) with hgt | hle
        · have hz0 : px_bn (12 - e') (d + 1) = 0 := px_bnZ _ _ (by omega)
          rw [hz0, Nat.add_zero] at hnx
          rw [x_lstZ (show 12 ≤ e' + d by omega), List.append_nil] at hLp
          rw [hLp] at hok
          refine lv_icmp_gt (tgt := 60) hx hb px_d63_30 (by decide) (fun _ => ?_) (fun h9 => absurd (show nI 12 < nI (e' + (d + 1)) from nI_lt (by omega) (by omega)) h9)
          refine lv_iload_n hx hb px_d63_60 rfl (lv_at hl 4 rfl) ?_
          refine lv_if_ne (tgt := 94) hx hb px_d63_61 (by decide) (fun c63 => ?_) (fun c63 => ?_)
          · exact fin f g H locs ls nx hnx hok ⟨fun z => absurd (show nI st = 0 by rw [z]; exact nI_0) c63, fun _ => hgg⟩ hP hD hS (lv_sub hl [1] rfl)
          · have hs0 : st = 0 := by
              have hs4 := px_st4 hst hfr
              rw [← nI_0, nI_eq (by omega) (by omega)] at c63
              exact c63
            refine lv_iload hx hb px_d63_64 (lv_at hl 5 rfl) ?_
            refine lv_istore (lv' := [(6, .int (nI n)), (5, .int (nI nx)), (0, .ref h0), (1, .int (nI (d + 1))), (3, .int (nI st)), (4, .int (nI n))]) hx hb px_d63_66 hl (by decide) rfl (fun ls hl => ?_)
            exact lp2 (nx - n) n nx f g H locs ls hs0 hnx (by omega) (Nat.le_refl n) hok (fun S => by rw [Nat.sub_self, List.take_zero, if_neg (by simp), hgg]) hP hD hS (lv_sub hl [0, 1, 2, 3] rfl)
        · have hrec : px_bn (12 - e') (d + 1) = px_bn (12 - (e' + 1)) d + px_bn (12 - (e' + 1)) (d + 1) := by
            rw [show 12 - e' = (12 - (e' + 1)) + 1 by omega, px_bnS]
          have hsub := x_lstlen d (12 - (e' + 1)) (e' + 1) (st ||| 2 ^ e') (by omega)
          have hLp2 : (Lp ++ x_lst d (e' + 1) (st ||| 2 ^ e')) ++ x_lst (d + 1) (e' + 1) st = x_lst (d + 1) fr st := by
            rw [List.append_assoc, ← x_lstS (by omega)]; exact hLp
          refine lv_icmp_gt (tgt := 60) hx hb px_d63_30 (by decide) (fun h9 => absurd h9 (show ¬ nI 12 < nI (e' + (d + 1)) from nI_nlt (by omega) (by omega))) (fun _ => ?_)
          refine lv_aload_n hx hb px_d63_33 rfl (lv_at hl 2 rfl) ?_
          refine lv_iload_n hx hb px_d63_34 rfl (lv_at hl 3 rfl) ?_
          refine lv_iconst (v := 1) hx hb px_d63_35 (by decide) ?_
          refine lv_isub hx hb px_d63_36 ?_
          refine lv_topi (nm_r (e' := (nI d)) (nI_pred d) ?_)
          refine lv_iload hx hb px_d63_37 (lv_at hl 0 rfl) ?_
          refine lv_iconst (v := 1) hx hb px_d63_39 (by decide) ?_
          refine lv_iadd hx hb px_d63_40 ?_
          refine lv_topi (nm_r (e' := (nI (e' + 1))) (nI_1 e') ?_)
          refine lv_iload_n hx hb px_d63_41 rfl (lv_at hl 4 rfl) ?_
          refine lv_iconst (v := 1) hx hb px_d63_42 (by decide) ?_
          refine lv_iload hx hb px_d63_43 (lv_at hl 0 rfl) ?_
          refine lv_ishl hx hb px_d63_45 ?_
          refine lv_topi (nm_r (e' := (nI (2 ^ e'))) (px_bit e' (by omega)) ?_)
          refine lv_ior hx hb px_d63_46 ?_
          refine lv_topi (nm_r (e' := (nI (st ||| 2 ^ e'))) (px_or st (2 ^ e')) ?_)
          refine lv_iload hx hb px_d63_47 (lv_at hl 1 rfl) ?_
          have hPc := hP.sub (ws' := [(h0, .inr (8, fs)), (qo, .inl (cO, 4096, .inl f)), (qz, .inl (cZ, 4096, .inl g))]) [0, 1, 2] rfl
          have hDc := hD.sub (ws' := [(h0, .inr (8, fs)), (qo, .inl (cO, 4096, .inl f)), (qz, .inl (cZ, 4096, .inl g))]) [0, 1, 2] (by decide) rfl
          have hKc := hK.sub (tys' := [(cO, .int), (cZ, .int)]) [0, 1] rfl
          have hFc := va_free (wc := [(h0, .inr (8, fs)), (qo, .inl (cO, 4096, .inl f)), (qz, .inl (cZ, 4096, .inl g))]) hD hS hA [0, 1, 2] rfl
          refine va_calli (va_runV (As := [.int (nI d), .int (nI (e' + 1)), .int (nI (st ||| 2 ^ e')), .int (nI nx)]) (rest := []) ⟨hx, hb, hml, hown, htw⟩ (ih (by omega) H.size h0 qo qz cO cZ fs f g (e' + 1) (st ||| 2 ^ e') nx (by omega) (px_stlt hst hfe) (by omega) ho hz) (cwV 4 htw (px_gv px_w522 px_w524 px_w525 px_w94 px_g63) rfl rfl rfl (by decide +kernel) ⟨(show d + 1 ≤ d + 1 by omega), (show 8 + (7 + 11) + 26 * d ≤ 26 * (d + 1) by omega)⟩) ⟨fun a U g mk q => by obtain ⟨q0, q1, qP, qK, qD, qN⟩ := q; exact ⟨q0, q1, qP, va_K.moved (u := U) (U := U.calling g mk a) (Vm.Alike.refl U.vm) qK, qD, qN.same rfl⟩, va_recv hK hP (ci := 8) (q0 := 0) rfl rfl, fun U hU hW => ⟨rfl, by rw [hU], by rw [hU]; exact hPc, va_K.moved hW.alike hKc, hDc.weaken (fun _ _ _ _ => trivial), hN.warm hW⟩⟩ rfl rfl hl.1 rfl (lv_room (Nat.le_of_ble_eq_true rfl)) px_d63_49 ⟨(Nat.le_of_ble_eq_true rfl), (Nat.le_of_ble_eq_true rfl)⟩) hS (fun q _ h => hFc q h) hFc (fun r u t H1 locs ht hvm hw_49 hB hz1 hk1 hS => ?_)
          obtain ⟨f1, g1, hP1, hK1, hD1, hF49_0⟩ := hB
          rw [ht] at hP1
          have hK1 := va_K.moved hvm.symm hK1
          obtain ⟨hP, hD⟩ := va_join (wr := []) (w1 := [(h0, .inr (8, fs)), (qo, .inl (cO, 4096, .inl f1)), (qz, .inl (cZ, 4096, .inl g1))]) hP hD [0, 1, 2] [] rfl rfl (by decide) (by decide) hk1 hFc hP1 hD1
          generalize H1 = H at hP hS ⊢
          have hP : va_P (dC, dI) vwCl [(h0, .inr (8, fs)), (qo, .inl (cO, 4096, .inl f1)), (qz, .inl (cZ, 4096, .inl g1))] H := hP
          have hD : va_D A [(h0, .inr (8, fs)), (qo, .inl (cO, 4096, .inl f1)), (qz, .inl (cZ, 4096, .inl g1))] := hD
          subst hw_49
          refine lv_istore (lv' := [(5, .int (nI (nx + px_bn (12 - (e' + 1)) d))), (6, .int (nI e')), (0, .ref h0), (1, .int (nI (d + 1))), (3, .int (nI st)), (4, .int (nI n))]) hx hb px_d63_52 hl (by decide) rfl (fun ls hl => ?_)
          refine lv_iinc (v := nI (e' + 1)) (lv' := [(6, .int (nI (e' + 1))), (5, .int (nI (nx + px_bn (12 - (e' + 1)) d))), (0, .ref h0), (1, .int (nI (d + 1))), (3, .int (nI st)), (4, .int (nI n))]) hx hb px_d63_54 hl (k := 1) rfl (show nI e' + 1 = nI (e' + 1) from nI_1 e') (by decide) rfl (fun ls hl => ?_)
          refine lv_goto (tgt := 24) hx hb px_d63_57 (by decide) ?_
          obtain ⟨hF1, hF2⟩ := hF49_0
          rw [hnl] at hF1
          exact ih1 (e' + 1) _ _ _ _ H locs ls (by omega) (by omega) (by omega) (by omega) hLp2 (by rw [List.length_append]; omega) (px_loA hok hF1) ((hF2.2 (fun z => px_2ne z.1)).trans hgg) hP hD hS (lv_sub hl [0, 1, 2, 3, 4, 5] rfl)
    refine lv_iload_n hx hb px_d63_0 rfl (lv_at hl 1 rfl) ?_
    refine lv_if_ne (tgt := 17) hx hb px_d63_1 (by decide) (fun _ => ?_) (fun h9 => absurd h9 (nI_ne0 (by omega) (by omega)))
    refine lv_iload hx hb px_d63_17 (lv_at hl 4 rfl) ?_
    refine lv_istore (lv' := [(5, .int (nI n)), (0, .ref h0), (1, .int (nI (d + 1))), (2, .int (nI fr)), (3, .int (nI st)), (4, .int (nI n))]) hx hb px_d63_19 hl (by decide) rfl (fun ls hl => ?_)
    refine lv_iload_n hx hb px_d63_21 rfl (lv_at hl 3 rfl) ?_
    refine lv_istore (lv' := [(6, .int (nI fr)), (5, .int (nI n)), (0, .ref h0), (1, .int (nI (d + 1))), (2, .int (nI fr)), (3, .int (nI st)), (4, .int (nI n))]) hx hb px_d63_22 hl (by decide) rfl (fun ls hl => ?_)
    exact lp1 (13 - fr) fr n [] f0 g0 s.heap [] ls (by omega) (Nat.le_refl fr) (Nat.le_refl n) rfl rfl rfl (px_lo0 f0 n) rfl hP hD hS (lv_sub hl [0, 1, 2, 3, 5, 6] rfl)
