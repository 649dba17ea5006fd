set_option maxHeartbeats 8000000 in
set_option maxRecDepth 100000 in
/-- the loops of the constructor -/
theorem px_Mrest {p : Program} {l : Launch} {e : Env} {s : State} {m : MethodId} {below : List Frame} {meth : Method} {c : Code} {A : Nat → Prop} {Q : State → Prop} {dC : Nat → ClassId} {dI : Nat → Nat → Nat} {h0 q_16 q_21 q_32 q_33 : Nat} {cA cA_8 cA_13 cA_24 cA_25 : ClassId} {fs38 : List Value} {Z_33 : va_W} (hx : p.tables.exec = Jvm.exec) (hb : c.code = prog_15_method_17_code) (hml : c.maxLocals = 3) (hown : s.vm.findClass "MatroidDeskModel" = some m.cls) (htw : ∀ w ∈ px_all, w.before ([.ref h0]).toArray s = true) (hN : px_N s) (hA : ∀ q : Nat, s.heap.size ≤ q → A q) (hK : va_K (dC, dI) vwCl [(cA, .int), (cA_8, .object "MatroidDeskModel$Num"), (cA_13, .object "MatroidDeskModel$Num"), (cA_24, .int), (cA_25, .int)] s) (hlen : fs38.length = 53) (hk_8 : fs38[8]? = some (.ref q_16)) (hk_16 : fs38[16]? = some (.ref q_21)) (hk_27 : fs38[27]? = some (.ref q_32)) (hk_28 : fs38[28]? = some (.ref q_33)) (fin : ∀ (hh qq : Nat → Nat) (fo fz : Nat → Int32) (H : Heap) (locs : List Loc) (ls : Array Slot), r_T fo fz → va_P (dC, dI) vwCl (([(h0, .inr (8, fs38)), (q_16, .inl (cA_8, 156, .inr (.inr (.inr (.inr (px_fw 156 hh)))))), (q_21, .inl (cA_13, 36, .inr (.inr (.inr (.inr (px_fw 36 (fun j => hh (156 + j)))))))), (q_32, .inl (cA_24, 4096, .inl fo)), (q_33, .inl (cA_25, 4096, .inl fz))] : va_W) ++ (px_zl hh qq cA 192 ++ Z_33)) H → va_D A (([(h0, .inr (8, fs38)), (q_16, .inl (cA_8, 156, .inr (.inr (.inr (.inr (px_fw 156 hh)))))), (q_21, .inl (cA_13, 36, .inr (.inr (.inr (.inr (px_fw 36 (fun j => hh (156 + j)))))))), (q_32, .inl (cA_24, 4096, .inl fo)), (q_33, .inl (cA_25, 4096, .inl fz))] : va_W) ++ (px_zl hh qq cA 192 ++ Z_33)) → va_S A s.heap H locs → W p l e (headSpec px_s62 ({ frames := 13, cells := 429, slots := 447525, locals := 338 })).room s m ([.ref h0]).toArray below meth c H locs 429 447525 Q (F0 m 424 ls [])) (H : Heap) (locs : List Loc) (ls : Array Slot) (hP : va_P (dC, dI) vwCl (([(h0, .inr (8, fs38)), (q_16, .inl (cA_8, 156, .inr (.inr (.inr (.inr (fun _ => none)))))), (q_21, .inl (cA_13, 36, .inr (.inr (.inr (.inr (fun _ => none)))))), (q_32, .inl (cA_24, 4096, .inl (fun _ => 0))), (q_33, .inl (cA_25, 4096, .inl (fun _ => 0)))] : va_W) ++ Z_33) H) (hD : va_D A (([(h0, .inr (8, fs38)), (q_16, .inl (cA_8, 156, .inr (.inr (.inr (.inr (fun _ => none)))))), (q_21, .inl (cA_13, 36, .inr (.inr (.inr (.inr (fun _ => none)))))), (q_32, .inl (cA_24, 4096, .inl (fun _ => 0))), (q_33, .inl (cA_25, 4096, .inl (fun _ => 0)))] : va_W) ++ Z_33)) (hS : va_S A s.heap H locs) (hl : lv_has ls 3 [(1, .int 0), (0, .ref h0)]) : W p l e (headSpec px_s62 ({ frames := 13, cells := 429, slots := 447525, locals := 338 })).room s m ([.ref h0]).toArray below meth c H locs 45 416229 Q (F0 m 346 ls []) := by
  have lp3 : ∀ (j k : Nat) (hh qq : Nat → Nat) (fo fz : Nat → Int32) (H : Heap) (locs : List Loc) (ls : Array Slot), k + j = 13 → px_lo (fun _ => 0) fo 0 (px_L k) → px_sz k fz → va_P (dC, dI) vwCl (([(h0, .inr (8, fs38)), (q_16, .inl (cA_8, 156, .inr (.inr (.inr (.inr (px_fw 156 hh)))))), (q_21, .inl (cA_13, 36, .inr (.inr (.inr (.inr (px_fw 36 (fun j => hh (156 + j)))))))), (q_32, .inl (cA_24, 4096, .inl fo)), (q_33, .inl (cA_25, 4096, .inl fz))] : va_W) ++ (px_zl hh qq cA 192 ++ Z_33)) H → va_D A (([(h0, .inr (8, fs38)), (q_16, .inl (cA_8, 156, .inr (.inr (.inr (.inr (px_fw 156 hh)))))), (q_21, .inl (cA_13, 36, .inr (.inr (.inr (.inr (px_fw 36 (fun j => hh (156 + j)))))))), (q_32, .inl (cA_24, 4096, .inl fo)), (q_33, .inl (cA_25, 4096, .inl fz))] : va_W) ++ (px_zl hh qq cA 192 ++ Z_33)) → va_S A s.heap H locs → lv_has ls 3 [(2, .int (nI k)), (1, .int (nI (px_sm k))), (0, .ref h0)] → W p l e (headSpec px_s62 ({ frames := 13, cells := 429, slots := 447525, locals := 338 })).room s m ([.ref h0]).toArray below meth c H locs 429 447525 Q (F0 m 403 ls []) := by
    intro j
    induction j with
    | zero =>
      intro k hh qq fo fz H locs ls hk hlo hsz hP hD hS hl
      have hk13 : k = 13 := by omega
      subst hk13
      refine lv_iload_n hx hb px_d62_403 rfl (lv_at hl 0 rfl) ?_
      refine lv_bipush (v := 12) hx hb px_d62_404 (by decide) ?_
      refine lv_icmp_gt (tgt := 424) hx hb px_d62_406 (by decide) (fun _ => ?_) (fun h9 => absurd (show nI 12 < nI 13 from nI_lt (by omega) (by omega)) h9)
      exact fin hh qq fo fz H locs ls (px_tabs hlo hsz) hP hD hS
    | succ j ih3 =>
      intro k hh qq fo fz H locs ls hk hlo hsz hP hD hS hl
      have hle := px_sm_le k (by omega)
      refine lv_iload_n hx hb px_d62_403 rfl (lv_at hl 0 rfl) ?_
      refine lv_bipush (v := 12) hx hb px_d62_404 (by decide) ?_
      refine lv_icmp_gt (tgt := 424) hx hb px_d62_406 (by decide) (fun h9 => absurd h9 (show ¬ nI 12 < nI k from nI_nlt (by omega) (by omega))) (fun _ => ?_)
      refine lv_aload_n hx hb px_d62_409 rfl (lv_at hl 2 rfl) ?_
      refine lv_iload_n hx hb px_d62_410 rfl (lv_at hl 0 rfl) ?_
      refine lv_iconst (v := 0) hx hb px_d62_411 (by decide) ?_
      refine lv_topi (nm_r (e' := (nI 0)) nI_0.symm ?_)
      refine lv_iconst (v := 0) hx hb px_d62_412 (by decide) ?_
      refine lv_topi (nm_r (e' := (nI 0)) nI_0.symm ?_)
      refine lv_iload_n hx hb px_d62_413 rfl (lv_at hl 1 rfl) ?_
      have hPc := hP.sub (ws' := [(h0, .inr (8, fs38)), (q_32, .inl (cA_24, 4096, .inl fo)), (q_33, .inl (cA_25, 4096, .inl fz))]) [0, 3, 4] rfl
      have hDc := hD.sub (ws' := [(h0, .inr (8, fs38)), (q_32, .inl (cA_24, 4096, .inl fo)), (q_33, .inl (cA_25, 4096, .inl fz))]) [0, 3, 4] (by decide) rfl
      have hKc := hK.sub (tys' := [(cA_24, .int), (cA_25, .int)]) [3, 4] rfl
      have hFc := va_free (wc := [(h0, .inr (8, fs38)), (q_32, .inl (cA_24, 4096, .inl fo)), (q_33, .inl (cA_25, 4096, .inl fz))]) hD hS hA [0, 3, 4] rfl
      refine va_calli (va_runV (As := [.int (nI k), .int (nI 0), .int (nI 0), .int (nI (px_sm k))]) (rest := []) ⟨hx, hb, hml, hown, htw⟩ (px_list l dC dI k (by omega) H.size h0 q_32 q_33 cA_24 cA_25 fs38 fo fz 0 0 (px_sm k) (by omega) (by decide) hle hk_27 hk_28) (cwV 4 htw (px_gv px_w522 px_w524 px_w525 px_w94 px_g63) rfl rfl rfl (by decide +kernel) ⟨(show k + 1 ≤ 13 by omega), (show 8 + (7 + 11) + 26 * k ≤ 338 by omega)⟩) ⟨fun a U g mk q => by obtain ⟨q0, q1, qP, qK, qD, qN⟩ := q; exact ⟨q0, q1, qP, va_K.moved (u := U) (U := U.calling g mk a) (Vm.Alike.refl U.vm) qK, qD, qN.same rfl⟩, va_recv hK hP (ci := 8) (q0 := 0) rfl rfl, fun U hU hW => ⟨rfl, by rw [hU], by rw [hU]; exact hPc, va_K.moved hW.alike hKc, hDc.weaken (fun _ _ _ _ => trivial), hN.warm hW⟩⟩ rfl rfl hl.1 rfl (lv_room (Nat.le_of_ble_eq_true rfl)) px_d62_414 ⟨(Nat.le_of_ble_eq_true rfl), (Nat.le_of_ble_eq_true rfl)⟩) hS (fun q _ h => hFc q h) hFc (fun r u t H1 locs ht hvm hw_414 hB hz1 hk1 hS => ?_)
      subst hw_414
      obtain ⟨f1, g1, hP1, hK1, hD1, hF1, hF2⟩ := hB
      rw [ht] at hP1
      obtain ⟨hP, hD⟩ := va_joinQ (wr := [(q_16, .inl (cA_8, 156, .inr (.inr (.inr (.inr (px_fw 156 hh)))))), (q_21, .inl (cA_13, 36, .inr (.inr (.inr (.inr (px_fw 36 (fun j => hh (156 + j))))))))]) (w1 := [(h0, .inr (8, fs38)), (q_32, .inl (cA_24, 4096, .inl f1)), (q_33, .inl (cA_25, 4096, .inl g1))]) hP hD [0, 3, 4] [1, 2] rfl rfl (by decide) (by decide) hk1 hFc hP1 hD1
      generalize H1 = H at hP hS ⊢
      have hP := hP.part (cx := ([(h0, .inr (8, fs38)), (q_16, .inl (cA_8, 156, .inr (.inr (.inr (.inr (px_fw 156 hh)))))), (q_21, .inl (cA_13, 36, .inr (.inr (.inr (.inr (px_fw 36 (fun j => hh (156 + j)))))))), (q_32, .inl (cA_24, 4096, .inl f1)), (q_33, .inl (cA_25, 4096, .inl g1))] : va_W)) [2, 0, 1, 3, 4] rfl
      have hD := hD.part (cx := ([(h0, .inr (8, fs38)), (q_16, .inl (cA_8, 156, .inr (.inr (.inr (.inr (px_fw 156 hh)))))), (q_21, .inl (cA_13, 36, .inr (.inr (.inr (.inr (px_fw 36 (fun j => hh (156 + j)))))))), (q_32, .inl (cA_24, 4096, .inl f1)), (q_33, .inl (cA_25, 4096, .inl g1))] : va_W)) [2, 0, 1, 3, 4] (by decide) rfl
      refine lv_istore_n (lv' := [(1, .int (nI (px_sm k + px_bn 12 k))), (2, .int (nI k)), (0, .ref h0)]) hx hb px_d62_417 rfl hl (by decide) rfl (fun ls hl => ?_)
      refine lv_iinc (v := nI (k + 1)) (lv' := [(2, .int (nI (k + 1))), (1, .int (nI (px_sm k + px_bn 12 k))), (0, .ref h0)]) hx hb px_d62_418 hl (k := 1) rfl (show nI k + 1 = nI (k + 1) from nI_1 k) (by decide) rfl (fun ls hl => ?_)
      refine lv_goto (tgt := 403) hx hb px_d62_421 (by decide) ?_
      have hlo1 : px_lo (fun _ => 0) f1 0 (px_L (k + 1)) := by
        rw [px_LS]
        refine px_loA hlo ?_
        rw [Nat.zero_add, px_Ll]
        exact hF1
      exact ih3 (k + 1) hh qq f1 g1 H locs ls (by omega) hlo1 (px_szS hsz hF2) hP hD hS (lv_sub hl [0, 1, 2] rfl)
  have lp2 : ∀ (j k : Nat) (hh qq : Nat → Nat) (H : Heap) (locs : List Loc) (ls : Array Slot), k + j = 36 → va_P (dC, dI) vwCl (([(h0, .inr (8, fs38)), (q_16, .inl (cA_8, 156, .inr (.inr (.inr (.inr (px_fw 156 hh)))))), (q_21, .inl (cA_13, 36, .inr (.inr (.inr (.inr (px_fw k (fun j => hh (156 + j)))))))), (q_32, .inl (cA_24, 4096, .inl (fun _ => 0))), (q_33, .inl (cA_25, 4096, .inl (fun _ => 0)))] : va_W) ++ (px_zl hh qq cA (156 + k) ++ Z_33)) H → va_D A (([(h0, .inr (8, fs38)), (q_16, .inl (cA_8, 156, .inr (.inr (.inr (.inr (px_fw 156 hh)))))), (q_21, .inl (cA_13, 36, .inr (.inr (.inr (.inr (px_fw k (fun j => hh (156 + j)))))))), (q_32, .inl (cA_24, 4096, .inl (fun _ => 0))), (q_33, .inl (cA_25, 4096, .inl (fun _ => 0)))] : va_W) ++ (px_zl hh qq cA (156 + k) ++ Z_33)) → va_S A s.heap H locs → lv_has ls 3 [(1, .int (nI k)), (0, .ref h0)] → W p l e (headSpec px_s62 ({ frames := 13, cells := 429, slots := 447525, locals := 338 })).room s m ([.ref h0]).toArray below meth c H locs (357 + 2 * k) (441657 + 163 * k) Q (F0 m 374 ls []) := by
    intro j
    induction j with
    | zero =>
      intro k hh qq H locs ls hk hP hD hS hl
      have hkc : k = 36 := by omega
      subst hkc
      refine lv_iload_n hx hb px_d62_374 rfl (lv_at hl 0 rfl) ?_
      refine lv_bipush (v := 36) hx hb px_d62_375 (by decide) ?_
      refine lv_icmp_ge (tgt := 399) hx hb px_d62_377 (by decide) (fun _ => ?_) (fun h9 => absurd (show nI 36 ≤ nI 36 from nI_le (by omega) (by omega)) h9)
      refine W.widen (k := 429) (n := 447525) (by omega) (by omega) ?_
      refine lv_iconst (v := 0) hx hb px_d62_399 (by decide) ?_
      refine lv_istore_n (lv' := [(1, .int 0), (0, .ref h0)]) hx hb px_d62_400 rfl hl (by decide) rfl (fun ls hl => ?_)
      refine lv_iconst (v := 0) hx hb px_d62_401 (by decide) ?_
      refine lv_istore_n (lv' := [(2, .int 0), (1, .int 0), (0, .ref h0)]) hx hb px_d62_402 rfl hl (by decide) rfl (fun ls hl => ?_)
      have hl : lv_has ls 3 [(2, .int 0), (1, .int 0), (0, .ref h0)] := hl
      exact lp3 13 0 hh qq _ _ H locs ls (by omega) (px_lo0 _ 0) (fun S _ => ⟨fun z => absurd z (Nat.not_lt_zero _), fun _ => rfl⟩) hP hD hS hl
    | succ j ih =>
      intro k hh qq H locs ls hk hP hD hS hl
      refine lv_iload_n hx hb px_d62_374 rfl (lv_at hl 0 rfl) ?_
      refine lv_bipush (v := 36) hx hb px_d62_375 (by decide) ?_
      refine lv_icmp_ge (tgt := 399) hx hb px_d62_377 (by decide) (fun h9 => absurd h9 (show ¬ nI 36 ≤ nI k from nI_ge (by omega) (by omega))) (fun _ => ?_)
      refine lv_aload_n hx hb px_d62_380 rfl (lv_at hl 1 rfl) ?_
      refine va_get (D := (dC, dI)) (ci := 8) (v := .ref q_21) (C := "MatroidDeskModel") (T := px_T8) (N := 53) hx hb htw px_in8 hown hK hP 0 rfl rfl 16 (by decide) (htw _ px_w495) (fun _ h9 => h9) hk_16 px_d62_381 ?_
      refine lv_iload_n hx hb px_d62_384 rfl (lv_at hl 0 rfl) ?_
      refine va_new (ci := 9) (fs := [.null, .int 0, .int 0]) (C := "MatroidDeskModel$Num") (T := px_T9) (N := 3) hx hb htw px_in9 px_ty9 px_tyok9 hown (htw _ px_w500) (htw _ px_w150) (htw _ px_w149) hK hP hD hS hA rfl px_df9 (show 357 + 2 * k + 1 ≤ 429 by omega) (show 441657 + 163 * k + 3 ≤ 447525 by omega) px_d62_385 (fun q H hP hD hS => ?_)
      have hP := hP.swap
      have hD := hD.swap
      have hP : va_P (dC, dI) vwCl (([(h0, .inr (8, fs38)), (q_16, .inl (cA_8, 156, .inr (.inr (.inr (.inr (px_fw 156 hh)))))), (q_21, .inl (cA_13, 36, .inr (.inr (.inr (.inr (px_fw k (fun j => hh (156 + j)))))))), (q_32, .inl (cA_24, 4096, .inl (fun _ => 0))), (q_33, .inl (cA_25, 4096, .inl (fun _ => 0))), (q, .inr (9, [.null, .int 0, .int 0]))] : va_W) ++ (px_zl hh qq cA (156 + k) ++ Z_33)) H := hP
      have hD : va_D A (([(h0, .inr (8, fs38)), (q_16, .inl (cA_8, 156, .inr (.inr (.inr (.inr (px_fw 156 hh)))))), (q_21, .inl (cA_13, 36, .inr (.inr (.inr (.inr (px_fw k (fun j => hh (156 + j)))))))), (q_32, .inl (cA_24, 4096, .inl (fun _ => 0))), (q_33, .inl (cA_25, 4096, .inl (fun _ => 0))), (q, .inr (9, [.null, .int 0, .int 0]))] : va_W) ++ (px_zl hh qq cA (156 + k) ++ Z_33)) := hD
      refine W.widen (k := 357 + 2 * k + 1) (n := 441657 + 163 * k + 3) (by omega) (by omega) ?_
      refine lv_dup hx hb px_d62_388 rfl ?_
      have hPc := hP.sub (ws' := [(q, .inr (9, [.null, .int 0, .int 0]))]) [5] rfl
      have hDc := hD.sub (ws' := [(q, .inr (9, [.null, .int 0, .int 0]))]) [5] (by decide) rfl
      have hKc := hK.sub (tys' := []) [] rfl
      have hFc := va_free (wc := [(q, .inr (9, [.null, .int 0, .int 0]))]) hD hS hA [5] rfl
      refine va_callv (va_runIN (As := []) (rest := [.ref q, .int (nI k), .ref q_21]) ⟨hx, hb, hml, hown, htw⟩ (px_Num_init l dC dI H.size q) ⟨(va_cnB 0 htw px_g8 rfl rfl rfl (hN.2.1 ("MatroidDeskModel", 152, px_y8, "MatroidDeskModel") px_mm1) (htw _ px_w149) (by decide +kernel) ⟨Nat.le_of_ble_eq_true rfl, Nat.le_of_ble_eq_true rfl⟩), rfl, (htw _ px_w265)⟩ ⟨fun a U g mk q => by obtain ⟨q0, q1, qP, qK, qD, qN⟩ := q; exact ⟨q0, q1, qP, va_K.moved (u := U) (U := U.calling g mk a) (Vm.Alike.refl U.vm) qK, qD, qN.same rfl⟩, fun U hU hW => ⟨rfl, by rw [hU], by rw [hU]; exact hPc, va_K.moved hW.alike hKc, hDc.weaken (fun _ _ _ _ => trivial), hN.warm hW⟩⟩ rfl rfl hl.1 rfl (lv_room (Nat.le_of_ble_eq_true rfl)) px_d62_389 ⟨(show 357 + 2 * k + 1 + 1 ≤ 429 by omega), (show 441657 + 163 * k + 3 + 160 ≤ 447525 by omega)⟩) hS (fun q _ h => hFc q h) hFc (fun u t H1 locs ht hvm hw_n hB hz1 hk1 hS => ?_)
      obtain ⟨q_n, cA_n, hP1, hK1, hD1⟩ := hB
      rw [ht] at hP1
      have hK1 := va_K.moved hvm.symm hK1
      have eN : cA = cA_n := (px_cAeq (tys := [(cA, .int)]) ((hK.sub (tys' := [(cA, .int)]) [0] rfl).app hK1) (hK.sub (tys' := [(cA, .int)]) [0] rfl) 0 rfl).symm
      subst eN
      obtain ⟨hP, hD⟩ := va_joinQ (wr := [(h0, .inr (8, fs38)), (q_16, .inl (cA_8, 156, .inr (.inr (.inr (.inr (px_fw 156 hh)))))), (q_21, .inl (cA_13, 36, .inr (.inr (.inr (.inr (px_fw k (fun j => hh (156 + j)))))))), (q_32, .inl (cA_24, 4096, .inl (fun _ => 0))), (q_33, .inl (cA_25, 4096, .inl (fun _ => 0)))]) (w1 := [(q, .inr (9, [.ref q_n, .int 0, .int 0])), (q_n, .inl (cA, 160, .inl (fun _ => 0)))]) hP hD [5] [0, 1, 2, 3, 4] rfl rfl (by decide) (by decide) hk1 hFc hP1 hD1
      generalize H1 = H at hP hS ⊢
      have hP : va_P (dC, dI) vwCl (([(h0, .inr (8, fs38)), (q_16, .inl (cA_8, 156, .inr (.inr (.inr (.inr (px_fw 156 hh)))))), (q_21, .inl (cA_13, 36, .inr (.inr (.inr (.inr (px_fw k (fun j => hh (156 + j)))))))), (q_32, .inl (cA_24, 4096, .inl (fun _ => 0))), (q_33, .inl (cA_25, 4096, .inl (fun _ => 0))), (q, .inr (9, [.ref q_n, .int 0, .int 0])), (q_n, .inl (cA, 160, .inl (fun _ => 0)))] : va_W) ++ (px_zl hh qq cA (156 + k) ++ Z_33)) H := hP
      have hD : va_D A (([(h0, .inr (8, fs38)), (q_16, .inl (cA_8, 156, .inr (.inr (.inr (.inr (px_fw 156 hh)))))), (q_21, .inl (cA_13, 36, .inr (.inr (.inr (.inr (px_fw k (fun j => hh (156 + j)))))))), (q_32, .inl (cA_24, 4096, .inl (fun _ => 0))), (q_33, .inl (cA_25, 4096, .inl (fun _ => 0))), (q, .inr (9, [.ref q_n, .int 0, .int 0])), (q_n, .inl (cA, 160, .inl (fun _ => 0)))] : va_W) ++ (px_zl hh qq cA (156 + k) ++ Z_33)) := hD
      refine W.widen (k := 357 + 2 * k + 2) (n := 441657 + 163 * k + 163) (by omega) (by omega) ?_
      refine va_astq hx hb hK hP hD hS 2 2 5 9 rfl rfl rfl rfl (vp_in_nI (show k < 36 by omega) (by decide)) px_d62_392 (fun H locs hP hD hS => ?_)
      have hP : va_P (dC, dI) vwCl (([(h0, .inr (8, fs38)), (q_16, .inl (cA_8, 156, .inr (.inr (.inr (.inr (px_fw 156 (va_up hh (156 + k) q))))))), (q_21, .inl (cA_13, 36, .inr (.inr (.inr (.inr (px_fw (k + 1) (fun j => (va_up hh (156 + k) q) (156 + j)))))))), (q_32, .inl (cA_24, 4096, .inl (fun _ => 0))), (q_33, .inl (cA_25, 4096, .inl (fun _ => 0)))] : va_W) ++ (px_zl (va_up hh (156 + k) q) (va_up qq (156 + k) q_n) cA (156 + (k + 1)) ++ Z_33)) H := by
        rw [← px_fwS (hh := fun j => hh (156 + j)) (hh' := fun j => (va_up hh (156 + k) q) (156 + j)) (show k < 2 ^ 31 by omega) (fun j hj => va_up_ne _ _ (by omega)) (va_up_self _ _ _), px_fwE (hh := (va_up hh (156 + k) q)) (hh' := hh) (n := 156) (fun j hj => va_up_ne _ _ (by omega)), show 156 + (k + 1) = 156 + k + 1 by omega, ← px_zlS]
        exact hP
      have hD : va_D A (([(h0, .inr (8, fs38)), (q_16, .inl (cA_8, 156, .inr (.inr (.inr (.inr (px_fw 156 (va_up hh (156 + k) q))))))), (q_21, .inl (cA_13, 36, .inr (.inr (.inr (.inr (px_fw (k + 1) (fun j => (va_up hh (156 + k) q) (156 + j)))))))), (q_32, .inl (cA_24, 4096, .inl (fun _ => 0))), (q_33, .inl (cA_25, 4096, .inl (fun _ => 0)))] : va_W) ++ (px_zl (va_up hh (156 + k) q) (va_up qq (156 + k) q_n) cA (156 + (k + 1)) ++ Z_33)) := by
        rw [← px_fwS (hh := fun j => hh (156 + j)) (hh' := fun j => (va_up hh (156 + k) q) (156 + j)) (show k < 2 ^ 31 by omega) (fun j hj => va_up_ne _ _ (by omega)) (va_up_self _ _ _), px_fwE (hh := (va_up hh (156 + k) q)) (hh' := hh) (n := 156) (fun j hj => va_up_ne _ _ (by omega)), show 156 + (k + 1) = 156 + k + 1 by omega, ← px_zlS]
        exact hD
      refine lv_iinc (v := nI (k + 1)) (lv' := [(1, .int (nI (k + 1))), (0, .ref h0)]) hx hb px_d62_393 hl (k := 0) rfl (show nI k + 1 = nI (k + 1) from nI_1 k) (by decide) rfl (fun ls hl => ?_)
      refine lv_goto (tgt := 374) hx hb px_d62_396 (by decide) ?_
      refine W.widen (k := 357 + 2 * (k + 1)) (n := 441657 + 163 * (k + 1)) (by omega) (by omega) ?_
      exact ih (k + 1) (va_up hh (156 + k) q) (va_up qq (156 + k) q_n) H locs ls (by omega) hP hD hS hl
  have lp1 : ∀ (j k : Nat) (hh qq : Nat → Nat) (H : Heap) (locs : List Loc) (ls : Array Slot), k + j = 156 → va_P (dC, dI) vwCl (([(h0, .inr (8, fs38)), (q_16, .inl (cA_8, 156, .inr (.inr (.inr (.inr (px_fw k hh)))))), (q_21, .inl (cA_13, 36, .inr (.inr (.inr (.inr (px_fw 0 (fun j => hh (156 + j)))))))), (q_32, .inl (cA_24, 4096, .inl (fun _ => 0))), (q_33, .inl (cA_25, 4096, .inl (fun _ => 0)))] : va_W) ++ (px_zl hh qq cA k ++ Z_33)) H → va_D A (([(h0, .inr (8, fs38)), (q_16, .inl (cA_8, 156, .inr (.inr (.inr (.inr (px_fw k hh)))))), (q_21, .inl (cA_13, 36, .inr (.inr (.inr (.inr (px_fw 0 (fun j => hh (156 + j)))))))), (q_32, .inl (cA_24, 4096, .inl (fun _ => 0))), (q_33, .inl (cA_25, 4096, .inl (fun _ => 0)))] : va_W) ++ (px_zl hh qq cA k ++ Z_33)) → va_S A s.heap H locs → lv_has ls 3 [(1, .int (nI k)), (0, .ref h0)] → W p l e (headSpec px_s62 ({ frames := 13, cells := 429, slots := 447525, locals := 338 })).room s m ([.ref h0]).toArray below meth c H locs (45 + 2 * k) (416229 + 163 * k) Q (F0 m 346 ls []) := by
    intro j
    induction j with
    | zero =>
      intro k hh qq H locs ls hk hP hD hS hl
      have hkc : k = 156 := by omega
      subst hkc
      refine lv_iload_n hx hb px_d62_346 rfl (lv_at hl 0 rfl) ?_
      refine lv_sipush (v := 156) hx hb px_d62_347 (by decide) ?_
      refine lv_icmp_ge (tgt := 372) hx hb px_d62_350 (by decide) (fun _ => ?_) (fun h9 => absurd (show nI 156 ≤ nI 156 from nI_le (by omega) (by omega)) h9)
      refine lv_iconst (v := 0) hx hb px_d62_372 (by decide) ?_
      refine lv_istore_n (lv' := [(1, .int 0), (0, .ref h0)]) hx hb px_d62_373 rfl hl (by decide) rfl (fun ls hl => ?_)
      refine W.widen (k := 357 + 2 * 0) (n := 441657 + 163 * 0) (by omega) (by omega) ?_
      exact lp2 36 0 hh qq H locs ls (by omega) hP hD hS hl
    | succ j ih =>
      intro k hh qq H locs ls hk hP hD hS hl
      refine lv_iload_n hx hb px_d62_346 rfl (lv_at hl 0 rfl) ?_
      refine lv_sipush (v := 156) hx hb px_d62_347 (by decide) ?_
      refine lv_icmp_ge (tgt := 372) hx hb px_d62_350 (by decide) (fun h9 => absurd h9 (show ¬ nI 156 ≤ nI k from nI_ge (by omega) (by omega))) (fun _ => ?_)
      refine lv_aload_n hx hb px_d62_353 rfl (lv_at hl 1 rfl) ?_
      refine va_get (D := (dC, dI)) (ci := 8) (v := .ref q_16) (C := "MatroidDeskModel") (T := px_T8) (N := 53) hx hb htw px_in8 hown hK hP 0 rfl rfl 8 (by decide) (htw _ px_w424) (fun _ h9 => h9) hk_8 px_d62_354 ?_
      refine lv_iload_n hx hb px_d62_357 rfl (lv_at hl 0 rfl) ?_
      refine va_new (ci := 9) (fs := [.null, .int 0, .int 0]) (C := "MatroidDeskModel$Num") (T := px_T9) (N := 3) hx hb htw px_in9 px_ty9 px_tyok9 hown (htw _ px_w500) (htw _ px_w150) (htw _ px_w149) hK hP hD hS hA rfl px_df9 (show 45 + 2 * k + 1 ≤ 429 by omega) (show 416229 + 163 * k + 3 ≤ 447525 by omega) px_d62_358 (fun q H hP hD hS => ?_)
      have hP := hP.swap
      have hD := hD.swap
      have hP : va_P (dC, dI) vwCl (([(h0, .inr (8, fs38)), (q_16, .inl (cA_8, 156, .inr (.inr (.inr (.inr (px_fw k hh)))))), (q_21, .inl (cA_13, 36, .inr (.inr (.inr (.inr (px_fw 0 (fun j => hh (156 + j)))))))), (q_32, .inl (cA_24, 4096, .inl (fun _ => 0))), (q_33, .inl (cA_25, 4096, .inl (fun _ => 0))), (q, .inr (9, [.null, .int 0, .int 0]))] : va_W) ++ (px_zl hh qq cA k ++ Z_33)) H := hP
      have hD : va_D A (([(h0, .inr (8, fs38)), (q_16, .inl (cA_8, 156, .inr (.inr (.inr (.inr (px_fw k hh)))))), (q_21, .inl (cA_13, 36, .inr (.inr (.inr (.inr (px_fw 0 (fun j => hh (156 + j)))))))), (q_32, .inl (cA_24, 4096, .inl (fun _ => 0))), (q_33, .inl (cA_25, 4096, .inl (fun _ => 0))), (q, .inr (9, [.null, .int 0, .int 0]))] : va_W) ++ (px_zl hh qq cA k ++ Z_33)) := hD
      refine W.widen (k := 45 + 2 * k + 1) (n := 416229 + 163 * k + 3) (by omega) (by omega) ?_
      refine lv_dup hx hb px_d62_361 rfl ?_
      have hPc := hP.sub (ws' := [(q, .inr (9, [.null, .int 0, .int 0]))]) [5] rfl
      have hDc := hD.sub (ws' := [(q, .inr (9, [.null, .int 0, .int 0]))]) [5] (by decide) rfl
      have hKc := hK.sub (tys' := []) [] rfl
      have hFc := va_free (wc := [(q, .inr (9, [.null, .int 0, .int 0]))]) hD hS hA [5] rfl
      refine va_callv (va_runIN (As := []) (rest := [.ref q, .int (nI k), .ref q_16]) ⟨hx, hb, hml, hown, htw⟩ (px_Num_init l dC dI H.size q) ⟨(va_cnB 0 htw px_g8 rfl rfl rfl (hN.2.1 ("MatroidDeskModel", 152, px_y8, "MatroidDeskModel") px_mm1) (htw _ px_w149) (by decide +kernel) ⟨Nat.le_of_ble_eq_true rfl, Nat.le_of_ble_eq_true rfl⟩), rfl, (htw _ px_w265)⟩ ⟨fun a U g mk q => by obtain ⟨q0, q1, qP, qK, qD, qN⟩ := q; exact ⟨q0, q1, qP, va_K.moved (u := U) (U := U.calling g mk a) (Vm.Alike.refl U.vm) qK, qD, qN.same rfl⟩, fun U hU hW => ⟨rfl, by rw [hU], by rw [hU]; exact hPc, va_K.moved hW.alike hKc, hDc.weaken (fun _ _ _ _ => trivial), hN.warm hW⟩⟩ rfl rfl hl.1 rfl (lv_room (Nat.le_of_ble_eq_true rfl)) px_d62_362 ⟨(show 45 + 2 * k + 1 + 1 ≤ 429 by omega), (show 416229 + 163 * k + 3 + 160 ≤ 447525 by omega)⟩) hS (fun q _ h => hFc q h) hFc (fun u t H1 locs ht hvm hw_n hB hz1 hk1 hS => ?_)
      obtain ⟨q_n, cA_n, hP1, hK1, hD1⟩ := hB
      rw [ht] at hP1
      have hK1 := va_K.moved hvm.symm hK1
      have eN : cA = cA_n := (px_cAeq (tys := [(cA, .int)]) ((hK.sub (tys' := [(cA, .int)]) [0] rfl).app hK1) (hK.sub (tys' := [(cA, .int)]) [0] rfl) 0 rfl).symm
      subst eN
      obtain ⟨hP, hD⟩ := va_joinQ (wr := [(h0, .inr (8, fs38)), (q_16, .inl (cA_8, 156, .inr (.inr (.inr (.inr (px_fw k hh)))))), (q_21, .inl (cA_13, 36, .inr (.inr (.inr (.inr (px_fw 0 (fun j => hh (156 + j)))))))), (q_32, .inl (cA_24, 4096, .inl (fun _ => 0))), (q_33, .inl (cA_25, 4096, .inl (fun _ => 0)))]) (w1 := [(q, .inr (9, [.ref q_n, .int 0, .int 0])), (q_n, .inl (cA, 160, .inl (fun _ => 0)))]) hP hD [5] [0, 1, 2, 3, 4] rfl rfl (by decide) (by decide) hk1 hFc hP1 hD1
      generalize H1 = H at hP hS ⊢
      have hP : va_P (dC, dI) vwCl (([(h0, .inr (8, fs38)), (q_16, .inl (cA_8, 156, .inr (.inr (.inr (.inr (px_fw k hh)))))), (q_21, .inl (cA_13, 36, .inr (.inr (.inr (.inr (px_fw 0 (fun j => hh (156 + j)))))))), (q_32, .inl (cA_24, 4096, .inl (fun _ => 0))), (q_33, .inl (cA_25, 4096, .inl (fun _ => 0))), (q, .inr (9, [.ref q_n, .int 0, .int 0])), (q_n, .inl (cA, 160, .inl (fun _ => 0)))] : va_W) ++ (px_zl hh qq cA k ++ Z_33)) H := hP
      have hD : va_D A (([(h0, .inr (8, fs38)), (q_16, .inl (cA_8, 156, .inr (.inr (.inr (.inr (px_fw k hh)))))), (q_21, .inl (cA_13, 36, .inr (.inr (.inr (.inr (px_fw 0 (fun j => hh (156 + j)))))))), (q_32, .inl (cA_24, 4096, .inl (fun _ => 0))), (q_33, .inl (cA_25, 4096, .inl (fun _ => 0))), (q, .inr (9, [.ref q_n, .int 0, .int 0])), (q_n, .inl (cA, 160, .inl (fun _ => 0)))] : va_W) ++ (px_zl hh qq cA k ++ Z_33)) := hD
      refine W.widen (k := 45 + 2 * k + 2) (n := 416229 + 163 * k + 163) (by omega) (by omega) ?_
      refine va_astq hx hb hK hP hD hS 1 1 5 9 rfl rfl rfl rfl (vp_in_nI (show k < 156 by omega) (by decide)) px_d62_365 (fun H locs hP hD hS => ?_)
      have hP : va_P (dC, dI) vwCl (([(h0, .inr (8, fs38)), (q_16, .inl (cA_8, 156, .inr (.inr (.inr (.inr (px_fw (k + 1) (va_up hh k q))))))), (q_21, .inl (cA_13, 36, .inr (.inr (.inr (.inr (px_fw 0 (fun j => (va_up hh k q) (156 + j)))))))), (q_32, .inl (cA_24, 4096, .inl (fun _ => 0))), (q_33, .inl (cA_25, 4096, .inl (fun _ => 0)))] : va_W) ++ (px_zl (va_up hh k q) (va_up qq k q_n) cA (k + 1) ++ Z_33)) H := by
        rw [← px_fwS (hh := hh) (hh' := (va_up hh k q)) (show k < 2 ^ 31 by omega) (fun j hj => va_up_ne _ _ (by omega)) (va_up_self _ _ _), ← px_zlS, ← px_fw0, px_fw0 (fun j => hh (156 + j))]
        exact hP
      have hD : va_D A (([(h0, .inr (8, fs38)), (q_16, .inl (cA_8, 156, .inr (.inr (.inr (.inr (px_fw (k + 1) (va_up hh k q))))))), (q_21, .inl (cA_13, 36, .inr (.inr (.inr (.inr (px_fw 0 (fun j => (va_up hh k q) (156 + j)))))))), (q_32, .inl (cA_24, 4096, .inl (fun _ => 0))), (q_33, .inl (cA_25, 4096, .inl (fun _ => 0)))] : va_W) ++ (px_zl (va_up hh k q) (va_up qq k q_n) cA (k + 1) ++ Z_33)) := by
        rw [← px_fwS (hh := hh) (hh' := (va_up hh k q)) (show k < 2 ^ 31 by omega) (fun j hj => va_up_ne _ _ (by omega)) (va_up_self _ _ _), ← px_zlS, ← px_fw0, px_fw0 (fun j => hh (156 + j))]
        exact hD
      refine lv_iinc (v := nI (k + 1)) (lv' := [(1, .int (nI (k + 1))), (0, .ref h0)]) hx hb px_d62_366 hl (k := 0) rfl (show nI k + 1 = nI (k + 1) from nI_1 k) (by decide) rfl (fun ls hl => ?_)
      refine lv_goto (tgt := 346) hx hb px_d62_369 (by decide) ?_
      refine W.widen (k := 45 + 2 * (k + 1)) (n := 416229 + 163 * (k + 1)) (by omega) (by omega) ?_
      exact ih (k + 1) (va_up hh k q) (va_up qq k q_n) H locs ls (by omega) hP hD hS hl
  have hP : va_P (dC, dI) vwCl (([(h0, .inr (8, fs38)), (q_16, .inl (cA_8, 156, .inr (.inr (.inr (.inr (px_fw 0 (fun _ => 0))))))), (q_21, .inl (cA_13, 36, .inr (.inr (.inr (.inr (px_fw 0 (fun j => (fun _ => 0) (156 + j)))))))), (q_32, .inl (cA_24, 4096, .inl (fun _ => 0))), (q_33, .inl (cA_25, 4096, .inl (fun _ => 0)))] : va_W) ++ (px_zl (fun _ => 0) (fun _ => 0) cA 0 ++ Z_33)) H := by
    rw [← px_fw0]
    exact hP
  have hD : va_D A (([(h0, .inr (8, fs38)), (q_16, .inl (cA_8, 156, .inr (.inr (.inr (.inr (px_fw 0 (fun _ => 0))))))), (q_21, .inl (cA_13, 36, .inr (.inr (.inr (.inr (px_fw 0 (fun j => (fun _ => 0) (156 + j)))))))), (q_32, .inl (cA_24, 4096, .inl (fun _ => 0))), (q_33, .inl (cA_25, 4096, .inl (fun _ => 0)))] : va_W) ++ (px_zl (fun _ => 0) (fun _ => 0) cA 0 ++ Z_33)) := by
    rw [← px_fw0]
    exact hD
  refine W.widen (k := 45 + 2 * 0) (n := 416229 + 163 * 0) (by omega) (by omega) ?_
  exact lp1 156 0 _ _ H locs ls (by omega) hP hD hS hl
