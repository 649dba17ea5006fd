theorem px_ex {t : Term} {C : String} {a : Array Value} {s : State} (h : (Cond.exactly t C).before a s = true) : ∃ q : Nat, t.eval a s none [] s = some (.ref q) := by
  cases hv : t.eval a s none [] s with
  | none => simp [Cond.before, Cond.holds, Cond.value, hv] at h
  | some v =>
    cases v with
    | ref q => exact ⟨q, rfl⟩
    | _ =>
      simp [Cond.before, Cond.holds, Cond.value, hv] at h
      try (cases hc : s.vm.findClass C <;> simp [hc] at h)
theorem px_own_in : ∀ w ∈ px_own, px_isH w = false → w ∈ lw_tbl := by decide +kernel
theorem px_nf_in : ∀ q ∈ px_nf, Cond.fieldLinkNest q.1 q.2.1 q.2.2.1 q.2.2.2.1 q.2.2.2.2.1 q.2.2.2.2.2 ∈ lw_tbl := by decide +kernel
theorem px_nm_in : ∀ q ∈ px_nm, Cond.methodLinkNest q.1 q.2.1 q.2.2.1 q.2.2.2 ∈ lw_tbl := by decide +kernel
theorem px_ao_in : ∀ C ∈ px_ao, Cond.arrayOver (.object C) ∈ lw_tbl := by decide +kernel
theorem px_X0 {a : Array Value} {s : State} (h : ∀ w ∈ lw_tbl, w.before a s = true) : px_X s := fun w hw hf A => by
  have h1 := h w (px_own_in w hw hf)
  have h2 : s.setVm s.vm = s := State.setVm_self s
  rw [← h2, Cond.onTables_vm (A' := A) (U' := s) s.vm w (px_own_on w hw hf), h2] at h1
  exact h1
theorem px_H0 {a : Array Value} {s : State} (h : ∀ w ∈ lw_tbl, w.before a s = true) (hgv : (Jvm.Cond.and given_1 narrow_1).before a s = true) : px_H s := fun w hw ht A => by
  have hs1 := h (.laysStatic "java/lang/Throwable" "UNASSIGNED_STACK" "[Ljava/lang/StackTraceElement;") (by decide +kernel)
  have hs2 := h (.laysStatic "java/lang/Throwable" "SUPPRESSED_SENTINEL" "Ljava/util/List;") (by decide +kernel)
  have hf := flat_of_before _ hgv
  rcases px_own_H w hw ht with rfl | rfl | rfl | rfl
  · exact px_sta (Vm.Alike.refl s.vm) (fun _ _ => rfl) hs1
  · exact px_sta (Vm.Alike.refl s.vm) (fun _ _ => rfl) hs2
  · exact px_str (Vm.Alike.refl s.vm) (fun _ _ => rfl) (hf _ (by decide +kernel)) hs1
  · exact px_str (Vm.Alike.refl s.vm) (fun _ _ => rfl) (hf _ (by decide +kernel)) hs2
set_option maxHeartbeats 8000000 in
set_option maxRecDepth 100000 in
/-- THE LAW, from its entry -/
theorem whole_start {p : Program} {e : Env} {s : State} {m : MethodId} {below : List Frame} {meth : Method} {c : Code} (l : Launch) (htr : l.stackTraces = false) {b L : Nat} {xs : Nat → Int32} (hL : L ≤ 6) (C0 : lw_At p s m meth c b L xs) : W p l e room_1 s m #[Value.ref b] below meth c s.heap [] 0 0 (lw_Z below #[Value.ref b] s) (entryFrame m ([Value.ref b] : List Value).toArray 7) := by
  obtain ⟨hx, hb, hr, hml, hown, hts, hX, hbl, hlocks, hgv⟩ := id C0
  have hown : s.vm.findClass "MatroidDeskLaw" = some m.cls := hown
  have htw : ∀ w ∈ px_tl, w.before _ s = true := fun w h => hts w (px_tl_in w h)
  have hA : ∀ q : Nat, s.heap.size ≤ q → (fun q : Nat => s.heap.size ≤ q) q := fun _ h => h
  have hbA : ¬ (fun q : Nat => s.heap.size ≤ q) b := Nat.not_le.mpr hbl
  have hN : px_N s := ⟨fun q hq => va_Nw.of rfl (hts _ (px_nf_in q hq)), fun q hq => va_Nw.of rfl (hts _ (px_nm_in q hq)), fun C hC => va_AO.of (hts _ (px_ao_in C hC))⟩
  have hX9 : px_X s := px_X0 hts
  have hH9 : px_H s := px_H0 hts hgv
  have hfl := flat_of_before _ hgv
  obtain ⟨tq, htq⟩ := px_ex (hfl (.exactly (.string "MatroidDesk" 105) "java/lang/String") (by decide +kernel))
  have hZ9 : vk_R "MatroidDesk" 105 "not so many bytes came in" tq s := vk_R.of (hts _ (by decide +kernel)) htq
  obtain ⟨vS, hvS⟩ := px_ex (hfl (.exactly (.static "MatroidDesk$Verb" "SHOW" "LMatroidDesk$Verb;") "MatroidDesk$Verb") (by decide +kernel))
  have hE0 : va_Z "MatroidDesk$Verb" "SHOW" "LMatroidDesk$Verb;" (.ref vS) (fun q : Nat => s.heap.size ≤ q) s s.heap := va_Zof (hts _ (by decide +kernel)) (hts _ (by decide +kernel)) hvS (fun a h => Nat.not_le.mpr h)
  obtain ⟨c0, iS0, hKn0⟩ := u_known (C := "MatroidDesk") (T := px_T0) (N := 14) (n := 14) htw (fun w h => List.mem_append_right _ (px_in0 w h)) (htw _ (List.mem_append_right _ px_w7))
  obtain ⟨c1, iS1, hKn1⟩ := u_known (C := "MatroidDesk$Orders") (T := px_T1) (N := 3) (n := 3) htw (fun w h => List.mem_append_right _ (px_in1 w h)) (htw _ (List.mem_append_right _ px_w23))
  obtain ⟨c2, iS2, hKn2⟩ := u_known (C := "MatroidDesk$Minors") (T := px_T2) (N := 12) (n := 12) htw (fun w h => List.mem_append_right _ (px_in2 w h)) (htw _ (List.mem_append_right _ px_w28))
  obtain ⟨c3, iS3, hKn3⟩ := u_known (C := "MatroidDesk$Wide") (T := px_T3) (N := 3) (n := 3) htw (fun w h => List.mem_append_right _ (px_in3 w h)) (htw _ (List.mem_append_right _ px_w42))
  obtain ⟨c4, iS4, hKn4⟩ := u_known (C := "MatroidDesk$Witness") (T := px_T4) (N := 18) (n := 18) htw (fun w h => List.mem_append_right _ (px_in4 w h)) (htw _ (List.mem_append_right _ px_w47))
  obtain ⟨c5, iS5, hKn5⟩ := u_known (C := "MatroidDesk$Tokens") (T := px_T5) (N := 6) (n := 6) htw (fun w h => List.mem_append_right _ (px_in5 w h)) (htw _ (List.mem_append_right _ px_w67))
  obtain ⟨c6, iS6, hKn6⟩ := u_known (C := "MatroidDesk$Statement") (T := px_T6) (N := 12) (n := 12) htw (fun w h => List.mem_append_right _ (px_in6 w h)) (htw _ (List.mem_append_right _ px_w75))
  obtain ⟨c7, iS7, hKn7⟩ := u_known (C := "MatroidDesk$Product") (T := px_T7) (N := 4) (n := 4) htw (fun w h => List.mem_append_right _ (px_in7 w h)) (htw _ (List.mem_append_right _ px_w89))
  obtain ⟨c8, iS8, hKn8⟩ := u_known (C := "MatroidDeskModel") (T := px_T8) (N := 53) (n := 53) htw (fun w h => List.mem_append_right _ (px_in8 w h)) (htw _ (List.mem_append_right _ px_w95))
  obtain ⟨c9, iS9, hKn9⟩ := u_known (C := "MatroidDeskModel$Num") (T := px_T9) (N := 3) (n := 3) htw (fun w h => List.mem_append_right _ (px_in9 w h)) (htw _ (List.mem_append_right _ px_w150))
  obtain ⟨dC, dI, hKc⟩ : ∃ (dC : Nat → ClassId) (dI : Nat → Nat → Nat), ∀ (k : Nat) (q : vw_C), vwCl[k]? = some q → u_Kn s q.1 q.2.1 q.2.2 (dC k) (dI k) := by
    refine ⟨fun k => if k = 0 then c0 else if k = 1 then c1 else if k = 2 then c2 else if k = 3 then c3 else if k = 4 then c4 else if k = 5 then c5 else if k = 6 then c6 else if k = 7 then c7 else if k = 8 then c8 else c9, fun k => if k = 0 then iS0 else if k = 1 then iS1 else if k = 2 then iS2 else if k = 3 then iS3 else if k = 4 then iS4 else if k = 5 then iS5 else if k = 6 then iS6 else if k = 7 then iS7 else if k = 8 then iS8 else iS9, ?_⟩
    intro k q hq
    match k, hq with
    | 0, hq => cases hq; exact hKn0
    | 1, hq => cases hq; exact hKn1
    | 2, hq => cases hq; exact hKn2
    | 3, hq => cases hq; exact hKn3
    | 4, hq => cases hq; exact hKn4
    | 5, hq => cases hq; exact hKn5
    | 6, hq => cases hq; exact hKn6
    | 7, hq => cases hq; exact hKn7
    | 8, hq => cases hq; exact hKn8
    | 9, hq => cases hq; exact hKn9
    | k + 10, hq => simp [vwCl] at hq
  have hS : va_S (fun q : Nat => s.heap.size ≤ q) s.heap s.heap [] := va_S.rf
  have hK : va_K (dC, dI) vwCl [] s := ⟨hKc, fun k q h => by simp at h⟩
  have hP : va_P (dC, dI) vwCl [] s.heap := fun k q h => by simp at h
  have hD : va_D (fun q : Nat => s.heap.size ≤ q) [] := ⟨fun i j p q h => by simp at h, fun k q h => by simp at h⟩
  have hl := lv_entry ([.ref b]) (n := 7) (Nat.le_of_ble_eq_true rfl)
  rw [lg_entry_eq]
  generalize (lg_sl ([.ref b]) ++ List.replicate (7 - (lg_sl ([.ref b])).length) Slot.unset).toArray = ls at hl ⊢
  have hl : lv_has ls 7 [(0, .ref b)] := hl
  refine va_new (ci := 0) (fs := [.null, .int 0, .int 0, .int 0, .int 0, .null, .null, .null, .null, .null, .null, .null, .null, .null]) (C := "MatroidDesk") (T := px_T0) (N := 14) hx hb htw (fun w h => List.mem_append_right _ (px_in0 w h)) px_ty0 px_tyok0 hown (htw _ (List.mem_append_left _ px_v0)) (htw _ (List.mem_append_right _ px_w7)) (htw _ (List.mem_append_right _ px_w6)) hK hP hD hS hA rfl px_df0 (Nat.le_of_ble_eq_true rfl) (Nat.le_of_ble_eq_true rfl) px_dL_0 (fun q H hP hD hS => ?_)
  have hP : va_P (dC, dI) vwCl [(q, .inr (0, [.null, .int 0, .int 0, .int 0, .int 0, .null, .null, .null, .null, .null, .null, .null, .null, .null]))] H := hP
  have hD : va_D (fun q : Nat => s.heap.size ≤ q) [(q, .inr (0, [.null, .int 0, .int 0, .int 0, .int 0, .null, .null, .null, .null, .null, .null, .null, .null, .null]))] := hD
  refine W.widen (k := 1) (n := 14) (Nat.le_of_ble_eq_true rfl) (Nat.le_of_ble_eq_true rfl) ?_
  refine lv_dup hx hb px_dL_3 rfl ?_
  have hPc := hP.sub (ws' := [(q, .inr (0, [.null, .int 0, .int 0, .int 0, .int 0, .null, .null, .null, .null, .null, .null, .null, .null, .null]))]) [0] rfl
  have hDc := hD.sub (ws' := [(q, .inr (0, [.null, .int 0, .int 0, .int 0, .int 0, .null, .null, .null, .null, .null, .null, .null, .null, .null]))]) [0] (by decide) rfl
  have hKc := hK.sub (tys' := []) [] rfl
  have hFc := va_free (wc := [(q, .inr (0, [.null, .int 0, .int 0, .int 0, .int 0, .null, .null, .null, .null, .null, .null, .null, .null, .null]))]) hD hS hA [0] rfl
  refine va_callv (va_runI (As := []) (rest := [.ref q]) ⟨hx, hb, hml, hown, htw⟩ (px_Desk_init l dC dI H.size q vS) (cwI 0 htw (px_gl px_g7) rfl rfl rfl (htw _ (List.mem_append_right _ px_w6)) (htw _ (List.mem_append_left _ px_v1)) (htw _ (List.mem_append_right _ px_w207)) rfl (by decide +kernel) ⟨Nat.le_of_ble_eq_true rfl, Nat.le_of_ble_eq_true rfl⟩) ⟨fun a U g mk q => by obtain ⟨q0, q1, qP, qK, qD, qN, qE0⟩ := q; exact ⟨q0, q1, qP, va_K.moved (u := U) (U := U.calling g mk a) (Vm.Alike.refl U.vm) qK, qD, qN.same rfl, qE0.moved (U := U.calling g mk a) (Vm.Alike.refl U.vm)⟩, fun U hU hW => ⟨rfl, by rw [hU], by rw [hU]; exact hPc, va_K.moved hW.alike hKc, hDc.weaken (fun _ _ _ _ => trivial), hN.warm hW, by rw [hU]; exact ((hE0.kept (fun a h1 h2 => hS.2.1 a h1 h2)).narrow hFc).moved hW.alike⟩⟩ rfl rfl hl.1 rfl (lv_room (Nat.le_of_ble_eq_true rfl)) px_dL_4 ⟨(Nat.le_of_ble_eq_true rfl), (Nat.le_of_ble_eq_true rfl)⟩) hS (fun q _ h => hFc q h) hFc (fun u t H1 locs ht hvm hw_4 hB hz1 hk1 hS => ?_)
  obtain ⟨q_1, q_2, q_3, q_4, q_5, q_6, q_7, q_8, q_9, q_10, q_11, q_12, cA, cA_1, hP1, hK1, hD1⟩ := hB
  rw [ht] at hP1
  have hK1 := va_K.moved hvm.symm hK1
  obtain ⟨hP, hD⟩ := va_join (wr := []) (w1 := [(q, .inr (0, [.ref q_1, .int 0, .int (-1), .int 0, .int 0, .null, .ref q_2, .ref q_5, .ref q_6, .ref q_7, .ref q_8, .ref q_3, .ref q_9, .ref q_4])), (q_1, .inl (cA, 512, .inl (fun _ => 0))), (q_2, .inl (cA_1, 26, .inr (.inr (.inr (.inr (fun _ => none)))))), (q_3, .inr (5, [.ref q_10, .int 0, .int 0, .int 0, .int 0, .int 0])), (q_4, .inr (7, [.ref q_11, .ref q_12, .int 0, .int 0]))]) hP hD [0] [] rfl rfl (by decide) (by decide) hk1 hFc hP1 hD1
  have hK := hK.app (hK1.sub (tys' := [(cA, .byte), (cA_1, .object "MatroidDesk$Matroid")]) [0, 1] rfl)
  generalize H1 = H at hP hS ⊢
  have hP : va_P (dC, dI) vwCl [(q, .inr (0, [.ref q_1, .int 0, .int (-1), .int 0, .int 0, .null, .ref q_2, .ref q_5, .ref q_6, .ref q_7, .ref q_8, .ref q_3, .ref q_9, .ref q_4])), (q_1, .inl (cA, 512, .inl (fun _ => 0))), (q_2, .inl (cA_1, 26, .inr (.inr (.inr (.inr (fun _ => none)))))), (q_3, .inr (5, [.ref q_10, .int 0, .int 0, .int 0, .int 0, .int 0])), (q_4, .inr (7, [.ref q_11, .ref q_12, .int 0, .int 0]))] H := hP
  have hD : va_D (fun q : Nat => s.heap.size ≤ q) [(q, .inr (0, [.ref q_1, .int 0, .int (-1), .int 0, .int 0, .null, .ref q_2, .ref q_5, .ref q_6, .ref q_7, .ref q_8, .ref q_3, .ref q_9, .ref q_4])), (q_1, .inl (cA, 512, .inl (fun _ => 0))), (q_2, .inl (cA_1, 26, .inr (.inr (.inr (.inr (fun _ => none)))))), (q_3, .inr (5, [.ref q_10, .int 0, .int 0, .int 0, .int 0, .int 0])), (q_4, .inr (7, [.ref q_11, .ref q_12, .int 0, .int 0]))] := hD
  have hK : va_K (dC, dI) vwCl [(cA, .byte), (cA_1, .object "MatroidDesk$Matroid")] s := hK
  refine W.widen (k := 29) (n := 1929) (Nat.le_of_ble_eq_true rfl) (Nat.le_of_ble_eq_true rfl) ?_
  refine lv_astore_n (lv' := [(1, .ref q), (0, .ref b)]) hx hb px_dL_7 rfl hl (by decide) rfl (fun ls hl => ?_)
  refine va_new (ci := 8) (fs := [.null, .null, .null, .null, .null, .null, .null, .null, .null, .null, .int 0, .int 0, .int 0, .null, .null, .null, .null, .null, .null, .null, .null, .null, .null, .null, .null, .null, .null, .null, .null, .null, .null, .null, .int 0, .int 0, .null, .null, .null, .int 0, .int 0, .int 0, .int 0, .int 0, .int 0, .int 0, .null, .null, .null, .int 0, .null, .int 0, .null, .int 0, .int 0]) (C := "MatroidDeskModel") (T := px_T8) (N := 53) hx hb htw (fun w h => List.mem_append_right _ (px_in8 w h)) px_ty8 px_tyok8 hown (htw _ (List.mem_append_left _ px_v2)) (htw _ (List.mem_append_right _ px_w95)) (htw _ (List.mem_append_right _ px_w94)) hK hP hD hS hA rfl px_df8 (Nat.le_of_ble_eq_true rfl) (Nat.le_of_ble_eq_true rfl) px_dL_8 (fun q_13 H hP hD hS => ?_)
  have hP : va_P (dC, dI) vwCl [(q, .inr (0, [.ref q_1, .int 0, .int (-1), .int 0, .int 0, .null, .ref q_2, .ref q_5, .ref q_6, .ref q_7, .ref q_8, .ref q_3, .ref q_9, .ref q_4])), (q_1, .inl (cA, 512, .inl (fun _ => 0))), (q_2, .inl (cA_1, 26, .inr (.inr (.inr (.inr (fun _ => none)))))), (q_3, .inr (5, [.ref q_10, .int 0, .int 0, .int 0, .int 0, .int 0])), (q_4, .inr (7, [.ref q_11, .ref q_12, .int 0, .int 0])), (q_13, .inr (8, [.null, .null, .null, .null, .null, .null, .null, .null, .null, .null, .int 0, .int 0, .int 0, .null, .null, .null, .null, .null, .null, .null, .null, .null, .null, .null, .null, .null, .null, .null, .null, .null, .null, .null, .int 0, .int 0, .null, .null, .null, .int 0, .int 0, .int 0, .int 0, .int 0, .int 0, .int 0, .null, .null, .null, .int 0, .null, .int 0, .null, .int 0, .int 0]))] H := hP
  have hD : va_D (fun q : Nat => s.heap.size ≤ q) [(q, .inr (0, [.ref q_1, .int 0, .int (-1), .int 0, .int 0, .null, .ref q_2, .ref q_5, .ref q_6, .ref q_7, .ref q_8, .ref q_3, .ref q_9, .ref q_4])), (q_1, .inl (cA, 512, .inl (fun _ => 0))), (q_2, .inl (cA_1, 26, .inr (.inr (.inr (.inr (fun _ => none)))))), (q_3, .inr (5, [.ref q_10, .int 0, .int 0, .int 0, .int 0, .int 0])), (q_4, .inr (7, [.ref q_11, .ref q_12, .int 0, .int 0])), (q_13, .inr (8, [.null, .null, .null, .null, .null, .null, .null, .null, .null, .null, .int 0, .int 0, .int 0, .null, .null, .null, .null, .null, .null, .null, .null, .null, .null, .null, .null, .null, .null, .null, .null, .null, .null, .null, .int 0, .int 0, .null, .null, .null, .int 0, .int 0, .int 0, .int 0, .int 0, .int 0, .int 0, .null, .null, .null, .int 0, .null, .int 0, .null, .int 0, .int 0]))] := hD
  refine W.widen (k := 30) (n := 1982) (Nat.le_of_ble_eq_true rfl) (Nat.le_of_ble_eq_true rfl) ?_
  refine lv_dup hx hb px_dL_11 rfl ?_
  have hPc := hP.sub (ws' := [(q_13, .inr (8, [.null, .null, .null, .null, .null, .null, .null, .null, .null, .null, .int 0, .int 0, .int 0, .null, .null, .null, .null, .null, .null, .null, .null, .null, .null, .null, .null, .null, .null, .null, .null, .null, .null, .null, .int 0, .int 0, .null, .null, .null, .int 0, .int 0, .int 0, .int 0, .int 0, .int 0, .int 0, .null, .null, .null, .int 0, .null, .int 0, .null, .int 0, .int 0]))]) [5] rfl
  have hDc := hD.sub (ws' := [(q_13, .inr (8, [.null, .null, .null, .null, .null, .null, .null, .null, .null, .null, .int 0, .int 0, .int 0, .null, .null, .null, .null, .null, .null, .null, .null, .null, .null, .null, .null, .null, .null, .null, .null, .null, .null, .null, .int 0, .int 0, .null, .null, .null, .int 0, .int 0, .int 0, .int 0, .int 0, .int 0, .int 0, .null, .null, .null, .int 0, .null, .int 0, .null, .int 0, .int 0]))]) [5] (by decide) rfl
  have hKc := hK.sub (tys' := []) [] rfl
  have hFc := va_free (wc := [(q_13, .inr (8, [.null, .null, .null, .null, .null, .null, .null, .null, .null, .null, .int 0, .int 0, .int 0, .null, .null, .null, .null, .null, .null, .null, .null, .null, .null, .null, .null, .null, .null, .null, .null, .null, .null, .null, .int 0, .int 0, .null, .null, .null, .int 0, .int 0, .int 0, .int 0, .int 0, .int 0, .int 0, .null, .null, .null, .int 0, .null, .int 0, .null, .int 0, .int 0]))]) hD hS hA [5] rfl
  refine va_callv (va_runI (As := []) (rest := [.ref q_13]) ⟨hx, hb, hml, hown, htw⟩ (px_Model_init l dC dI H.size q_13) (cwI 0 htw (px_gl px_g10) rfl rfl rfl (htw _ (List.mem_append_right _ px_w94)) (htw _ (List.mem_append_left _ px_v3)) (htw _ (List.mem_append_right _ px_w247)) rfl (by decide +kernel) ⟨Nat.le_of_ble_eq_true rfl, Nat.le_of_ble_eq_true rfl⟩) ⟨fun a U g mk q => by obtain ⟨q0, q1, qP, qK, qD, qN⟩ := q; exact ⟨q0, q1, qP, va_K.moved (u := U) (U := U.calling g mk a) (Vm.Alike.refl U.vm) qK, qD, qN.same rfl⟩, fun U hU hW => ⟨rfl, by rw [hU], by rw [hU]; exact hPc, va_K.moved hW.alike hKc, hDc.weaken (fun _ _ _ _ => trivial), hN.warm hW⟩⟩ rfl rfl hl.1 rfl (lv_room (Nat.le_of_ble_eq_true rfl)) px_dL_12 ⟨(Nat.le_of_ble_eq_true rfl), (Nat.le_of_ble_eq_true rfl)⟩) hS (fun q _ h => hFc q h) hFc (fun u t H1 locs ht hvm hw_12 hB hz1 hk1 hS => ?_)
  obtain ⟨fs, q_14, q_15, q_16, q_17, hP1, hK1, hD1, hF12_0⟩ := hB
  rw [ht] at hP1
  have hK1 := va_K.moved hvm.symm hK1
  obtain ⟨hP, hD⟩ := va_join (wr := [(q, .inr (0, [.ref q_1, .int 0, .int (-1), .int 0, .int 0, .null, .ref q_2, .ref q_5, .ref q_6, .ref q_7, .ref q_8, .ref q_3, .ref q_9, .ref q_4])), (q_1, .inl (cA, 512, .inl (fun _ => 0))), (q_2, .inl (cA_1, 26, .inr (.inr (.inr (.inr (fun _ => none)))))), (q_3, .inr (5, [.ref q_10, .int 0, .int 0, .int 0, .int 0, .int 0])), (q_4, .inr (7, [.ref q_11, .ref q_12, .int 0, .int 0]))]) (w1 := [(q_13, .inr (8, fs)), (q_14, .inl (q_16, 26, .inl (fun _ => 0))), (q_15, .inl (q_17, 16384, .inl (fun _ => 0)))]) hP hD [5] [0, 1, 2, 3, 4] rfl rfl (by decide) (by decide) hk1 hFc hP1 hD1
  have hK := hK.app (hK1.sub (tys' := [(q_16, .boolean), (q_17, .byte)]) [0, 1] rfl)
  generalize H1 = H at hP hS ⊢
  have hP : va_P (dC, dI) vwCl [(q, .inr (0, [.ref q_1, .int 0, .int (-1), .int 0, .int 0, .null, .ref q_2, .ref q_5, .ref q_6, .ref q_7, .ref q_8, .ref q_3, .ref q_9, .ref q_4])), (q_1, .inl (cA, 512, .inl (fun _ => 0))), (q_2, .inl (cA_1, 26, .inr (.inr (.inr (.inr (fun _ => none)))))), (q_3, .inr (5, [.ref q_10, .int 0, .int 0, .int 0, .int 0, .int 0])), (q_4, .inr (7, [.ref q_11, .ref q_12, .int 0, .int 0])), (q_13, .inr (8, fs)), (q_14, .inl (q_16, 26, .inl (fun _ => 0))), (q_15, .inl (q_17, 16384, .inl (fun _ => 0)))] H := hP
  have hD : va_D (fun q : Nat => s.heap.size ≤ q) [(q, .inr (0, [.ref q_1, .int 0, .int (-1), .int 0, .int 0, .null, .ref q_2, .ref q_5, .ref q_6, .ref q_7, .ref q_8, .ref q_3, .ref q_9, .ref q_4])), (q_1, .inl (cA, 512, .inl (fun _ => 0))), (q_2, .inl (cA_1, 26, .inr (.inr (.inr (.inr (fun _ => none)))))), (q_3, .inr (5, [.ref q_10, .int 0, .int 0, .int 0, .int 0, .int 0])), (q_4, .inr (7, [.ref q_11, .ref q_12, .int 0, .int 0])), (q_13, .inr (8, fs)), (q_14, .inl (q_16, 26, .inl (fun _ => 0))), (q_15, .inl (q_17, 16384, .inl (fun _ => 0)))] := hD
  have hK : va_K (dC, dI) vwCl [(cA, .byte), (cA_1, .object "MatroidDesk$Matroid"), (q_16, .boolean), (q_17, .byte)] s := hK
  refine W.widen (k := 459) (n := 449507) (Nat.le_of_ble_eq_true rfl) (Nat.le_of_ble_eq_true rfl) ?_
  refine lv_astore_n (lv' := [(2, .ref q_13), (1, .ref q), (0, .ref b)]) hx hb px_dL_15 rfl hl (by decide) rfl (fun ls hl => ?_)
  refine lv_iconst (v := 1) hx hb px_dL_16 (by decide) ?_
  refine va_newa (atype := .long) (ty := .long) (n := 1) (N' := 1) (a0 := (1, .inr (.inl (fun _ => 0)))) hx hb (htw _ (List.mem_append_right _ px_w4)) rfl hK hP hD hS hA (fun _ => rfl) (by decide +kernel) (by decide +kernel) (by decide +kernel) (Nat.le_of_ble_eq_true rfl) (Nat.le_of_ble_eq_true rfl) px_dL_17 (fun q_18 cA_2 H hK hP hD hS => ?_)
  have hP : va_P (dC, dI) vwCl [(q, .inr (0, [.ref q_1, .int 0, .int (-1), .int 0, .int 0, .null, .ref q_2, .ref q_5, .ref q_6, .ref q_7, .ref q_8, .ref q_3, .ref q_9, .ref q_4])), (q_1, .inl (cA, 512, .inl (fun _ => 0))), (q_2, .inl (cA_1, 26, .inr (.inr (.inr (.inr (fun _ => none)))))), (q_3, .inr (5, [.ref q_10, .int 0, .int 0, .int 0, .int 0, .int 0])), (q_4, .inr (7, [.ref q_11, .ref q_12, .int 0, .int 0])), (q_13, .inr (8, fs)), (q_14, .inl (q_16, 26, .inl (fun _ => 0))), (q_15, .inl (q_17, 16384, .inl (fun _ => 0))), (q_18, .inl (cA_2, 1, .inr (.inl (fun _ => 0))))] H := hP
  have hD : va_D (fun q : Nat => s.heap.size ≤ q) [(q, .inr (0, [.ref q_1, .int 0, .int (-1), .int 0, .int 0, .null, .ref q_2, .ref q_5, .ref q_6, .ref q_7, .ref q_8, .ref q_3, .ref q_9, .ref q_4])), (q_1, .inl (cA, 512, .inl (fun _ => 0))), (q_2, .inl (cA_1, 26, .inr (.inr (.inr (.inr (fun _ => none)))))), (q_3, .inr (5, [.ref q_10, .int 0, .int 0, .int 0, .int 0, .int 0])), (q_4, .inr (7, [.ref q_11, .ref q_12, .int 0, .int 0])), (q_13, .inr (8, fs)), (q_14, .inl (q_16, 26, .inl (fun _ => 0))), (q_15, .inl (q_17, 16384, .inl (fun _ => 0))), (q_18, .inl (cA_2, 1, .inr (.inl (fun _ => 0))))] := hD
  have hK : va_K (dC, dI) vwCl [(cA, .byte), (cA_1, .object "MatroidDesk$Matroid"), (q_16, .boolean), (q_17, .byte), (cA_2, .long)] s := hK
  refine W.widen (k := 460) (n := 449508) (Nat.le_of_ble_eq_true rfl) (Nat.le_of_ble_eq_true rfl) ?_
  refine lv_astore_n (lv' := [(3, .ref q_18), (2, .ref q_13), (1, .ref q), (0, .ref b)]) hx hb px_dL_19 rfl hl (by decide) rfl (fun ls hl => ?_)
  refine lv_iconst (v := 0) hx hb px_dL_20 (by decide) ?_
  refine lv_istore (lv' := [(4, .int 0), (3, .ref q_18), (2, .ref q_13), (1, .ref q), (0, .ref b)]) hx hb px_dL_21 hl (by decide) rfl (fun ls hl => ?_)
  have hP := hP.sub (ws' := [(q, .inr (0, [.ref q_1, .int 0, .int (-1), .int 0, .int 0, .null, .ref q_2, .ref q_5, .ref q_6, .ref q_7, .ref q_8, .ref q_3, .ref q_9, .ref q_4])), (q_1, .inl (cA, 512, .inl (fun _ => 0))), (q_2, .inl (cA_1, 26, .inr (.inr (.inr (.inr (fun _ => none)))))), (q_3, .inr (5, [.ref q_10, .int 0, .int 0, .int 0, .int 0, .int 0])), (q_4, .inr (7, [.ref q_11, .ref q_12, .int 0, .int 0])), (q_13, .inr (8, fs)), (q_14, .inl (q_16, 26, .inl (fun _ => 0))), (q_15, .inl (q_17, 16384, .inl (fun _ => 0))), (q_18, .inl (cA_2, 1, .inr (.inl (fun _ => 0))))]) [0, 1, 2, 3, 4, 5, 6, 7, 8] rfl
  have hD := hD.sub (ws' := [(q, .inr (0, [.ref q_1, .int 0, .int (-1), .int 0, .int 0, .null, .ref q_2, .ref q_5, .ref q_6, .ref q_7, .ref q_8, .ref q_3, .ref q_9, .ref q_4])), (q_1, .inl (cA, 512, .inl (fun _ => 0))), (q_2, .inl (cA_1, 26, .inr (.inr (.inr (.inr (fun _ => none)))))), (q_3, .inr (5, [.ref q_10, .int 0, .int 0, .int 0, .int 0, .int 0])), (q_4, .inr (7, [.ref q_11, .ref q_12, .int 0, .int 0])), (q_13, .inr (8, fs)), (q_14, .inl (q_16, 26, .inl (fun _ => 0))), (q_15, .inl (q_17, 16384, .inl (fun _ => 0))), (q_18, .inl (cA_2, 1, .inr (.inl (fun _ => 0))))]) [0, 1, 2, 3, 4, 5, 6, 7, 8] (by decide) rfl
  have hK := hK.sub (tys' := [(cA, .byte), (cA_1, .object "MatroidDesk$Matroid"), (q_16, .boolean), (q_17, .byte), (cA_2, .long)]) [0, 1, 2, 3, 4] rfl
  rcases Nat.lt_or_ge L 6 with hlt | hge
  · refine lv_iload hx hb px_dL_23 (lv_at hl 0 rfl) ?_
    refine lv_aload_n hx hb px_dL_25 rfl (lv_at hl 4 rfl) ?_
    refine va_slen hx hb hX hbl hbA hS px_dL_26 ?_
    refine lv_bipush (v := 6) hx hb px_dL_27 (by decide) ?_
    refine lv_isub hx hb px_dL_29 ?_
    refine lv_icmp_gt (tgt := 923) hx hb px_dL_30 (by decide) (fun _ => ?_) (fun h9 => absurd (show nI L - nI 6 < 0 from pk_sneg (by decide) hlt) h9)
    refine lv_iconst (v := 1) hx hb px_dL_923 (by decide) ?_
    refine va_forget (fun q hq => hS.2.2 q hq) ?_
    refine W.widen (k := 600002) (n := 7302232) (by omega) (by omega) ?_
    exact lw_ret hx hb hr hlocks px_dL_924
  · have hL6 : L = 6 := by omega
    subst hL6
    refine lv_iload hx hb px_dL_23 (lv_at hl 0 rfl) ?_
    refine lv_aload_n hx hb px_dL_25 rfl (lv_at hl 4 rfl) ?_
    refine va_slen hx hb hX hbl hbA hS px_dL_26 ?_
    refine lv_bipush (v := 6) hx hb px_dL_27 (by decide) ?_
    refine lv_isub hx hb px_dL_29 ?_
    refine lv_topi (nm_r (e' := (0 : Int32)) (by decide +kernel) ?_)
    refine lv_icmp_gt (tgt := 923) hx hb px_dL_30 (by decide) (fun h9 => absurd h9 (by decide +kernel)) (fun _ => ?_)
    refine lv_aload_n hx hb px_dL_33 rfl (lv_at hl 4 rfl) ?_
    refine lv_iload hx hb px_dL_34 (lv_at hl 0 rfl) ?_
    refine va_sld hx hb hX hbl hbA hS (show vp_in (nI 0) 6 from vp_in_nI (by decide) (by decide)) px_dL_36 ?_
    refine lv_topi (nm_r (e' := xs 0) (congrArg xs (by decide +kernel)) ?_)
    refine lv_bipush (v := 31) hx hb px_dL_37 (by decide) ?_
    obtain ⟨j, hj, ej⟩ := pk_andE (xs 0) (m := 31) 5 (by decide +kernel)
    refine lv_iand hx hb px_dL_39 ?_
    refine lv_topi (nm_r (e' := nI j) ej ?_)
    have hl := lv_sub hl (l' := [(4, .int 0), (3, .ref q_18), (2, .ref q_13), (1, .ref q), (0, .ref b)]) [0, 1, 2, 3, 4] rfl
    rcases Nat.lt_or_ge j 22 with hj2 | hj2
    · rcases (show j = 0 ∨ j = 1 ∨ j = 2 ∨ j = 3 ∨ j = 4 ∨ j = 5 ∨ j = 6 ∨ j = 7 ∨ j = 8 ∨ j = 9 ∨ j = 10 ∨ j = 11 ∨ j = 12 ∨ j = 13 ∨ j = 14 ∨ j = 15 ∨ j = 16 ∨ j = 17 ∨ j = 18 ∨ j = 19 ∨ j = 20 ∨ j = 21 by omega) with rfl | rfl | rfl | rfl | rfl | rfl | rfl | rfl | rfl | rfl | rfl | rfl | rfl | rfl | rfl | rfl | rfl | rfl | rfl | rfl | rfl | rfl
      · refine lv_tableIn (off := 104) (tgt := 144) hx hb px_dL_40 (by decide +kernel) (by decide +kernel) (by decide +kernel) (by decide) ?_
        exact px_case0 C0 hK hP hD hS hN hF12_0 hl
      · refine lv_tableIn (off := 188) (tgt := 228) hx hb px_dL_40 (by decide +kernel) (by decide +kernel) (by decide +kernel) (by decide) ?_
        by_cases hz : xs 1 = 0
        · exact px_case1z C0 hz hK hP hD hS hN hF12_0 hl
        · exact px_case1n C0 htr hz hX9 hH9 hZ9 hK hP hD hS hN hF12_0 hl
      · refine lv_tableIn (off := 244) (tgt := 284) hx hb px_dL_40 (by decide +kernel) (by decide +kernel) (by decide +kernel) (by decide) ?_
        exact px_case2 C0 hK hP hD hS hN hF12_0 hl
      · refine lv_tableIn (off := 257) (tgt := 297) hx hb px_dL_40 (by decide +kernel) (by decide +kernel) (by decide +kernel) (by decide) ?_
        exact px_case3 C0 hK hP hD hS hN hF12_0 hl
      · refine lv_tableIn (off := 270) (tgt := 310) hx hb px_dL_40 (by decide +kernel) (by decide +kernel) (by decide +kernel) (by decide) ?_
        exact px_case4 C0 hK hP hD hS hN hF12_0 hl
      · refine lv_tableIn (off := 283) (tgt := 323) hx hb px_dL_40 (by decide +kernel) (by decide +kernel) (by decide +kernel) (by decide) ?_
        exact px_case5 C0 hK hP hD hS hN hF12_0 hl
      · refine lv_tableIn (off := 296) (tgt := 336) hx hb px_dL_40 (by decide +kernel) (by decide +kernel) (by decide +kernel) (by decide) ?_
        exact px_case6 C0 hK hP hD hS hN hF12_0 hl
      · refine lv_tableIn (off := 321) (tgt := 361) hx hb px_dL_40 (by decide +kernel) (by decide +kernel) (by decide +kernel) (by decide) ?_
        exact px_case7 C0 hK hP hD hS hN hF12_0 hl
      · refine lv_tableIn (off := 346) (tgt := 386) hx hb px_dL_40 (by decide +kernel) (by decide +kernel) (by decide +kernel) (by decide) ?_
        exact px_case8 C0 hK hP hD hS hN hF12_0 hl
      · refine lv_tableIn (off := 371) (tgt := 411) hx hb px_dL_40 (by decide +kernel) (by decide +kernel) (by decide +kernel) (by decide) ?_
        exact px_case9 C0 hK hP hD hS hN hF12_0 hl
      · refine lv_tableIn (off := 408) (tgt := 448) hx hb px_dL_40 (by decide +kernel) (by decide +kernel) (by decide +kernel) (by decide) ?_
        exact px_case10 C0 hK hP hD hS hN hF12_0 hl
      · refine lv_tableIn (off := 445) (tgt := 485) hx hb px_dL_40 (by decide +kernel) (by decide +kernel) (by decide +kernel) (by decide) ?_
        exact px_case11 C0 hK hP hD hS hN hF12_0 hl
      · refine lv_tableIn (off := 494) (tgt := 534) hx hb px_dL_40 (by decide +kernel) (by decide +kernel) (by decide +kernel) (by decide) ?_
        exact px_case12 C0 hK hP hD hS hN hF12_0 hl
      · refine lv_tableIn (off := 544) (tgt := 584) hx hb px_dL_40 (by decide +kernel) (by decide +kernel) (by decide +kernel) (by decide) ?_
        exact px_case13 C0 hK hP hD hS hN hF12_0 hl
      · refine lv_tableIn (off := 581) (tgt := 621) hx hb px_dL_40 (by decide +kernel) (by decide +kernel) (by decide +kernel) (by decide) ?_
        exact px_case14 C0 hK hP hD hS hN hF12_0 hl
      · refine lv_tableIn (off := 606) (tgt := 646) hx hb px_dL_40 (by decide +kernel) (by decide +kernel) (by decide +kernel) (by decide) ?_
        exact px_case15 C0 hK hP hD hS hN hF12_0 hl
      · refine lv_tableIn (off := 643) (tgt := 683) hx hb px_dL_40 (by decide +kernel) (by decide +kernel) (by decide +kernel) (by decide) ?_
        exact px_case16 C0 hK hP hD hS hN hF12_0 hl
      · refine lv_tableIn (off := 680) (tgt := 720) hx hb px_dL_40 (by decide +kernel) (by decide +kernel) (by decide +kernel) (by decide) ?_
        exact px_case17 C0 hK hP hD hS hN hF12_0 hl
      · refine lv_tableIn (off := 717) (tgt := 757) hx hb px_dL_40 (by decide +kernel) (by decide +kernel) (by decide +kernel) (by decide) ?_
        exact px_case18 C0 hK hP hD hS hN hF12_0 hl
      · refine lv_tableIn (off := 754) (tgt := 794) hx hb px_dL_40 (by decide +kernel) (by decide +kernel) (by decide +kernel) (by decide) ?_
        exact px_case19 C0 hK hP hD hS hN hF12_0 hl
      · refine lv_tableIn (off := 791) (tgt := 831) hx hb px_dL_40 (by decide +kernel) (by decide +kernel) (by decide +kernel) (by decide) ?_
        exact px_case20 C0 hK hP hD hS hN hF12_0 hl
      · refine lv_tableIn (off := 828) (tgt := 868) hx hb px_dL_40 (by decide +kernel) (by decide +kernel) (by decide +kernel) (by decide) ?_
        exact px_case21 C0 hK hP hD hS hN hF12_0 hl
    · refine lv_tableOut (tgt := 917) hx hb px_dL_40 (Or.inr (by rw [nI_toInt (by omega)]; omega)) (by decide) ?_
      exact px_tail C0 (by decide) (by decide) hS (lv_sub hl [0, 4] rfl)
-- ===== YOUR PART ENDS =====
set_option maxHeartbeats 4000000 in
theorem lw_walk (l : Launch) (htr : l.stackTraces = false) (b : Addr) (xs : List Int32) : MetFree l x (headSpec (Jvm.Cond.code x code maxLocals ret :: tables_1) room_1) (lw_P b xs) (fun _ _ _ _ _ => True) lw_Q := by
  refine MetFree.of_bodyS (code := code) (maxLocals := maxLocals) (ret := ret) (by decide) ?_ ?_
  · intro args s m h hn
    obtain ⟨meth, c, h1, h2, h3, h4, h5, h6, -, -⟩ := Cond.code_spec hn (atoms_spec (ws := Jvm.Cond.code x code maxLocals ret :: tables_1) h _ List.mem_cons_self)
    exact ⟨meth, c, h1, h2, h3, h4, h5, h6⟩
  · intro p e s m args below meth c s₁ B hml0 hP _
    obtain ⟨rfl, hx, hbd, hgv⟩ := hP
    obtain ⟨scr, harrAt, hlist, hof, hsmall⟩ := hx
    obtain ⟨hcb, hkn, -, -⟩ := State.arrayAt?_spec harrAt
    have hown : s.vm.findClass R_law = some m.cls := findClass_of_methodNamed B.named
    have hts0 : ∀ c ∈ (Jvm.Cond.code x code maxLocals ret :: tables_1), c.before #[Value.ref b] s = true := atoms_spec (ws := Jvm.Cond.code x code maxLocals ret :: tables_1) B.pre
    have hts : ∀ w ∈ lw_tbl, w.before #[Value.ref b] s = true := k2_hts_sels lw_privs (fun w hw => hts0 w (List.mem_cons_of_mem _ hw)) lw_privs_ok
    have hml : c.maxLocals = 7 := B.maxLocals_eq (hts0 _ List.mem_cons_self)
    have X₀ : Stand p l e room_1 s m #[Value.ref b] below meth c s₁ [] 0 0 := Stand.of_body B
    have hh0 : s₁.heap = s.heap := by rw [B.state]; rfl
    have hsz : scr.slots.size = xs.length := by rw [← Array.length_toList, hlist, List.length_map]
    have hval : ∀ j : Nat, j < xs.length → scr.slots[j]? = some (.int (xs.getD j 0)) := fun j hj => by
      rw [← Array.getElem?_toList, hlist]
      simp [hj]
    have hbl : b < s.heap.size := (Array.getElem?_eq_some_iff.mp hcb).1
    have hX : va_X b xs.length (fun j => xs.getD j 0) s s.heap := ⟨scr, hcb, hof, hkn, hsz, hval⟩
    have K : W p l e room_1 s m #[Value.ref b] below meth c s₁.heap [] 0 0 (lw_Z below #[Value.ref b] s) (entryFrame m ([Value.ref b] : List Value).toArray 7) := by
      rw [hh0]
      exact whole_start l htr hbd ⟨B.exec, B.bytes, B.returns, hml, hown, hts, hX, hbl, B.notSynchronized, hgv⟩
    obtain ⟨t, a1, o, b1, b2, b3⟩ := K s₁ rfl X₀
    exact ⟨t, o, a1, b1, b2, b3⟩
theorem lw_pre_spec {args : Array Value} {s : State} (h : (Jvm.Cond.and given_1 narrow_1).before args s = true) (hr : rest_1_c.before args s = true) : ∃ (b : Addr) (xs : List Int32), lw_P b xs args s := by
  have hs := flat_of_before _ h
  have hq := flat_of_before _ hr
  have hc : (Cond.count 1).before args s = true := hs _ (by decide +kernel)
  have harr : (Cond.arrayOf (.arg 0) .int).before args s = true := hs _ (by decide +kernel)
  have hle : (Cond.le (.length (.arg 0)) (.int 6)).before args s = true := hs _ (by decide +kernel)
  have hlen : (Cond.isInt (.length (.arg 0))).before args s = true := hq _ (by decide +kernel)
  have hall : (Cond.all (.arg 0) (.isInt (.elem (.arg 0) (.index 0)))).before args s = true := hq _ (by decide +kernel)
  obtain ⟨b, xs, hb, hx⟩ := State.ints_of_pre rfl harr hlen hall
  have hsm : xs.length < 2 ^ 31 := hx.choose_spec.2.2.2
  have hev : (Term.length (.arg 0)).eval args s none [] s = some (.int xs.length.toInt32) := hx.length_eval hb
  have hv := Cond.le_ints hev (show (Term.int 6).eval args s none [] s = some (.int 6) from rfl)
  have hd : xs.length.toInt32 ≤ 6 := by
    simpa [Cond.before, Cond.holds, hv] using hle
  have hN : xs.length ≤ 6 := (Int32.ofNat_le_ofNat hsm (by decide)).mp (show Int32.ofNat xs.length ≤ Int32.ofNat 6 from hd)
  exact ⟨b, xs, Cond.one_arg hc (show args[0]? = some (.ref b) from hb), hx, hN, h⟩
theorem lw_comes (l : Launch) (htr : l.stackTraces = false) : Comes l x (Jvm.Cond.code x code maxLocals ret :: tables_1) room_1 (fun tb e args s => Calls_1 tb e args s ∧ rest_1 tb e args s ∧ Pre_1 tb e args s)
    (fun _ _ args s o t => lw_Q args s o t) := by
  intro p e ha hc hk s m args below hf hfit hheap happ hpre
  obtain ⟨b, xs, hP⟩ := lw_pre_spec hpre.2.2 hpre.2.1
  obtain ⟨k, o, h1, h2, h3, hQ⟩ := lw_walk l htr b xs p e ha hc hk s m args below hf ((Spec.applies_iff_loose hf).mp happ).1 hP trivial
  exact ⟨k, o, h1, h2, h3, hQ⟩
theorem lw_frame {s t : State} {o : Outcome} {args : Array Value} (h : Framed s o t [] 600002 7302232) :
    Framed s o t (fieldLocs frame_1_writes args s ++ arrayLocs frame_1_arrays args s ++ staticLocs frame_1_statics s) 600002 7302232 := h
theorem lw_limb (L : Cond) (hL : ∀ (args : Array Value) (s t : State), L.after args s (.returned (some (.int 1))) t = true) :
    ArmFor flags0 classFile x code maxLocals ret World_1 tables_1 room_1 Calls_1 rest_1 Pre_1
      (fun tb e a s o t => postC L tb e a s o t ∧ Framed s o t (fieldLocs frame_1_writes a s ++ arrayLocs frame_1_arrays a s ++ staticLocs frame_1_statics s) 600002 7302232) := by
  intro l hfg _ _ p e ha hc hk s m args below hf hfit hheap happ hpre
  have htr : l.stackTraces = false := by rw [show l.stackTraces = !l.flags.contains noTraceFlag from rfl, hfg]; decide +kernel
  obtain ⟨k, o, h1, h2, h3, rfl, hF⟩ := lw_comes l htr p e ha hc hk s m args below hf hfit hheap happ hpre
  exact ⟨k, _, h1, h2, h3, hL args s _, lw_frame hF⟩
theorem i_vc : Claimed_1_1 ∧ Claimed_1_2 := ⟨lw_limb limb_1_1 (fun args s t => by simp [limb_1_1, Cond.after, Cond.holds, Cond.value]), lw_limb limb_1_2 (fun args s t => Cond.after_iff.mpr (by
  first | (rw [show limb_1_2 = Cond.eq .result (.int 1) from rfl, Cond.eq_ints (x := 1) (y := 1) rfl rfl]; simp; done) | (simp [limb_1_2, Cond.value, Term.eval]; done)))⟩
