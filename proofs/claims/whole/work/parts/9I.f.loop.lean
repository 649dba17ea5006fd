theorem px_gt {L k : Nat} (hL : L ≤ 3072) (hk : k ≤ 512) : (nI L - 6 < nI (6 * k)) ↔ L < 6 * k + 6 := by
  by_cases q : L < 6
  · refine ⟨fun _ => by omega, fun _ => ?_⟩
    have h1 : nI L - nI 6 < 0 := pk_sneg (by decide) q
    have h2 : ¬ nI (6 * k) < 0 := nI_pos (by omega)
    rw [Int32.lt_iff_toInt_lt] at h1 h2 ⊢
    have h3 : (nI L - 6).toInt = (nI L - nI 6).toInt := rfl
    omega
  · have e : nI L - 6 = nI (L - 6) := by
      show nI L - nI 6 = nI (L - 6)
      rw [show nI L = nI (L - 6) + nI 6 by rw [nI_add, Nat.sub_add_cancel (by omega)]]
      exact Int32.add_sub_cancel _ _
    rw [e, nI_ltI (by omega) (by omega)]
    omega
set_option maxHeartbeats 8000000 in
set_option maxRecDepth 100000 in
/-- THE LOOP OF THE LAW -/
theorem px_loop {p : Program} {e : Env} {s : State} {m : MethodId} {below : List Frame} {meth : Method} {c : Code} {l : Launch} {b L : Nat} {xs : Nat → Int32} (C0 : lw_At p s m meth c b L xs) (hL : L ≤ 3072) {dC : Nat → ClassId} {dI : Nat → Nat → Nat} {adK adV : Nat → Nat} {bo : Option Nat} {adB : Nat → Nat} {tA tS h_d q_ms q_e h_m h_w h_t h_s h_p ho q_t h1 h2 h3 h4 q_i q_p q_q q_n q_d : Nat} {cc : px_CC} {c_ms : ClassId} {h0 : Nat} {rf hh qq : Nat → Nat} {cN c_work c_small c_pivots c_freeRows c_freeColumns c_minor c_smallMinor c_there c_elements c_fields c_ranks c_kept c_keptSmall c_weights c_rankOf c_signOf c_order c_sizes c_coefficients c_choices c_sorted c_images c_others c_text c_list c_saved c_sheet c_decimals c_came : ClassId} {r_o : Nat} {c_l : ClassId} (hK : va_K (dC, dI) vwCl [(cc.2.1, .int), (cc.2.2.2.1, .byte), (cc.2.2.2.2, .long), (cc.1, .object "MatroidDesk$Part"), (cc.2.2.1, (.array .int)), (c_ms, .object "MatroidDesk$Matroid"), (c_l, .long), (c_work, .object "MatroidDeskModel$Num"), (c_small, .int), (c_pivots, .int), (c_freeRows, .int), (c_freeColumns, .int), (c_minor, .object "MatroidDeskModel$Num"), (c_smallMinor, .int), (c_there, .boolean), (c_elements, .int), (c_fields, .int), (c_ranks, .int), (c_kept, .int), (c_keptSmall, .int), (c_weights, .int), (c_rankOf, .byte), (c_signOf, .byte), (c_order, .int), (c_sizes, .int), (c_coefficients, .long), (c_choices, .long), (c_sorted, .int), (c_images, .int), (c_others, .int), (c_text, .byte), (c_list, .int), (c_saved, .int), (c_sheet, .byte), (c_decimals, .byte), (c_came, .byte), (cN, .int)] s) (hN : px_N s) (hE : px_E adK adV bo adB tA tS (fun q : Nat => s.heap.size ≤ q) s s.heap) (hAI : px_AI s) {tq : Nat} (htr : l.stackTraces = false) (hX9 : px_X s) (hH9 : px_H s) (hZ9 : vk_R "MatroidDesk" 105 "not so many bytes came in" tq s) : ∀ (j k : Nat) (q_y n_ly : Nat) (d_fed d_refusedAt d_reason d_stamps : Int32) (d_spare : Option Nat) (d_lm : Nat → Option Nat) (g_e : Nat → Int32) (q_o l_o : Nat) (o_reached : Int32) (g_o g_t : Nat → Int32) (q_l q_m q_h l_l l_m l_h : Nat) (m_field m_size m_height : Int32) (m_loaded : Option Nat) (g_l g_m g_h : Nat → Int64) (w1_low w1_middle w1_high w2_low w2_middle w2_high w3_low w3_middle w3_high w4_low w4_middle w4_high : Int64) (q_k q_r q_g l_k l_r l_g : Nat) (v_host v_guest : Option Nat) (v_hostStamp v_guestStamp v_guestBases v_found v_keptSet v_lost v_contractedSet v_deletedSet v_taken : Int32) (g_i g_p g_q g_k g_r g_g : Nat → Int32) (q_s : Nat) (t_length t_behind t_start t_kind t_value : Int32) (g_y : Nat → Int32) (s_verb : Nat) (s_target s_first s_second s_field s_head s_next s_many s_rows s_even : Int32) (g_n : Nat → Int32) (q_b l_b : Nat) (p_length p_full : Int32) (g_b g_d : Nat → Int32) (mm : Nat → px_MR) (cm np ns : Nat) (hm pa sa : Nat → Nat) (pp : Nat → px_PR) (ss : Nat → px_SR) (g_ot : Nat → Int64) (iv g_small g_pivots g_freeRows g_freeColumns g_smallMinor g_there g_elements g_fields g_ranks g_kept g_keptSmall g_weights g_rankOf g_signOf g_order g_sizes : Nat → Int32) (g_coefficients g_choices : Nat → Int64) (g_sorted g_images g_others g_text g_list g_saved g_sheet g_decimals g_came : Nat → Int32) (nv : Nat → px_NV) (kc ks : Nat) (H : Heap) (locs : List Loc) (ls : Array Slot), k + j = 512 → va_P (dC, dI) vwCl (((px_CX h_d q_y d_fed d_refusedAt d_reason d_stamps hm d_spare q_ms q_e ho h_m h_w h_t h_s h_p c_ms d_lm cc g_e q_o q_t o_reached l_o g_o g_t h1 h2 h3 h4 q_l q_m q_h m_field m_size m_height m_loaded l_l g_l l_m g_m l_h g_h w1_low w1_middle w1_high w2_low w2_middle w2_high w3_low w3_middle w3_high w4_low w4_middle w4_high q_i q_p q_q q_k q_r q_g v_host v_guest v_hostStamp v_guestStamp v_guestBases v_found v_keptSet v_lost v_contractedSet v_deletedSet v_taken g_i g_p g_q l_k g_k l_r g_r l_g g_g q_s t_length t_behind t_start t_kind t_value n_ly g_y q_n adB s_verb s_target s_first s_second s_field s_head s_next s_many s_rows s_even g_n q_b q_d p_length p_full l_b g_b g_d r_o c_l g_ot) ++ px_cp cc ho cm np ns hm pa sa mm pp ss) ++ ((px_RX h0 hh rf iv c_work c_small g_small c_pivots g_pivots c_freeRows g_freeRows c_freeColumns g_freeColumns c_minor c_smallMinor g_smallMinor c_there g_there c_elements g_elements c_fields g_fields c_ranks g_ranks c_kept g_kept c_keptSmall g_keptSmall c_weights g_weights c_rankOf g_rankOf c_signOf g_signOf c_order g_order c_sizes g_sizes c_coefficients g_coefficients c_choices g_choices c_sorted g_sorted c_images g_images c_others g_others c_text g_text c_list g_list c_saved g_saved c_sheet g_sheet c_decimals g_decimals c_came g_came) ++ px_np hh qq cN nv)) H → va_D (fun q : Nat => s.heap.size ≤ q) (((px_CX h_d q_y d_fed d_refusedAt d_reason d_stamps hm d_spare q_ms q_e ho h_m h_w h_t h_s h_p c_ms d_lm cc g_e q_o q_t o_reached l_o g_o g_t h1 h2 h3 h4 q_l q_m q_h m_field m_size m_height m_loaded l_l g_l l_m g_m l_h g_h w1_low w1_middle w1_high w2_low w2_middle w2_high w3_low w3_middle w3_high w4_low w4_middle w4_high q_i q_p q_q q_k q_r q_g v_host v_guest v_hostStamp v_guestStamp v_guestBases v_found v_keptSet v_lost v_contractedSet v_deletedSet v_taken g_i g_p g_q l_k g_k l_r g_r l_g g_g q_s t_length t_behind t_start t_kind t_value n_ly g_y q_n adB s_verb s_target s_first s_second s_field s_head s_next s_many s_rows s_even g_n q_b q_d p_length p_full l_b g_b g_d r_o c_l g_ot) ++ px_cp cc ho cm np ns hm pa sa mm pp ss) ++ ((px_RX h0 hh rf iv c_work c_small g_small c_pivots g_pivots c_freeRows g_freeRows c_freeColumns g_freeColumns c_minor c_smallMinor g_smallMinor c_there g_there c_elements g_elements c_fields g_fields c_ranks g_ranks c_kept g_kept c_keptSmall g_keptSmall c_weights g_weights c_rankOf g_rankOf c_signOf g_signOf c_order g_order c_sizes g_sizes c_coefficients g_coefficients c_choices g_choices c_sorted g_sorted c_images g_images c_others g_others c_text g_text c_list g_list c_saved g_saved c_sheet g_sheet c_decimals g_decimals c_came g_came) ++ px_np hh qq cN nv)) → va_S (fun q : Nat => s.heap.size ≤ q) s.heap H locs → lv_has ls 7 [(4, .int (nI (6 * k))), (3, .ref r_o), (2, .ref h0), (1, .ref h_d), (0, .ref b)] → z_I k kc ks d_fed d_refusedAt d_reason d_stamps d_spare d_lm n_ly g_y l_o o_reached g_o g_t l_l l_m l_h m_field m_size m_height m_loaded g_l g_m g_h l_k l_r l_g v_host v_guest v_hostStamp v_guestStamp v_found v_contractedSet v_deletedSet g_i s_verb l_b p_length p_full g_b mm cm np ns sa pp ss iv g_there g_elements g_fields g_ranks g_kept g_keptSmall g_weights g_rankOf g_signOf g_order g_sizes g_sheet g_came nv → W p l e room_1 s m #[Value.ref b] below meth c H locs kc ks (lw_Z below #[Value.ref b] s) (F0 m 23 ls []) := by
  obtain ⟨hx, hb, hr, hml, hown, hts, hX, hbl, hlocks, hgv⟩ := id C0
  have hown : s.vm.findClass "MatroidDeskLaw" = some m.cls := hown
  have htw : ∀ w ∈ px_tl, w.before _ s = true := fun w h => hts w (px_tl_in w h)
  have hA : ∀ q : Nat, s.heap.size ≤ q → (fun q : Nat => s.heap.size ≤ q) q := fun _ h => h
  have hbA : ¬ (fun q : Nat => s.heap.size ≤ q) b := Nat.not_le.mpr hbl
  intro j
  induction j with
  | zero =>
    intro k q_y n_ly d_fed d_refusedAt d_reason d_stamps d_spare d_lm g_e q_o l_o o_reached g_o g_t q_l q_m q_h l_l l_m l_h m_field m_size m_height m_loaded g_l g_m g_h w1_low w1_middle w1_high w2_low w2_middle w2_high w3_low w3_middle w3_high w4_low w4_middle w4_high q_k q_r q_g l_k l_r l_g v_host v_guest v_hostStamp v_guestStamp v_guestBases v_found v_keptSet v_lost v_contractedSet v_deletedSet v_taken g_i g_p g_q g_k g_r g_g q_s t_length t_behind t_start t_kind t_value g_y s_verb s_target s_first s_second s_field s_head s_next s_many s_rows s_even g_n q_b l_b p_length p_full g_b g_d mm cm np ns hm pa sa pp ss g_ot iv g_small g_pivots g_freeRows g_freeColumns g_smallMinor g_there g_elements g_fields g_ranks g_kept g_keptSmall g_weights g_rankOf g_signOf g_order g_sizes g_coefficients g_choices g_sorted g_images g_others g_text g_list g_saved g_sheet g_decimals g_came nv kc ks H locs ls hj hP hD hS hl hI
    have hk512 : k ≤ 512 := by omega
    obtain ⟨hkc0, hks0⟩ := z_bnd hk512 hI
    refine lv_iload hx hb px_dL_23 (lv_at hl 0 rfl) ?_
    refine lv_aload_n hx hb px_dL_25 rfl (lv_at hl 4 rfl) ?_
    refine va_slen hx hb hX hbl hbA hS px_dL_26 ?_
    refine lv_bipush (v := 6) hx hb px_dL_27 (by decide) ?_
    refine lv_isub hx hb px_dL_29 ?_
    refine lv_icmp_gt (tgt := 923) hx hb px_dL_30 (by decide) (fun _ => ?_) (fun h9 => absurd ((px_gt hL hk512).2 (by omega)) h9)
    refine lv_iconst (v := 1) hx hb px_dL_923 (by decide) ?_
    refine va_forget (fun q hq => hS.2.2 q hq) ?_
    refine W.widen (k := 601024) (n := 7293034) (by omega) (by omega) ?_
    exact lw_ret hx hb hr hlocks px_dL_924
  | succ j ih =>
    intro k q_y n_ly d_fed d_refusedAt d_reason d_stamps d_spare d_lm g_e q_o l_o o_reached g_o g_t q_l q_m q_h l_l l_m l_h m_field m_size m_height m_loaded g_l g_m g_h w1_low w1_middle w1_high w2_low w2_middle w2_high w3_low w3_middle w3_high w4_low w4_middle w4_high q_k q_r q_g l_k l_r l_g v_host v_guest v_hostStamp v_guestStamp v_guestBases v_found v_keptSet v_lost v_contractedSet v_deletedSet v_taken g_i g_p g_q g_k g_r g_g q_s t_length t_behind t_start t_kind t_value g_y s_verb s_target s_first s_second s_field s_head s_next s_many s_rows s_even g_n q_b l_b p_length p_full g_b g_d mm cm np ns hm pa sa pp ss g_ot iv g_small g_pivots g_freeRows g_freeColumns g_smallMinor g_there g_elements g_fields g_ranks g_kept g_keptSmall g_weights g_rankOf g_signOf g_order g_sizes g_coefficients g_choices g_sorted g_images g_others g_text g_list g_saved g_sheet g_decimals g_came nv kc ks H locs ls hj hP hD hS hl hI
    have hk512 : k ≤ 512 := by omega
    obtain ⟨hkc0, hks0⟩ := z_bnd hk512 hI
    refine lv_iload hx hb px_dL_23 (lv_at hl 0 rfl) ?_
    refine lv_aload_n hx hb px_dL_25 rfl (lv_at hl 4 rfl) ?_
    refine va_slen hx hb hX hbl hbA hS px_dL_26 ?_
    refine lv_bipush (v := 6) hx hb px_dL_27 (by decide) ?_
    refine lv_isub hx hb px_dL_29 ?_
    refine lv_icmp_gt (tgt := 923) hx hb px_dL_30 (by decide) (fun _ => ?_) (fun h9 => ?_)
    · refine lv_iconst (v := 1) hx hb px_dL_923 (by decide) ?_
      refine va_forget (fun q hq => hS.2.2 q hq) ?_
      refine W.widen (k := 601024) (n := 7293034) (by omega) (by omega) ?_
      exact lw_ret hx hb hr hlocks px_dL_924
    · have hi : 6 * k + 6 ≤ L := by
        refine Classical.byContradiction (fun w => h9 ((px_gt hL hk512).2 (by omega)))
      have hk : k < 512 := by omega
      refine lv_aload_n hx hb px_dL_33 rfl (lv_at hl 4 rfl) ?_
      refine lv_iload hx hb px_dL_34 (lv_at hl 0 rfl) ?_
      refine va_sld hx hb hX hbl hbA hS (vp_in_nI (show 6 * k < L by omega) (by omega)) px_dL_36 ?_
      refine lv_bipush (v := 31) hx hb px_dL_37 (by decide) ?_
      obtain ⟨w, hw, ew⟩ := pk_andE (xs (Int32.toNatClampNeg (nI (6 * k)))) (m := 31) 5 (by decide +kernel)
      refine lv_iand hx hb px_dL_39 ?_
      refine lv_topi (nm_r (e' := nI w) ew ?_)
      have hgo : px_GO p l e s m below meth c b k dC dI adK adV bo adB tA tS h_d q_ms q_e h_m h_w h_t h_s h_p ho q_t h1 h2 h3 h4 q_i q_p q_q q_n q_d cc c_ms h0 rf hh qq cN c_work c_small c_pivots c_freeRows c_freeColumns c_minor c_smallMinor c_there c_elements c_fields c_ranks c_kept c_keptSmall c_weights c_rankOf c_signOf c_order c_sizes c_coefficients c_choices c_sorted c_images c_others c_text c_list c_saved c_sheet c_decimals c_came r_o c_l := fun q_y n_ly d_fed d_refusedAt d_reason d_stamps d_spare d_lm g_e q_o l_o o_reached g_o g_t q_l q_m q_h l_l l_m l_h m_field m_size m_height m_loaded g_l g_m g_h w1_low w1_middle w1_high w2_low w2_middle w2_high w3_low w3_middle w3_high w4_low w4_middle w4_high q_k q_r q_g l_k l_r l_g v_host v_guest v_hostStamp v_guestStamp v_guestBases v_found v_keptSet v_lost v_contractedSet v_deletedSet v_taken g_i g_p g_q g_k g_r g_g q_s t_length t_behind t_start t_kind t_value g_y s_verb s_target s_first s_second s_field s_head s_next s_many s_rows s_even g_n q_b l_b p_length p_full g_b g_d mm cm np ns hm pa sa pp ss g_ot iv g_small g_pivots g_freeRows g_freeColumns g_smallMinor g_there g_elements g_fields g_ranks g_kept g_keptSmall g_weights g_rankOf g_signOf g_order g_sizes g_coefficients g_choices g_sorted g_images g_others g_text g_list g_saved g_sheet g_decimals g_came nv kc ks H locs ls hP hD hS hl hI => by
        refine lv_iinc (v := nI (6 * (k + 1))) (lv' := [(4, .int (nI (6 * (k + 1)))), (3, .ref r_o), (2, .ref h0), (1, .ref h_d), (0, .ref b)]) hx hb px_dL_917 hl (k := 0) rfl (show nI (6 * k) + nI 6 = nI (6 * (k + 1)) by rw [nI_add]; rfl) (by decide) rfl (fun ls hl => ?_)
        refine lv_goto (tgt := 23) hx hb px_dL_920 (by decide) ?_
        exact ih (k + 1) q_y n_ly d_fed d_refusedAt d_reason d_stamps d_spare d_lm g_e q_o l_o o_reached g_o g_t q_l q_m q_h l_l l_m l_h m_field m_size m_height m_loaded g_l g_m g_h w1_low w1_middle w1_high w2_low w2_middle w2_high w3_low w3_middle w3_high w4_low w4_middle w4_high q_k q_r q_g l_k l_r l_g v_host v_guest v_hostStamp v_guestStamp v_guestBases v_found v_keptSet v_lost v_contractedSet v_deletedSet v_taken g_i g_p g_q g_k g_r g_g q_s t_length t_behind t_start t_kind t_value g_y s_verb s_target s_first s_second s_field s_head s_next s_many s_rows s_even g_n q_b l_b p_length p_full g_b g_d mm cm np ns hm pa sa pp ss g_ot iv g_small g_pivots g_freeRows g_freeColumns g_smallMinor g_there g_elements g_fields g_ranks g_kept g_keptSmall g_weights g_rankOf g_signOf g_order g_sizes g_coefficients g_choices g_sorted g_images g_others g_text g_list g_saved g_sheet g_decimals g_came nv kc ks H locs ls (by omega) hP hD hS hl hI
      rcases Nat.lt_or_ge w 22 with hj2 | hj2
      · rcases (show w = 0 ∨ w = 1 ∨ w = 2 ∨ w = 3 ∨ w = 4 ∨ w = 5 ∨ w = 6 ∨ w = 7 ∨ w = 8 ∨ w = 9 ∨ w = 10 ∨ w = 11 ∨ w = 12 ∨ w = 13 ∨ w = 14 ∨ w = 15 ∨ w = 16 ∨ w = 17 ∨ w = 18 ∨ w = 19 ∨ w = 20 ∨ w = 21 by omega) with rfl | rfl | rfl | rfl | rfl | rfl | rfl | rfl | rfl | rfl | rfl | rfl | rfl | rfl | rfl | rfl | rfl | rfl | rfl | rfl | rfl | rfl
        · refine lv_tableIn (off := 104) (tgt := 144) hx hb px_dL_40 (by decide +kernel) (by decide +kernel) (by decide +kernel) (by decide) ?_
          exact px_case0 C0 hi hL hk hK hP hD hS hN hE hAI hl hI hgo
        · refine lv_tableIn (off := 188) (tgt := 228) hx hb px_dL_40 (by decide +kernel) (by decide +kernel) (by decide +kernel) (by decide) ?_
          by_cases hq0 : xs (6 * k + 1) < 0
          · exact px_case1t C0 hi hL hk htr (Or.inl hq0) hX9 hH9 hZ9 hK hP hD hS hN hE hAI hl hI hgo
          · by_cases hq1 : xs (6 * k + 1) ≤ d_fed
            · exact px_case1n C0 hi hL hk hq0 hq1 hK hP hD hS hN hE hAI hl hI hgo
            · exact px_case1t C0 hi hL hk htr (Or.inr hq1) hX9 hH9 hZ9 hK hP hD hS hN hE hAI hl hI hgo
        · refine lv_tableIn (off := 244) (tgt := 284) hx hb px_dL_40 (by decide +kernel) (by decide +kernel) (by decide +kernel) (by decide) ?_
          exact px_case2 C0 hi hL hk hK hP hD hS hN hE hAI hl hI hgo
        · refine lv_tableIn (off := 257) (tgt := 297) hx hb px_dL_40 (by decide +kernel) (by decide +kernel) (by decide +kernel) (by decide) ?_
          exact px_case3 C0 hi hL hk hK hP hD hS hN hE hAI hl hI hgo
        · refine lv_tableIn (off := 270) (tgt := 310) hx hb px_dL_40 (by decide +kernel) (by decide +kernel) (by decide +kernel) (by decide) ?_
          exact px_case4 C0 hi hL hk hK hP hD hS hN hE hAI hl hI hgo
        · refine lv_tableIn (off := 283) (tgt := 323) hx hb px_dL_40 (by decide +kernel) (by decide +kernel) (by decide +kernel) (by decide) ?_
          exact px_case5 C0 hi hL hk hK hP hD hS hN hE hAI hl hI hgo
        · refine lv_tableIn (off := 296) (tgt := 336) hx hb px_dL_40 (by decide +kernel) (by decide +kernel) (by decide +kernel) (by decide) ?_
          exact px_case6 C0 hi hL hk hK hP hD hS hN hE hAI hl hI hgo
        · refine lv_tableIn (off := 321) (tgt := 361) hx hb px_dL_40 (by decide +kernel) (by decide +kernel) (by decide +kernel) (by decide) ?_
          exact px_case7 C0 hi hL hk hK hP hD hS hN hE hAI hl hI hgo
        · refine lv_tableIn (off := 346) (tgt := 386) hx hb px_dL_40 (by decide +kernel) (by decide +kernel) (by decide +kernel) (by decide) ?_
          exact px_case8 C0 hi hL hk hK hP hD hS hN hE hAI hl hI hgo
        · refine lv_tableIn (off := 371) (tgt := 411) hx hb px_dL_40 (by decide +kernel) (by decide +kernel) (by decide +kernel) (by decide) ?_
          exact px_case9 C0 hi hL hk hK hP hD hS hN hE hAI hl hI hgo
        · refine lv_tableIn (off := 408) (tgt := 448) hx hb px_dL_40 (by decide +kernel) (by decide +kernel) (by decide +kernel) (by decide) ?_
          exact px_case10 C0 hi hL hk hK hP hD hS hN hE hAI hl hI hgo
        · refine lv_tableIn (off := 445) (tgt := 485) hx hb px_dL_40 (by decide +kernel) (by decide +kernel) (by decide +kernel) (by decide) ?_
          exact px_case11 C0 hi hL hk hK hP hD hS hN hE hAI hl hI hgo
        · refine lv_tableIn (off := 494) (tgt := 534) hx hb px_dL_40 (by decide +kernel) (by decide +kernel) (by decide +kernel) (by decide) ?_
          exact px_case12 C0 hi hL hk hK hP hD hS hN hE hAI hl hI hgo
        · refine lv_tableIn (off := 544) (tgt := 584) hx hb px_dL_40 (by decide +kernel) (by decide +kernel) (by decide +kernel) (by decide) ?_
          exact px_case13 C0 hi hL hk hK hP hD hS hN hE hAI hl hI hgo
        · refine lv_tableIn (off := 581) (tgt := 621) hx hb px_dL_40 (by decide +kernel) (by decide +kernel) (by decide +kernel) (by decide) ?_
          exact px_case14 C0 hi hL hk hK hP hD hS hN hE hAI hl hI hgo
        · refine lv_tableIn (off := 606) (tgt := 646) hx hb px_dL_40 (by decide +kernel) (by decide +kernel) (by decide +kernel) (by decide) ?_
          exact px_case15 C0 hi hL hk hK hP hD hS hN hE hAI hl hI hgo
        · refine lv_tableIn (off := 643) (tgt := 683) hx hb px_dL_40 (by decide +kernel) (by decide +kernel) (by decide +kernel) (by decide) ?_
          exact px_case16 C0 hi hL hk hK hP hD hS hN hE hAI hl hI hgo
        · refine lv_tableIn (off := 680) (tgt := 720) hx hb px_dL_40 (by decide +kernel) (by decide +kernel) (by decide +kernel) (by decide) ?_
          exact px_case17 C0 hi hL hk hK hP hD hS hN hE hAI hl hI hgo
        · refine lv_tableIn (off := 717) (tgt := 757) hx hb px_dL_40 (by decide +kernel) (by decide +kernel) (by decide +kernel) (by decide) ?_
          exact px_case18 C0 hi hL hk hK hP hD hS hN hE hAI hl hI hgo
        · refine lv_tableIn (off := 754) (tgt := 794) hx hb px_dL_40 (by decide +kernel) (by decide +kernel) (by decide +kernel) (by decide) ?_
          exact px_case19 C0 hi hL hk hK hP hD hS hN hE hAI hl hI hgo
        · refine lv_tableIn (off := 791) (tgt := 831) hx hb px_dL_40 (by decide +kernel) (by decide +kernel) (by decide +kernel) (by decide) ?_
          exact px_case20 C0 hi hL hk hK hP hD hS hN hE hAI hl hI hgo
        · refine lv_tableIn (off := 828) (tgt := 868) hx hb px_dL_40 (by decide +kernel) (by decide +kernel) (by decide +kernel) (by decide) ?_
          exact px_case21 C0 hi hL hk hK hP hD hS hN hE hAI hl hI hgo
      · refine lv_tableOut (tgt := 917) hx hb px_dL_40 (Or.inr (by rw [nI_toInt (by omega)]; omega)) (by decide) ?_
        exact hgo q_y n_ly d_fed d_refusedAt d_reason d_stamps d_spare d_lm g_e q_o l_o o_reached g_o g_t q_l q_m q_h l_l l_m l_h m_field m_size m_height m_loaded g_l g_m g_h w1_low w1_middle w1_high w2_low w2_middle w2_high w3_low w3_middle w3_high w4_low w4_middle w4_high q_k q_r q_g l_k l_r l_g v_host v_guest v_hostStamp v_guestStamp v_guestBases v_found v_keptSet v_lost v_contractedSet v_deletedSet v_taken g_i g_p g_q g_k g_r g_g q_s t_length t_behind t_start t_kind t_value g_y s_verb s_target s_first s_second s_field s_head s_next s_many s_rows s_even g_n q_b l_b p_length p_full g_b g_d mm cm np ns hm pa sa pp ss g_ot iv g_small g_pivots g_freeRows g_freeColumns g_smallMinor g_there g_elements g_fields g_ranks g_kept g_keptSmall g_weights g_rankOf g_signOf g_order g_sizes g_coefficients g_choices g_sorted g_images g_others g_text g_list g_saved g_sheet g_decimals g_came nv kc ks H locs ls hP hD hS hl (z_next hI)
