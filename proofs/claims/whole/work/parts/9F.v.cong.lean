/-! PURE: a script is read below its length only -/
section CNG
variable {b b' : Nat → Int32} {L : Nat}
theorem g_sk (hb : ∀ k, k < L → b k = b' k) : ∀ (u : Nat) (cm : Bool) (i : Nat), i + u ≤ L → t_sk b u cm i = t_sk b' u cm i
  | 0, _, _, _ => rfl
  | u + 1, cm, i, h => by
    unfold t_sk
    rw [hb i (by omega), g_sk hb u true (i + 1) (by omega), g_sk hb u false (i + 1) (by omega)]
theorem g_run (hb : ∀ k, k < L → b k = b' k) (P : Int32 → Bool) : ∀ (u i : Nat), i + u ≤ L → t_run P b u i = t_run P b' u i
  | 0, _, _ => rfl
  | u + 1, i, h => by
    unfold t_run
    rw [hb i (by omega), g_run hb P u (i + 1) (by omega)]
theorem g_nv (hb : ∀ k, k < L → b k = b' k) (s : Nat) : ∀ n, s + n ≤ L → t_nv b s n = t_nv b' s n
  | 0, _ => rfl
  | n + 1, h => by
    unfold t_nv
    rw [g_nv hb s n (by omega), hb (s + n) (by omega)]
theorem g_j (hb : ∀ k, k < L → b k = b' k) : t_j b L = t_j b' L := by
  funext i
  unfold t_j
  by_cases q : i ≤ L
  · exact g_sk hb _ _ _ (by omega)
  · rw [show L - i = 0 by omega]; rfl
theorem g_s (hb : ∀ k, k < L → b k = b' k) {i : Nat} (h : t_j b L i < L) : t_s b L i = t_s b' L i := by
  unfold t_s
  rw [← g_j hb, hb _ h]
theorem g_e (hb : ∀ k, k < L → b k = b' k) : t_e b L = t_e b' L := by
  funext i
  unfold t_e
  rw [← g_j hb]
  by_cases q : L ≤ t_j b L i
  · rw [if_pos q, if_pos q]
  · rw [if_neg q, if_neg q, ← hb _ (by omega), ← g_s hb (by omega), g_run hb t_let _ _ (by omega)]
    have hs : t_s b L i ≤ L := by unfold t_s; split <;> omega
    rw [g_run hb t_dig (L - t_s b L i) (t_s b L i) (by omega)]
theorem g_k (hb : ∀ k, k < L → b k = b' k) : t_k b L = t_k b' L := by
  funext i
  unfold t_k
  rw [← g_j hb, ← g_e hb]
  by_cases q : L ≤ t_j b L i
  · rw [if_pos q, if_pos q]
  · rw [if_neg q, if_neg q, ← hb _ (by omega), ← g_s hb (by omega)]
theorem g_v0 {i : Nat} (q : L ≤ t_j b L i) : t_v b L i = 0 := by
  have he : t_e b L i = t_j b L i := if_pos q
  unfold t_v
  have hs : t_e b L i - t_s b L i = 0 := by
    rw [he]
    unfold t_s
    split <;> omega
  rw [hs]
  unfold t_nv
  split
  · decide
  · rfl
theorem g_v (hb : ∀ k, k < L → b k = b' k) : t_v b L = t_v b' L := by
  funext i
  by_cases q : L ≤ t_j b L i
  · rw [g_v0 q, g_v0 (by rw [← g_j hb]; exact q)]
  · have hi : i ≤ L := by
      refine Classical.byContradiction (fun w => q ?_)
      have := (t_skl b (L - i) false i).1
      have e : t_j b L i = t_sk b (L - i) false i := rfl
      omega
    have he := (t_el (b := b) hi).2.1
    unfold t_v
    rw [← g_j hb, ← g_e hb, ← hb _ (by omega), ← g_s hb (by omega)]
    by_cases q2 : t_s b L i ≤ t_e b L i
    · rw [g_nv hb _ _ (by omega)]
    · rw [show t_e b L i - t_s b L i = 0 by omega]; rfl
theorem g_jlt {i : Nat} (h : ¬ t_k b L i = 0) : t_j b L i < L := t_kj h
theorem g_nm (hb : ∀ k, k < L → b k = b' k) : t_nm b L = t_nm b' L := by
  funext i
  unfold t_nm
  rw [← g_j hb, ← g_e hb, ← g_k hb]
  by_cases q : t_k b L i = 1
  · rw [← hb _ (t_kj (by rw [q]; decide))]
  · rw [decide_eq_false q, Bool.false_and, Bool.false_and, Bool.false_and]
theorem g_fld (hb : ∀ k, k < L → b k = b' k) : t_fld b L = t_fld b' L := by
  funext i
  unfold t_fld
  rw [← g_j hb, ← g_e hb, ← g_k hb]
  by_cases q : t_k b L i = 1
  · rw [← hb _ (t_kj (by rw [q]; decide))]
  · rw [decide_eq_false q, Bool.false_and, Bool.false_and, Bool.false_and]
theorem g_isw (hb : ∀ k, k < L → b k = b' k) {f t : Nat} (ht : t ≤ L) (w : List Nat) : t_isw b f t w = t_isw b' f t w := by
  unfold t_isw
  by_cases q : t - f = w.length
  · congr 1
    refine decide_eq_decide.2 ⟨fun h j hj => ?_, fun h j hj => ?_⟩
    · rw [← hb _ (by omega)]; exact h j hj
    · rw [hb _ (by omega)]; exact h j hj
  · rw [decide_eq_false q, Bool.false_and, Bool.false_and]
theorem g_fv (hb : ∀ k, k < L → b k = b' k) {f t : Nat} (ht : t ≤ L) (lo : Nat) : ∀ u n, t_fv b f t lo u n = t_fv b' f t lo u n
  | 0, _ => rfl
  | u + 1, n => by
    unfold t_fv
    rw [g_isw hb ht, g_fv hb ht lo u (n + 1)]
theorem g_vb (hb : ∀ k, k < L → b k = b' k) : t_vb b L = t_vb b' L := by
  funext i lo cnt
  unfold t_vb
  rw [← g_j hb, ← g_e hb, ← g_k hb]
  by_cases q : t_k b L i = 1
  · rw [if_pos q, if_pos q]
    refine g_fv hb ?_ lo cnt 0
    have hj : t_j b L i < L := t_kj (by rw [q]; decide)
    have hi : i ≤ L := by
      refine Classical.byContradiction (fun w => ?_)
      have := (t_skl b (L - i) false i).1
      have e : t_j b L i = t_sk b (L - i) false i := rfl
      omega
    exact (t_el hi).2.1
  · rw [if_neg q, if_neg q]
theorem g_is (hb : ∀ k, k < L → b k = b' k) : t_is b L = t_is b' L := by
  funext c i
  unfold t_is
  rw [g_k hb]
theorem g_w (hb : ∀ k, k < L → b k = b' k) : t_w b L = t_w b' L := by
  funext p r
  unfold t_w
  rw [g_e hb]
theorem g_lp (hb : ∀ k, k < L → b k = b' k) (cm : Bool) : ∀ u i, t_lp b L cm u i = t_lp b' L cm u i
  | 0, _ => rfl
  | u + 1, i => by
    unfold t_lp
    rw [g_is hb, g_e hb, g_lp hb cm u]
theorem g_ed (hb : ∀ k, k < L → b k = b' k) : ∀ u i, t_ed b L u i = t_ed b' L u i
  | 0, _ => rfl
  | u + 1, i => by
    unfold t_ed
    rw [g_is hb, g_e hb, g_ed hb u]
theorem g_it (hb : ∀ k, k < L → b k = b' k) (cm : Bool) : ∀ u i, t_it b L cm u i = t_it b' L cm u i
  | 0, _ => rfl
  | u + 1, i => by
    unfold t_it
    rw [g_is hb, g_e hb, g_v hb, g_it hb cm u]
theorem g_ev (hb : ∀ k, k < L → b k = b' k) : ∀ u i, t_ev b L u i = t_ev b' L u i
  | 0, _ => rfl
  | u + 1, i => by
    unfold t_ev
    rw [g_is hb, g_e hb, g_v hb, g_ev hb u]
theorem g_ns (hb : ∀ k, k < L → b k = b' k) : t_ns b L = t_ns b' L := by
  funext cm r
  unfold t_ns
  rw [g_w hb, g_is hb, g_lp hb]
theorem g_eds (hb : ∀ k, k < L → b k = b' k) : t_eds b L = t_eds b' L := by
  funext r
  unfold t_eds
  rw [g_w hb, g_is hb, g_ed hb]
theorem g_word (hb : ∀ k, k < L → b k = b' k) : t_word b L = t_word b' L := by
  funext lo cnt i
  unfold t_word
  rw [g_vb hb]
theorem g_mkr (hb : ∀ k, k < L → b k = b' k) : t_mkr b L = t_mkr b' L := by
  funext k r
  unfold t_mkr
  rw [g_ns hb, g_eds hb, g_w hb, g_is hb, g_fld hb, g_nm hb]
theorem g_oth (hb : ∀ k, k < L → b k = b' k) : t_oth b L = t_oth b' L := by
  funext k r
  unfold t_oth
  rw [g_ns hb, g_w hb, g_nm hb]
theorem g_st (hb : ∀ k, k < L → b k = b' k) : t_st b L = t_st b' L := by
  funext i
  unfold t_st
  rw [g_w hb, g_is hb, g_nm hb, g_mkr hb, g_oth hb, g_vb hb, g_word hb, g_e hb]
theorem g_scr (hb : ∀ k, k < L → b k = b' k) : ∀ u n i, t_scr b L u n i = t_scr b' L u n i
  | 0, _, _ => rfl
  | u + 1, n, i => by
    unfold t_scr
    rw [g_k hb, g_st hb, g_scr hb u]
theorem g_iw (hb : ∀ k, k < L → b k = b' k) : t_iw b L = t_iw b' L := by
  funext i
  unfold t_iw
  rw [g_nm hb, g_e hb]
theorem g_pv (hb : ∀ k, k < L → b k = b' k) : t_pv b L = t_pv b' L := by
  funext i
  unfold t_pv
  rw [g_nm hb, g_vb hb, g_iw hb]
theorem g_ia (hb : ∀ k, k < L → b k = b' k) : t_ia b L = t_ia b' L := by
  funext i
  unfold t_ia
  rw [g_iw hb, g_e hb]
theorem g_ib (hb : ∀ k, k < L → b k = b' k) : t_ib b L = t_ib b' L := by
  funext i v
  unfold t_ib t_rf
  rw [g_ia hb, g_w hb, g_fld hb]
theorem g_ic (hb : ∀ k, k < L → b k = b' k) : t_ic b L = t_ic b' L := by
  funext i v
  unfold t_ic t_rh
  rw [g_ib hb, g_w hb, g_is hb]
theorem g_id (hb : ∀ k, k < L → b k = b' k) : t_id b L = t_id b' L := by
  funext i v
  unfold t_id t_rn
  rw [g_ic hb, g_w hb, g_nm hb]
theorem g_pfd (hb : ∀ k, k < L → b k = b' k) : t_pfd b L = t_pfd b' L := by
  funext i
  unfold t_pfd t_fdt
  rw [g_ia hb, g_k hb, g_v hb]
theorem g_phd (hb : ∀ k, k < L → b k = b' k) : t_phd b L = t_phd b' L := by
  funext i
  unfold t_phd
  rw [g_ib hb, g_v hb, g_pv hb]
theorem g_pnx (hb : ∀ k, k < L → b k = b' k) : t_pnx b L = t_pnx b' L := by
  funext i
  unfold t_pnx
  rw [g_ib hb, g_v hb, g_pv hb, g_e hb]
theorem g_pvs (hb : ∀ k, k < L → b k = b' k) : t_pvs b L = t_pvs b' L := by
  funext i
  unfold t_pvs t_vals
  rw [g_id hb, g_pv hb, g_is hb, g_e hb, g_ev hb, g_it hb, g_it hb]
theorem g_pro (hb : ∀ k, k < L → b k = b' k) : t_pro b L = t_pro b' L := by
  funext i
  unfold t_pro
  rw [g_phd hb, g_id hb, g_pv hb, g_e hb, g_it hb]
theorem g_pbad (hb : ∀ k, k < L → b k = b' k) : t_pbad b L = t_pbad b' L := by
  funext i n
  unfold t_pbad
  rw [g_pv hb, g_pfd hb, g_phd hb, g_pnx hb, g_pvs hb, g_pro hb]
theorem g_pfi (hb : ∀ k, k < L → b k = b' k) {i : Nat} (h : (t_st b L i).1 = true) : t_pfi b L i = t_pfi b' L i ∧ t_pse b L i = t_pse b' L i := by
  obtain ⟨v, tg, hV⟩ := t_sV h
  have hv := t_pvE hV
  unfold t_pfi t_pse
  rw [← g_pv hb, ← g_ic hb, ← g_e hb, ← g_j hb, hv]
  by_cases q : v ≤ 2
  · rw [if_pos q, if_pos q, if_neg (by omega), if_neg (by omega)]; exact ⟨rfl, rfl⟩
  · obtain ⟨n1, n2⟩ := t_stN hV h (by omega)
    rw [if_neg q, if_neg q, ← hb _ (t_kj (by rw [(t_nmb n1).2.1]; decide))]
    refine ⟨rfl, ?_⟩
    by_cases q2 : v = 6 ∨ v = 16 ∨ v = 19
    · rw [if_pos q2, if_pos q2, ← hb _ (t_kj (by rw [(t_nmb (n2 q2)).2.1]; decide))]
    · rw [if_neg q2, if_neg q2]
theorem g_ptg (hb : ∀ k, k < L → b k = b' k) {i : Nat} (h : (t_st b L i).1 = true) (hv : t_pv b L i ≤ 7) : t_ptg b L i = t_ptg b' L i := by
  obtain ⟨v, tg, hV⟩ := t_sV h
  rw [t_pvE hV] at hv
  have hnm : t_nm b L i = true := by
    refine Classical.byContradiction (fun q => ?_)
    have := hV.2
    rw [if_neg q] at this
    omega
  unfold t_ptg
  rw [← g_j hb, ← hb _ (t_kj (by rw [(t_nmb hnm).2.1]; decide))]
theorem g_stp (hb : ∀ k, k < L → b k = b' k) {i : Nat} (h : (t_st b L i).1 = true) (G : x_GS) : x_stp b L i G = x_stp b' L i G := by
  obtain ⟨e1, e2⟩ := g_pfi hb h
  have eA : x_sA b L i G.1 = x_sA b' L i G.1 := by unfold x_sA; rw [e1]
  have eB : x_sB b L i G.1 = x_sB b' L i G.1 := by unfold x_sB; rw [e2]
  have eC : x_sC b L i G.1 = x_sC b' L i G.1 := by
    unfold x_sC
    rw [eA, eB, g_pv hb, g_pfd hb, g_phd hb, g_pnx hb, g_pro hb, g_pvs hb]
  have eO : x_sO b L i G.1 = x_sO b' L i G.1 := by
    unfold x_sO
    rw [e1, e2, g_pv hb, g_pbad hb]
  have eV : x_sV b L i G.1 = x_sV b' L i G.1 := by
    unfold x_sV
    rw [eA, eB, g_pv hb]
  unfold x_stp
  rw [eO, eA, eB, eC, eV, e1, e2, g_pvs hb, ← g_pv hb]
  by_cases q : t_pv b L i ≤ 7
  · rw [g_ptg hb h q]
  · rw [if_neg q, if_neg q]
theorem g_rn (hb : ∀ k, k < L → b k = b' k) : ∀ u n i G, (t_scr b L u n i).1 = true → x_run b L u n i G = x_run b' L u n i G
  | 0, _, _, _, _ => rfl
  | u + 1, n, i, G, h => by
    unfold x_run
    rw [← g_k hb, ← g_st hb]
    by_cases q : n = 400 ∨ t_k b L i = 0
    · rw [if_pos q, if_pos q]
    · rw [if_neg q, if_neg q]
      have hs : (t_st b L i).1 = true ∧ (t_scr b L u (n + 1) (t_st b L i).2).1 = true := by
        unfold t_scr at h
        rw [if_neg (fun z => q (Or.inr z)), if_neg (fun z => q (Or.inl z))] at h
        by_cases q2 : (t_st b L i).1 = true
        · rw [if_pos q2] at h; exact ⟨q2, h⟩
        · rw [if_neg q2] at h; exact absurd h q2
      rw [← g_stp hb hs.1, g_rn hb u (n + 1) (t_st b L i).2 (x_stp b L i G).1 hs.2]
theorem g_RN (hb : ∀ k, k < L → b k = b' k) {G : x_GS} (h : (t_scr b L (L + 1) 0 0).1 = true) : x_RN b L G = x_RN b' L G := g_rn hb _ _ _ _ h
end CNG
