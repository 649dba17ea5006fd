/-! PURE: room, a step and a run -/
section XRO
variable {b : Nat → Int32} {L i : Nat} {G : x_GS}
theorem x_stL (hst : (t_st b L i).1 = true) (hv : 2 < t_pv b L i) (hO : x_sO b L i G.1 = 0) : ∃ y A, y < 26 ∧ t_pfi b L i = nI y ∧ G.1 y = some A ∧ x_sA b L i G.1 = A ∧ ((t_pv b L i = 6 ∨ t_pv b L i = 16 ∨ t_pv b L i = 19) → ∃ z B, z < 26 ∧ t_pse b L i = nI z ∧ G.1 z = some B ∧ x_sB b L i G.1 = B) := by
  obtain ⟨v, tg, hV⟩ := t_sV hst
  have ev := t_pvE hV
  rw [ev] at hv ⊢
  obtain ⟨n1, n2⟩ := t_stN hV hst hv
  obtain ⟨y, hy, ey⟩ := t_nmx n1
  have efi : t_pfi b L i = nI y := by
    unfold t_pfi
    rw [ev, if_neg (by omega), ey]
  have eA : x_lt G.1 (t_pfi b L i) = G.1 y := by rw [efi]; exact x_ltI G.1 hy
  have hO' : x_ob v (G.1 y) (x_lt G.1 (t_pse b L i)) (t_pbad b L i) = 0 := by
    unfold x_sO at hO
    rw [ev, eA] at hO
    exact hO
  cases hA : G.1 y with
  | none =>
    rw [x_ob1 hv (Or.inl hA)] at hO'
    exact t_10 hO'
  | some A =>
    refine ⟨y, A, hy, efi, hA, ?_, fun q => ?_⟩
    · unfold x_sA
      rw [eA, hA]; rfl
    · obtain ⟨z, hz, ez⟩ := t_nmx (n2 q)
      have epse : t_pse b L i = nI z := by
        unfold t_pse
        rw [ev, if_pos q, ez]
      have eB : x_lt G.1 (t_pse b L i) = G.1 z := by rw [epse]; exact x_ltI G.1 hz
      cases hB : G.1 z with
      | none =>
        rw [x_ob1 hv (Or.inr ⟨q, by rw [eB]; exact hB⟩)] at hO'
        exact t_10 hO'
      | some B =>
        refine ⟨z, B, hz, epse, hB, ?_⟩
        unfold x_sB
        rw [eB, hB]; rfl
theorem x_sCn (hL : L ≤ 16384) (hst : (t_st b L i).1 = true) (h : x_HG G) (hv : t_pv b L i ≤ 7) (hO : x_sO b L i G.1 = 0) : (x_sC b L i G.1).2.1 ≤ 12 := by
  by_cases q2 : t_pv b L i ≤ 2
  · have eA : x_lt G.1 (t_pfi b L i) = none := by
      unfold t_pfi
      rw [if_pos q2]; exact x_ltM _
    have eB : x_lt G.1 (t_pse b L i) = none := by
      unfold t_pse
      rw [if_neg (by omega)]; exact x_ltM _
    have hb : t_pbad b L i 0 = false := by
      unfold x_sO at hO
      rw [eA, eB, x_obN q2] at hO
      cases hh : t_pbad b L i 0 with
      | false => rfl
      | true => rw [hh, if_pos rfl] at hO; exact absurd hO (by decide)
    rcases (show t_pv b L i = 0 ∨ t_pv b L i = 1 ∨ t_pv b L i = 2 by omega) with q | q | q
    · obtain ⟨p, n, k1, k2, k3, k4, _⟩ := t_go0 hL q hb
      unfold x_sC x_made
      rw [q, if_pos rfl]
      show (t_phd b L i).toNatClampNeg ≤ 12
      rw [k3, nI_clamp (by omega)]; exact k4
    · obtain ⟨k, n, k1, k2, k3, k4, k5, _⟩ := t_go1 hL q hb
      unfold x_sC x_made
      rw [q, if_neg (by decide), if_pos rfl]
      show (t_pvs b L i).length / 2 ≤ 12
      omega
    · obtain ⟨k, n, k1, k2, k3, k4⟩ := t_go2 q hb
      unfold x_sC x_made
      rw [q, if_neg (by decide), if_neg (by decide), if_pos rfl]
      show (t_pnx b L i).toNatClampNeg ≤ 12
      rw [k2, nI_clamp (by omega)]; exact k4
  · obtain ⟨y, A, hy, e1, e2, e3, e4⟩ := x_stL hst (by omega) hO
    have hn : A.2.1 ≤ 12 := (h.2.1 y A hy e2).1
    unfold x_sC x_made
    rw [if_neg (by omega), if_neg (by omega), if_neg (by omega), e3]
    unfold x_mk1
    by_cases q3 : t_pv b L i = 3
    · rw [if_pos q3]; exact hn
    rw [if_neg q3]
    by_cases q4 : t_pv b L i = 4 ∨ t_pv b L i = 5
    · rw [if_pos q4]; exact x_nle _
    rw [if_neg q4]
    by_cases q6 : t_pv b L i = 6
    · rw [if_pos q6]
      obtain ⟨z, B, hz, f1, f2, f3⟩ := e4 (Or.inl q6)
      rw [f3]
      show A.2.1 + B.2.1 ≤ 12
      refine Classical.byContradiction (fun w => ?_)
      unfold x_sO at hO
      rw [e1, f1, x_ltI G.1 hy, x_ltI G.1 hz, e2, f2, x_obD] at hO
      by_cases q : t_pbad b L i A.2.1 = true
      · rw [if_pos q] at hO; exact absurd hO (by decide)
      · rw [if_neg q, if_pos ⟨q6, by omega⟩] at hO; exact absurd hO (by decide)
    · rw [if_neg q6]; exact hn
theorem x_ptg26 (hst : (t_st b L i).1 = true) (hv : t_pv b L i ≤ 7) : t_ptg b L i < 26 := by
  obtain ⟨v, tg, hV⟩ := t_sV hst
  rw [t_pvE hV] at hv
  have hnm : t_nm b L i = true := by
    refine Classical.byContradiction (fun q => ?_)
    have := hV.2
    rw [if_neg q] at this
    omega
  obtain ⟨x, hx, e⟩ := t_nmx hnm
  unfold t_ptg
  rw [e, nI_clamp (by omega)]; exact hx
theorem x_stRm (hL : L ≤ 16384) (hst : (t_st b L i).1 = true) (h : x_HG G) : x_HG (x_stp b L i G).1 ∧ x_stE b L i G + 2 * x_Ph G ≤ 2 * x_Ph (x_stp b L i G).1 + 306 ∧ 4 * x_stC b L i G + x_Ph G ≤ x_Ph (x_stp b L i G).1 + 120 := by
  obtain ⟨lt, sk, st, lo, lm, lw, U⟩ := G
  unfold x_stp x_stE x_stC
  by_cases hO : x_sO b L i lt = 0
  · have hO1 : ¬ ¬ x_sO b L i (lt, sk, st, lo, lm, lw, U).1 = 0 := fun w => w hO
    rw [if_neg hO1, if_neg hO1, if_neg hO1]
    by_cases hv : t_pv b L i ≤ 7
    · rw [if_pos hv, if_pos hv, if_pos hv]
      have hn := x_sCn (G := (lt, sk, st, lo, lm, lw, U)) hL hst h hv hO
      have ht := x_ptg26 hst hv
      have hA : t_pv b L i = 4 ∨ t_pv b L i = 5 → (t_pfi b L i).toNatClampNeg < 26 ∧ lt (t_pfi b L i).toNatClampNeg = some (x_sA b L i lt) := fun q => by
        obtain ⟨y, A, hy, e1, e2, e3, _⟩ := x_stL (G := (lt, sk, st, lo, lm, lw, U)) hst (by omega) hO
        have e2' : lt y = some A := e2
        have e3' : x_sA b L i lt = A := e3
        rw [e1, nI_clamp (by omega), e2', e3']; exact ⟨hy, rfl⟩
      obtain ⟨k1, k2, k3⟩ := x_HGk (v := t_pv b L i) (f := (t_pfi b L i).toNatClampNeg) (A := x_sA b L i lt) (C := x_sC b L i lt) (tg := t_ptg b L i) h ht hn hA
      refine ⟨k1, k2, ?_⟩
      have k3' : (if sk 26 6 = 0 then 13 else 0) + x_mcc (decide (t_pv b L i ≤ 2)) (decide (t_pv b L i = 4 ∨ t_pv b L i = 5)) lo lm (x_f0 sk) (sk (t_pfi b L i).toNatClampNeg) (x_sA b L i lt).2.1 (x_sC b L i lt).2.1 ≤ 30 := k3
      have mono : x_Ph (lt, sk, st, lo, lm, lw, U) ≤ x_Ph (va_up lt (t_ptg b L i) (some (x_sC b L i lt)), va_up (va_up (x_k1 (t_pv b L i) (t_pfi b L i).toNatClampNeg (x_sA b L i lt).2.1 sk) 26 (x_k1 (t_pv b L i) (t_pfi b L i).toNatClampNeg (x_sA b L i lt).2.1 sk (t_ptg b L i))) (t_ptg b L i) (x_g6 (x_sC b L i lt).2.1 (x_f0 sk)), st + 1, o_ln lo (x_sC b L i lt).2.1, (if t_pv b L i ≤ 2 then max lm (2 ^ (x_sC b L i lt).2.1) else lm), lw, U) := x_HGkm h ht hn hA
      show 4 * ((if sk 26 6 = 0 then 13 else 0) + x_mcc (decide (t_pv b L i ≤ 2)) (decide (t_pv b L i = 4 ∨ t_pv b L i = 5)) lo lm (x_f0 sk) (sk (t_pfi b L i).toNatClampNeg) (x_sA b L i lt).2.1 (x_sC b L i lt).2.1) + x_Ph (lt, sk, st, lo, lm, lw, U) ≤ x_Ph (va_up lt (t_ptg b L i) (some (x_sC b L i lt)), va_up (va_up (x_k1 (t_pv b L i) (t_pfi b L i).toNatClampNeg (x_sA b L i lt).2.1 sk) 26 (x_k1 (t_pv b L i) (t_pfi b L i).toNatClampNeg (x_sA b L i lt).2.1 sk (t_ptg b L i))) (t_ptg b L i) (x_g6 (x_sC b L i lt).2.1 (x_f0 sk)), st + 1, o_ln lo (x_sC b L i lt).2.1, (if t_pv b L i ≤ 2 then max lm (2 ^ (x_sC b L i lt).2.1) else lm), lw, U) + 120
      omega
    · rw [if_neg hv, if_neg hv, if_neg hv]
      obtain ⟨y, A, hy, e1, e2, e3, e4⟩ := x_stL (G := (lt, sk, st, lo, lm, lw, U)) hst (by omega) hO
      have e2' : lt y = some A := e2
      have e3' : x_sA b L i lt = A := e3
      have hB : t_pv b L i = 16 ∨ t_pv b L i = 19 → (t_pse b L i).toNatClampNeg < 26 ∧ lt (t_pse b L i).toNatClampNeg = some (x_sB b L i lt) := fun q => by
        obtain ⟨z, B, hz, f1, f2, f3⟩ := e4 (Or.inr q)
        have f2' : lt z = some B := f2
        have f3' : x_sB b L i lt = B := f3
        rw [f1, nI_clamp (by omega), f2', f3']; exact ⟨hz, rfl⟩
      have efi : (t_pfi b L i).toNatClampNeg = y := by rw [e1, nI_clamp (by omega)]
      obtain ⟨k1, k2, k3⟩ := x_tkRm (v := t_pv b L i) (f := y) (f2 := (t_pse b L i).toNatClampNeg) (A := A) (B := x_sB b L i lt) h (by omega) hy e2' hB
      show x_HG (x_tkA (t_pv b L i) (x_sA b L i lt) (t_pvs b L i) (t_pfi b L i).toNatClampNeg lt, x_tkS (t_pv b L i) (x_sA b L i lt) (x_sB b L i lt) (t_pfi b L i).toNatClampNeg (t_pse b L i).toNatClampNeg sk, st, lo, lm, x_tkW (t_pv b L i) (x_sA b L i lt) (x_sB b L i lt) lw, _) ∧ x_tkE (t_pv b L i) (x_sA b L i lt) (x_sB b L i lt) (t_pfi b L i).toNatClampNeg (t_pse b L i).toNatClampNeg sk lw + 2 * x_Ph (lt, sk, st, lo, lm, lw, U) ≤ 2 * x_Ph (lt, x_tkS (t_pv b L i) (x_sA b L i lt) (x_sB b L i lt) (t_pfi b L i).toNatClampNeg (t_pse b L i).toNatClampNeg sk, st, lo, lm, x_tkW (t_pv b L i) (x_sA b L i lt) (x_sB b L i lt) lw, U) + 306 ∧ 4 * x_tkC (t_pv b L i) (x_sA b L i lt) (x_sB b L i lt) (t_pfi b L i).toNatClampNeg (t_pse b L i).toNatClampNeg sk lw + x_Ph (lt, sk, st, lo, lm, lw, U) ≤ x_Ph (lt, x_tkS (t_pv b L i) (x_sA b L i lt) (x_sB b L i lt) (t_pfi b L i).toNatClampNeg (t_pse b L i).toNatClampNeg sk, st, lo, lm, x_tkW (t_pv b L i) (x_sA b L i lt) (x_sB b L i lt) lw, U) + 120
      rw [efi, e3']
      refine ⟨⟨k1.1, fun x A' hx eA => ?_, k1.2.2⟩, by omega, by omega⟩
      have eA' : x_tkA (t_pv b L i) A (t_pvs b L i) y lt x = some A' := eA
      unfold x_tkA at eA'
      by_cases q8 : t_pv b L i = 8
      · rw [if_pos q8] at eA'
        by_cases qx : x = y
        · subst qx
          rw [va_up_self] at eA'
          have := k1.2.1 x A hx e2'
          cases eA'
          exact this
        · rw [va_up_ne _ _ qx] at eA'
          exact k1.2.1 x A' hx eA'
      · rw [if_neg q8] at eA'
        exact k1.2.1 x A' hx eA'
  · have hO1 : ¬ x_sO b L i (lt, sk, st, lo, lm, lw, U).1 = 0 := hO
    rw [if_pos hO1, if_pos hO1, if_pos hO1]
    refine ⟨h, ?_, ?_⟩
    · show 0 + 2 * x_Ph (lt, sk, st, lo, lm, lw, U) ≤ 2 * x_Ph (lt, sk, st, lo, lm, lw, U) + 306; omega
    · show 4 * 0 + x_Ph (lt, sk, st, lo, lm, lw, U) ≤ x_Ph (lt, sk, st, lo, lm, lw, U) + 120; omega
theorem x_ruR (hL : L ≤ 16384) : ∀ (u n i : Nat) (G : x_GS), i ≤ L → (t_scr b L u n i).1 = true → x_HG G → x_HG (x_run b L u n i G).1 ∧ x_ruE b L u n i G + 2 * x_Ph G ≤ 2 * x_Ph (x_run b L u n i G).1 + 306 * (L - i) ∧ 4 * x_ruC b L u n i G + x_Ph G ≤ x_Ph (x_run b L u n i G).1 + 120 * (L - i)
  | 0, n, i, G, hi, h3, h => by
    refine ⟨h, ?_, ?_⟩
    · show 0 + 2 * x_Ph G ≤ 2 * x_Ph G + 306 * (L - i); omega
    · show 4 * 0 + x_Ph G ≤ x_Ph G + 120 * (L - i); omega
  | u + 1, n, i, G, hi, h3, h => by
    unfold x_run x_ruE x_ruC
    by_cases q : n = 400 ∨ t_k b L i = 0
    · rw [if_pos q, if_pos q, if_pos q]
      refine ⟨h, ?_, ?_⟩
      · show 0 + 2 * x_Ph G ≤ 2 * x_Ph G + 306 * (L - i); omega
      · show 4 * 0 + x_Ph G ≤ x_Ph G + 120 * (L - i); omega
    · rw [if_neg q, if_neg q, if_neg q]
      have hs : (t_st b L i).1 = true ∧ (t_scr b L u (n + 1) (t_st b L i).2).1 = true := by
        unfold t_scr at h3
        rw [if_neg (fun z => q (Or.inr z)), if_neg (fun z => q (Or.inl z))] at h3
        by_cases q2 : (t_st b L i).1 = true
        · rw [if_pos q2] at h3; exact ⟨q2, h3⟩
        · rw [if_neg q2] at h3; exact absurd h3 q2
      obtain ⟨k1, k2, k3⟩ := x_stRm hL hs.1 h
      have hadv := t_stadv hi hs.1
      have hle := t_stl (b := b) hi
      by_cases q2 : ¬ (x_stp b L i G).2 = 0
      · rw [if_pos q2, if_pos q2, if_pos q2]
        refine ⟨k1, ?_, ?_⟩
        · show x_stE b L i G + 0 + 2 * x_Ph G ≤ 2 * x_Ph (x_stp b L i G).1 + 306 * (L - i); omega
        · show 4 * (x_stC b L i G + 0) + x_Ph G ≤ x_Ph (x_stp b L i G).1 + 120 * (L - i); omega
      · rw [if_neg q2, if_neg q2, if_neg q2]
        obtain ⟨j1, j2, j3⟩ := x_ruR hL u (n + 1) (t_st b L i).2 (x_stp b L i G).1 hle hs.2 k1
        refine ⟨j1, ?_, ?_⟩
        · show x_stE b L i G + x_ruE b L u (n + 1) (t_st b L i).2 (x_stp b L i G).1 + 2 * x_Ph G ≤ 2 * x_Ph (x_run b L u (n + 1) (t_st b L i).2 (x_stp b L i G).1).1 + 306 * (L - i); omega
        · show 4 * (x_stC b L i G + x_ruC b L u (n + 1) (t_st b L i).2 (x_stp b L i G).1) + x_Ph G ≤ x_Ph (x_run b L u (n + 1) (t_st b L i).2 (x_stp b L i G).1).1 + 120 * (L - i); omega
end XRO
