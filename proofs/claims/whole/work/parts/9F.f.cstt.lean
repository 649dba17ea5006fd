/-! PURE, the class: a statement that tells, in a run -/
theorem pr_cut {M T l : Nat} {pl0 pl pf : Int32} {g : Nat → Int32} {U V : List Nat} (h : pr_I M T l pl pf g (U ++ V)) (hU : U.length ≤ 65536) (hpl : pl0 = nI (min 65536 U.length)) : pr_I M T l pl0 0 g U := by
  obtain ⟨h1, h2, h3, h4, h5⟩ := h
  refine ⟨hpl, by rw [if_neg (by omega)], fun j x hj hx => h3 j x hj ?_, ?_, h5⟩
  · have hl : j < U.length := by
      refine Classical.byContradiction (fun w => ?_)
      rw [List.getElem?_eq_none (by omega)] at hx; cases hx
    rw [List.getElem?_append_left hl]; exact hx
  · rw [List.length_append] at h4
    omega
section CSU
variable {K60 : c_KT} {post : c_PT9} {q_y ho N mc ms kc ks : Nat} {x2 x3 x4 y0 : Int32} {d1 d2 d3 d4 : Int32} {d5 : Option Nat} {lm : Nat → Option Nat} {ge : Nat → Int32} {q_o l_o : Nat} {o_r : Int32} {g_o g_t : Nat → Int32} {q_l q_m q_h l : Nat} {mf mz mh : Int32} {ml : Option Nat} {gl gm gh : Nat → Int64} {w1 w2 w3 w4 w5 w6 w7 w8 w9 w10 w11 w12 : Int64} {qk qr qg lw : Nat} {vh vg : Option Nat} {v1 v2 v3 v4 v5 v6 v7 v8 v9 : Int32} {gi gp gq gk gr gg : Nat → Int32} {qs : Nat} {tl tb ts tk tv : Int32} {gy : Nat → Int32} {sv : Nat} {sg sf s2 sd sh sx smn sr se : Int32} {gn : Nat → Int32} {q_b l_b : Nat} {pl pf : Int32} {gb gd : Nat → Int32} {mm : Nat → px_MR} {cm np ns : Nat} {hm pa sa : Nat → Nat} {pp : Nat → px_PR} {ss : Nat → px_SR} {b : Nat → Int32} {L i M T RC RE : Nat} {G : x_GS}
theorem c_bT (hIV : c_IV G lm d5 cm mm np ns pp ss sa o_r g_o g_t mf mz mh ml gl gm gh vh vg v1 v2 v4 v7 v8 gi) (hL16 : L ≤ 16384) (hok : s_ok b L i sv sg sf s2 sd sh sx smn sr se gn) (hrd : (t_st b L i).1 = true) (hO : x_sO b L i G.1 = 0) (hv : 8 ≤ t_pv b L i) (hU : G.2.2.2.2.2.2.length ≤ 65536) (hI : pr_I M T l_b pl pf gb G.2.2.2.2.2.2) (hb : pr_b (kc + (x_stC b L i G + RC)) (ks + (x_stE b L i G + RE)) l_b T mc ms) (hM : x_stM b L i G ≤ M)
    (hK : ∀ q_o' o_r' g_o' g_t' q_b' l_b' pl' pf' gb' gd' q_l' q_m' q_h' mf' mz' mh' ml' gl' gm' gh' w1' w2' w3' w4' w5' w6' w7' w8' w9' w10' w11' w12' qk' qr' qg' vh' vg' v1' v2' v3' v4' v5' v6' v7' v8' v9' gi' gp' gq' gk' gr' gg' mm' kc' ks', c_IV (x_stp b L i G).1 lm d5 cm mm' np ns pp ss sa o_r' g_o' g_t' mf' mz' mh' ml' gl' gm' gh' vh' vg' v1' v2' v4' v7' v8' gi' → pr_I M T l_b' pl' pf' gb' (x_stp b L i G).1.2.2.2.2.2.2 → pr_b (kc' + RC) (ks' + RE) l_b' T mc ms → x_stM b L i G ≤ l_b' → K60 (x2 + (if (x_stp b L i G).2 = 0 then 1 else 0)) (x3 + 1) d1 d2 (x_stp b L i G).2 d4 d5 lm ge q_o' (x_stp b L i G).1.2.2.2.1 o_r' g_o' g_t' q_l' q_m' q_h' (x_stp b L i G).1.2.2.2.2.1 (x_stp b L i G).1.2.2.2.2.1 (x_stp b L i G).1.2.2.2.2.1 mf' mz' mh' ml' gl' gm' gh' w1' w2' w3' w4' w5' w6' w7' w8' w9' w10' w11' w12' qk' qr' qg' (x_stp b L i G).1.2.2.2.2.2.1 (x_stp b L i G).1.2.2.2.2.2.1 (x_stp b L i G).1.2.2.2.2.2.1 vh' vg' v1' v2' v3' v4' v5' v6' v7' v8' v9' gi' gp' gq' gk' gr' gg' qs tl tb ts tk tv gy sv sg sf s2 sd sh sx smn sr se gn q_b' l_b' pl' pf' gb' gd' mm' cm np ns hm pa sa pp ss kc' ks') :
    w135_L112 K60 q_y ho N mc ms post x2 x3 pl 0 d1 d2 d3 d4 d5 lm ge q_o G.2.2.2.1 o_r g_o g_t q_l q_m q_h G.2.2.2.2.1 G.2.2.2.2.1 G.2.2.2.2.1 mf mz mh ml gl gm gh w1 w2 w3 w4 w5 w6 w7 w8 w9 w10 w11 w12 qk qr qg G.2.2.2.2.2.1 G.2.2.2.2.2.1 G.2.2.2.2.2.1 vh vg v1 v2 v3 v4 v5 v6 v7 v8 v9 gi gp gq gk gr gg qs tl tb ts tk tv gy sv sg sf s2 sd sh sx smn sr se gn q_b l_b pl pf gb gd mm cm np ns hm pa sa pp ss kc ks := by
  obtain ⟨lt, sk, st, lo, lmi, lwi, U⟩ := G
  obtain ⟨q, sp, sn, sm, sK, hP, hL, hT, hvh, hvg, hs4, hw1, hw2, hw3⟩ := hIV
  dsimp only at hP hL hT hs4 hw1 hw2 hw3 hO hU hI hb hM
  have hsv21 : sv < 21 := hok.1.1
  obtain ⟨e1, e2, ev⟩ := t_fiE hok
  have hv' : 8 ≤ sv := by rw [← ev]; exact hv
  have hv2 : 2 < sv := Nat.lt_of_lt_of_le (by decide) hv'
  obtain ⟨⟨f, hf, ef⟩, g2, g3⟩ := t_fiN hok.1 hrd hv2
  obtain ⟨o1, o2, o3, o4, o5⟩ := x_ob0 hO
  obtain ⟨A, hA0⟩ := o1 (by rw [ev]; exact hv2)
  have hA : lt f = some A := by rw [ef, x_ltn hf] at hA0; exact hA0
  have esA : x_sA b L i lt = A := by unfold x_sA; rw [hA0]; rfl
  have hA0 : x_lt lt (t_pfi b L i) = some A := hA0
  rw [hA0, show (some A).getD x_D0 = A from rfl] at o3 o5
  obtain ⟨a, ha, hac, hG, hAq, hsk⟩ := c_LTl hL hf hA
  have hk : c_kn (mm a) A.2.1 A.2.2.1 (x_bg A.1 A.2.2.2.1) := hG.2.2.2.2.1
  have hn := c_knn hk
  have efn : (t_pfi b L i).toNatClampNeg = f := by rw [ef, nI_clamp (Nat.lt_trans hf (by decide))]
  have hpl := t_pvl (b := b) (i := i) hL16
  have hvac := c_knv hk
  have h4f : x_p4 (sk f) := by
    rcases hs4 f (Nat.lt_trans hf (by decide)) with z | z
    · have h6 : 16 ≤ c_lv (mm a) 6 := hvac.1
      rw [← hsk, z 6] at h6
      exact absurd h6 (by decide)
    · exact z
  have h16f : ∀ k, k < 4 → 16 ≤ sk f (20 + k) := fun k hk => by
    rw [hsk]
    have := (hvac.2.2.2.2.2.2.2 k hk).1
    unfold c_lv
    rw [if_pos (by omega)]
    exact this
  -- the second letter
  obtain ⟨B, f2, hBB, hB16, hf2n, hp2⟩ : ∃ (B : x_LR) (f2 : Nat), x_sB b L i lt = B ∧ (sv = 16 ∨ sv = 19 → f2 < 26 ∧ s2 = nI f2 ∧ lt f2 = some B) ∧ (t_pse b L i).toNatClampNeg = f2 ∧ (sv = 16 ∨ sv = 19 → x_p4 (sk f2)) := by
    by_cases w : sv = 16 ∨ sv = 19
    · obtain ⟨f2, hf2, ef2⟩ := g2 (Or.inr w)
      obtain ⟨B, hB0⟩ := o2 (by rw [ev]; exact Or.inr w)
      have hB : lt f2 = some B := by rw [ef2, x_ltn hf2] at hB0; exact hB0
      obtain ⟨c, hc, hcc, hG2, hBq, hsk2⟩ := c_LTl hL hf2 hB
      refine ⟨B, f2, ?_, fun _ => ⟨hf2, by rw [e2]; exact ef2, hB⟩, by rw [ef2, nI_clamp (Nat.lt_trans hf2 (by decide))], fun _ => ?_⟩
      · have hB0 : x_lt lt (t_pse b L i) = some B := hB0
        unfold x_sB; rw [hB0]; rfl
      · rcases hs4 f2 (Nat.lt_trans hf2 (by decide)) with z | z
        · have h6 : 16 ≤ c_lv (mm c) 6 := (c_knv (show c_kn (mm c) B.2.1 B.2.2.1 (x_bg B.1 B.2.2.2.1) from hG2.2.2.2.2.1)).1
          rw [← hsk2, z 6] at h6
          exact absurd h6 (by decide)
        · exact z
    · exact ⟨x_sB b L i lt, (t_pse b L i).toNatClampNeg, rfl, fun z => absurd z w, rfl, fun z => absurd z w⟩
  have hB12 : sv = 16 → B.2.1 = A.2.1 := fun w => by
    have := o5 (by rw [ev]; exact w)
    rw [← hBB]; exact this.symm
  have hW8 : sv = 8 → (t_pvs b L i).length = A.2.1 ∧ ∀ j x, j < 160 → (t_pvs b L i)[j]? = some x → gn j = x := fun w => by
    refine ⟨t_go8 (by rw [ev]; exact w) hn.1 hpl o3, ?_⟩
    have evs : t_pvs b L i = t_vals b L sv (t_id b L i sv) := by unfold t_pvs; rw [ev]
    rw [evs]
    exact (hok.2.2.2.2.2.2.1 (by rw [w]; exact Or.inr (Or.inr (Or.inr (Or.inr rfl))))).2
  have hnle : ¬ t_pv b L i ≤ 7 := by rw [ev]; exact Nat.not_le.2 hv'
  have eS : x_stp b L i (lt, sk, st, lo, lmi, lwi, U) = ((x_tkA sv A (t_pvs b L i) f lt, x_tkS sv A B f f2 sk, st, lo, lmi, x_tkW sv A B lwi, if (U ++ x_txt sv A B).length ≤ 65536 then U ++ x_txt sv A B else U), if (U ++ x_txt sv A B).length ≤ 65536 then 0 else 7) := by
    unfold x_stp
    rw [if_neg (fun z => z hO), if_neg hnle]
    unfold x_sV
    rw [ev, esA, hBB, efn, hf2n]
  have eC : x_stC b L i (lt, sk, st, lo, lmi, lwi, U) = x_tkC sv A B f f2 sk lwi := by
    unfold x_stC
    rw [if_neg (fun z => z hO), if_neg hnle, ev, esA, hBB, efn, hf2n]
  have eE : x_stE b L i (lt, sk, st, lo, lmi, lwi, U) = x_tkE sv A B f f2 sk lwi := by
    unfold x_stE
    rw [if_neg (fun z => z hO), if_neg hnle, ev, esA, hBB, efn, hf2n]
  have eM : x_stM b L i (lt, sk, st, lo, lmi, lwi, U) = min 65536 (U.length + (x_txt sv A B).length) := by
    unfold x_stM
    rw [if_neg (fun z => z hO), if_neg hnle]
    unfold x_sV
    rw [ev, esA, hBB]
  rw [eC, eE] at hb
  rw [eM] at hM
  rw [eS, eM] at hK
  have hU : U.length ≤ 65536 := hU
  have hI : pr_I M T l_b pl pf gb U := hI
  have hVt : ∀ V', x_PG sv A B V' → V' = x_txt sv A B := fun V' hV' => x_txtE hn.1 hV'
  generalize x_txt sv A B = V at *
  -- lists' lengths, the witness's
  have hs4' : x_s4 (x_tkS sv A B f f2 sk) := by
    have hN : ∀ k, (x_fam (x_bg A.1 A.2.2.2.1) A.2.1 A.2.2.1 k).length ≤ 4096 := fun k => x_faml hn.1
    unfold x_tkS
    by_cases w14 : sv = 14
    · rw [if_pos w14]; exact x_s4u hs4 (x_p4T h4f)
    · rw [if_neg w14]
      by_cases w15 : sv = 15 ∨ sv = 20
      · rw [if_pos w15]; exact x_s4u hs4 (x_p47 h4f)
      · rw [if_neg w15]
        by_cases w18 : sv = 18
        · rw [if_pos w18]
          refine x_s4u hs4 ?_
          unfold x_gS
          split
          · exact x_p4L (hN 1) (by decide) h4f h16f
          · exact x_p47 (x_p4L (hN 1) (by decide) h4f h16f)
        · rw [if_neg w18]
          by_cases w16 : sv = 16 ∨ x_slw sv A B = true
          · rw [if_pos w16]
            have w16' : sv = 16 ∨ sv = 19 := w16.elim Or.inl (fun z => Or.inr (of_decide_eq_true z).1)
            refine x_s4u (x_s4u hs4 (x_p47 h4f)) (x_p47 ?_)
            by_cases w : f2 = f
            · rw [w, va_up_self]; exact x_p47 h4f
            · rw [va_up_ne _ _ w]; exact hp2 w16'
          · rw [if_neg w16]
            by_cases w10 : 10 ≤ sv ∧ sv ≤ 13
            · rw [if_pos w10]
              exact x_s4u hs4 (x_p4L (hN _) (by omega) h4f h16f)
            · rw [if_neg w10]; exact hs4
  have hwl : x_tkW sv A B lwi ≤ 4096 ∧ 16 ≤ x_tkW sv A B lwi ∧ c_p2 (x_tkW sv A B lwi) := by
    have hw1 : lwi ≤ 4096 := hw1
    have hw2 : 16 ≤ lwi := hw2
    have hw3 : c_p2 lwi := hw3
    unfold x_tkW
    split
    · exact ⟨Nat.max_le.2 ⟨hw1, hn.2⟩, Nat.le_trans hw2 (Nat.le_max_left _ _), c_p2m hw3⟩
    · exact ⟨hw1, hw2, hw3⟩
  have hRC : RC ≤ mc ∧ RE ≤ ms := by
    clear hs4 hs4' hp2 h4f
    unfold pr_b at hb
    omega
  have hbR : pr_b (kc + x_tkC sv A B f f2 sk lwi) (ks + x_tkE sv A B f f2 sk lwi) l_b T (mc - RC) (ms - RE) := by
    clear hs4 hs4' hp2 h4f
    unfold pr_b at hb ⊢
    omega
  have hsub : ∃ m s, kc + x_tkC sv A B f f2 sk lwi + m ≤ mc - RC ∧ ks + x_tkE sv A B f f2 sk lwi + s ≤ ms - RE ∧ ∀ Post : c_tlT, (∀ q_o' o_r' g_o' g_t' q_b' l_b' pl' pf' gb' gd' q_l' q_m' q_h' mf' mz' mh' ml' gl' gm' gh' w1' w2' w3' w4' w5' w6' w7' w8' w9' w10' w11' w12' qk' qr' qg' vh' vg' v1' v2' v3' v4' v5' v6' v7' v8' v9' gi' gp' gq' gk' gr' gg' mm', c_PW cm np ns mm' pp ss sa sp sn sm sK lo o_r' g_o' g_t' q lmi mf' mz' mh' ml' gl' gm' gh' → c_LT lm d5 cm mm' st (x_tkA sv A (t_pvs b L i) f lt) (x_tkS sv A B f f2 sk) np ns pp sp sn sm sK q → c_WT lm mm' (x_tkA sv A (t_pvs b L i) f lt) st (x_tkW sv A B lwi) v1' v2' v4' v7' v8' gi' → (∀ a, vh' = some a → a < cm) → (∀ a, vg' = some a → a < cm) → (pr_I M T l_b' pl' pf' gb' (U ++ V) ∧ pr_b (kc + x_tkC sv A B f f2 sk lwi + m) (ks + x_tkE sv A B f f2 sk lwi + s) l_b' T (mc - RC) (ms - RE)) → Post d1 d2 0 d4 d5 q_o' lo o_r' g_o' g_t' sv sg sf s2 sd sh sx smn sr se gn q_b' l_b' pl' pf' gb' gd' q_l' q_m' q_h' lmi lmi lmi mf' mz' mh' ml' gl' gm' gh' w1' w2' w3' w4' w5' w6' w7' w8' w9' w10' w11' w12' qk' qr' qg' (x_tkW sv A B lwi) (x_tkW sv A B lwi) (x_tkW sv A B lwi) vh' vg' v1' v2' v3' v4' v5' v6' v7' v8' v9' gi' gp' gq' gk' gr' gg' mm') → w268r_wp lm cm np ns pa sa pp ss a (x_tkC sv A B f f2 sk lwi + m) (x_tkE sv A B f f2 sk lwi + s) Post d1 d2 0 d4 d5 q_o lo o_r g_o g_t sv sg sf s2 sd sh sx smn sr se gn q_b l_b pl pf gb gd q_l q_m q_h lmi lmi lmi mf mz mh ml gl gm gh w1 w2 w3 w4 w5 w6 w7 w8 w9 w10 w11 w12 qk qr qg lwi lwi lwi vh vg v1 v2 v3 v4 v5 v6 v7 v8 v9 gi gp gq gk gr gg mm := by
    obtain ⟨m, s, r1, r2, r3⟩ := c_sub (R := fun _ _ => True) (V := V) (kc := kc + x_tkC sv A B f f2 sk lwi) (ks := ks + x_tkE sv A B f f2 sk lwi) (mc := mc - RC) (ms := ms - RE) (g_d := gd) (q_b := q_b) (post := fun m s q_b' l_b' pl' pf' gb' gd' => pr_I M T l_b' pl' pf' gb' (U ++ V) ∧ pr_b (kc + x_tkC sv A B f f2 sk lwi + m) (ks + x_tkE sv A B f f2 sk lwi + s) l_b' T (mc - RC) (ms - RE)) (P := fun mc1 ms1 post' q_b l_b pl pf gb gd => ∀ Post : c_tlT, (∀ q_o' o_r' g_o' g_t' q_b' l_b' pl' pf' gb' gd' q_l' q_m' q_h' mf' mz' mh' ml' gl' gm' gh' w1' w2' w3' w4' w5' w6' w7' w8' w9' w10' w11' w12' qk' qr' qg' vh' vg' v1' v2' v3' v4' v5' v6' v7' v8' v9' gi' gp' gq' gk' gr' gg' mm', c_PW cm np ns mm' pp ss sa sp sn sm sK lo o_r' g_o' g_t' q lmi mf' mz' mh' ml' gl' gm' gh' → c_LT lm d5 cm mm' st (x_tkA sv A (t_pvs b L i) f lt) (x_tkS sv A B f f2 sk) np ns pp sp sn sm sK q → c_WT lm mm' (x_tkA sv A (t_pvs b L i) f lt) st (x_tkW sv A B lwi) v1' v2' v4' v7' v8' gi' → (∀ a, vh' = some a → a < cm) → (∀ a, vg' = some a → a < cm) → post' q_b' l_b' pl' pf' gb' gd' → Post d1 d2 0 d4 d5 q_o' lo o_r' g_o' g_t' sv sg sf s2 sd sh sx smn sr se gn q_b' l_b' pl' pf' gb' gd' q_l' q_m' q_h' lmi lmi lmi mf' mz' mh' ml' gl' gm' gh' w1' w2' w3' w4' w5' w6' w7' w8' w9' w10' w11' w12' qk' qr' qg' (x_tkW sv A B lwi) (x_tkW sv A B lwi) (x_tkW sv A B lwi) vh' vg' v1' v2' v3' v4' v5' v6' v7' v8' v9' gi' gp' gq' gk' gr' gg' mm') → w268r_wp lm cm np ns pa sa pp ss a (x_tkC sv A B f f2 sk lwi + mc1) (x_tkE sv A B f f2 sk lwi + ms1) Post d1 d2 0 d4 d5 q_o lo o_r g_o g_t sv sg sf s2 sd sh sx smn sr se gn q_b l_b pl pf gb gd q_l q_m q_h lmi lmi lmi mf mz mh ml gl gm gh w1 w2 w3 w4 w5 w6 w7 w8 w9 w10 w11 w12 qk qr qg lwi lwi lwi vh vg v1 v2 v3 v4 v5 v6 v7 v8 v9 gi gp gq gk gr gg mm) (fun mc1 ms1 post' q_b l_b pl pf gb gd M T U hI hb hM hpost Post hPo => c_tell (M := M) (T := T) (U := U) (V := V) (B := B) (f2 := f2) (vs := t_pvs b L i) hP hL hT hvh hvg hf hA ha ⟨hv', hsv21⟩ h4f hB16 hB12 hW8 hw1 hI (by
        unfold pr_b at hb ⊢
        omega) hVt hM (fun q_o' o' go' gt' q_b' l_b' pl' pf' gb' gd' q_l' q_m' q_h' mf' mz' mh' ml' gl' gm' gh' w1' w2' w3' w4' w5' w6' w7' w8' w9' w10' w11' w12' qk' qr' qg' vh' vg' v1' v2' v3' v4' v5' v6' v7' v8' v9' gi' gp' gq' gk' gr' gg' mm' hQ => hPo _ _ _ _ _ _ _ _ _ _ _ _ _ _ _ _ _ _ _ _ _ _ _ _ _ _ _ _ _ _ _ _ _ _ _ _ _ _ _ _ _ _ _ _ _ _ _ _ _ _ _ _ _ hQ.1 hQ.2.1 hQ.2.2.1 hQ.2.2.2.1 hQ.2.2.2.2.1 (hpost _ _ _ _ _ _ hQ.2.2.2.2.2 trivial))) hI hbR hM (fun m s q' l' pl' pf' g' gd' k1 _ k3 => ⟨k1, k3⟩)
    exact ⟨m, s, r1, r2, r3⟩
  obtain ⟨m, s, r1, r2, r3⟩ := hsub
  have hcost : kc + (x_tkC sv A B f f2 sk lwi + m) ≤ mc ∧ ks + (x_tkE sv A B f f2 sk lwi + s) ≤ ms := by
    clear hs4 hs4' hp2 h4f
    omega
  unfold w135_L112
  refine ⟨fun z => absurd rfl z, fun _ => ⟨hsv21, ?_⟩⟩
  rw [c_mks sv hsv21, if_neg (Nat.not_lt.2 hv')]
  refine ⟨fun _ => ?_, fun z => absurd rfl z⟩
  unfold w135_L142
  refine ⟨fun z => absurd rfl z, fun _ => c_at26 ?_⟩
  rw [show t_la lm sf = some a by rw [e1, ef, t_la26 hf]; exact ha]
  refine ⟨fun e => (by cases e), fun a161 e161 => ?_⟩
  cases e161
  refine ⟨x_tkC sv A B f f2 sk lwi + m, x_tkE sv A B f f2 sk lwi + s, hcost.1, hcost.2, r3 _ ?_⟩
  intro q_o' o_r' g_o' g_t' q_b' l_b' pl' pf' gb' gd' q_l' q_m' q_h' mf' mz' mh' ml' gl' gm' gh' w1' w2' w3' w4' w5' w6' w7' w8' w9' w10' w11' w12' qk' qr' qg' vh' vg' v1' v2' v3' v4' v5' v6' v7' v8' v9' gi' gp' gq' gk' gr' gg' mm' k1 k2 k3 k4 k5 k6
  obtain ⟨k6, k7⟩ := k6
  have hbK : pr_b (kc + (x_tkC sv A B f f2 sk lwi + m) + RC) (ks + (x_tkE sv A B f f2 sk lwi + s) + RE) l_b' T mc ms := by
    clear hs4 hs4' hp2 h4f
    unfold pr_b at k7 ⊢
    omega
  unfold w135_L164
  by_cases hfit : (U ++ V).length ≤ 65536
  · rw [if_pos hfit, if_pos hfit] at hK
    have hpf' : pf' = 0 := by rw [k6.2.1, if_neg (Nat.not_lt.2 hfit)]
    refine ⟨fun _ => ?_, fun z => absurd hpf' z⟩
    unfold w135_L189
    refine ⟨fun z => absurd rfl z, fun _ => ?_⟩
    unfold w135_L202
    intro z1 e1 z2 e2
    rw [e1, e2]
    exact hK q_o' o_r' g_o' g_t' q_b' l_b' pl' pf' gb' gd' q_l' q_m' q_h' mf' mz' mh' ml' gl' gm' gh' w1' w2' w3' w4' w5' w6' w7' w8' w9' w10' w11' w12' qk' qr' qg' vh' vg' v1' v2' v3' v4' v5' v6' v7' v8' v9' gi' gp' gq' gk' gr' gg' mm' _ _ ⟨q, sp, sn, sm, sK, k1, k2, k3, k4, k5, hs4', hwl.1, hwl.2.1, hwl.2.2⟩ k6 hbK (by have := k6.2.2.2.1; rw [List.length_append] at this; exact this)
  · rw [if_neg hfit, if_neg hfit] at hK
    have hpf' : pf' = 1 := by rw [k6.2.1, if_pos (Nat.lt_of_not_le hfit)]
    refine ⟨fun z => absurd z (by rw [hpf']; decide), fun _ => ?_⟩
    unfold w168_wp w135_L189
    refine ⟨fun _ => ?_, fun z => absurd z (by decide)⟩
    unfold w135_L202
    intro z1 e1 z2 e2
    rw [e1, e2]
    exact hK q_o' o_r' g_o' g_t' q_b' l_b' pl 0 gb' gd' q_l' q_m' q_h' mf' mz' mh' ml' gl' gm' gh' w1' w2' w3' w4' w5' w6' w7' w8' w9' w10' w11' w12' qk' qr' qg' vh' vg' v1' v2' v3' v4' v5' v6' v7' v8' v9' gi' gp' gq' gk' gr' gg' mm' _ _ ⟨q, sp, sn, sm, sK, k1, k2, k3, k4, k5, hs4', hwl.1, hwl.2.1, hwl.2.2⟩ (pr_cut k6 hU hI.1) hbK (by have := k6.2.2.2.1; rw [List.length_append] at this; exact this)
end CSU
