/-! PURE, the class: run -/
theorem x_stpU {b : Nat → Int32} {L i : Nat} {G : x_GS} (h : G.2.2.2.2.2.2.length ≤ 65536) : (x_stp b L i G).1.2.2.2.2.2.2.length ≤ 65536 ∧ (x_stp b L i G).1.2.2.1 ≤ G.2.2.1 + 1 := by
  unfold x_stp
  split
  · exact ⟨h, Nat.le_succ _⟩
  · split
    · exact ⟨h, Nat.le_refl _⟩
    · refine ⟨?_, Nat.le_succ _⟩
      show (if _ then _ else _ : List Nat).length ≤ 65536
      split
      · assumption
      · exact h
theorem x_stpV {b : Nat → Int32} {L i : Nat} {G : x_GS} : G.2.2.2.2.2.2.length ≤ (x_stp b L i G).1.2.2.2.2.2.2.length ∧ ((x_stp b L i G).2 = 0 → x_stM b L i G ≤ (x_stp b L i G).1.2.2.2.2.2.2.length) := by
  unfold x_stp x_stM
  by_cases h1 : ¬ x_sO b L i G.1 = 0
  · rw [if_pos h1, if_pos h1]; exact ⟨Nat.le_refl _, fun _ => Nat.zero_le _⟩
  · rw [if_neg h1, if_neg h1]
    by_cases h2 : t_pv b L i ≤ 7
    · rw [if_pos h2, if_pos h2]; exact ⟨Nat.le_refl _, fun _ => Nat.zero_le _⟩
    · rw [if_neg h2, if_neg h2]
      by_cases h3 : (G.2.2.2.2.2.2 ++ x_sV b L i G.1).length ≤ 65536
      · rw [if_pos h3, if_pos h3]
        dsimp only
        rw [List.length_append]
        exact ⟨Nat.le_add_right _ _, fun _ => Nat.min_le_right _ _⟩
      · rw [if_neg h3, if_neg h3]
        exact ⟨Nat.le_refl _, fun z => absurd (show (7 : Int32) = 0 from z) (by decide)⟩
theorem x_runV {b : Nat → Int32} {L : Nat} : ∀ (u n i : Nat) (G : x_GS), G.2.2.2.2.2.2.length ≤ (x_run b L u n i G).1.2.2.2.2.2.2.length
  | 0, _, _, _ => Nat.le_refl _
  | u + 1, n, i, G => by
    have ih := x_runV (b := b) (L := L) u (n + 1) (t_st b L i).2 (x_stp b L i G).1
    have h1 := (x_stpV (b := b) (L := L) (i := i) (G := G)).1
    unfold x_run
    split
    · exact Nat.le_refl _
    · split
      · exact h1
      · exact Nat.le_trans h1 ih
section CLP
variable {post : c_PT9} {q_y ho N mc ms : Nat} {d1 d2 : Int32} {b : Nat → Int32} {L M T : Nat}
theorem c_loop (hLN : L ≤ N) (hN : N < 2 ^ 31) (hL16 : L ≤ 16384) :
    ∀ (u n i done : Nat) (G : x_GS) (d5 : Option Nat) (lm : Nat → Option Nat) (ge : Nat → Int32) (q_o : Nat) (o_r : Int32) (g_o g_t : Nat → Int32) (q_l q_m q_h : Nat) (mf mz mh : Int32) (ml : Option Nat) (gl gm gh : Nat → Int64) (w1 w2 w3 w4 w5 w6 w7 w8 w9 w10 w11 w12 : Int64) (qk qr qg : Nat) (vh vg : Option Nat) (v1 v2 v3 v4 v5 v6 v7 v8 v9 : Int32) (gi gp gq gk gr gg : Nat → Int32) (tv : Int32) (sv : Nat) (sg sf s2 sd sh sx smn sr se : Int32) (gn : Nat → Int32) (q_b l_b : Nat) (pl pf : Int32) (gb gd : Nat → Int32) (mm : Nat → px_MR) (cm np ns : Nat) (hm pa sa : Nat → Nat) (pp : Nat → px_PR) (ss : Nat → px_SR) (kc ks : Nat),
      i ≤ L → L - i ≤ u → n ≤ 400 → sv < 21 → (t_k b L i = 2 → tv = t_v b L i) → (t_scr b L (u + 1) n i).1 = true → G.2.2.1 + u < 2 ^ 30 → G.2.2.2.2.2.2.length ≤ 65536 → c_IV G lm d5 cm mm np ns pp ss sa o_r g_o g_t mf mz mh ml gl gm gh vh vg v1 v2 v4 v7 v8 gi → pr_I M T l_b pl pf gb G.2.2.2.2.2.2 → pr_b (kc + x_ruC b L (u + 1) n i G) (ks + x_ruE b L (u + 1) n i G) l_b T mc ms → x_ruM b L (u + 1) n i G ≤ M →
      (∀ d5' lm' ge' q_o' o_r' g_o' g_t' q_l' q_m' q_h' mf' mz' mh' ml' gl' gm' gh' w1' w2' w3' w4' w5' w6' w7' w8' w9' w10' w11' w12' qk' qr' qg' vh' vg' v1' v2' v3' v4' v5' v6' v7' v8' v9' gi' gp' gq' gk' gr' gg' tl' tb' ts' tk' tv' sv' sg' sf' s2' sd' sh' sx' smn' sr' se' gn' q_b' l_b' pl' pf' gb' gd' mm' cm' np' ns' hm' pa' sa' pp' ss', sv' < 21 → c_IV (x_run b L (u + 1) n i G).1 lm' d5' cm' mm' np' ns' pp' ss' sa' o_r' g_o' g_t' mf' mz' mh' ml' gl' gm' gh' vh' vg' v1' v2' v4' v7' v8' gi' → pr_I M T l_b' pl' pf' gb' (x_run b L (u + 1) n i G).1.2.2.2.2.2.2 → (x_run b L (u + 1) n i G).1.2.2.2.2.2.2.length ≤ 65536 → x_ruM b L (u + 1) n i G ≤ l_b' → post (nI (done + (x_run b L (u + 1) n i G).2.1)) d1 d2 (x_run b L (u + 1) n i G).2.2 (nI (x_run b L (u + 1) n i G).1.2.2.1) d5' lm' ge' q_o' (x_run b L (u + 1) n i G).1.2.2.2.1 o_r' g_o' g_t' q_l' q_m' q_h' (x_run b L (u + 1) n i G).1.2.2.2.2.1 (x_run b L (u + 1) n i G).1.2.2.2.2.1 (x_run b L (u + 1) n i G).1.2.2.2.2.1 mf' mz' mh' ml' gl' gm' gh' w1' w2' w3' w4' w5' w6' w7' w8' w9' w10' w11' w12' qk' qr' qg' (x_run b L (u + 1) n i G).1.2.2.2.2.2.1 (x_run b L (u + 1) n i G).1.2.2.2.2.2.1 (x_run b L (u + 1) n i G).1.2.2.2.2.2.1 vh' vg' v1' v2' v3' v4' v5' v6' v7' v8' v9' gi' gp' gq' gk' gr' gg' q_y tl' tb' ts' tk' tv' b sv' sg' sf' s2' sd' sh' sx' smn' sr' se' gn' q_b' l_b' pl' pf' gb' gd' mm' cm' np' ns' hm' pa' sa' pp' ss') →
      w135_L60 q_y ho N mc ms post (u + 2) (nI done) (nI n) d1 d2 0 (nI G.2.2.1) d5 lm ge q_o G.2.2.2.1 o_r g_o g_t q_l q_m q_h G.2.2.2.2.1 G.2.2.2.2.1 G.2.2.2.2.1 mf mz mh ml gl gm gh w1 w2 w3 w4 w5 w6 w7 w8 w9 w10 w11 w12 qk qr qg G.2.2.2.2.2.1 G.2.2.2.2.2.1 G.2.2.2.2.2.1 vh vg v1 v2 v3 v4 v5 v6 v7 v8 v9 gi gp gq gk gr gg q_y (nI L) (nI (t_e b L i)) (nI (t_j b L i)) (t_ck (t_k b L i)) tv b sv sg sf s2 sd sh sx smn sr se gn q_b l_b pl pf gb gd mm cm np ns hm pa sa pp ss kc ks := by
  intro u
  induction u with
  | zero =>
    intro n i done G d5 lm ge q_o o_r g_o g_t q_l q_m q_h mf mz mh ml gl gm gh w1 w2 w3 w4 w5 w6 w7 w8 w9 w10 w11 w12 qk qr qg vh vg v1 v2 v3 v4 v5 v6 v7 v8 v9 gi gp gq gk gr gg tv sv sg sf s2 sd sh sx smn sr se gn q_b l_b pl pf gb gd mm cm np ns hm pa sa pp ss kc ks hi hu hn hv21 htv hscr hst hU hIV hI hb hM hfin
    have hk0 : t_k b L i = 0 := if_pos (by have := t_jl (b := b) hi; omega)
    have c0 : t_ck (t_k b L i) = 0 := t_ckk.2.2.2.2.2.2.2.2 hk0
    have eR : x_run b L 1 n i G = (G, 0, 0) := by
      show (if _ then _ else _) = _
      rw [if_pos (Or.inr hk0)]
    have eM0 : x_ruM b L 1 n i G = 0 := by
      show (if _ then _ else _) = _
      rw [if_pos (Or.inr hk0)]
    rw [eR, eM0] at hfin
    have fin := hfin d5 lm ge q_o o_r g_o g_t q_l q_m q_h mf mz mh ml gl gm gh w1 w2 w3 w4 w5 w6 w7 w8 w9 w10 w11 w12 qk qr qg vh vg v1 v2 v3 v4 v5 v6 v7 v8 v9 gi gp gq gk gr gg (nI L) (nI (t_e b L i)) (nI (t_j b L i)) (t_ck (t_k b L i)) tv sv sg sf s2 sd sh sx smn sr se gn q_b l_b pl pf gb gd mm cm np ns hm pa sa pp ss hv21 hIV hI hU (Nat.zero_le _)
    rw [Nat.add_zero] at fin
    unfold w135_L60 w135_L210
    exact ⟨rfl, fun _ => fin, fun _ => ⟨fun _ => fin, fun _ => ⟨fun _ => fin, fun z => absurd c0 z⟩⟩⟩
  | succ u ih =>
    intro n i done G d5 lm ge q_o o_r g_o g_t q_l q_m q_h mf mz mh ml gl gm gh w1 w2 w3 w4 w5 w6 w7 w8 w9 w10 w11 w12 qk qr qg vh vg v1 v2 v3 v4 v5 v6 v7 v8 v9 gi gp gq gk gr gg tv sv sg sf s2 sd sh sx smn sr se gn q_b l_b pl pf gb gd mm cm np ns hm pa sa pp ss kc ks hi hu hn hv21 htv hscr hst hU hIV hI hb hM hfin
    have eR : x_run b L (u + 1 + 1) n i G = if n = 400 ∨ t_k b L i = 0 then (G, 0, 0) else if ¬ (x_stp b L i G).2 = 0 then ((x_stp b L i G).1, 0, (x_stp b L i G).2) else ((x_run b L (u + 1) (n + 1) (t_st b L i).2 (x_stp b L i G).1).1, (x_run b L (u + 1) (n + 1) (t_st b L i).2 (x_stp b L i G).1).2.1 + 1, (x_run b L (u + 1) (n + 1) (t_st b L i).2 (x_stp b L i G).1).2.2) := rfl
    have eS : t_scr b L (u + 1 + 1) n i = if t_k b L i = 0 then (true, i) else if n = 400 then (false, i) else if (t_st b L i).1 = true then t_scr b L (u + 1) (n + 1) (t_st b L i).2 else t_st b L i := rfl
    have eC : x_ruC b L (u + 1 + 1) n i G = if n = 400 ∨ t_k b L i = 0 then 0 else x_stC b L i G + (if ¬ (x_stp b L i G).2 = 0 then 0 else x_ruC b L (u + 1) (n + 1) (t_st b L i).2 (x_stp b L i G).1) := rfl
    have eE : x_ruE b L (u + 1 + 1) n i G = if n = 400 ∨ t_k b L i = 0 then 0 else x_stE b L i G + (if ¬ (x_stp b L i G).2 = 0 then 0 else x_ruE b L (u + 1) (n + 1) (t_st b L i).2 (x_stp b L i G).1) := rfl
    have eM : x_ruM b L (u + 1 + 1) n i G = if n = 400 ∨ t_k b L i = 0 then 0 else max (x_stM b L i G) (if ¬ (x_stp b L i G).2 = 0 then 0 else x_ruM b L (u + 1) (n + 1) (t_st b L i).2 (x_stp b L i G).1) := rfl
    by_cases hend : n = 400 ∨ t_k b L i = 0
    · rw [eR, if_pos hend, eM, if_pos hend] at hfin
      have fin := hfin d5 lm ge q_o o_r g_o g_t q_l q_m q_h mf mz mh ml gl gm gh w1 w2 w3 w4 w5 w6 w7 w8 w9 w10 w11 w12 qk qr qg vh vg v1 v2 v3 v4 v5 v6 v7 v8 v9 gi gp gq gk gr gg (nI L) (nI (t_e b L i)) (nI (t_j b L i)) (t_ck (t_k b L i)) tv sv sg sf s2 sd sh sx smn sr se gn q_b l_b pl pf gb gd mm cm np ns hm pa sa pp ss hv21 hIV hI hU (Nat.zero_le _)
      rw [Nat.add_zero] at fin
      unfold w135_L60 w135_L210
      refine ⟨rfl, fun _ => fin, fun h4 => ⟨fun _ => fin, fun _ => ⟨fun _ => fin, fun z => ?_⟩⟩⟩
      rcases hend with w | w
      · exact absurd (by rw [w]; exact Int32.le_refl _) h4
      · exact absurd (t_ckk.2.2.2.2.2.2.2.2 w) z
    · have hn4 : ¬ n = 400 := fun w => hend (Or.inl w)
      have hk : ¬ t_k b L i = 0 := fun w => hend (Or.inr w)
      rw [eR, if_neg hend, eM, if_neg hend] at hfin
      rw [eS, if_neg hk, if_neg hn4] at hscr
      rw [eC, if_neg hend, eE, if_neg hend] at hb
      rw [eM, if_neg hend] at hM
      have hrd : (t_st b L i).1 = true := by
        cases hh : (t_st b L i).1 with
        | true => rfl
        | false => rw [if_neg (by rw [hh]; decide), hh] at hscr; exact hscr
      rw [if_pos hrd] at hscr
      have hadv := t_stadv hi hrd
      have hi' := t_stl (b := b) hi
      obtain ⟨hU', hst'⟩ := x_stpU (b := b) (L := L) (i := i) hU
      unfold w135_L60
      refine ⟨rfl, fun z => absurd z (nI_ge (show n < 400 by omega) (by decide)), fun _ => ⟨fun z => absurd rfl z, fun _ => ⟨fun z => absurd (t_ckk.2.2.2.2.2.2.2.1 z) hk, fun _ => ?_⟩⟩⟩
      refine c_read hLN hN hL16 hi hv21 htv (fun ht sv1 sg1 sf1 s21 sd1 sh1 sx1 smn1 sr1 se1 gn1 hok tvx htvx => ⟨fun z => absurd z (by decide), fun _ => ?_⟩) (fun hf => by rw [hrd] at hf; cases hf)
      obtain ⟨q, sp, sn, sm, sK, hP, hL, hT, hrest⟩ := id hIV
      obtain ⟨e1, e2, ev⟩ := t_fiE hok
      have hpl := t_pvl (b := b) (i := i) hL16
      have evs : t_pvs b L i = t_vals b L sv1 (t_id b L i sv1) := by unfold t_pvs; rw [ev]
      refine c_obst (vs := t_pvs b L i) (sz := fun a => ((mm a).2.1 13).toNatClampNeg) (fp := fun a => (mm a).2.1 12) hok.1.1 (fun x a hx => ?_) (fun hv => ?_) hpl ?_
      · rcases c_LTo (x := x) hL with ⟨z, _⟩ | ⟨f, a', A, _, _, _, _, f5, _, f7, f8⟩
        · rw [z] at hx; cases hx
        · rw [f5] at hx; cases hx
          have hkk : c_kn (mm a) A.2.1 A.2.2.1 (x_bg A.1 A.2.2.2.1) := f8.2.2.2.2.1
          have hnn := (c_knn hkk).1
          have e13 : ((mm a).2.1 13).toNatClampNeg = A.2.1 := by rw [hkk.1.1, nI_clamp (by omega)]
          exact ⟨f7, by rw [e13]; exact hkk.1.1, rfl, by rw [e13]; exact hnn⟩
      · rw [evs]
        exact hok.2.2.2.2.2.2.1 (by omega)
      · have eO : t_ob sv1 (t_la lm sf1) (t_la lm s21) (fun a => ((mm a).2.1 13).toNatClampNeg) (fun a => (mm a).2.1 12) (fun n => t_bad sv1 sd1 sh1 sx1 (t_pvs b L i) sr1 se1 (nI n)) = x_sO b L i G.1 := by
          rw [c_obG hL]
          unfold x_sO
          rw [ev, ← e1, ← e2]
          congr 1
          funext m
          exact t_badE hok m
        rw [eO]
        -- the loop goes on, or ends
        have next : ∀ (rs : Int32) (G' : x_GS), x_stp b L i G = (G', rs) → ∀ d5' lm' ge' q_o' o_r' g_o' g_t' q_l' q_m' q_h' mf' mz' mh' ml' gl' gm' gh' w1' w2' w3' w4' w5' w6' w7' w8' w9' w10' w11' w12' qk' qr' qg' vh' vg' v1' v2' v3' v4' v5' v6' v7' v8' v9' gi' gp' gq' gk' gr' gg' q_b' l_b' pl' pf' gb' gd' mm' cm' np' ns' hm' pa' sa' pp' ss' kc' ks', c_IV G' lm' d5' cm' mm' np' ns' pp' ss' sa' o_r' g_o' g_t' mf' mz' mh' ml' gl' gm' gh' vh' vg' v1' v2' v4' v7' v8' gi' → pr_I M T l_b' pl' pf' gb' G'.2.2.2.2.2.2 → pr_b (kc' + (if ¬ rs = 0 then 0 else x_ruC b L (u + 1) (n + 1) (t_st b L i).2 G')) (ks' + (if ¬ rs = 0 then 0 else x_ruE b L (u + 1) (n + 1) (t_st b L i).2 G')) l_b' T mc ms → (¬ rs = 0 → x_stM b L i G ≤ l_b') → w135_L60 q_y ho N mc ms post (u + 2) (nI done + (if rs = 0 then 1 else 0)) (nI n + 1) d1 d2 rs (nI G'.2.2.1) d5' lm' ge' q_o' G'.2.2.2.1 o_r' g_o' g_t' q_l' q_m' q_h' G'.2.2.2.2.1 G'.2.2.2.2.1 G'.2.2.2.2.1 mf' mz' mh' ml' gl' gm' gh' w1' w2' w3' w4' w5' w6' w7' w8' w9' w10' w11' w12' qk' qr' qg' G'.2.2.2.2.2.1 G'.2.2.2.2.2.1 G'.2.2.2.2.2.1 vh' vg' v1' v2' v3' v4' v5' v6' v7' v8' v9' gi' gp' gq' gk' gr' gg' q_y (nI L) (nI (t_e b L (t_st b L i).2)) (nI (t_j b L (t_st b L i).2)) (t_ck (t_k b L (t_st b L i).2)) tvx b sv1 sg1 sf1 s21 sd1 sh1 sx1 smn1 sr1 se1 gn1 q_b' l_b' pl' pf' gb' gd' mm' cm' np' ns' hm' pa' sa' pp' ss' kc' ks' := by
          intro rs G' eG d5' lm' ge' q_o' o_r' g_o' g_t' q_l' q_m' q_h' mf' mz' mh' ml' gl' gm' gh' w1' w2' w3' w4' w5' w6' w7' w8' w9' w10' w11' w12' qk' qr' qg' vh' vg' v1' v2' v3' v4' v5' v6' v7' v8' v9' gi' gp' gq' gk' gr' gg' q_b' l_b' pl' pf' gb' gd' mm' cm' np' ns' hm' pa' sa' pp' ss' kc' ks' gIV gI gb2 hneed
          have hsv := x_stpV (b := b) (L := L) (i := i) (G := G)
          rw [eG] at hfin hM hU' hst' hsv
          dsimp only at hfin hM hU' hst' hsv
          by_cases w : rs = 0
          · subst w
            rw [if_neg (fun z => z rfl), if_neg (fun z => z rfl)] at gb2
            rw [if_neg (fun z => z rfl), if_neg (fun z => z rfl)] at hfin
            rw [if_neg (fun z => z rfl)] at hM
            rw [if_pos rfl, nI_1, nI_1]
            refine ih (n + 1) (t_st b L i).2 (done + 1) G' d5' lm' ge' q_o' o_r' g_o' g_t' q_l' q_m' q_h' mf' mz' mh' ml' gl' gm' gh' w1' w2' w3' w4' w5' w6' w7' w8' w9' w10' w11' w12' qk' qr' qg' vh' vg' v1' v2' v3' v4' v5' v6' v7' v8' v9' gi' gp' gq' gk' gr' gg' tvx sv1 sg1 sf1 s21 sd1 sh1 sx1 smn1 sr1 se1 gn1 q_b' l_b' pl' pf' gb' gd' mm' cm' np' ns' hm' pa' sa' pp' ss' kc' ks' hi' (by omega) (by omega) hok.1.1 htvx hscr (by omega) hU' gIV gI gb2 (by omega) (fun d5'' lm'' ge'' q_o'' o_r'' g_o'' g_t'' q_l'' q_m'' q_h'' mf'' mz'' mh'' ml'' gl'' gm'' gh'' w1'' w2'' w3'' w4'' w5'' w6'' w7'' w8'' w9'' w10'' w11'' w12'' qk'' qr'' qg'' vh'' vg'' v1'' v2'' v3'' v4'' v5'' v6'' v7'' v8'' v9'' gi'' gp'' gq'' gk'' gr'' gg'' tl'' tb'' ts'' tk'' tv'' sv'' sg'' sf'' s2'' sd'' sh'' sx'' smn'' sr'' se'' gn'' q_b'' l_b'' pl'' pf'' gb'' gd'' mm'' cm'' np'' ns'' hm'' pa'' sa'' pp'' ss'' j1 j2 j3 j4 j5 => ?_)
            have hrv := x_runV (b := b) (L := L) (u + 1) (n + 1) (t_st b L i).2 G'
            have hj3 := j3.2.2.2.1
            have hsv2 := hsv.2 rfl
            have := hfin d5'' lm'' ge'' q_o'' o_r'' g_o'' g_t'' q_l'' q_m'' q_h'' mf'' mz'' mh'' ml'' gl'' gm'' gh'' w1'' w2'' w3'' w4'' w5'' w6'' w7'' w8'' w9'' w10'' w11'' w12'' qk'' qr'' qg'' vh'' vg'' v1'' v2'' v3'' v4'' v5'' v6'' v7'' v8'' v9'' gi'' gp'' gq'' gk'' gr'' gg'' tl'' tb'' ts'' tk'' tv'' sv'' sg'' sf'' s2'' sd'' sh'' sx'' smn'' sr'' se'' gn'' q_b'' l_b'' pl'' pf'' gb'' gd'' mm'' cm'' np'' ns'' hm'' pa'' sa'' pp'' ss'' j1 j2 j3 j4 (by omega)
            dsimp only at this
            rw [show done + ((x_run b L (u + 1) (n + 1) (t_st b L i).2 G').2.1 + 1) = done + 1 + (x_run b L (u + 1) (n + 1) (t_st b L i).2 G').2.1 by omega] at this
            exact this
          · rw [if_pos w, if_pos w] at hfin
            have fin := hfin d5' lm' ge' q_o' o_r' g_o' g_t' q_l' q_m' q_h' mf' mz' mh' ml' gl' gm' gh' w1' w2' w3' w4' w5' w6' w7' w8' w9' w10' w11' w12' qk' qr' qg' vh' vg' v1' v2' v3' v4' v5' v6' v7' v8' v9' gi' gp' gq' gk' gr' gg' (nI L) (nI (t_e b L (t_st b L i).2)) (nI (t_j b L (t_st b L i).2)) (t_ck (t_k b L (t_st b L i).2)) tvx sv1 sg1 sf1 s21 sd1 sh1 sx1 smn1 sr1 se1 gn1 q_b' l_b' pl' pf' gb' gd' mm' cm' np' ns' hm' pa' sa' pp' ss' hok.1.1 gIV gI hU' (by have := hneed w; omega)
            dsimp only at fin
            rw [Nat.add_zero] at fin
            rw [if_neg w, Int32.add_zero]
            unfold w135_L60 w135_L210
            exact ⟨rfl, fun _ => fin, fun _ => ⟨fun _ => fin, fun z => absurd z w⟩⟩
        have hpf : pf = 0 := by rw [hI.2.1, if_neg (by omega)]
        by_cases hO : x_sO b L i G.1 = 0
        · by_cases hv7 : t_pv b L i ≤ 7
          · have eG : x_stp b L i G = ((x_stp b L i G).1, 0) := by
              unfold x_stp
              rw [if_neg (fun z => z hO), if_pos hv7]
            have h2 : (x_stp b L i G).2 = 0 := by rw [eG]
            rw [if_neg (fun z => z h2), if_neg (fun z => z h2)] at hb
            have hb1 : kc + x_stC b L i G ≤ mc ∧ ks + x_stE b L i G ≤ ms := by
              unfold pr_b at hb
              omega
            rw [hO]
            refine c_bM hIV (by omega) hL16 hok hrd hO hv7 hpf hb1.1 hb1.2 (fun ge' lm' d5' q_o' o_r' g_o' g_t' q_l' q_m' q_h' mf' mz' mh' ml' gl' gm' gh' mm' cm' np' ns' hm' pa' sa' pp' ss' gIV => ?_)
            have eU : (x_stp b L i G).1.2.2.2.2.2.2 = G.2.2.2.2.2.2 := by
              unfold x_stp
              rw [if_neg (fun z => z hO), if_pos hv7]
            have := next 0 (x_stp b L i G).1 eG d5' lm' ge' q_o' o_r' g_o' g_t' q_l' q_m' q_h' mf' mz' mh' ml' gl' gm' gh' w1 w2 w3 w4 w5 w6 w7 w8 w9 w10 w11 w12 qk qr qg vh vg v1 v2 v3 v4 v5 v6 v7 v8 v9 gi gp gq gk gr gg q_b l_b pl pf gb gd mm' cm' np' ns' hm' pa' sa' pp' ss' (kc + x_stC b L i G) (ks + x_stE b L i G) gIV (by rw [eU]; exact hI) (by
              rw [if_neg (fun z => z rfl), if_neg (fun z => z rfl)]
              unfold pr_b at hb ⊢
              omega) (fun z => absurd rfl z)
            rw [if_pos rfl] at this
            exact this
          · rw [hO]
            refine c_bT (RC := if ¬ (x_stp b L i G).2 = 0 then 0 else x_ruC b L (u + 1) (n + 1) (t_st b L i).2 (x_stp b L i G).1) (RE := if ¬ (x_stp b L i G).2 = 0 then 0 else x_ruE b L (u + 1) (n + 1) (t_st b L i).2 (x_stp b L i G).1) hIV hL16 hok hrd hO (by omega) hU hI hb (by omega) (fun q_o' o_r' g_o' g_t' q_b' l_b' pl' pf' gb' gd' q_l' q_m' q_h' mf' mz' mh' ml' gl' gm' gh' w1' w2' w3' w4' w5' w6' w7' w8' w9' w10' w11' w12' qk' qr' qg' vh' vg' v1' v2' v3' v4' v5' v6' v7' v8' v9' gi' gp' gq' gk' gr' gg' mm' kc' ks' gIV gI gb2 gM => ?_)
            have est : (x_stp b L i G).1.2.2.1 = G.2.2.1 := by
              unfold x_stp
              rw [if_neg (fun z => z hO), if_neg hv7]
            have := next (x_stp b L i G).2 (x_stp b L i G).1 rfl d5 lm ge q_o' o_r' g_o' g_t' q_l' q_m' q_h' mf' mz' mh' ml' gl' gm' gh' w1' w2' w3' w4' w5' w6' w7' w8' w9' w10' w11' w12' qk' qr' qg' vh' vg' v1' v2' v3' v4' v5' v6' v7' v8' v9' gi' gp' gq' gk' gr' gg' q_b' l_b' pl' pf' gb' gd' mm' cm np ns hm pa sa pp ss kc' ks' gIV gI gb2 (fun _ => gM)
            rw [est] at this
            exact this
        · have eG : x_stp b L i G = (G, x_sO b L i G.1) := by
            unfold x_stp
            rw [if_pos hO]
          have eC0 : x_stC b L i G = 0 := by unfold x_stC; rw [if_pos hO]
          have eE0 : x_stE b L i G = 0 := by unfold x_stE; rw [if_pos hO]
          rw [eC0, eE0, eG] at hb
          dsimp only at hb
          rw [if_pos hO, if_pos hO] at hb
          have := next (x_sO b L i G.1) G eG d5 lm ge q_o o_r g_o g_t q_l q_m q_h mf mz mh ml gl gm gh w1 w2 w3 w4 w5 w6 w7 w8 w9 w10 w11 w12 qk qr qg vh vg v1 v2 v3 v4 v5 v6 v7 v8 v9 gi gp gq gk gr gg q_b l_b pl pf gb gd mm cm np ns hm pa sa pp ss kc ks hIV hI (by rw [if_pos hO, if_pos hO]; exact hb) (fun _ => by unfold x_stM; rw [if_pos hO]; exact Nat.zero_le _)
          rw [if_neg hO] at this
          exact c_bE hO hpf this
end CLP
