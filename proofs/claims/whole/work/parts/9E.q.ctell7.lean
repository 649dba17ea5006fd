/-! PURE, the class: tellRow -/
theorem x_dg01 : x_dg 0 = [48] ∧ x_dg 1 = [49] := by decide +kernel
theorem x_ratz {p : Nat} {A d : Int} (h : x_md p A = 0) : x_rat p A d = [48] := by
  unfold x_rat
  by_cases p0 : p = 0
  · rw [if_pos p0]
    rw [p0, x_md0] at h
    unfold x_rt0
    rw [if_pos (Or.inl h)]
  · rw [if_neg p0, h]
    show x_dg (0 * _ % p) = [48]
    rw [Nat.zero_mul, Nat.zero_mod]
    exact x_dg01.1
theorem x_rat1 {p : Nat} (hp : x_pm p) {d : Int} (hd : ¬ x_md p d = 0) : x_rat p d d = [49] := by
  have h1 : x_md p 1 = 1 := by
    unfold x_md
    by_cases p0 : p = 0
    · rw [if_pos p0]
    · rw [if_neg p0]
      have := (x_pmb hp).1
      exact Int.emod_eq_of_lt (by decide) (by omega)
  rw [x_ratE hp (A' := 1) (d' := 1) hd (by rw [h1]; decide) (by rw [Int.mul_one, Int.one_mul])]
  unfold x_rat
  by_cases p0 : p = 0
  · rw [if_pos p0]
    have e : x_rt0 false 1 1 = x_str 1 ++ (x_dg 1 ++ []) := by
      unfold x_rt0
      rfl
    rw [e, x_st123.1, x_dg01.2]; rfl
  · rw [if_neg p0, h1]
    have hp1 := (x_pmb hp).1
    have e : x_inv p ((1 : Int).toNat) = 1 := x_inv1 (by omega) (Nat.mod_eq_of_lt (by show 1 * 1 < p; omega)) (fun d h1 h2 => by omega)
    rw [e]
    show x_dg (1 * 1 % p) = [49]
    rw [Nat.mod_eq_of_lt (show 1 * 1 < p by omega)]
    exact x_dg01.2
section XRW
variable {p n B q e : Nat} {g : Nat → Int}
theorem x_uq (hp : x_pm p) (hB : ¬ x_md p (g B) = 0) (hBq : B.testBit q = true) : ¬ x_md p (x_u g (x_t B q) q) = 0 := by
  unfold x_u
  rw [if_neg (by rw [x_tbs, hBq]; decide), x_mds hp]
  have : x_t (x_t B q) q = B := by unfold x_t; rw [Nat.xor_assoc, Nat.xor_self, Nat.xor_zero]
  rw [this]; exact hB
theorem x_ue (hp : x_pm p) (h : (B.testBit e = true ∧ e ≠ q) ∨ x_md p (g (x_t (x_t B q) e)) = 0) : x_md p (x_u g (x_t B q) e) = 0 := by
  unfold x_u
  by_cases w : (x_t B q).testBit e = true
  · rw [if_pos w]; exact x_md00 hp
  · rw [if_neg w, x_mds hp]
    rcases h with ⟨h1, h2⟩ | h
    · rw [x_tbn h2] at w; exact absurd h1 w
    · exact h
theorem x_ngs (s : Bool) (z : Int) : (if s = true then -z else z) = x_s Int s * z := by
  cases s with
  | true => rw [if_pos rfl]; show -z = (-1 : Int) * z; omega
  | false => rw [if_neg (by decide)]; show z = (1 : Int) * z; omega
end XRW
abbrev c_rwT := Int32 → Int32 → Int32 → Int32 → Option Nat → Nat → Nat → Int32 → Int32 → (Nat → Int32) → (Nat → Int32) → Nat → Nat → Int32 → (Nat → Int32) → (Nat → Int32) → Nat → Nat → Nat → Nat → Nat → Nat → Int32 → Int32 → Int32 → Option Nat → (Nat → Int64) → (Nat → Int64) → (Nat → Int64) → Int64 → Int64 → Int64 → Int64 → Int64 → Int64 → Int64 → Int64 → Int64 → Int64 → Int64 → Int64 → (Nat → px_MR) → Prop
section CRW
variable {cm np ns a : Nat} {mm : Nat → px_MR} {pa sa : Nat → Nat} {pp : Nat → px_PR} {ss : Nat → px_SR} {sp sn sm : Nat → Nat} {sK : Nat → Nat → Nat → Int} {q_o l_o q0 : Nat} {o_r : Int32} {g_o g_t : Nat → Int32} {q_l q_m q_h l : Nat} {mf mz mh : Int32} {ml : Option Nat} {gl gm gh : Nat → Int64} {mc ms : Nat} {p n r B q : Nat} {g : Nat → Int} {w : Nat → Int32} {M T q_b l_b : Nat} {pl pf d1 d2 d3 d4 : Int32} {d5 : Option Nat} {gb gd : Nat → Int32} {U : List Nat} {w1 w2 w3 w4 w5 w6 w7 w8 w9 w10 w11 w12 : Int64} {post : c_rwT}
theorem c_tellRow (ha : a < cm) (hG : c_G np ns pp sp sn sm sK (mm a) p n r g w) (hO : c_PO np ns pp) (hSS : c_SS ns ss sp sn sm sK) (hMN : c_MN ns sa sp sn sm sK l mf mz mh ml gl gm gh) (ho : o_Ok l_o o_r g_o g_t q0) (hsq : ∀ z, z < ns → sn z ≤ q0) (hpok : px_pok cm np mm) (hB : ¬ x_md p (g B) = 0) (hq : q < n) (hBq : B.testBit q = true) (hI : pr_I M T l_b pl pf gb U) (hb : pr_b 0 0 l_b T mc ms) (hM : min 65536 (U.length + (x_shG p n g B q).length) ≤ M)
    (hp : ∀ q' l' pl' pf' g' gd' q_o' o' go' gt' q_l' q_m' q_h' mf' mz' mh' ml' gl' gm' gh' w1' w2' w3' w4' w5' w6' w7' w8' w9' w10' w11' w12', c_MN ns sa sp sn sm sK l mf' mz' mh' ml' gl' gm' gh' → o_Ok l_o o' go' gt' q0 → pr_I M T l' pl' pf' g' (U ++ x_shG p n g B q) → post d1 d2 d3 d4 d5 q' l' pl' pf' g' gd' q_o' l_o o' go' gt' q_l' q_m' q_h' l l l mf' mz' mh' ml' gl' gm' gh' w1' w2' w3' w4' w5' w6' w7' w8' w9' w10' w11' w12' mm) :
    w312_wp cm np ns pa sa pp ss a mc ms post (nI B) (nI q) d1 d2 d3 d4 d5 q_b l_b pl pf gb gd q_o l_o o_r g_o g_t q_l q_m q_h l l l mf mz mh ml gl gm gh w1 w2 w3 w4 w5 w6 w7 w8 w9 w10 w11 w12 mm := by
  obtain ⟨a1, a2, a3, a4, a5, a6, a7, a8, a9⟩ := hG
  have hn := a3.1
  have hBl := (a3.2.1 B hB).1
  have h2n : 2 ^ n ≤ 4096 := Nat.pow_le_pow_right (n := 2) (by decide) hn
  obtain ⟨x, x1, _⟩ := a8.1 q hq
  obtain ⟨y1, y2, y3, y4, y5, y6⟩ := c_PGh a8 q x hq x1
  have hcc := c_PGc a8
  have hsz : (mm a).2.1 13 = nI n := a5.1.1
  generalize hcv : c_cl ((mm a).2.2.2.1 2) = cc at *
  generalize hzz : (pp x).1 = z at *
  have htb : (pp x).2.2 = if c_tb pp x = true then 1 else 0 := by
    unfold c_tb
    rcases (hO x y1).1 with w' | w'
    · rw [w']; rfl
    · rw [w']; rfl
  -- the columns that are chosen
  generalize hch : x_chn (c_hd pp) (mm a).2.2.2.2.2 cc (c_tb pp) n x B = S at *
  have hSl : S < 2 ^ sn z := by
    rw [← hch]
    exact x_hol y6 n (fun e he hx => by have := (hcc e he).2.2 x hx; rw [hzz] at this; exact this)
  have hZ : c_Zp sm sK pp x = x_W (sK z) (sm z) := by unfold c_Zp; rw [hzz]
  have hZS : ¬ x_md p (x_W (sK z) (sm z) S) = 0 := by
    have := a9.1 B q x hB hq x1
    rw [hch, hZ] at this; exact this
  have hSn : x_n S = sm z := (x_Wsz (sm z) (fun e => hZS (by rw [e]; exact x_md00 a2))).2
  obtain ⟨hSR, hpz⟩ := hSS z y2
  have hsn12 := hSR.2.2.2.1
  have h2s : 2 ^ sn z ≤ 4096 := Nat.pow_le_pow_right (n := 2) (by decide) hsn12
  have hdq := x_uq a2 hB hBq
  generalize hPe : (fun e => (if e = 0 then [] else [32]) ++ x_rat p (x_u g (x_t B q) e) (x_u g (x_t B q) q)) = Pe at *
  have hsh : x_shG p n g B q = x_fa Pe n 0 ++ [10] := by unfold x_shG; rw [hPe]
  rw [hsh] at hM hp
  have hPe' : ∀ e, Pe e = (if e = 0 then [] else [32]) ++ x_rat p (x_u g (x_t B q) e) (x_u g (x_t B q) q) := fun e => by rw [← hPe]
  unfold w312_wp
  rw [nI_clamp (show q < 2 ^ 31 by omega)]
  refine ⟨ha, ha, b_in (by omega) (by omega), fun e => ?_, fun k e => ?_⟩
  · rw [x1] at e; cases e
  · rw [x1] at e
    cases e
    refine ⟨ha, c_chosen (cc := cc) (t := c_tb pp x) (h0 := c_hd pp x) ha hn hsz hpok (fun e he => ⟨(hcc e he).1, (hcc e he).2.1⟩) htb y5 y1 (show B < 2 ^ 31 by omega) ⟨ha, ha, b_in (by omega) (by omega), fun z114 e114 => ⟨y1, 0, 0, Nat.zero_le _, Nat.zero_le _, ?_⟩⟩⟩
    have hcq := hcc q hq
    rw [hcq.1, b_sh (show cc q < 31 by omega)] at e114
    have hchn : x_ho (c_hd pp x) (mm a).2.2.2.2.2 cc (fun e => B.testBit e ^^ c_tb pp x) x n = S := hch
    rw [hchn, e114, hzz]
    refine c_load1 y2 hSS hMN ho (hsq z y2) (fun q_l' q_m' q_h' mf' mz' mh' ml' gl' gm' gh' q_o' o' g' t' hld ho' => ⟨n + 1, ?_⟩)
    have hMN' := c_ldMN y2 hMN hld
    have hl2 := hMN.2.2.2.1 z y2
    have hl4 := hMN.1
    have fin : ∀ (q' l' : Nat) (pl' pf' : Int32) (gb' gd' : Nat → Int32) (w1' w2' w3' w4' w5' w6' w7' w8' w9' w10' w11' w12' : Int64), pr_I M T l' pl' pf' gb' (U ++ (x_fa Pe n 0 ++ [10])) → post d1 d2 d3 d4 d5 q' l' pl' pf' gb' gd' q_o' l_o o' g' t' q_l' q_m' q_h' l l l mf' mz' mh' ml' gl' gm' gh' w1' w2' w3' w4' w5' w6' w7' w8' w9' w10' w11' w12' mm := fun q' l' pl' pf' gb' gd' w1' w2' w3' w4' w5' w6' w7' w8' w9' w10' w11' w12' hI' => hp _ _ _ _ _ _ _ _ _ _ _ _ _ _ _ _ _ _ _ _ _ _ _ _ _ _ _ _ _ _ _ _ hMN' ho' hI'
    have loop : ∀ (v e : Nat), e + v = n → ∀ (q' l' : Nat) (pl' pf' : Int32) (gb' gd' : Nat → Int32) (kc ks : Nat) (W : List Nat) (w1 w2 w3 w4 w5 w6 w7 w8 w9 w10 w11 w12 : Int64), pr_I M T l' pl' pf' gb' W → pr_b kc ks l' T mc ms → W ++ (x_fa Pe v e ++ [10]) = U ++ (x_fa Pe n 0 ++ [10]) → w312_L48 cm np ns pa sa pp ss a mc ms post (v + 1) (nI B) (nI q) (some x) (nI S) (nI (2 ^ cc q)) (nI e) d1 d2 d3 d4 d5 q' l' pl' pf' gb' gd' q_o' l_o o' g' t' q_l' q_m' q_h' l l l mf' mz' mh' ml' gl' gm' gh' w1 w2 w3 w4 w5 w6 w7 w8 w9 w10 w11 w12 mm kc ks := by
      intro v
      induction v with
      | zero =>
        intro e he q' l' pl' pf' gb' gd' kc ks W w1 w2 w3 w4 w5 w6 w7 w8 w9 w10 w11 w12 hI' hb' hW
        unfold w312_L48
        rw [hsz]
        refine ⟨fun e => (by cases e), fun a48 _ => ⟨ha, fun _ => ?_, fun zz => absurd (nI_le (show n ≤ e by omega) (by omega)) zz⟩⟩
        have hW : W ++ [10] = U ++ (x_fa Pe n 0 ++ [10]) := hW
        refine c_sub (c_pput (c := 10) (by decide)) hI' hb' (pr_len hM hW) (fun m s' q1 l1 pl1 pf1 g1 gd1 hI2 _ _ => ?_)
        rw [hW] at hI2
        exact fin _ _ _ _ _ _ _ _ _ _ _ _ _ _ _ _ _ _ hI2
      | succ v ih =>
        intro e he q' l' pl' pf' gb' gd' kc ks W w1 w2 w3 w4 w5 w6 w7 w8 w9 w10 w11 w12 hI' hb' hW
        have hen : e < n := by omega
        have body : ∀ y0, y0 < 32 → x_str y0 = (if e = 0 then [] else [32]) → w312_L75 (w312_L48 cm np ns pa sa pp ss a mc ms post (v + 1)) cm np ns pa sa pp ss a mc ms post (nI B) (nI q) (some x) (nI S) (nI (2 ^ cc q)) (nI e) y0 d1 d2 d3 d4 d5 q' l' pl' pf' gb' gd' q_o' l_o o' g' t' q_l' q_m' q_h' l l l mf' mz' mh' ml' gl' gm' gh' w1 w2 w3 w4 w5 w6 w7 w8 w9 w10 w11 w12 mm kc ks := by
          intro y0 hy0 ey0
          have hW1 : W ++ (x_str y0 ++ (x_rat p (x_u g (x_t B q) e) (x_u g (x_t B q) q) ++ (x_fa Pe v (e + 1) ++ [10]))) = U ++ (x_fa Pe n 0 ++ [10]) := by
            rw [← hW, ey0]
            show _ = W ++ ((Pe e ++ _) ++ _)
            rw [hPe']
            simp only [List.append_assoc]
          unfold w312_L75
          refine ⟨fun e => (by cases e), fun a75 e75 => ?_⟩
          cases e75
          refine c_sub2 (V := x_str y0) (W := x_rat p (x_u g (x_t B q) e) (x_u g (x_t B q) q) ++ (x_fa Pe v (e + 1) ++ [10])) (c_text hy0) hI' hb' (pr_len hM hW1) (fun m1 s1 q2 l2 pl2 pf2 g2 gd2 hI2 _ hb2 => ?_)
          have hW2 : (W ++ x_str y0) ++ (x_rat p (x_u g (x_t B q) e) (x_u g (x_t B q) q) ++ (x_fa Pe v (e + 1) ++ [10])) = U ++ (x_fa Pe n 0 ++ [10]) := by rw [List.append_assoc]; exact hW1
          -- 0 is written
          have zero : x_md p (x_u g (x_t B q) e) = 0 → w312_L117 (w312_L48 cm np ns pa sa pp ss a mc ms post (v + 1)) cm np ns pa sa pp ss a mc ms post (nI B) (nI q) (some x) (nI S) (nI (2 ^ cc q)) (nI e) d1 d2 d3 d4 d5 q2 l2 pl2 pf2 g2 gd2 q_o' l_o o' g' t' q_l' q_m' q_h' l l l mf' mz' mh' ml' gl' gm' gh' w1 w2 w3 w4 w5 w6 w7 w8 w9 w10 w11 w12 mm (kc + m1) (ks + s1) := by
            intro hz0
            rw [x_ratz hz0] at hW2
            refine ⟨fun e => (by cases e), fun a117 e117 => ?_⟩
            cases e117
            refine c_sub2 (V := [48]) (W := x_fa Pe v (e + 1) ++ [10]) (c_pput (c := 48) (by decide)) hI2 hb2 (pr_len hM hW2) (fun m s' q3 l3 pl3 pf3 g3 gd3 hI3 _ hb3 => ⟨fun e => (by cases e), fun a159 e159 z3 e3 => ?_⟩)
            cases e159
            rw [e3, nI_1]
            exact ih (e + 1) (by omega) q3 l3 pl3 pf3 g3 gd3 _ _ _ _ _ _ _ _ _ _ _ _ _ _ _ hI3 hb3 (by rw [List.append_assoc]; exact hW2)
          refine ⟨fun hne => ?_, fun heq => ?_⟩
          · have hne' : e ≠ q := fun w' => hne (by rw [w'])
            refine ⟨fun hbit => ?_, fun hbit => ⟨ha, ha, b_in (by omega) (by omega), ?_⟩⟩
            · have hbe : B.testBit e = true := by
                cases hh : B.testBit e with
                | true => rfl
                | false => exact absurd ((b_bit0 (by omega) (by omega)).2 hh) hbit
              exact zero (x_ue a2 (Or.inl ⟨hbe, hne'⟩))
            · have hbe : B.testBit e = false := (b_bit0 (by omega) (by omega)).1 hbit
              rw [nI_clamp (show e < 2 ^ 31 by omega)]
              obtain ⟨y, yy1, _⟩ := a8.1 e hen
              obtain ⟨u1, u2, u3, u4, u5, u6⟩ := c_PGh a8 e y hen yy1
              refine ⟨fun en => ?_, fun k112 e112 => ?_⟩
              · rw [yy1] at en; cases en
              · rw [yy1] at e112
                cases e112
                have hPV := a9.2 B q e x y hB hq hen hBq hbe x1 yy1
                refine ⟨u1, y1, fun exy => ?_, fun nxy => ?_⟩
                · subst exy
                  obtain ⟨v1, v2⟩ := hPV.1 rfl
                  have hce := hcc e hen
                  refine ⟨ha, ha, b_in (by omega) (by omega), y1, ?_⟩
                  rw [hce.1, b_sh (show cc e < 31 by omega), b_or, htb]
                  have hcqs : cc q < sn z := by have := hcq.2.2 y x1; rw [hzz] at this; exact this
                  have hces : cc e < sn z := by have := hce.2.2 y yy1; rw [hzz] at this; exact this
                  -- one of the two columns is chosen
                  have hcol : ∀ e', e' < n → (mm a).2.2.2.2.2 e' = some y → S.testBit (cc e') = (B.testBit e' ^^ c_tb pp y) := fun e' he' hpe' => by
                    have hheld : (c_hd pp y).testBit (cc e') = false := by rw [← hcv]; exact a8.2.2.2 e' y he' hpe'
                    cases hh : (B.testBit e' ^^ c_tb pp y) with
                    | true =>
                      rw [← hch]
                      exact (x_hob n).2 (Or.inr ⟨e', he', hpe', hh, rfl⟩)
                    | false =>
                      cases hh2 : S.testBit (cc e') with
                      | false => rfl
                      | true =>
                        rw [← hch] at hh2
                        rcases (x_hob n).1 hh2 with w' | ⟨e'', w1', w2', w3', w4'⟩
                        · rw [hheld] at w'; cases w'
                        · have := a8.2.2.1 e'' e' y w1' he' w2' hpe' (by rw [hcv]; exact w4')
                          rw [this, hh] at w3'; cases w3'
                  have hbb : S.testBit (cc q) ≠ S.testBit (cc e) := by
                    rw [hcol q hq x1, hcol e hen yy1, hBq, hbe]
                    cases c_tb pp y <;> decide
                  have htxt : x_rat p (x_u g (x_t B q) e) (x_u g (x_t B q) q) = x_rat (sp z) (if (c_tb pp y ^^ x_cs S (cc q) (cc e)) = true then - x_W (sK z) (sm z) (S ^^^ (2 ^ cc q ||| 2 ^ cc e)) else x_W (sK z) (sm z) (S ^^^ (2 ^ cc q ||| 2 ^ cc e))) (x_W (sK z) (sm z) S) := by
                    rw [y3]
                    refine x_ratE a2 hdq hZS ?_
                    rw [hch, hZ] at v2
                    rw [v2, x_ngs]
                  rw [htxt] at hW2
                  obtain ⟨m3, s3, f1, f2, f3⟩ := c_sub (post := fun m s q3 l3 pl3 pf3 g3 gd3 => pr_I M T l3 pl3 pf3 g3 ((W ++ x_str y0) ++ x_rat (sp z) (if (c_tb pp y ^^ x_cs S (cc q) (cc e)) = true then - x_W (sK z) (sm z) (S ^^^ (2 ^ cc q ||| 2 ^ cc e)) else x_W (sK z) (sm z) (S ^^^ (2 ^ cc q ||| 2 ^ cc e))) (x_W (sK z) (sm z) S)) ∧ pr_b (kc + m1 + m) (ks + s1 + s) l3 T mc ms) (g_d := gd2) (q_b := q2) (c_rat (q_l := q_l') (q_m := q_m') (q_h := q_h') (w1 := w1) (w2 := w2) (w3 := w3) (w4 := w4) (w5 := w5) (w6 := w6) (w7 := w7) (w8 := w8) (w9 := w9) (w10 := w10) (w11 := w11) (w12 := w12) (minus := c_tb pp y) hpz hSR hl2 hl4 hld hSl hSn hcqs hces v1 hbb) hI2 hb2 (by
                    have := pr_len hM hW2
                    simp only [List.length_append] at this ⊢
                    omega) (fun m s q3 l3 pl3 pf3 g3 gd3 k1 _ k3 => ⟨k1, k3⟩)
                  refine ⟨m3, s3, f1, f2, f3 _ (fun w1' w2' w3' w4' w5' w6' w7' w8' w9' w10' w11' w12' q3 l3 pl3 pf3 g3 gd3 hpo => ⟨fun e => (by cases e), fun a159 e159 z3 e3 => ?_⟩)⟩
                  cases e159
                  rw [e3, nI_1]
                  exact ih (e + 1) (by omega) q3 l3 pl3 pf3 g3 gd3 _ _ _ _ _ _ _ _ _ _ _ _ _ _ _ hpo.1 hpo.2 (by rw [List.append_assoc]; exact hW2)
                · exact zero (x_ue a2 (Or.inr (hPV.2 (fun w' => nxy w'.symm))))
          · have heq' : e = q := (nI_eq (by omega) (by omega)).1 heq
            have e1 : x_rat p (x_u g (x_t B q) e) (x_u g (x_t B q) q) = [49] := by rw [heq']; exact x_rat1 a2 hdq
            rw [e1] at hW2
            refine c_sub2 (V := [49]) (W := x_fa Pe v (e + 1) ++ [10]) (c_pput (c := 49) (by decide)) hI2 hb2 (pr_len hM hW2) (fun m s' q3 l3 pl3 pf3 g3 gd3 hI3 _ hb3 => ⟨fun e => (by cases e), fun a159 e159 z3 e3 => ?_⟩)
            cases e159
            rw [e3, nI_1]
            exact ih (e + 1) (by omega) q3 l3 pl3 pf3 g3 gd3 _ _ _ _ _ _ _ _ _ _ _ _ _ _ _ hI3 hb3 (by rw [List.append_assoc]; exact hW2)
        unfold w312_L48
        rw [hsz]
        refine ⟨fun e => (by cases e), fun a48 e48 => ⟨ha, fun zz => absurd zz (nI_ge (by omega) (by omega)), fun _ => ?_⟩⟩
        cases e48
        refine ⟨fun zz => body 2 (by decide) ?_, fun zz => body 1 (by decide) ?_⟩
        · rw [x_st123.2.1, if_neg (fun w' => zz (by rw [w']; rfl))]
        · rw [x_st123.1, if_pos ((nI_eq (b := 0) (by omega) (by decide)).1 zz)]
    have := loop n 0 (by omega) q_b l_b pl pf gb gd (0 + 0) (0 + 0) U w1 w2 w3 w4 w5 w6 w7 w8 w9 w10 w11 w12 hI hb rfl
    rw [nI_0] at this
    exact this
end CRW
