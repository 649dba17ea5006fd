/-! PURE, the class: tellMinor -/
theorem x_st5 : x_str 5 = [110, 111, 10] := by decide +kernel
/-- the text of minor -/
def x_mnT (b b' : Nat → Bool) (n g : Nat) (V : List Nat) : Prop := (∃ K c f, w_1st b b' n g K c f ∧ V = x_set c ++ (x_set (x_co n (K ||| c)) ++ (x_fa (x_img3 f) g 0 ++ [10]))) ∨ ((¬ ∃ K c f, w_E b b' n g K c f) ∧ V = [110, 111, 10])
section CTM
variable {cm np ns a c : Nat} {pa sa : Nat → Nat} {pp : Nat → px_PR} {ss : Nat → px_SR} {mc ms : Nat} {q_o l_o q : Nat} {o_r : Int32} {g_o g_t : Nat → Int32} {mm : Nat → px_MR} {n R g r : Nat} {b b' : Nat → Bool} {M T q_b l_b : Nat} {pl pf d1 d2 d3 d4 : Int32} {d5 : Option Nat} {gb gd : Nat → Int32} {U V : List Nat} {l qk qr qg : Nat} {vh vg : Option Nat} {v1 v2 v3 v4 v5 v6 v7 v8 v9 : Int32} {gi gp gq gk gr gg : Nat → Int32} {post : Int32 → Int32 → Int32 → Int32 → Option Nat → Nat → Nat → Int32 → Int32 → (Nat → Int32) → (Nat → Int32) → Nat → Nat → Int32 → (Nat → Int32) → (Nat → Int32) → Nat → Nat → Nat → Nat → Nat → Nat → Option Nat → Option Nat → Int32 → Int32 → Int32 → Int32 → Int32 → Int32 → Int32 → Int32 → Int32 → (Nat → Int32) → (Nat → Int32) → (Nat → Int32) → (Nat → Int32) → (Nat → Int32) → (Nat → Int32) → (Nat → px_MR) → Prop}
theorem c_tellMin {C0 S0 : Nat} (ha : a < cm) (hc : c < cm) (h : c_kn (mm a) n R b) (h' : c_kn (mm c) g r b') (hsame : c = a → g = n ∧ r = R ∧ b' = b) (hl : l ≤ 4096) (ho : o_Ok l_o o_r g_o g_t q) (hnq : n ≤ q) (hold : (mm a).2.1 11 = v1 → (mm c).2.1 11 = v2 → w_ans b b' n g v4 v7 v8 gi) (hV : ∀ V', x_mnT b b' n g V' → V' = V) (hC0 : w_slow ((mm a).2.1 11) ((mm c).2.1 11) v1 v2 n R g r → c_mrc mm a c n g l ≤ C0) (hS0 : w_slow ((mm a).2.1 11) ((mm c).2.1 11) v1 v2 n R g r → c_mrs mm a c n g l ≤ S0) (hI : pr_I M T l_b pl pf gb U) (hb : pr_b C0 S0 l_b T mc ms) (hM : min 65536 (U.length + V.length) ≤ M)
    (hp : ∀ q' l' pl' pf' g' gd' qk' qr' qg' lw' vh' vg' gb' fd kp' lo' co' de' ta' gi' gp' gq' gk' gr' gg' mm', w_ans b b' n g fd co' de' gi' → c_JG mm mm' a c n g b b' → ((w_slow ((mm a).2.1 11) ((mm c).2.1 11) v1 v2 n R g r ∧ lw' = max l (2 ^ n) ∧ c_R (mm' a) n b ∧ c_R (mm' c) g b') ∨ ((¬ w_slow ((mm a).2.1 11) ((mm c).2.1 11) v1 v2 n R g r) ∧ lw' = l ∧ mm' = mm)) → (vh' = vh ∨ vh' = some a) → (vg' = vg ∨ vg' = some c) → pr_I M T l' pl' pf' g' (U ++ V) → post d1 d2 d3 d4 d5 q' l' pl' pf' g' gd' q_o l_o o_r g_o g_t qk' qr' qg' lw' lw' lw' vh' vg' ((mm a).2.1 11) ((mm c).2.1 11) gb' fd kp' lo' co' de' ta' gi' gp' gq' gk' gr' gg' mm') :
    w295r_wp cm np ns pa sa pp ss a c mc ms post d1 d2 d3 d4 d5 q_b l_b pl pf gb gd q_o l_o o_r g_o g_t qk qr qg l l l vh vg v1 v2 v3 v4 v5 v6 v7 v8 v9 gi gp gq gk gr gg mm := by
  have hn := c_knn h
  have hg := c_knn h'
  have hb0 : C0 ≤ mc ∧ S0 ≤ ms := by
    unfold pr_b at hb
    omega
  unfold w295r_wp
  refine ⟨C0, S0, by omega, by omega, c_finds ha hc h.1 h'.1 h.2.1 h'.2.1 hsame hl ho hnq hC0 hS0 hold (fun fd qk' qr' qg' lw' vh' vg' gb' kp' lo' co' de' ta' gi' gp' gq' gk' gr' gg' mm' hans hJ hsl hvh hvg => ⟨fun z => ?_, fun z => ?_⟩)⟩
  · rcases hans with ⟨w, _⟩ | ⟨w, K, c', f, hw1, hco, hde, hgi⟩
    · exact absurd w z
    · have hE := hw1.1
      have hKl := hE.1
      have hcl := hE.2.2.1
      have hVe : V = x_set c' ++ (x_set (x_co n (K ||| c')) ++ (x_fa (x_img3 f) g 0 ++ [10])) := by
        exact (hV _ (Or.inl ⟨K, c', f, hw1, rfl⟩)).symm
      have hKc : x_co n (K ||| c') < 2 ^ n := x_col (Nat.or_lt_two_pow hKl hcl)
      have hans' : w_ans b b' n g fd co' de' gi' := Or.inr ⟨w, K, c', f, hw1, hco, hde, hgi⟩
      rw [hco, hde]
      have hm13 : (mm' c).2.1 13 = nI g := (c_ZB h'.1 hJ.2.2).1
      -- the images
      have loop : ∀ (v e : Nat), e + v = g → ∀ (q' l' : Nat) (pl' pf' : Int32) (g' gd' : Nat → Int32) (kc ks : Nat) (W : List Nat), pr_I M T l' pl' pf' g' W → pr_b kc ks l' T mc ms → W ++ (x_fa (x_img3 f) v e ++ [10]) = U ++ V → w295r_L57 cm np ns pa sa pp ss a c mc ms post (v + 1) (nI e) d1 d2 d3 d4 d5 q' l' pl' pf' g' gd' q_o l_o o_r g_o g_t qk' qr' qg' lw' lw' lw' vh' vg' ((mm a).2.1 11) ((mm c).2.1 11) gb' fd kp' lo' (nI c') (nI (x_co n (K ||| c'))) ta' gi' gp' gq' gk' gr' gg' mm' kc ks := by
        intro v
        induction v with
        | zero =>
          intro e he q' l' pl' pf' g' gd' kc ks W hI1 hb1 hW
          unfold w295r_L57
          rw [hm13]
          refine ⟨hc, fun _ => ?_, fun z => absurd (nI_le (show g ≤ e by omega) (by omega)) z⟩
          have hW : W ++ [10] = U ++ V := hW
          refine c_sub (c_pput (c := 10) (by decide)) hI1 hb1 (pr_len hM hW) (fun m s' q1 l1 pl1 pf1 g1 gd1 hI2 _ _ => ?_)
          rw [hW] at hI2
          rw [← hco, ← hde]
          exact hp _ _ _ _ _ _ _ _ _ _ _ _ _ _ _ _ _ _ _ _ _ _ _ _ _ _ hans' hJ hsl hvh hvg hI2
        | succ v ih =>
          intro e he q' l' pl' pf' g' gd' kc ks W hI1 hb1 hW
          unfold w295r_L57
          rw [hm13]
          refine ⟨hc, fun z => absurd z (nI_ge (by omega) (by omega)), fun _ => ?_⟩
          have body : ∀ y0, y0 < 32 → x_str y0 = (if e = 0 then [] else [32]) → w295r_L82 (w295r_L57 cm np ns pa sa pp ss a c mc ms post (v + 1)) cm np ns pa sa pp ss a c mc ms post (nI e) y0 d1 d2 d3 d4 d5 q' l' pl' pf' g' gd' q_o l_o o_r g_o g_t qk' qr' qg' lw' lw' lw' vh' vg' ((mm a).2.1 11) ((mm c).2.1 11) gb' fd kp' lo' (nI c') (nI (x_co n (K ||| c'))) ta' gi' gp' gq' gk' gr' gg' mm' kc ks := by
            intro y0 hy0 ey0
            have hW1 : W ++ (x_str y0 ++ (x_dg (f e) ++ (x_fa (x_img3 f) v (e + 1) ++ [10]))) = U ++ V := by
              rw [← hW, ey0]
              show _ = W ++ (((_ ++ _) ++ _) ++ _)
              simp only [List.append_assoc]
            have hfe : f e < 12 := (hE.2.2.2.2.1 e (by omega)).1
            refine c_sub2 (V := x_str y0) (W := x_dg (f e) ++ (x_fa (x_img3 f) v (e + 1) ++ [10])) (c_text hy0) hI1 hb1 (pr_len hM hW1) (fun m s' q2 l2 pl2 pf2 g2 gd2 hI2 _ hb2 => ⟨b_in (by omega) (by omega), ?_⟩)
            rw [nI_clamp (show e < 2 ^ 31 by omega), hgi e (by omega)]
            have hW2 : (W ++ x_str y0) ++ (x_dg (f e) ++ (x_fa (x_img3 f) v (e + 1) ++ [10])) = U ++ V := by rw [List.append_assoc]; exact hW1
            refine c_sub2 (V := x_dg (f e)) (W := x_fa (x_img3 f) v (e + 1) ++ [10]) (c_num32 (by omega)) hI2 hb2 (pr_len hM hW2) (fun m s' q3 l3 pl3 pf3 g3 gd3 hI3 _ hb3 => ?_)
            intro z36 e36
            rw [e36, nI_1]
            exact ih (e + 1) (by omega) q3 l3 pl3 pf3 g3 gd3 _ _ _ hI3 hb3 (by rw [List.append_assoc]; exact hW2)
          refine ⟨fun z => body 2 (by decide) ?_, fun z => body 1 (by decide) ?_⟩
          · rw [x_st123.2.1, if_neg (fun w => z (by rw [w]; rfl))]
          · rw [x_st123.1, if_pos ((nI_eq (b := 0) (by omega) (by decide)).1 z)]
      have hW0 : U ++ (x_set c' ++ (x_set (x_co n (K ||| c')) ++ (x_fa (x_img3 f) g 0 ++ [10]))) = U ++ V := by rw [hVe]
      refine c_sub2 (V := x_set c') (W := x_set (x_co n (K ||| c')) ++ (x_fa (x_img3 f) g 0 ++ [10])) (c_setLine (show c' < 2 ^ 31 by omega)) hI (show pr_b (0 + C0) (0 + S0) l_b T mc ms by rw [Nat.zero_add, Nat.zero_add]; exact hb) (pr_len hM hW0) (fun m s' q2 l2 pl2 pf2 g2 gd2 hI2 _ hb2 => ?_)
      have hW1 : (U ++ x_set c') ++ (x_set (x_co n (K ||| c')) ++ (x_fa (x_img3 f) g 0 ++ [10])) = U ++ V := by rw [List.append_assoc]; exact hW0
      refine c_sub2 (V := x_set (x_co n (K ||| c'))) (W := x_fa (x_img3 f) g 0 ++ [10]) (c_setLine (show x_co n (K ||| c') < 2 ^ 31 by omega)) hI2 hb2 (pr_len hM hW1) (fun m s' q3 l3 pl3 pf3 g3 gd3 hI3 _ hb3 => ⟨g + 1, ?_⟩)
      have := loop g 0 (by omega) q3 l3 pl3 pf3 g3 gd3 _ _ _ hI3 hb3 (by rw [List.append_assoc]; exact hW1)
      rw [nI_0] at this
      exact this
  · rcases hans with ⟨w, hno⟩ | ⟨w, _⟩
    · have hVe : V = x_str 5 := by
        rw [x_st5]; exact (hV _ (Or.inr ⟨hno, rfl⟩)).symm
      subst hVe
      refine c_sub (c_text (k := 5) (by decide)) hI (show pr_b (0 + C0) (0 + S0) l_b T mc ms by rw [Nat.zero_add, Nat.zero_add]; exact hb) hM (fun m s' q1 l1 pl1 pf1 g1 gd1 hI2 _ _ => ?_)
      exact hp _ _ _ _ _ _ _ _ _ _ _ _ _ _ _ _ _ _ _ _ _ _ _ _ _ _ (Or.inl ⟨w, hno⟩) hJ hsl hvh hvg hI2
    · rw [w] at z; exact absurd z (by decide)
end CTM
