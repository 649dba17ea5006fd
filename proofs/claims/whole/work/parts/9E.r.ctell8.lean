/-! PURE, the class: tellRows -/
theorem x_raF {p n r : Nat} {g : Nat → Int} (hg : x_gh p n r g) (hM : x_M n r (x_bg p g)) : ¬ x_md p (g (x_ra (x_bg p g) (2 ^ n - 1) n 0)) = 0 := by
  have hp := Nat.two_pow_pos n
  have hfull : ∀ i, (2 ^ n - 1).testBit i = decide (i < n) := fun i => Nat.testBit_two_pow_sub_one n i
  obtain ⟨u1, u2, ⟨T, t1, t2, t3⟩, u4⟩ := x_UcR hM (S := 2 ^ n - 1) (by omega)
  have hT := (hg.2.1 T t1).1
  have e1 : x_ra (x_bg p g) (2 ^ n - 1) n 0 &&& (2 ^ n - 1) = x_ra (x_bg p g) (2 ^ n - 1) n 0 := by
    refine Nat.eq_of_testBit_eq (fun i => ?_)
    rw [Nat.testBit_and]
    cases q : (x_ra (x_bg p g) (2 ^ n - 1) n 0).testBit i
    · rfl
    · rcases x_rab n i q with z | z
      · rw [Nat.zero_testBit] at z; cases z
      · rw [z.2]; rfl
  have e2 : T = x_ra (x_bg p g) (2 ^ n - 1) n 0 &&& (2 ^ n - 1) := by
    refine Nat.eq_of_testBit_eq (fun i => ?_)
    cases q : T.testBit i with
    | true =>
      have hi := x_lt12 hg.1 hT q
      rcases t3 i q with z | z
      · exact z.symm
      · rw [hfull, decide_eq_true hi] at z; cases z
    | false =>
      cases q2 : (x_ra (x_bg p g) (2 ^ n - 1) n 0 &&& (2 ^ n - 1)).testBit i with
      | false => rfl
      | true => rw [t2 i q2] at q; cases q
  rw [← e1, ← e2]
  exact t1
section CRS
variable {cm np ns a : Nat} {mm : Nat → px_MR} {pa sa : Nat → Nat} {pp : Nat → px_PR} {ss : Nat → px_SR} {sp sn sm : Nat → Nat} {sK : Nat → Nat → Nat → Int} {q_o l_o q0 : Nat} {o_r : Int32} {g_o g_t : Nat → Int32} {q_l q_m q_h l : Nat} {mf mz mh : Int32} {ml : Option Nat} {gl gm gh : Nat → Int64} {mc ms : Nat} {p n r B q : Nat} {g : Nat → Int} {w : Nat → Int32} {M T q_b l_b : Nat} {pl pf d1 d2 d3 d4 : Int32} {d5 : Option Nat} {gb gd : Nat → Int32} {U : List Nat} {w1 w2 w3 w4 w5 w6 w7 w8 w9 w10 w11 w12 : Int64} {post : c_rwT}
theorem c_QRR {M M' : px_MR} {b : Nat → Bool} (hQ : c_Q M M' n b) {b' : Nat → Bool} {n' : Nat} (hR : c_R M n' b') : c_R M' n' b' := by
  rcases hQ.2.2.2 with z | z
  · have := hR.1; rw [z] at this; exact absurd this (by decide)
  · rw [z]; exact hR
theorem c_tellRows (ha : a < cm) (hG : c_G np ns pp sp sn sm sK (mm a) p n r g w) (hO : c_PO np ns pp) (hSS : c_SS ns ss sp sn sm sK) (hMN : c_MN ns sa sp sn sm sK l mf mz mh ml gl gm gh) (ho : o_Ok l_o o_r g_o g_t q0) (hsq : ∀ z, z < ns → sn z ≤ q0) (hpok : px_pok cm np mm) (hI : pr_I M T l_b pl pf gb U) (hb : pr_b (c_rc (mm a) n) (c_rs (mm a) n) l_b T mc ms) (hM : min 65536 (U.length + (x_shT p n g).length) ≤ M)
    (hp : ∀ M' q' l' pl' pf' g' gd' q_o' o' go' gt' q_l' q_m' q_h' mf' mz' mh' ml' gl' gm' gh' w1' w2' w3' w4' w5' w6' w7' w8' w9' w10' w11' w12', c_kn M' n r (x_bg p g) → c_fr (mm a) M' → c_lv M' = x_g7 n (c_lv (mm a)) → (c_R (mm a) n (x_bg p g) → c_R M' n (x_bg p g)) → c_MN ns sa sp sn sm sK l mf' mz' mh' ml' gl' gm' gh' → o_Ok l_o o' go' gt' q0 → pr_I M T l' pl' pf' g' (U ++ x_shT p n g) → post d1 d2 d3 d4 d5 q' l' pl' pf' g' gd' q_o' l_o o' go' gt' q_l' q_m' q_h' l l l mf' mz' mh' ml' gl' gm' gh' w1' w2' w3' w4' w5' w6' w7' w8' w9' w10' w11' w12' (va_up mm a M')) :
    w310_wp cm np ns pa sa pp ss a mc ms post d1 d2 d3 d4 d5 q_b l_b pl pf gb gd q_o l_o o_r g_o g_t q_l q_m q_h l l l mf mz mh ml gl gm gh w1 w2 w3 w4 w5 w6 w7 w8 w9 w10 w11 w12 mm := by
  have hk : c_kn (mm a) n r (x_bg p g) := hG.2.2.2.2.1
  have hn := c_knn hk
  have hb0 : c_rc (mm a) n ≤ mc ∧ c_rs (mm a) n ≤ ms := by
    unfold pr_b at hb
    omega
  unfold w310_wp
  refine ⟨c_rc (mm a) n, c_rs (mm a) n, by omega, by omega, ha, c_first ha hk.1 hk.2.1 (Nat.le_refl _) (Nat.le_refl _) (fun M' hQ => ⟨n + 1, ?_⟩)⟩
  have hqk := c_Qk hk hQ
  have hG' : c_G np ns pp sp sn sm sK (va_up mm a M' a) p n r g w := by rw [va_up_self]; exact c_Ga hG hqk.1 hqk.2.1
  have hpok' : px_pok cm np (va_up mm a M') := c_pokup hpok (Nat.le_refl _) (fun e y hy => by rw [hqk.2.1.2.2.2] at hy; exact hpok a ha e y hy)
  have hsz : (va_up mm a M' a).2.1 13 = nI n := by rw [va_up_self]; exact hqk.1.1.1
  have hBm := x_raF hG.2.2.1 hk.1.2.2.1
  have hBl := (hG.2.2.1.2.1 _ hBm).1
  unfold x_shT at hM hp
  generalize hBB : x_ra (x_bg p g) (2 ^ n - 1) n 0 = B at *
  have loop : ∀ (v e : Nat), e + v = n → ∀ (q' l' : Nat) (pl' pf' : Int32) (gb' gd' : Nat → Int32) (kc ks : Nat) (W : List Nat) (q_o : Nat) (o_r : Int32) (g_o g_t : Nat → Int32) (q_l q_m q_h : Nat) (mf mz mh : Int32) (ml : Option Nat) (gl gm gh : Nat → Int64) (w1 w2 w3 w4 w5 w6 w7 w8 w9 w10 w11 w12 : Int64), c_MN ns sa sp sn sm sK l mf mz mh ml gl gm gh → o_Ok l_o o_r g_o g_t q0 → pr_I M T l' pl' pf' gb' W → pr_b kc ks l' T mc ms → W ++ x_fa (fun q => if B.testBit q = true then x_shG p n g B q else []) v e = U ++ x_fa (fun q => if B.testBit q = true then x_shG p n g B q else []) n 0 → w310_L7 cm np ns pa sa pp ss a mc ms post (v + 1) (nI B) (nI e) d1 d2 d3 d4 d5 q' l' pl' pf' gb' gd' q_o l_o o_r g_o g_t q_l q_m q_h l l l mf mz mh ml gl gm gh w1 w2 w3 w4 w5 w6 w7 w8 w9 w10 w11 w12 (va_up mm a M') kc ks := by
    intro v
    induction v with
    | zero =>
      intro e he q' l' pl' pf' gb' gd' kc ks W q_o o_r g_o g_t q_l q_m q_h mf mz mh ml gl gm gh w1 w2 w3 w4 w5 w6 w7 w8 w9 w10 w11 w12 hMN ho hI' hb' hW
      unfold w310_L7
      rw [hsz]
      refine ⟨ha, fun _ => ?_, fun zz => absurd (nI_le (show n ≤ e by omega) (by omega)) zz⟩
      have hW : W = U ++ x_fa (fun q => if B.testBit q = true then x_shG p n g B q else []) n 0 := by rw [← hW]; exact (List.append_nil W).symm
      rw [hW] at hI'
      exact hp M' _ _ _ _ _ _ _ _ _ _ _ _ _ _ _ _ _ _ _ _ _ _ _ _ _ _ _ _ _ _ _ _ hqk.1 hqk.2.1 (c_lvQ hk hQ) (c_QRR hQ) hMN ho hI'
    | succ v ih =>
      intro e he q' l' pl' pf' gb' gd' kc ks W q_o o_r g_o g_t q_l q_m q_h mf mz mh ml gl gm gh w1 w2 w3 w4 w5 w6 w7 w8 w9 w10 w11 w12 hMN ho hI' hb' hW
      unfold w310_L7
      rw [hsz]
      refine ⟨ha, fun zz => absurd zz (nI_ge (by omega) (by omega)), fun _ => ⟨fun hbit z1 e1 => ?_, fun hbit => ?_⟩⟩
      · have hbe : B.testBit e = false := (b_bit0 (by omega) (by omega)).1 hbit
        rw [e1, nI_1]
        refine ih (e + 1) (by omega) _ _ _ _ _ _ _ _ W _ _ _ _ _ _ _ _ _ _ _ _ _ _ _ _ _ _ _ _ _ _ _ _ _ _ hMN ho hI' hb' ?_
        rw [← hW]
        show _ = W ++ ((if B.testBit e = true then x_shG p n g B e else []) ++ _)
        rw [if_neg (by rw [hbe]; decide)]; rfl
      · have hbe : B.testBit e = true := by
          cases hh : B.testBit e with
          | true => rfl
          | false => exact absurd ((b_bit0 (by omega) (by omega)).2 hh) hbit
        have hW1 : W ++ (x_shG p n g B e ++ x_fa (fun q => if B.testBit q = true then x_shG p n g B q else []) v (e + 1)) = U ++ x_fa (fun q => if B.testBit q = true then x_shG p n g B q else []) n 0 := by
          rw [← hW]
          show _ = W ++ ((if B.testBit e = true then x_shG p n g B e else []) ++ _)
          rw [if_pos hbe]
        obtain ⟨m, s, f1, f2, f3⟩ := c_sub2 (mc := mc) (ms := ms) (kc := kc) (ks := ks) (g_d := gd') (q_b := q') (R := fun _ _ => True) (V := x_shG p n g B e) (W := x_fa (fun q => if B.testBit q = true then x_shG p n g B q else []) v (e + 1)) (post := fun m s q3 l3 pl3 pf3 g3 gd3 => pr_I M T l3 pl3 pf3 g3 (W ++ x_shG p n g B e) ∧ pr_b (kc + m) (ks + s) l3 T mc ms) (P := fun mc ms post' q_b l_b pl pf gb gd => ∀ Post : c_rwT, (∀ q' l' pl' pf' g' gd' q_o' o' go' gt' q_l' q_m' q_h' mf' mz' mh' ml' gl' gm' gh' w1' w2' w3' w4' w5' w6' w7' w8' w9' w10' w11' w12', c_MN ns sa sp sn sm sK l mf' mz' mh' ml' gl' gm' gh' → o_Ok l_o o' go' gt' q0 → post' q' l' pl' pf' g' gd' → Post d1 d2 d3 d4 d5 q' l' pl' pf' g' gd' q_o' l_o o' go' gt' q_l' q_m' q_h' l l l mf' mz' mh' ml' gl' gm' gh' w1' w2' w3' w4' w5' w6' w7' w8' w9' w10' w11' w12' (va_up mm a M')) → w312_wp cm np ns pa sa pp ss a mc ms Post (nI B) (nI e) d1 d2 d3 d4 d5 q_b l_b pl pf gb gd q_o l_o o_r g_o g_t q_l q_m q_h l l l mf mz mh ml gl gm gh w1 w2 w3 w4 w5 w6 w7 w8 w9 w10 w11 w12 (va_up mm a M')) (fun mc ms post' q_b l_b pl pf gb gd M T U hI hb hM hpost Post hP => c_tellRow (M := M) (T := T) (U := U) ha hG' hO hSS hMN ho hsq hpok' hBm (by omega) hbe hI hb hM (fun q' l' pl' pf' g' gd' q_o' o' go' gt' q_l' q_m' q_h' mf' mz' mh' ml' gl' gm' gh' w1' w2' w3' w4' w5' w6' w7' w8' w9' w10' w11' w12' k1 k2 k3 => hP _ _ _ _ _ _ _ _ _ _ _ _ _ _ _ _ _ _ _ _ _ _ _ _ _ _ _ _ _ _ _ _ k1 k2 (hpost _ _ _ _ _ _ k3 trivial))) hI' hb' (pr_len hM hW1) (fun m s q3 l3 pl3 pf3 g3 gd3 k1 _ k3 => ⟨k1, k3⟩)
        refine ⟨m, s, f1, f2, f3 _ (fun q' l' pl' pf' g' gd' q_o' o' go' gt' q_l' q_m' q_h' mf' mz' mh' ml' gl' gm' gh' w1' w2' w3' w4' w5' w6' w7' w8' w9' w10' w11' w12' k1 k2 k3 z1 e1 => ?_)⟩
        rw [e1, nI_1]
        exact ih (e + 1) (by omega) _ _ _ _ _ _ _ _ _ _ _ _ _ _ _ _ _ _ _ _ _ _ _ _ _ _ _ _ _ _ _ _ _ _ _ k1 k2 k3.1 k3.2 (by rw [List.append_assoc]; exact hW1)
  have := loop n 0 (by omega) q_b l_b pl pf gb gd (0 + c_rc (mm a) n) (0 + c_rs (mm a) n) U q_o o_r g_o g_t q_l q_m q_h mf mz mh ml gl gm gh w1 w2 w3 w4 w5 w6 w7 w8 w9 w10 w11 w12 hMN ho hI (by rw [Nat.zero_add, Nat.zero_add]; exact hb) rfl
  rw [nI_0] at this
  exact this
end CRS
