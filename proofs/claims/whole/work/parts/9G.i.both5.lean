/-! both sides: run -/
section ZR
variable {d1 d2 d3 d4 : Int32} {d5 : Option Nat} {lm : Nat → Option Nat} {l_y : Nat} {gy : Nat → Int32} {l_o : Nat} {o_r : Int32} {g_o g_t : Nat → Int32} {l1 l2 l3 : Nat} {mf mz mh : Int32} {ml : Option Nat} {gl gm gh : Nat → Int64} {lw1 lw2 lw3 : Nat} {vh vg : Option Nat} {v1 v2 v4 v7 v8 : Int32} {gi : Nat → Int32} {sv : Nat} {l_b : Nat} {pl pf : Int32} {gb : Nat → Int32} {mm : Nat → px_MR} {cm np ns : Nat} {sa : Nat → Nat} {pp : Nat → px_PR} {ss : Nat → px_SR} {iv Rth Rge Rgf Rgr Rgk Rgq Rgw RgR RgS Rgo Rgz Rsh Rca : Nat → Int32} {Rnv : Nat → px_NV} {k kc ks : Nat} {q_y ho : Nat} {ge : Nat → Int32} {q_o q_l q_m q_h : Nat} {w1 w2 w3 w4 w5 w6 w7 w8 w9 w10 w11 w12 : Int64} {qk qr qg : Nat} {v3 v5 v6 v9 : Int32} {gp gq gk gr gg : Nat → Int32} {qs : Nat} {tl tb ts tk tv : Int32} {sg sf s2 sd sh sx smn sr se : Int32} {gn : Nat → Int32} {q_b : Nat} {gd : Nat → Int32} {hm pa : Nat → Nat} {Rgs Rgp Rfr Rfc Rgm Rgt Rgi Rgx Rb Rgl Rsv Rgd : Nat → Int32} {Rgc Rgh : Nat → Int64}
theorem z_run (hk : k < 512) (h : z_I k kc ks d1 d2 d3 d4 d5 lm l_y gy l_o o_r g_o g_t l1 l2 l3 mf mz mh ml gl gm gh lw1 lw2 lw3 vh vg v1 v2 v4 v7 v8 gi sv l_b pl pf gb mm cm np ns sa pp ss iv Rth Rge Rgf Rgr Rgk Rgq Rgw RgR RgS Rgo Rgz Rsh Rca Rnv) : ∃ mc ms, (kc + mc ≤ 505000 ∧ ks + ms ≤ 5300000) ∧ w135_wp q_y ho l_y mc ms (fun r d1' d2' d3' d4' d5' lm' ge' q_o' l_o' o_r' g_o' g_t' q_l' q_m' q_h' l1' l2' l3' mf' mz' mh' ml' gl' gm' gh' w1' w2' w3' w4' w5' w6' w7' w8' w9' w10' w11' w12' qk' qr' qg' lw1' lw2' lw3' vh' vg' v1' v2' v3' v4' v5' v6' v7' v8' v9' gi' gp' gq' gk' gr' gg' qs' tl' tb' ts' tk' tv' gy' sv' sg' sf' s2' sd' sh' sx' smn' sr' se' gn' q_b' l_b' pl' pf' gb' gd' mm' cm' np' ns' hm' pa' sa' pp' ss' => w117_wp (fun r' iv' Rgs' Rgp' Rfr' Rfc' Rgm' Rth' Rge' Rgf' Rgr' Rgk' Rgq' Rgw' RgR' RgS' Rgo' Rgz' Rgc' Rgh' Rgt' Rgi' Rgx' Rb' Rgl' Rsv' Rsh' Rgd' Rca' Rnv' => r = r' ∧ z_I (k + 1) (kc + mc) (ks + ms) d1' d2' d3' d4' d5' lm' l_y gy' l_o' o_r' g_o' g_t' l1' l2' l3' mf' mz' mh' ml' gl' gm' gh' lw1' lw2' lw3' vh' vg' v1' v2' v4' v7' v8' gi' sv' l_b' pl' pf' gb' mm' cm' np' ns' sa' pp' ss' iv' Rth' Rge' Rgf' Rgr' Rgk' Rgq' Rgw' RgR' RgS' Rgo' Rgz' Rsh' Rca' Rnv') iv Rgs Rgp Rfr Rfc Rgm Rth Rge Rgf Rgr Rgk Rgq Rgw RgR RgS Rgo Rgz Rgc Rgh Rgt Rgi Rgx Rb Rgl Rsv Rsh Rgd Rca Rnv) d1 d2 d3 d4 d5 lm ge q_o l_o o_r g_o g_t q_l q_m q_h l1 l2 l3 mf mz mh ml gl gm gh w1 w2 w3 w4 w5 w6 w7 w8 w9 w10 w11 w12 qk qr qg lw1 lw2 lw3 vh vg v1 v2 v3 v4 v5 v6 v7 v8 v9 gi gp gq gk gr gg qs tl tb ts tk tv gy sv sg sf s2 sd sh sx smn sr se gn q_b l_b pl pf gb gd mm cm np ns hm pa sa pp ss := by
  obtain ⟨G, L, R, hA, hB, hD⟩ := h
  obtain ⟨c1, c2, c3, c4, c5, c6, c7, c8, c9, c10, ⟨c11, c11b, c11c⟩, ⟨c12, c12b, c12c⟩, c13⟩ := hA
  obtain ⟨b1, b2, b3, b4, b5, b6, b7, b8⟩ := hB
  obtain ⟨r1, r2, r3, r4⟩ := hD
  subst c4; subst c9; subst c10; subst c11; subst c11b; subst c11c; subst c12; subst c12b; subst c12c
  have hL : L ≤ 10240 := by omega
  have hagr : ∀ i, i < L → gy i = Rca i := fun i hi => (b6 i hi).symm
  have hnar : ∀ i, i < L → vp_nar .byte (Rca i) = Rca i := fun i hi => by
    obtain ⟨x, e⟩ := c8 i (by omega)
    rw [b6 i hi, e]; exact (b_naI8 x).1
  have es := g_scr hagr (L + 1) 0 0
  have ej : t_j gy L = t_j Rca L := g_j hagr
  have hM : x_RM gy L G ≤ 65536 := x_ruMl _ _ _ _
  obtain ⟨g1, g2, g3⟩ := z_g2 c2 hM
  by_cases ok : (t_scr gy L (L + 1) 0 0).1 = true
  · obtain ⟨k1, k2, k3⟩ := x_ruR (b := gy) (L := L) (by omega) (L + 1) 0 0 (x_clr G) (Nat.zero_le _) ok c3
    have ks1 := x_runS (b := gy) (L := L) (L + 1) 0 0 (x_clr G) (Nat.zero_le _) ok (Nat.zero_le _)
    have k2' : x_ruE gy L (L + 1) 0 0 (x_clr G) + 2 * x_Ph G ≤ 2 * x_Ph (x_RN gy L G).1 + 306 * L := k2
    have k3' : 4 * x_ruC gy L (L + 1) 0 0 (x_clr G) + x_Ph G ≤ x_Ph (x_RN gy L G).1 + 120 * L := k3
    have ks' : (x_RN gy L G).1.2.2.1 ≤ G.2.2.1 + L := ks1
    have hC : 4 * x_RC gy L l_b G + x_Ph G + l_b ≤ x_Ph (x_RN gy L G).1 + x_g2 8 l_b (x_RM gy L G) + 120 * L := by
      unfold x_RC; omega
    have hE : x_RE gy L l_b G + 2 * x_Ph G + 2 * l_b ≤ 2 * x_Ph (x_RN gy L G).1 + 2 * x_g2 8 l_b (x_RM gy L G) + 306 * L := by
      unfold x_RE; omega
    have okR : (t_scr Rca L (L + 1) 0 0).1 = true := by rw [← es]; exact ok
    have eRN : x_RN gy L G = x_RN Rca L G := g_RN hagr ok
    refine ⟨x_RC gy L l_b G, x_RE gy L l_b G, z_bd (G := (x_RN gy L G).1) (R := R + L) (k := k) (l_b := x_g2 8 l_b (x_RM gy L G)) (l_y := l_y) k1 g1 c7 (by omega) (by omega) (by omega) (by omega), ?_⟩
    refine c_run (N := l_y) c5 (by omega) (by omega) c13 c1 c2 (by omega) (fun _ => Nat.le_refl _) (fun _ => Nat.le_refl _) (fun z => by rw [ok] at z; cases z) (fun _ d5' lm' ge' q_o' o_r' g_o' g_t' q_l' q_m' q_h' mf' mz' mh' ml' gl' gm' gh' w1' w2' w3' w4' w5' w6' w7' w8' w9' w10' w11' w12' qk' qr' qg' vh' vg' v1' v2' v3' v4' v5' v6' v7' v8' v9' gi' gp' gq' gk' gr' gg' tl' tb' ts' tk' tv' sv' sg' sf' s2' sd' sh' sx' smn' sr' se' gn' q_b' pl' pf' gb' gd' mm' cm' np' ns' hm' pa' sa' pp' ss' hsv hIV hJ => ?_)
    refine r_run (L := L) (G := G) (by omega) b1 b2 b3 b4 b5 hnar (fun z => by rw [okR] at z; cases z) (fun _ iv' gs' gp'' fr' fc' gm'' gth' ge'' gf' gr'' gk'' gq'' gw' gR' gS' gc' gh'' gt' gi'' gx' b' gl'' gsv' sh'' gd'' nv' hV hLT hT i42 i49 i51 i52 => ?_)
    rw [← eRN] at hLT hT i52
    refine ⟨by rw [eRN], (x_RN gy L G).1, 0, R + L, ⟨hIV, hJ, k1, rfl, Nat.zero_le _, c6, c7, c8, rfl, rfl, ⟨rfl, rfl, rfl⟩, ⟨rfl, rfl, rfl⟩, hsv⟩, ⟨b1, hV, hLT, hT, i51, fun i hi => absurd hi (by omega), by rw [i42]; exact b7, i52⟩, ⟨by omega, by omega, by omega, by omega⟩⟩
  · have ok' : (t_scr gy L (L + 1) 0 0).1 = false := by
      cases hh : (t_scr gy L (L + 1) 0 0).1 with
      | true => exact absurd hh ok
      | false => rfl
    have okR : (t_scr Rca L (L + 1) 0 0).1 = false := by rw [← es]; exact ok'
    refine ⟨0, 0, z_bd (G := G) (R := R + L) (k := k) (l_b := l_b) (l_y := l_y) c3 (z_lb c2) c7 (by omega) (by omega) (by omega) (by omega), ?_⟩
    refine c_run (N := l_y) c5 (by omega) (by omega) c13 c1 c2 (by omega) (fun z => absurd z ok) (fun z => absurd z ok) (fun _ tl' tb' tk' tv' sv' sg' sf' s2' sd' sh' sx' smn' sr' se' gn' hsv => ?_) (fun z => absurd z ok)
    refine r_run (L := L) (G := G) (by omega) b1 b2 b3 b4 b5 hnar (fun _ iv' b' hT i42 i49 i51 i52 => ?_) (fun z => by rw [okR] at z; cases z)
    refine ⟨rfl, G, 0, R + L, ⟨c1, c2, c3, rfl, Nat.zero_le _, c6, c7, c8, rfl, rfl, ⟨rfl, rfl, rfl⟩, ⟨rfl, rfl, rfl⟩, hsv⟩, ⟨b1, b2, b3, hT, i51, fun i hi => absurd hi (by omega), by rw [i42, es, ej], by rw [i52]; exact b8⟩, ⟨by omega, by omega, by omega, by omega⟩⟩
end ZR
