/-! both sides: asks of two, and signs below -/
section ZH
variable {d1 d2 d3 d4 : Int32} {d5 : Option Nat} {lm : Nat → Option Nat} {l_y : Nat} {gy : Nat → Int32} {l_o : Nat} {o_r : Int32} {g_o g_t : Nat → Int32} {l1 l2 l3 : Nat} {mf mz mh : Int32} {ml : Option Nat} {gl gm gh : Nat → Int64} {lw1 lw2 lw3 : Nat} {vh vg : Option Nat} {v1 v2 v4 v7 v8 : Int32} {gi : Nat → Int32} {sv : Nat} {l_b : Nat} {pl pf : Int32} {gb : Nat → Int32} {mm : Nat → px_MR} {cm np ns : Nat} {sa : Nat → Nat} {pp : Nat → px_PR} {ss : Nat → px_SR} {iv Rth Rge Rgf Rgr Rgk Rgq Rgw RgR RgS Rgo Rgz Rsh Rca : Nat → Int32} {Rnv : Nat → px_NV} {q_o : Nat} {pa : Nat → Nat} {k kc ks : Nat} {m s m2 : Int32} {G : x_GS}
theorem z_two {A B : x_LR} (hA : c_IV G lm d5 cm mm np ns pp ss sa o_r g_o g_t mf mz mh ml gl gm gh vh vg v1 v2 v4 v7 v8 gi) (h : x_HG G) (e1 : x_lt G.1 m = some A) (e2 : x_lt G.1 m2 = some B) : x_HG (G.1, x_sk2 A B m.toNatClampNeg m2.toNatClampNeg G.2.1, G.2.2) ∧ x_2s A B m.toNatClampNeg m2.toNatClampNeg G.2.1 + 2 * x_Ph G ≤ 2 * x_Ph (G.1, x_sk2 A B m.toNatClampNeg m2.toNatClampNeg G.2.1, G.2.2) ∧ 4 * x_2c A B m.toNatClampNeg m2.toNatClampNeg G.2.1 + x_Ph G ≤ x_Ph (G.1, x_sk2 A B m.toNatClampNeg m2.toNatClampNeg G.2.1, G.2.2) := by
  obtain ⟨f, hf, ef, hl, _⟩ := z_ltf hA e1
  obtain ⟨g, hg, eg, hl2, _⟩ := z_ltf hA e2
  rw [ef, eg]
  exact x_HG2 (lt := G.1) (sk := G.2.1) (st := G.2.2.1) (lo := G.2.2.2.1) (lm := G.2.2.2.2.1) (lw := G.2.2.2.2.2.1) (U := G.2.2.2.2.2.2) h hf hg hl hl2
theorem z_wit {A B : x_LR} (hA : c_IV G lm d5 cm mm np ns pp ss sa o_r g_o g_t mf mz mh ml gl gm gh vh vg v1 v2 v4 v7 v8 gi) (h : x_HG G) (e1 : x_lt G.1 m = some A) (e2 : x_lt G.1 m2 = some B) : x_HG (x_GM A B m.toNatClampNeg m2.toNatClampNeg G) ∧ x_tkE 19 A B m.toNatClampNeg m2.toNatClampNeg G.2.1 G.2.2.2.2.2.1 + 2 * x_Ph G ≤ 2 * x_Ph (x_GM A B m.toNatClampNeg m2.toNatClampNeg G) ∧ 4 * x_tkC 19 A B m.toNatClampNeg m2.toNatClampNeg G.2.1 G.2.2.2.2.2.1 + x_Ph G ≤ x_Ph (x_GM A B m.toNatClampNeg m2.toNatClampNeg G) := by
  obtain ⟨f, hf, ef, hl, _⟩ := z_ltf hA e1
  obtain ⟨g, hg, eg, hl2, _⟩ := z_ltf hA e2
  rw [ef, eg]
  exact x_tkRm (v := 19) (lt := G.1) (sk := G.2.1) (st := G.2.2.1) (lo := G.2.2.2.1) (lm := G.2.2.2.2.1) (lw := G.2.2.2.2.2.1) (U := G.2.2.2.2.2.2) h (by decide) hf hl (fun _ => ⟨hg, hl2⟩)
theorem z_common (hk : k < 512) (h : z_I k kc ks d1 d2 d3 d4 d5 lm l_y gy l_o o_r g_o g_t l1 l2 l3 mf mz mh ml gl gm gh lw1 lw2 lw3 vh vg v1 v2 v4 v7 v8 gi sv l_b pl pf gb mm cm np ns sa pp ss iv Rth Rge Rgf Rgr Rgk Rgq Rgw RgR RgS Rgo Rgz Rsh Rca Rnv) : ∃ mc ms, (kc + mc ≤ 505000 ∧ ks + ms ≤ 5300000) ∧ w347_wp lm cm np ns pa sa pp ss mc ms (fun r d1' d2' d3' d4' d5' q_o' l_o' o_r' g_o' g_t' mm' => w127_wp (fun r' iv' Rth' Rge' RgR' Rgo' Rgz' => r = r' ∧ z_I (k + 1) (kc + mc) (ks + ms) d1' d2' d3' d4' d5' lm l_y gy l_o' o_r' g_o' g_t' l1 l2 l3 mf mz mh ml gl gm gh lw1 lw2 lw3 vh vg v1 v2 v4 v7 v8 gi sv l_b pl pf gb mm' cm np ns sa pp ss iv' Rth' Rge' Rgf Rgr Rgk Rgq Rgw RgR' RgS Rgo' Rgz' Rsh Rca Rnv) m m2 iv Rth Rge RgR Rgo Rgz) m m2 d1 d2 d3 d4 d5 q_o l_o o_r g_o g_t mm := by
  obtain ⟨G, L, R, hA, hB, hD⟩ := h
  obtain ⟨a1, a2, a3, a4, a5, a6, a7, a8, a9, a10, a11, ⟨w1, w2, w3⟩, a13⟩ := id hA
  subst w1; subst w2; subst w3; subst a10
  by_cases q : ∃ A B, x_lt G.1 m = some A ∧ x_lt G.1 m2 = some B ∧ A.2.1 = B.2.1
  · obtain ⟨A, B, q1, q2, q3⟩ := q
    obtain ⟨f, hf, ef, hl, hgh⟩ := z_ltf a1 q1
    have hn : A.2.1 ≤ 12 := (a3.2.1 f A hf hl).1
    have fin : ∀ {c e sk'}, (x_HG (G.1, sk', G.2.2) ∧ e + 2 * x_Ph G ≤ 2 * x_Ph (G.1, sk', G.2.2) ∧ 4 * c + x_Ph G ≤ x_Ph (G.1, sk', G.2.2)) → (0 < min A.2.2.1 B.2.2.1 → x_2c A B m.toNatClampNeg m2.toNatClampNeg G.2.1 ≤ c ∧ x_2s A B m.toNatClampNeg m2.toNatClampNeg G.2.1 ≤ e) → (if 0 < min A.2.2.1 B.2.2.1 then x_sk2 A B m.toNatClampNeg m2.toNatClampNeg G.2.1 else G.2.1) = sk' → ∃ mc ms, (kc + mc ≤ 505000 ∧ ks + ms ≤ 5300000) ∧ w347_wp lm cm np ns pa sa pp ss mc ms (fun r d1' d2' d3' d4' d5' q_o' l_o' o_r' g_o' g_t' mm' => w127_wp (fun r' iv' Rth' Rge' RgR' Rgo' Rgz' => r = r' ∧ z_I (k + 1) (kc + mc) (ks + ms) d1' d2' d3' d4' d5' lm l_y gy l_o' o_r' g_o' g_t' l1 l2 l3 mf mz mh ml gl gm gh G.2.2.2.2.2.1 G.2.2.2.2.2.1 G.2.2.2.2.2.1 vh vg v1 v2 v4 v7 v8 gi sv l_b pl pf gb mm' cm np ns sa pp ss iv' Rth' Rge' Rgf Rgr Rgk Rgq Rgw RgR' RgS Rgo' Rgz' Rsh Rca Rnv) m m2 iv Rth Rge RgR Rgo Rgz) m m2 d1 d2 d3 d4 d5 q_o G.2.2.2.1 o_r g_o g_t mm := fun {c e sk'} hj hcs hsk => by
      obtain ⟨j1, j2, j3⟩ := hj
      refine ⟨c, e, z_bdD hk hA hD j1 j2 j3, c_qCo a1 (fun A' B' e1 e2 e3 e4 => ?_) (fun e => ?_) (fun A' B' T mm' e1 e2 e3 e4 hIV => ?_)⟩
      · rw [q1] at e1; cases e1; rw [q2] at e2; cases e2; exact hcs e4
      · exact absurd q3 (e A B q1 q2)
      · rw [q1] at e1; cases e1
        rw [q2] at e2; cases e2
        rw [hsk] at hIV
        refine r_qCo hB.1 hB.2.2.1 (fun e => ?_) (fun A' B' T' e1 e2 e3 e5 iv' hI => ?_)
        · exact absurd q3 (e A B q1 q2)
        · rw [q1] at e1; cases e1
          rw [q2] at e2; cases e2
          exact ⟨by rw [x_topu hn e4 e5], z_ask hA hB hD j1 j2 j3 hIV hI⟩
    by_cases z : 0 < min A.2.2.1 B.2.2.1
    · exact fin (z_two a1 a3 q1 q2) (fun _ => ⟨Nat.le_refl _, Nat.le_refl _⟩) (if_pos z)
    · exact fin (c := 0) (e := 0) (sk' := G.2.1) ⟨a3, by show 0 + 2 * x_Ph G ≤ 2 * x_Ph G; omega, by show 4 * 0 + x_Ph G ≤ x_Ph G; omega⟩ (fun w => absurd w z) (if_neg z)
  · refine ⟨0, 0, z_bd0 hk hA hD, c_qCo a1 (fun A' B' e1 e2 e3 => absurd ⟨A', B', e1, e2, e3⟩ q) (fun e => ?_) (fun A' B' T mm' e1 e2 e3 => absurd ⟨A', B', e1, e2, e3⟩ q)⟩
    exact r_qCo hB.1 hB.2.2.1 (fun _ iv' hI => ⟨rfl, z_ask0 hA hB hD hI⟩) (fun A' B' T e1 e2 e3 => absurd ⟨A', B', e1, e2, e3⟩ q)
theorem z_cover (hk : k < 512) (h : z_I k kc ks d1 d2 d3 d4 d5 lm l_y gy l_o o_r g_o g_t l1 l2 l3 mf mz mh ml gl gm gh lw1 lw2 lw3 vh vg v1 v2 v4 v7 v8 gi sv l_b pl pf gb mm cm np ns sa pp ss iv Rth Rge Rgf Rgr Rgk Rgq Rgw RgR RgS Rgo Rgz Rsh Rca Rnv) : ∃ mc ms, (kc + mc ≤ 505000 ∧ ks + ms ≤ 5300000) ∧ w348_wp lm cm np ns pa sa pp ss mc ms (fun r d1' d2' d3' d4' d5' q_o' l_o' o_r' g_o' g_t' mm' => w128_wp (fun r' iv' Rth' Rge' RgR' Rgo' Rgz' => r = r' ∧ z_I (k + 1) (kc + mc) (ks + ms) d1' d2' d3' d4' d5' lm l_y gy l_o' o_r' g_o' g_t' l1 l2 l3 mf mz mh ml gl gm gh lw1 lw2 lw3 vh vg v1 v2 v4 v7 v8 gi sv l_b pl pf gb mm' cm np ns sa pp ss iv' Rth' Rge' Rgf Rgr Rgk Rgq Rgw RgR' RgS Rgo' Rgz' Rsh Rca Rnv) m m2 iv Rth Rge RgR Rgo Rgz) m m2 d1 d2 d3 d4 d5 q_o l_o o_r g_o g_t mm := by
  obtain ⟨G, L, R, hA, hB, hD⟩ := h
  obtain ⟨a1, a2, a3, a4, a5, a6, a7, a8, a9, a10, a11, ⟨w1, w2, w3⟩, a13⟩ := id hA
  subst w1; subst w2; subst w3; subst a10
  by_cases q : ∃ A B, x_lt G.1 m = some A ∧ x_lt G.1 m2 = some B ∧ A.2.1 = B.2.1
  · obtain ⟨A, B, q1, q2, q3⟩ := q
    obtain ⟨f, hf, ef, hl, hgh⟩ := z_ltf a1 q1
    have hn : A.2.1 ≤ 12 := (a3.2.1 f A hf hl).1
    obtain ⟨j1, j2, j3⟩ := z_two a1 a3 q1 q2
    refine ⟨_, _, z_bdD hk hA hD j1 j2 j3, c_qCv a1 (fun A' B' e1 e2 e3 => ?_) (fun e => ?_) (fun A' B' T mm' e1 e2 e3 e4 hIV => ?_)⟩
    · rw [q1] at e1; cases e1; rw [q2] at e2; cases e2; exact ⟨Nat.le_refl _, Nat.le_refl _⟩
    · exact absurd q3 (e A B q1 q2)
    · rw [q1] at e1; cases e1
      rw [q2] at e2; cases e2
      refine r_qCv hB.1 hB.2.2.1 (fun e => ?_) (fun A' B' T' e1 e2 e3 e5 iv' hI => ?_)
      · exact absurd q3 (e A B q1 q2)
      · rw [q1] at e1; cases e1
        rw [q2] at e2; cases e2
        exact ⟨by rw [x_topu hn e4 e5], z_ask hA hB hD j1 j2 j3 hIV hI⟩
  · refine ⟨0, 0, z_bd0 hk hA hD, c_qCv a1 (fun A' B' e1 e2 e3 => absurd ⟨A', B', e1, e2, e3⟩ q) (fun e => ?_) (fun A' B' T mm' e1 e2 e3 => absurd ⟨A', B', e1, e2, e3⟩ q)⟩
    exact r_qCv hB.1 hB.2.2.1 (fun _ iv' hI => ⟨rfl, z_ask0 hA hB hD hI⟩) (fun A' B' T e1 e2 e3 => absurd ⟨A', B', e1, e2, e3⟩ q)
theorem x_g7id {n : Nat} {g : Nat → Nat} (h : 2 ^ n ≤ g 7) : x_g7 n g = g := by
  funext k
  unfold x_g7
  split
  · next e => rw [e]; omega
  · rfl
theorem z_below {i : Int32} {Rgt : Nat → Int32} (hk : k < 512) (h : z_I k kc ks d1 d2 d3 d4 d5 lm l_y gy l_o o_r g_o g_t l1 l2 l3 mf mz mh ml gl gm gh lw1 lw2 lw3 vh vg v1 v2 v4 v7 v8 gi sv l_b pl pf gb mm cm np ns sa pp ss iv Rth Rge Rgf Rgr Rgk Rgq Rgw RgR RgS Rgo Rgz Rsh Rca Rnv) : ∃ mc ms, (kc + mc ≤ 505000 ∧ ks + ms ≤ 5300000) ∧ w350_wp lm cm np ns pa sa pp ss mc ms (fun r d1' d2' d3' d4' d5' q_o' l_o' o_r' g_o' g_t' mm' => w130_wp (fun r' iv' Rth' Rge' Rgf' Rgr' RgR' RgS' Rgo' Rgz' Rgt' => r = r' ∧ z_I (k + 1) (kc + mc) (ks + ms) d1' d2' d3' d4' d5' lm l_y gy l_o' o_r' g_o' g_t' l1 l2 l3 mf mz mh ml gl gm gh lw1 lw2 lw3 vh vg v1 v2 v4 v7 v8 gi sv l_b pl pf gb mm' cm np ns sa pp ss iv' Rth' Rge' Rgf' Rgr' Rgk Rgq Rgw RgR' RgS' Rgo' Rgz' Rsh Rca Rnv) m i iv Rth Rge Rgf Rgr RgR RgS Rgo Rgz Rgt) m i d1 d2 d3 d4 d5 q_o l_o o_r g_o g_t mm := by
  obtain ⟨G, L, R, hA, hB, hD⟩ := h
  obtain ⟨a1, a2, a3, a4, a5, a6, a7, a8, a9, a10, a11, ⟨w1, w2, w3⟩, a13⟩ := id hA
  subst w1; subst w2; subst w3; subst a10
  by_cases q : ∃ A, x_lt G.1 m = some A ∧ A.1 = 0 ∧ ¬ i < 0
  · obtain ⟨A, q1, q2, q3⟩ := q
    have hn : A.2.1 ≤ 12 ∧ x_rkA A.2.1 (G.2.1 m.toNatClampNeg) := by
      obtain ⟨f, hf, ef, hl, hgh⟩ := z_ltf a1 q1
      rw [ef]; exact a3.2.1 f A hf hl
    obtain ⟨p1, p2⟩ := x_rAL (k := 1) hn.2 hn.1 (z_famL (b := x_bg A.1 A.2.2.2.1) (r := A.2.2.1) hn.1 1) (by decide)
    obtain ⟨_, p3, p4⟩ := x_rkL (k := 1) hn.2.1 hn.1 (z_famL (b := x_bg A.1 A.2.2.2.1) (r := A.2.2.1) hn.1 1) (by decide)
    have ec : x_scc A.2.1 (x_fam (x_bg A.1 A.2.2.2.1) A.2.1 A.2.2.1 1).length (G.2.1 m.toNatClampNeg) = x_lcc A.2.1 (x_fam (x_bg A.1 A.2.2.2.1) A.2.1 A.2.2.1 1).length 1 (G.2.1 m.toNatClampNeg) := by
      unfold x_scc; rw [if_neg (by omega)]; rfl
    have es : x_scs A.2.1 (x_fam (x_bg A.1 A.2.2.2.1) A.2.1 A.2.2.1 1).length (G.2.1 m.toNatClampNeg) = x_lcs A.2.1 (x_fam (x_bg A.1 A.2.2.2.1) A.2.1 A.2.2.1 1).length 1 (G.2.1 m.toNatClampNeg) := by
      unfold x_scs; rw [if_neg (by omega)]; rfl
    obtain ⟨j1, j2, j3⟩ := z_row (e := x_lcs A.2.1 (x_fam (x_bg A.1 A.2.2.2.1) A.2.1 A.2.2.1 1).length 1 (G.2.1 m.toNatClampNeg)) (c := x_lcc A.2.1 (x_fam (x_bg A.1 A.2.2.2.1) A.2.1 A.2.2.1 1).length 1 (G.2.1 m.toNatClampNeg)) (r := x_gL A.2.1 (x_fam (x_bg A.1 A.2.2.2.1) A.2.1 A.2.2.1 1).length 1 (G.2.1 m.toNatClampNeg)) a1 a3 q1 (fun _ _ => ⟨p1, p3, p4⟩)
    refine ⟨_, _, z_bdD hk hA hD j1 j2 j3, c_qU a1 (fun A' e1 e2 e3 => ?_) (fun e => ?_) (fun A' mm' e1 e2 e3 e4 hIV => ?_) (fun A' C mm' e1 e2 e3 e4 hIV => ?_)⟩
    · rw [q1] at e1; cases e1; rw [ec, es]; exact ⟨Nat.le_refl _, Nat.le_refl _⟩
    · exact absurd (e A q1 q2) q3
    · rw [q1] at e1; cases e1
      refine r_qU hB.1 hB.2.2.1 (fun e => absurd (e A q1 q2) q3) (fun A' e1 _ _ _ iv' gt' hI => ?_) (fun A' C e1 _ _ e5 iv' gt' hI => ?_)
      · rw [q1] at e1; cases e1
        exact ⟨rfl, z_ask hA hB hD j1 j2 j3 hIV hI⟩
      · rw [q1] at e1; cases e1
        rw [e4] at e5; cases e5
    · rw [q1] at e1; cases e1
      rw [x_g7id p2] at hIV
      refine r_qU hB.1 hB.2.2.1 (fun e => absurd (e A q1 q2) q3) (fun A' e1 _ _ e5 iv' gt' hI => ?_) (fun A' C e1 _ _ e5 iv' gt' hI => ?_)
      · rw [q1] at e1; cases e1
        rw [e4] at e5; cases e5
      · rw [q1] at e1; cases e1
        rw [e4] at e5; cases e5
        exact ⟨rfl, z_ask hA hB hD j1 j2 j3 hIV hI⟩
  · refine ⟨0, 0, z_bd0 hk hA hD, c_qU a1 (fun A' e1 e2 e3 => absurd ⟨A', e1, e2, e3⟩ q) (fun e => ?_) (fun A' mm' e1 e2 e3 => absurd ⟨A', e1, e2, e3⟩ q) (fun A' C mm' e1 e2 e3 => absurd ⟨A', e1, e2, e3⟩ q)⟩
    exact r_qU hB.1 hB.2.2.1 (fun _ iv' gt' hI => ⟨rfl, z_ask0 hA hB hD hI⟩) (fun A' e1 e2 e3 => absurd ⟨A', e1, e2, e3⟩ q) (fun A' C e1 e2 e3 => absurd ⟨A', e1, e2, e3⟩ q)
theorem z_aKu {b b' : Nat → Bool} {n g : Nat} {x y : Int32} (hn : n ≤ 12) (h1 : x_aK b b' n g x) (h2 : x_aK b b' n g y) : x = y := by
  rcases h1 with ⟨p, e⟩ | ⟨K, c, f, p, e⟩ <;> rcases h2 with ⟨p', e'⟩ | ⟨K', c', f', p', e'⟩
  · rw [e, e']
  · exact absurd ⟨K', c', f', p'.1⟩ p
  · exact absurd ⟨K, c, f, p.1⟩ p'
  · rw [e, e', (w_1u hn p p').2.1]
theorem z_aDu {b b' : Nat → Bool} {n g : Nat} {x y : Int32} (hn : n ≤ 12) (h1 : x_aD b b' n g x) (h2 : x_aD b b' n g y) : x = y := by
  rcases h1 with ⟨p, e⟩ | ⟨K, c, f, p, e⟩ <;> rcases h2 with ⟨p', e'⟩ | ⟨K', c', f', p', e'⟩
  · rw [e, e']
  · exact absurd ⟨K', c', f', p'.1⟩ p
  · exact absurd ⟨K, c, f, p.1⟩ p'
  · rw [e, e', (w_1u hn p p').2.1, (w_1u hn p p').1]
theorem z_aIu {b b' : Nat → Bool} {n g E : Nat} {x y : Int32} (hn : n ≤ 12) (hE : E < g) (h1 : x_aI b b' n g E x) (h2 : x_aI b b' n g E y) : x = y := by
  rcases h1 with ⟨p, e⟩ | ⟨K, c, f, p, e⟩ <;> rcases h2 with ⟨p', e'⟩ | ⟨K', c', f', p', e'⟩
  · rw [e, e']
  · exact absurd ⟨K', c', f', p'.1⟩ p
  · exact absurd ⟨K, c, f, p.1⟩ p'
  · rw [e, e', (w_1u hn p p').2.2 E hE]
end ZH
section ZK
variable {d1 d2 d3 d4 : Int32} {d5 : Option Nat} {lm : Nat → Option Nat} {l_y : Nat} {gy : Nat → Int32} {l_o : Nat} {o_r : Int32} {g_o g_t : Nat → Int32} {l1 l2 l3 : Nat} {mf mz mh : Int32} {ml : Option Nat} {gl gm gh : Nat → Int64} {lw1 lw2 lw3 : Nat} {vh vg : Option Nat} {v1 v2 v4 v7 v8 : Int32} {gi : Nat → Int32} {sv : Nat} {l_b : Nat} {pl pf : Int32} {gb : Nat → Int32} {mm : Nat → px_MR} {cm np ns : Nat} {sa : Nat → Nat} {pp : Nat → px_PR} {ss : Nat → px_SR} {iv Rth Rge Rgf Rgr Rgk Rgq Rgw RgR RgS Rgo Rgz Rsh Rca : Nat → Int32} {Rnv : Nat → px_NV} {q_o qk qr qg : Nat} {pa : Nat → Nat} {k kc ks : Nat} {m s m2 v3 v5 v6 v9 : Int32} {gp gq gk gr gg : Nat → Int32} {Rgi Rgx : Nat → Int32}
theorem z_contracted (hk : k < 512) (h : z_I k kc ks d1 d2 d3 d4 d5 lm l_y gy l_o o_r g_o g_t l1 l2 l3 mf mz mh ml gl gm gh lw1 lw2 lw3 vh vg v1 v2 v4 v7 v8 gi sv l_b pl pf gb mm cm np ns sa pp ss iv Rth Rge Rgf Rgr Rgk Rgq Rgw RgR RgS Rgo Rgz Rsh Rca Rnv) : ∃ mc ms, (kc + mc ≤ 505000 ∧ ks + ms ≤ 5300000) ∧ w351_wp lm cm np ns pa sa pp ss mc ms (fun r d1' d2' d3' d4' d5' q_o' l_o' o_r' g_o' g_t' qk' qr' qg' lw1' lw2' lw3' vh' vg' v1' v2' v3' v4' v5' v6' v7' v8' v9' gi' gp' gq' gk' gr' gg' mm' => w131_wp (fun r' iv' Rth' Rge' Rgr' RgR' Rgo' Rgz' Rgi' Rgx' => r = r' ∧ z_I (k + 1) (kc + mc) (ks + ms) d1' d2' d3' d4' d5' lm l_y gy l_o' o_r' g_o' g_t' l1 l2 l3 mf mz mh ml gl gm gh lw1' lw2' lw3' vh' vg' v1' v2' v4' v7' v8' gi' sv l_b pl pf gb mm' cm np ns sa pp ss iv' Rth' Rge' Rgf Rgr' Rgk Rgq Rgw RgR' RgS Rgo' Rgz' Rsh Rca Rnv) m m2 iv Rth Rge Rgr RgR Rgo Rgz Rgi Rgx) m m2 d1 d2 d3 d4 d5 q_o l_o o_r g_o g_t qk qr qg lw1 lw2 lw3 vh vg v1 v2 v3 v4 v5 v6 v7 v8 v9 gi gp gq gk gr gg mm := by
  obtain ⟨G, L, R, hA, hB, hD⟩ := h
  obtain ⟨a1, a2, a3, a4, a5, a6, a7, a8, a9, a10, a11, ⟨w1, w2, w3⟩, a13⟩ := id hA
  subst w1; subst w2; subst w3; subst a10
  by_cases q : ∃ A B, x_lt G.1 m = some A ∧ x_lt G.1 m2 = some B
  · obtain ⟨A, B, q1, q2⟩ := q
    have hn : A.2.1 ≤ 12 := by
      obtain ⟨f, hf, ef, hl, hgh⟩ := z_ltf a1 q1
      exact (a3.2.1 f A hf hl).1
    obtain ⟨j1, j2, j3⟩ := z_wit a1 a3 q1 q2
    refine ⟨_, _, z_bdD hk hA hD j1 j2 j3, c_qK a1 (fun A' B' e1 e2 => ?_) (fun e => ?_) (fun A' B' ans qk' qr' qg' vh' vg' v1' v2' v3' v4' v5' v6' v7' v8' v9' gi' gp' gq' gk' gr' gg' mm' e1 e2 e3 hIV => ?_)⟩
    · rw [q1] at e1; cases e1; rw [q2] at e2; cases e2; exact ⟨Nat.le_refl _, Nat.le_refl _⟩
    · rcases e with e | e
      · rw [q1] at e; cases e
      · rw [q2] at e; cases e
    · rw [q1] at e1; cases e1
      rw [q2] at e2; cases e2
      refine r_qK hB.1 hB.2.2.1 (fun e => ?_) (fun A' B' ans' e1 e2 e4 iv' gi'' gx' hI => ?_)
      · rcases e with e | e
        · rw [q1] at e; cases e
        · rw [q2] at e; cases e
      · rw [q1] at e1; cases e1
        rw [q2] at e2; cases e2
        exact ⟨z_aKu hn e3 e4, z_ask hA hB hD j1 j2 j3 hIV hI⟩
  · have q0 : x_lt G.1 m = none ∨ x_lt G.1 m2 = none := by
      cases q1 : x_lt G.1 m with
      | none => exact Or.inl rfl
      | some A => cases q2 : x_lt G.1 m2 with
        | none => exact Or.inr rfl
        | some B => exact absurd ⟨A, B, q1, q2⟩ q
    refine ⟨0, 0, z_bd0 hk hA hD, c_qK a1 (fun A' B' e1 e2 => absurd ⟨A', B', e1, e2⟩ q) (fun e => ?_) (fun A' B' ans qk' qr' qg' vh' vg' v1' v2' v3' v4' v5' v6' v7' v8' v9' gi' gp' gq' gk' gr' gg' mm' e1 e2 => absurd ⟨A', B', e1, e2⟩ q)⟩
    exact r_qK hB.1 hB.2.2.1 (fun _ iv' hI => ⟨rfl, z_ask0 hA hB hD hI⟩) (fun A' B' T e1 e2 => absurd ⟨A', B', e1, e2⟩ q)
theorem z_deleted (hk : k < 512) (h : z_I k kc ks d1 d2 d3 d4 d5 lm l_y gy l_o o_r g_o g_t l1 l2 l3 mf mz mh ml gl gm gh lw1 lw2 lw3 vh vg v1 v2 v4 v7 v8 gi sv l_b pl pf gb mm cm np ns sa pp ss iv Rth Rge Rgf Rgr Rgk Rgq Rgw RgR RgS Rgo Rgz Rsh Rca Rnv) : ∃ mc ms, (kc + mc ≤ 505000 ∧ ks + ms ≤ 5300000) ∧ w353_wp lm cm np ns pa sa pp ss mc ms (fun r d1' d2' d3' d4' d5' q_o' l_o' o_r' g_o' g_t' qk' qr' qg' lw1' lw2' lw3' vh' vg' v1' v2' v3' v4' v5' v6' v7' v8' v9' gi' gp' gq' gk' gr' gg' mm' => w132_wp (fun r' iv' Rth' Rge' Rgr' RgR' Rgo' Rgz' Rgi' Rgx' => r = r' ∧ z_I (k + 1) (kc + mc) (ks + ms) d1' d2' d3' d4' d5' lm l_y gy l_o' o_r' g_o' g_t' l1 l2 l3 mf mz mh ml gl gm gh lw1' lw2' lw3' vh' vg' v1' v2' v4' v7' v8' gi' sv l_b pl pf gb mm' cm np ns sa pp ss iv' Rth' Rge' Rgf Rgr' Rgk Rgq Rgw RgR' RgS Rgo' Rgz' Rsh Rca Rnv) m m2 iv Rth Rge Rgr RgR Rgo Rgz Rgi Rgx) m m2 d1 d2 d3 d4 d5 q_o l_o o_r g_o g_t qk qr qg lw1 lw2 lw3 vh vg v1 v2 v3 v4 v5 v6 v7 v8 v9 gi gp gq gk gr gg mm := by
  obtain ⟨G, L, R, hA, hB, hD⟩ := h
  obtain ⟨a1, a2, a3, a4, a5, a6, a7, a8, a9, a10, a11, ⟨w1, w2, w3⟩, a13⟩ := id hA
  subst w1; subst w2; subst w3; subst a10
  by_cases q : ∃ A B, x_lt G.1 m = some A ∧ x_lt G.1 m2 = some B
  · obtain ⟨A, B, q1, q2⟩ := q
    have hn : A.2.1 ≤ 12 := by
      obtain ⟨f, hf, ef, hl, hgh⟩ := z_ltf a1 q1
      exact (a3.2.1 f A hf hl).1
    obtain ⟨j1, j2, j3⟩ := z_wit a1 a3 q1 q2
    refine ⟨_, _, z_bdD hk hA hD j1 j2 j3, c_qD a1 (fun A' B' e1 e2 => ?_) (fun e => ?_) (fun A' B' ans qk' qr' qg' vh' vg' v1' v2' v3' v4' v5' v6' v7' v8' v9' gi' gp' gq' gk' gr' gg' mm' e1 e2 e3 hIV => ?_)⟩
    · rw [q1] at e1; cases e1; rw [q2] at e2; cases e2; exact ⟨Nat.le_refl _, Nat.le_refl _⟩
    · rcases e with e | e
      · rw [q1] at e; cases e
      · rw [q2] at e; cases e
    · rw [q1] at e1; cases e1
      rw [q2] at e2; cases e2
      refine r_qD hB.1 hB.2.2.1 (fun e => ?_) (fun A' B' ans' e1 e2 e4 iv' gi'' gx' hI => ?_)
      · rcases e with e | e
        · rw [q1] at e; cases e
        · rw [q2] at e; cases e
      · rw [q1] at e1; cases e1
        rw [q2] at e2; cases e2
        exact ⟨z_aDu hn e3 e4, z_ask hA hB hD j1 j2 j3 hIV hI⟩
  · refine ⟨0, 0, z_bd0 hk hA hD, c_qD a1 (fun A' B' e1 e2 => absurd ⟨A', B', e1, e2⟩ q) (fun e => ?_) (fun A' B' ans qk' qr' qg' vh' vg' v1' v2' v3' v4' v5' v6' v7' v8' v9' gi' gp' gq' gk' gr' gg' mm' e1 e2 => absurd ⟨A', B', e1, e2⟩ q)⟩
    exact r_qD hB.1 hB.2.2.1 (fun _ iv' hI => ⟨rfl, z_ask0 hA hB hD hI⟩) (fun A' B' T e1 e2 => absurd ⟨A', B', e1, e2⟩ q)
theorem z_image {e : Int32} (hk : k < 512) (h : z_I k kc ks d1 d2 d3 d4 d5 lm l_y gy l_o o_r g_o g_t l1 l2 l3 mf mz mh ml gl gm gh lw1 lw2 lw3 vh vg v1 v2 v4 v7 v8 gi sv l_b pl pf gb mm cm np ns sa pp ss iv Rth Rge Rgf Rgr Rgk Rgq Rgw RgR RgS Rgo Rgz Rsh Rca Rnv) : ∃ mc ms, (kc + mc ≤ 505000 ∧ ks + ms ≤ 5300000) ∧ w354_wp lm cm np ns pa sa pp ss mc ms (fun r d1' d2' d3' d4' d5' q_o' l_o' o_r' g_o' g_t' qk' qr' qg' lw1' lw2' lw3' vh' vg' v1' v2' v3' v4' v5' v6' v7' v8' v9' gi' gp' gq' gk' gr' gg' mm' => w133_wp (fun r' iv' Rth' Rge' Rgr' RgR' Rgo' Rgz' Rgi' Rgx' => r = r' ∧ z_I (k + 1) (kc + mc) (ks + ms) d1' d2' d3' d4' d5' lm l_y gy l_o' o_r' g_o' g_t' l1 l2 l3 mf mz mh ml gl gm gh lw1' lw2' lw3' vh' vg' v1' v2' v4' v7' v8' gi' sv l_b pl pf gb mm' cm np ns sa pp ss iv' Rth' Rge' Rgf Rgr' Rgk Rgq Rgw RgR' RgS Rgo' Rgz' Rsh Rca Rnv) m m2 e iv Rth Rge Rgr RgR Rgo Rgz Rgi Rgx) m m2 e d1 d2 d3 d4 d5 q_o l_o o_r g_o g_t qk qr qg lw1 lw2 lw3 vh vg v1 v2 v3 v4 v5 v6 v7 v8 v9 gi gp gq gk gr gg mm := by
  obtain ⟨G, L, R, hA, hB, hD⟩ := h
  obtain ⟨a1, a2, a3, a4, a5, a6, a7, a8, a9, a10, a11, ⟨w1, w2, w3⟩, a13⟩ := id hA
  subst w1; subst w2; subst w3; subst a10
  by_cases q : ∃ A B E, x_lt G.1 m = some A ∧ x_lt G.1 m2 = some B ∧ x_el B.2.1 e = some E
  · obtain ⟨A, B, E, q1, q2, q3⟩ := q
    have hE : E < B.2.1 := by
      unfold x_el at q3
      split at q3
      · cases q3
      · split at q3
        · next hh => cases q3; exact hh
        · cases q3
    have hn : A.2.1 ≤ 12 := by
      obtain ⟨f, hf, ef, hl, hgh⟩ := z_ltf a1 q1
      exact (a3.2.1 f A hf hl).1
    obtain ⟨j1, j2, j3⟩ := z_wit a1 a3 q1 q2
    refine ⟨_, _, z_bdD hk hA hD j1 j2 j3, c_qI a1 (fun A' B' E' e1 e2 _ => ?_) (fun e => ?_) (fun A' B' E' ans qk' qr' qg' vh' vg' v1' v2' v3' v4' v5' v6' v7' v8' v9' gi' gp' gq' gk' gr' gg' mm' e1 e2 e0 e3 hIV => ?_)⟩
    · rw [q1] at e1; cases e1; rw [q2] at e2; cases e2; exact ⟨Nat.le_refl _, Nat.le_refl _⟩
    · rcases e with e | e
      · rw [q1] at e; cases e
      · have := e B q2
        rw [q3] at this; cases this
    · rw [q1] at e1; cases e1
      rw [q2] at e2; cases e2
      rw [q3] at e0; cases e0
      refine r_qI hB.1 hB.2.2.1 (fun e => ?_) (fun A' B' E' ans' e1 e2 e0 e4 iv' gi'' gx' hI => ?_)
      · rcases e with e | e
        · rw [q1] at e; cases e
        · have := e B q2
          rw [q3] at this; cases this
      · rw [q1] at e1; cases e1
        rw [q2] at e2; cases e2
        rw [q3] at e0; cases e0
        exact ⟨z_aIu hn hE e3 e4, z_ask hA hB hD j1 j2 j3 hIV hI⟩
  · refine ⟨0, 0, z_bd0 hk hA hD, c_qI a1 (fun A' B' E' e1 e2 e0 => absurd ⟨A', B', E', e1, e2, e0⟩ q) (fun e => ?_) (fun A' B' E' ans qk' qr' qg' vh' vg' v1' v2' v3' v4' v5' v6' v7' v8' v9' gi' gp' gq' gk' gr' gg' mm' e1 e2 e0 => absurd ⟨A', B', E', e1, e2, e0⟩ q)⟩
    exact r_qI hB.1 hB.2.2.1 (fun _ iv' hI => ⟨rfl, z_ask0 hA hB hD hI⟩) (fun A' B' E' T e1 e2 e0 => absurd ⟨A', B', E', e1, e2, e0⟩ q)
end ZK
