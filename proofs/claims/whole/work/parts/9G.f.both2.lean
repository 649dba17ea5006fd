/-! both sides: asks that cost nothing -/
section ZF
variable {d1 d2 d3 d4 : Int32} {d5 : Option Nat} {lm : Nat → Option Nat} {l_y : Nat} {gy : Nat → Int32} {l_o : Nat} {o_r : Int32} {g_o g_t : Nat → Int32} {l1 l2 l3 : Nat} {mf mz mh : Int32} {ml : Option Nat} {gl gm gh : Nat → Int64} {lw1 lw2 lw3 : Nat} {vh vg : Option Nat} {v1 v2 v4 v7 v8 : Int32} {gi : Nat → Int32} {sv : Nat} {l_b : Nat} {pl pf : Int32} {gb : Nat → Int32} {mm : Nat → px_MR} {cm np ns : Nat} {sa : Nat → Nat} {pp : Nat → px_PR} {ss : Nat → px_SR} {iv Rth Rge Rgf Rgr Rgk Rgq Rgw RgR RgS Rgo Rgz Rsh Rca : Nat → Int32} {Rnv : Nat → px_NV} {q_o : Nat} {pa : Nat → Nat} {k kc ks : Nat} {m s : Int32}
theorem z_place (h : z_I k kc ks d1 d2 d3 d4 d5 lm l_y gy l_o o_r g_o g_t l1 l2 l3 mf mz mh ml gl gm gh lw1 lw2 lw3 vh vg v1 v2 v4 v7 v8 gi sv l_b pl pf gb mm cm np ns sa pp ss iv Rth Rge Rgf Rgr Rgk Rgq Rgw RgR RgS Rgo Rgz Rsh Rca Rnv) : w334_wp lm cm np ns pa sa pp ss (fun r d1' d2' d3' d4' d5' q_o' l_o' o_r' g_o' g_t' mm' => mpl_wp (fun r' iv' => r = r' ∧ z_I (k + 1) kc ks d1' d2' d3' d4' d5' lm l_y gy l_o' o_r' g_o' g_t' l1 l2 l3 mf mz mh ml gl gm gh lw1 lw2 lw3 vh vg v1 v2 v4 v7 v8 gi sv l_b pl pf gb mm' cm np ns sa pp ss iv' Rth Rge Rgf Rgr Rgk Rgq Rgw RgR RgS Rgo Rgz Rsh Rca Rnv) iv) d1 d2 d3 d4 d5 q_o l_o o_r g_o g_t mm := by
  obtain ⟨G, L, R, hA, hB, hD⟩ := h
  unfold w334_wp mpl_wp
  exact ⟨hB.2.2.2.2.2.2.1.symm, z_ask0 hA hB hD (z_r0 iv)⟩
theorem z_why (h : z_I k kc ks d1 d2 d3 d4 d5 lm l_y gy l_o o_r g_o g_t l1 l2 l3 mf mz mh ml gl gm gh lw1 lw2 lw3 vh vg v1 v2 v4 v7 v8 gi sv l_b pl pf gb mm cm np ns sa pp ss iv Rth Rge Rgf Rgr Rgk Rgq Rgw RgR RgS Rgo Rgz Rsh Rca Rnv) : w335_wp lm cm np ns pa sa pp ss (fun r d1' d2' d3' d4' d5' q_o' l_o' o_r' g_o' g_t' mm' => mwh_wp (fun r' iv' => r = r' ∧ z_I (k + 1) kc ks d1' d2' d3' d4' d5' lm l_y gy l_o' o_r' g_o' g_t' l1 l2 l3 mf mz mh ml gl gm gh lw1 lw2 lw3 vh vg v1 v2 v4 v7 v8 gi sv l_b pl pf gb mm' cm np ns sa pp ss iv' Rth Rge Rgf Rgr Rgk Rgq Rgw RgR RgS Rgo Rgz Rsh Rca Rnv) iv) d1 d2 d3 d4 d5 q_o l_o o_r g_o g_t mm := by
  obtain ⟨G, L, R, hA, hB, hD⟩ := h
  unfold w335_wp mwh_wp
  exact ⟨hB.2.2.2.2.2.2.2.symm, z_ask0 hA hB hD (z_r0 iv)⟩
theorem z_printed (h : z_I k kc ks d1 d2 d3 d4 d5 lm l_y gy l_o o_r g_o g_t l1 l2 l3 mf mz mh ml gl gm gh lw1 lw2 lw3 vh vg v1 v2 v4 v7 v8 gi sv l_b pl pf gb mm cm np ns sa pp ss iv Rth Rge Rgf Rgr Rgk Rgq Rgw RgR RgS Rgo Rgz Rsh Rca Rnv) : w336_wp lm l_b cm np ns pa sa pp ss (fun r d1' d2' d3' d4' d5' pl' pf' gb' q_o' l_o' o_r' g_o' g_t' mm' => mpr_wp (fun r' iv' => r = r' ∧ z_I (k + 1) kc ks d1' d2' d3' d4' d5' lm l_y gy l_o' o_r' g_o' g_t' l1 l2 l3 mf mz mh ml gl gm gh lw1 lw2 lw3 vh vg v1 v2 v4 v7 v8 gi sv l_b pl' pf' gb' mm' cm np ns sa pp ss iv' Rth Rge Rgf Rgr Rgk Rgq Rgw RgR RgS Rgo Rgz Rsh Rca Rnv) iv) d1 d2 d3 d4 d5 pl pf gb q_o l_o o_r g_o g_t mm := by
  obtain ⟨G, L, R, hA, hB, hD⟩ := h
  unfold w336_wp mpr_wp
  exact ⟨hA.2.1.2.2.2.1.trans hB.2.2.2.1.2.1.symm, z_ask0 hA hB hD (z_r0 iv)⟩
theorem z_out (h : z_I k kc ks d1 d2 d3 d4 d5 lm l_y gy l_o o_r g_o g_t l1 l2 l3 mf mz mh ml gl gm gh lw1 lw2 lw3 vh vg v1 v2 v4 v7 v8 gi sv l_b pl pf gb mm cm np ns sa pp ss iv Rth Rge Rgf Rgr Rgk Rgq Rgw RgR RgS Rgo Rgz Rsh Rca Rnv) : w337_wp lm l_b cm np ns pa sa pp ss (fun r d1' d2' d3' d4' d5' pl' pf' gb' q_o' l_o' o_r' g_o' g_t' mm' => mou_wp (fun r' iv' Rsh' => r = r' ∧ z_I (k + 1) kc ks d1' d2' d3' d4' d5' lm l_y gy l_o' o_r' g_o' g_t' l1 l2 l3 mf mz mh ml gl gm gh lw1 lw2 lw3 vh vg v1 v2 v4 v7 v8 gi sv l_b pl' pf' gb' mm' cm np ns sa pp ss iv' Rth Rge Rgf Rgr Rgk Rgq Rgw RgR RgS Rgo Rgz Rsh' Rca Rnv) m iv Rsh) m d1 d2 d3 d4 d5 pl pf gb q_o l_o o_r g_o g_t mm := by
  obtain ⟨G, L, R, hA, hB, hD⟩ := h
  exact c_out hA.2.1 (r_out hB.2.2.2.1 ⟨rfl, z_ask0 hA hB hD (z_r0 iv)⟩)
theorem z_elements (h : z_I k kc ks d1 d2 d3 d4 d5 lm l_y gy l_o o_r g_o g_t l1 l2 l3 mf mz mh ml gl gm gh lw1 lw2 lw3 vh vg v1 v2 v4 v7 v8 gi sv l_b pl pf gb mm cm np ns sa pp ss iv Rth Rge Rgf Rgr Rgk Rgq Rgw RgR RgS Rgo Rgz Rsh Rca Rnv) : w338_wp lm cm np ns pa sa pp ss (fun r d1' d2' d3' d4' d5' q_o' l_o' o_r' g_o' g_t' mm' => w119_wp (fun r' iv' Rth' Rge' => r = r' ∧ z_I (k + 1) kc ks d1' d2' d3' d4' d5' lm l_y gy l_o' o_r' g_o' g_t' l1 l2 l3 mf mz mh ml gl gm gh lw1 lw2 lw3 vh vg v1 v2 v4 v7 v8 gi sv l_b pl pf gb mm' cm np ns sa pp ss iv' Rth' Rge' Rgf Rgr Rgk Rgq Rgw RgR RgS Rgo Rgz Rsh Rca Rnv) m iv Rth Rge) m d1 d2 d3 d4 d5 q_o l_o o_r g_o g_t mm := by
  obtain ⟨G, L, R, hA, hB, hD⟩ := h
  exact c_qN hA.1 (r_qN hB.2.2.1 fun iv' hI => ⟨rfl, z_ask0 hA hB hD hI⟩)
theorem z_field (h : z_I k kc ks d1 d2 d3 d4 d5 lm l_y gy l_o o_r g_o g_t l1 l2 l3 mf mz mh ml gl gm gh lw1 lw2 lw3 vh vg v1 v2 v4 v7 v8 gi sv l_b pl pf gb mm cm np ns sa pp ss iv Rth Rge Rgf Rgr Rgk Rgq Rgw RgR RgS Rgo Rgz Rsh Rca Rnv) : w339_wp lm cm np ns pa sa pp ss (fun r d1' d2' d3' d4' d5' q_o' l_o' o_r' g_o' g_t' mm' => w120_wp (fun r' iv' Rth' Rgf' => r = r' ∧ z_I (k + 1) kc ks d1' d2' d3' d4' d5' lm l_y gy l_o' o_r' g_o' g_t' l1 l2 l3 mf mz mh ml gl gm gh lw1 lw2 lw3 vh vg v1 v2 v4 v7 v8 gi sv l_b pl pf gb mm' cm np ns sa pp ss iv' Rth' Rge Rgf' Rgr Rgk Rgq Rgw RgR RgS Rgo Rgz Rsh Rca Rnv) m iv Rth Rgf) m d1 d2 d3 d4 d5 q_o l_o o_r g_o g_t mm := by
  obtain ⟨G, L, R, hA, hB, hD⟩ := h
  exact c_qF hA.1 (r_qF hB.2.2.1 fun iv' hI => ⟨rfl, z_ask0 hA hB hD hI⟩)
theorem z_weight (h : z_I k kc ks d1 d2 d3 d4 d5 lm l_y gy l_o o_r g_o g_t l1 l2 l3 mf mz mh ml gl gm gh lw1 lw2 lw3 vh vg v1 v2 v4 v7 v8 gi sv l_b pl pf gb mm cm np ns sa pp ss iv Rth Rge Rgf Rgr Rgk Rgq Rgw RgR RgS Rgo Rgz Rsh Rca Rnv) : w345_wp lm cm np ns pa sa pp ss (fun r d1' d2' d3' d4' d5' q_o' l_o' o_r' g_o' g_t' mm' => w125_wp (fun r' iv' Rth' Rge' Rgw' => r = r' ∧ z_I (k + 1) kc ks d1' d2' d3' d4' d5' lm l_y gy l_o' o_r' g_o' g_t' l1 l2 l3 mf mz mh ml gl gm gh lw1 lw2 lw3 vh vg v1 v2 v4 v7 v8 gi sv l_b pl pf gb mm' cm np ns sa pp ss iv' Rth' Rge' Rgf Rgr Rgk Rgq Rgw' RgR RgS Rgo Rgz Rsh Rca Rnv) m s iv Rth Rge Rgw) m s d1 d2 d3 d4 d5 q_o l_o o_r g_o g_t mm := by
  obtain ⟨G, L, R, hA, hB, hD⟩ := h
  exact c_qW hA.1 (r_qW hB.2.2.1 fun iv' hI => ⟨rfl, z_ask0 hA hB hD hI⟩)
theorem z_sign (h : z_I k kc ks d1 d2 d3 d4 d5 lm l_y gy l_o o_r g_o g_t l1 l2 l3 mf mz mh ml gl gm gh lw1 lw2 lw3 vh vg v1 v2 v4 v7 v8 gi sv l_b pl pf gb mm cm np ns sa pp ss iv Rth Rge Rgf Rgr Rgk Rgq Rgw RgR RgS Rgo Rgz Rsh Rca Rnv) : w349_wp lm cm np ns pa sa pp ss (fun r d1' d2' d3' d4' d5' q_o' l_o' o_r' g_o' g_t' mm' => w129_wp (fun r' iv' Rth' Rge' Rgf' Rgr' RgS' Rgz' => r = r' ∧ z_I (k + 1) kc ks d1' d2' d3' d4' d5' lm l_y gy l_o' o_r' g_o' g_t' l1 l2 l3 mf mz mh ml gl gm gh lw1 lw2 lw3 vh vg v1 v2 v4 v7 v8 gi sv l_b pl pf gb mm' cm np ns sa pp ss iv' Rth' Rge' Rgf' Rgr' Rgk Rgq Rgw RgR RgS' Rgo Rgz' Rsh Rca Rnv) m s iv Rth Rge Rgf Rgr RgS Rgz) m s d1 d2 d3 d4 d5 q_o l_o o_r g_o g_t mm := by
  obtain ⟨G, L, R, hA, hB, hD⟩ := h
  exact c_qS hA.1 (r_qS hB.1 hB.2.2.1 fun iv' hI => ⟨rfl, z_ask0 hA hB hD hI⟩)
end ZF
/-! both sides: asks that may cost room -/
section ZG
variable {d1 d2 d3 d4 : Int32} {d5 : Option Nat} {lm : Nat → Option Nat} {l_y : Nat} {gy : Nat → Int32} {l_o : Nat} {o_r : Int32} {g_o g_t : Nat → Int32} {l1 l2 l3 : Nat} {mf mz mh : Int32} {ml : Option Nat} {gl gm gh : Nat → Int64} {lw1 lw2 lw3 : Nat} {vh vg : Option Nat} {v1 v2 v4 v7 v8 : Int32} {gi : Nat → Int32} {sv : Nat} {l_b : Nat} {pl pf : Int32} {gb : Nat → Int32} {mm : Nat → px_MR} {cm np ns : Nat} {sa : Nat → Nat} {pp : Nat → px_PR} {ss : Nat → px_SR} {iv Rth Rge Rgf Rgr Rgk Rgq Rgw RgR RgS Rgo Rgz Rsh Rca : Nat → Int32} {Rnv : Nat → px_NV} {q_o : Nat} {pa : Nat → Nat} {k kc ks : Nat} {m s m2 : Int32} {G : x_GS}
theorem z_ltf {A : x_LR} (hA : c_IV G lm d5 cm mm np ns pp ss sa o_r g_o g_t mf mz mh ml gl gm gh vh vg v1 v2 v4 v7 v8 gi) (e : x_lt G.1 m = some A) : ∃ f, f < 26 ∧ m.toNatClampNeg = f ∧ G.1 f = some A ∧ x_gh A.1 A.2.1 A.2.2.1 A.2.2.2.1 := by
  rcases c_IVo (x := m) hA with ⟨_, q⟩ | ⟨f, a, A', h1, h2, h3, h4, h5, h6, h7, h8, h9, h10, h11, h12, h13, h14, h15, _⟩
  · rw [e] at q; cases q
  · rw [e] at h6; cases h6
    exact ⟨f, h1, by rw [h2, nI_clamp (by omega)], h4, h15⟩
/-- one row changes, by what was asked -/
theorem z_row {A : x_LR} {r : Nat → Nat} {c e : Nat} (hA : c_IV G lm d5 cm mm np ns pp ss sa o_r g_o g_t mf mz mh ml gl gm gh vh vg v1 v2 v4 v7 v8 gi) (h : x_HG G) (el : x_lt G.1 m = some A) (hr : A.2.1 ≤ 12 → x_rkA A.2.1 (G.2.1 m.toNatClampNeg) → x_rkA A.2.1 r ∧ e + 2 * x_W7 (G.2.1 m.toNatClampNeg) ≤ 2 * x_W7 r ∧ 4 * c + x_W7 (G.2.1 m.toNatClampNeg) ≤ x_W7 r) : x_HG (G.1, va_up G.2.1 m.toNatClampNeg r, G.2.2) ∧ e + 2 * x_Ph G ≤ 2 * x_Ph (G.1, va_up G.2.1 m.toNatClampNeg r, G.2.2) ∧ 4 * c + x_Ph G ≤ x_Ph (G.1, va_up G.2.1 m.toNatClampNeg r, G.2.2) := by
  obtain ⟨f, hf, ef, hl, _⟩ := z_ltf hA el
  rw [ef] at hr ⊢
  obtain ⟨h1, h2⟩ := h.2.1 f A hf hl
  obtain ⟨k1, k2, k3⟩ := hr h1 h2
  exact x_HGu (lt := G.1) (sk := G.2.1) (st := G.2.2.1) (lo := G.2.2.2.1) (lm := G.2.2.2.2.1) (lw := G.2.2.2.2.2.1) (U := G.2.2.2.2.2.2) h hf hl k1 k2 k3
theorem z_rank (hk : k < 512) (h : z_I k kc ks d1 d2 d3 d4 d5 lm l_y gy l_o o_r g_o g_t l1 l2 l3 mf mz mh ml gl gm gh lw1 lw2 lw3 vh vg v1 v2 v4 v7 v8 gi sv l_b pl pf gb mm cm np ns sa pp ss iv Rth Rge Rgf Rgr Rgk Rgq Rgw RgR RgS Rgo Rgz Rsh Rca Rnv) : ∃ mc ms, (kc + mc ≤ 505000 ∧ ks + ms ≤ 5300000) ∧ w340_wp lm cm np ns pa sa pp ss mc ms (fun r d1' d2' d3' d4' d5' q_o' l_o' o_r' g_o' g_t' mm' => w121_wp (fun r' iv' Rth' Rge' RgR' => r = r' ∧ z_I (k + 1) (kc + mc) (ks + ms) d1' d2' d3' d4' d5' lm l_y gy l_o' o_r' g_o' g_t' l1 l2 l3 mf mz mh ml gl gm gh lw1 lw2 lw3 vh vg v1 v2 v4 v7 v8 gi sv l_b pl pf gb mm' cm np ns sa pp ss iv' Rth' Rge' Rgf Rgr Rgk Rgq Rgw RgR' RgS Rgo Rgz Rsh Rca Rnv) m s iv Rth Rge RgR) m s d1 d2 d3 d4 d5 q_o l_o o_r g_o g_t mm := by
  obtain ⟨G, L, R, hA, hB, hD⟩ := h
  obtain ⟨a1, a2, a3, a4, a5, a6, a7, a8, a9, a10, a11, ⟨w1, w2, w3⟩, a13⟩ := id hA
  subst w1; subst w2; subst w3; subst a10
  by_cases q : ∃ A S, x_lt G.1 m = some A ∧ x_hs A.2.1 s = some S
  · obtain ⟨A, S, q1, q2⟩ := q
    obtain ⟨j1, j2, j3⟩ := z_row (e := if G.2.1 m.toNatClampNeg 7 < 2 ^ A.2.1 then 2 ^ A.2.1 else 0) (c := if G.2.1 m.toNatClampNeg 7 < 2 ^ A.2.1 then 1 else 0) (r := x_g7 A.2.1 (G.2.1 m.toNatClampNeg)) a1 a3 q1 (fun hn hr => ⟨x_rA7 hr hn, (x_rk7 hr.1 hn).2⟩)
    refine ⟨_, _, z_bdD hk hA hD j1 j2 j3, c_qR a1 (fun A' S' e1 e2 => ?_) (fun e => ?_) (fun A' S' mm' e1 e2 hIV => ?_)⟩
    · rw [q1] at e1; cases e1; exact ⟨Nat.le_refl _, Nat.le_refl _⟩
    · exact absurd (e A q1) (by rw [q2]; exact fun z => by cases z)
    · rw [q1] at e1; cases e1
      rw [q2] at e2; cases e2
      refine r_qR hB.2.2.1 (fun e => ?_) (fun A' S' e1 e2 iv' hI => ?_)
      · exact absurd (e A q1) (by rw [q2]; exact fun z => by cases z)
      · rw [q1] at e1; cases e1
        rw [q2] at e2; cases e2
        exact ⟨rfl, z_ask hA hB hD j1 j2 j3 hIV hI⟩
  · refine ⟨0, 0, z_bd0 hk hA hD, c_qR a1 (fun A' S' e1 e2 => absurd ⟨A', S', e1, e2⟩ q) (fun e => ?_) (fun A' S' mm' e1 e2 => absurd ⟨A', S', e1, e2⟩ q)⟩
    exact r_qR hB.2.2.1 (fun _ iv' hI => ⟨rfl, z_ask0 hA hB hD hI⟩) (fun A' S' e1 e2 => absurd ⟨A', S', e1, e2⟩ q)
theorem z_famL {n r : Nat} {b : Nat → Bool} (hn : n ≤ 12) (k : Nat) : (x_fam b n r k).length ≤ 4096 := x_faml hn
theorem z_count (hk : k < 512) (h : z_I k kc ks d1 d2 d3 d4 d5 lm l_y gy l_o o_r g_o g_t l1 l2 l3 mf mz mh ml gl gm gh lw1 lw2 lw3 vh vg v1 v2 v4 v7 v8 gi sv l_b pl pf gb mm cm np ns sa pp ss iv Rth Rge Rgf Rgr Rgk Rgq Rgw RgR RgS Rgo Rgz Rsh Rca Rnv) : ∃ mc ms, (kc + mc ≤ 505000 ∧ ks + ms ≤ 5300000) ∧ w342_wp lm cm np ns pa sa pp ss mc ms (fun r d1' d2' d3' d4' d5' q_o' l_o' o_r' g_o' g_t' mm' => w122_wp (fun r' iv' Rth' Rge' Rgr' RgR' Rgz' => r = r' ∧ z_I (k + 1) (kc + mc) (ks + ms) d1' d2' d3' d4' d5' lm l_y gy l_o' o_r' g_o' g_t' l1 l2 l3 mf mz mh ml gl gm gh lw1 lw2 lw3 vh vg v1 v2 v4 v7 v8 gi sv l_b pl pf gb mm' cm np ns sa pp ss iv' Rth' Rge' Rgf Rgr' Rgk Rgq Rgw RgR' RgS Rgo Rgz' Rsh Rca Rnv) m s iv Rth Rge Rgr RgR Rgz) m s d1 d2 d3 d4 d5 q_o l_o o_r g_o g_t mm := by
  obtain ⟨G, L, R, hA, hB, hD⟩ := h
  obtain ⟨a1, a2, a3, a4, a5, a6, a7, a8, a9, a10, a11, ⟨w1, w2, w3⟩, a13⟩ := id hA
  subst w1; subst w2; subst w3; subst a10
  by_cases q : ∃ A j, x_lt G.1 m = some A ∧ x_kd s = some j
  · obtain ⟨A, j, q1, q2⟩ := q
    have hj4 : j < 4 := by
      rcases x_kdS (k := s) with ⟨z, _⟩ | ⟨i, h1, _, h3⟩
      · rw [q2] at z; cases z
      · rw [q2] at h3; cases h3; exact h1
    obtain ⟨j1, j2, j3⟩ := z_row (e := x_lcs A.2.1 (x_fam (x_bg A.1 A.2.2.2.1) A.2.1 A.2.2.1 j).length j (G.2.1 m.toNatClampNeg)) (c := x_lcc A.2.1 (x_fam (x_bg A.1 A.2.2.2.1) A.2.1 A.2.2.1 j).length j (G.2.1 m.toNatClampNeg)) (r := x_gL A.2.1 (x_fam (x_bg A.1 A.2.2.2.1) A.2.1 A.2.2.1 j).length j (G.2.1 m.toNatClampNeg)) a1 a3 q1 (fun hn hr => ⟨(x_rAL hr hn (z_famL hn j) hj4).1, (x_rkL hr.1 hn (z_famL hn j) hj4).2⟩)
    refine ⟨_, _, z_bdD hk hA hD j1 j2 j3, c_qC a1 (fun A' S' e1 e2 => ?_) (fun e => ?_) (fun A' S' mm' e1 e2 hIV => ?_)⟩
    · rw [q1] at e1; cases e1; rw [q2] at e2; cases e2; exact ⟨Nat.le_refl _, Nat.le_refl _⟩
    · rcases e with e | e
      · rw [q1] at e; cases e
      · rw [q2] at e; cases e
    · rw [q1] at e1; cases e1
      rw [q2] at e2; cases e2
      refine r_qC hB.1 hB.2.2.1 (fun e => ?_) (fun A' S' e1 e2 iv' hI => ?_)
      · rcases e with e | e
        · rw [q1] at e; cases e
        · rw [q2] at e; cases e
      · rw [q1] at e1; cases e1
        rw [q2] at e2; cases e2
        exact ⟨rfl, z_ask hA hB hD j1 j2 j3 hIV hI⟩
  · refine ⟨0, 0, z_bd0 hk hA hD, c_qC a1 (fun A' S' e1 e2 => absurd ⟨A', S', e1, e2⟩ q) (fun e => ?_) (fun A' S' mm' e1 e2 => absurd ⟨A', S', e1, e2⟩ q)⟩
    exact r_qC hB.1 hB.2.2.1 (fun _ iv' hI => ⟨rfl, z_ask0 hA hB hD hI⟩) (fun A' S' e1 e2 => absurd ⟨A', S', e1, e2⟩ q)
theorem z_member {i : Int32} (hk : k < 512) (h : z_I k kc ks d1 d2 d3 d4 d5 lm l_y gy l_o o_r g_o g_t l1 l2 l3 mf mz mh ml gl gm gh lw1 lw2 lw3 vh vg v1 v2 v4 v7 v8 gi sv l_b pl pf gb mm cm np ns sa pp ss iv Rth Rge Rgf Rgr Rgk Rgq Rgw RgR RgS Rgo Rgz Rsh Rca Rnv) : ∃ mc ms, (kc + mc ≤ 505000 ∧ ks + ms ≤ 5300000) ∧ w343_wp lm cm np ns pa sa pp ss mc ms (fun r d1' d2' d3' d4' d5' q_o' l_o' o_r' g_o' g_t' mm' => w123_wp (fun r' iv' Rth' Rge' Rgr' RgR' Rgo' Rgz' => r = r' ∧ z_I (k + 1) (kc + mc) (ks + ms) d1' d2' d3' d4' d5' lm l_y gy l_o' o_r' g_o' g_t' l1 l2 l3 mf mz mh ml gl gm gh lw1 lw2 lw3 vh vg v1 v2 v4 v7 v8 gi sv l_b pl pf gb mm' cm np ns sa pp ss iv' Rth' Rge' Rgf Rgr' Rgk Rgq Rgw RgR' RgS Rgo' Rgz' Rsh Rca Rnv) m s i iv Rth Rge Rgr RgR Rgo Rgz) m s i d1 d2 d3 d4 d5 q_o l_o o_r g_o g_t mm := by
  obtain ⟨G, L, R, hA, hB, hD⟩ := h
  obtain ⟨a1, a2, a3, a4, a5, a6, a7, a8, a9, a10, a11, ⟨w1, w2, w3⟩, a13⟩ := id hA
  subst w1; subst w2; subst w3; subst a10
  by_cases q : ∃ A j, x_lt G.1 m = some A ∧ x_kd s = some j ∧ ¬ i < 0
  · obtain ⟨A, j, q1, q2, q3⟩ := q
    have hj4 : j < 4 := by
      rcases x_kdS (k := s) with ⟨z, _⟩ | ⟨i, h1, _, h3⟩
      · rw [q2] at z; cases z
      · rw [q2] at h3; cases h3; exact h1
    obtain ⟨j1, j2, j3⟩ := z_row (e := x_lcs A.2.1 (x_fam (x_bg A.1 A.2.2.2.1) A.2.1 A.2.2.1 j).length j (G.2.1 m.toNatClampNeg)) (c := x_lcc A.2.1 (x_fam (x_bg A.1 A.2.2.2.1) A.2.1 A.2.2.1 j).length j (G.2.1 m.toNatClampNeg)) (r := x_gL A.2.1 (x_fam (x_bg A.1 A.2.2.2.1) A.2.1 A.2.2.1 j).length j (G.2.1 m.toNatClampNeg)) a1 a3 q1 (fun hn hr => ⟨(x_rAL hr hn (z_famL hn j) hj4).1, (x_rkL hr.1 hn (z_famL hn j) hj4).2⟩)
    refine ⟨_, _, z_bdD hk hA hD j1 j2 j3, c_qM a1 (fun A' S' e1 e2 _ => ?_) (fun e => ?_) (fun A' S' mm' e1 e2 _ hIV => ?_)⟩
    · rw [q1] at e1; cases e1; rw [q2] at e2; cases e2; exact ⟨Nat.le_refl _, Nat.le_refl _⟩
    · rcases e with e | e | e
      · rw [q1] at e; cases e
      · rw [q2] at e; cases e
      · exact absurd e q3
    · rw [q1] at e1; cases e1
      rw [q2] at e2; cases e2
      refine r_qM hB.1 hB.2.2.1 (fun e => ?_) (fun A' S' e1 e2 _ iv' hI => ?_)
      · rcases e with e | e | e
        · rw [q1] at e; cases e
        · rw [q2] at e; cases e
        · exact absurd e q3
      · rw [q1] at e1; cases e1
        rw [q2] at e2; cases e2
        exact ⟨rfl, z_ask hA hB hD j1 j2 j3 hIV hI⟩
  · refine ⟨0, 0, z_bd0 hk hA hD, c_qM a1 (fun A' S' e1 e2 e3 => absurd ⟨A', S', e1, e2, e3⟩ q) (fun e => ?_) (fun A' S' mm' e1 e2 e3 => absurd ⟨A', S', e1, e2, e3⟩ q)⟩
    exact r_qM hB.1 hB.2.2.1 (fun _ iv' hI => ⟨rfl, z_ask0 hA hB hD hI⟩) (fun A' S' e1 e2 e3 => absurd ⟨A', S', e1, e2, e3⟩ q)
theorem z_tutte {i j : Int32} (hk : k < 512) (h : z_I k kc ks d1 d2 d3 d4 d5 lm l_y gy l_o o_r g_o g_t l1 l2 l3 mf mz mh ml gl gm gh lw1 lw2 lw3 vh vg v1 v2 v4 v7 v8 gi sv l_b pl pf gb mm cm np ns sa pp ss iv Rth Rge Rgf Rgr Rgk Rgq Rgw RgR RgS Rgo Rgz Rsh Rca Rnv) {Rgc Rgh : Nat → Int64} : ∃ mc ms, (kc + mc ≤ 505000 ∧ ks + ms ≤ 5300000) ∧ w344_wp lm cm np ns pa sa pp ss mc ms (fun r d1' d2' d3' d4' d5' q_o' l_o' o_r' g_o' g_t' mm' => w124_wp (fun r' iv' Rth' Rge' Rgr' RgR' Rgz' Rgc' Rgh' => r = r' ∧ z_I (k + 1) (kc + mc) (ks + ms) d1' d2' d3' d4' d5' lm l_y gy l_o' o_r' g_o' g_t' l1 l2 l3 mf mz mh ml gl gm gh lw1 lw2 lw3 vh vg v1 v2 v4 v7 v8 gi sv l_b pl pf gb mm' cm np ns sa pp ss iv' Rth' Rge' Rgf Rgr' Rgk Rgq Rgw RgR' RgS Rgo Rgz' Rsh Rca Rnv) m i j iv Rth Rge Rgr RgR Rgz Rgc Rgh) m i j d1 d2 d3 d4 d5 q_o l_o o_r g_o g_t mm := by
  obtain ⟨G, L, R, hA, hB, hD⟩ := h
  obtain ⟨a1, a2, a3, a4, a5, a6, a7, a8, a9, a10, a11, ⟨w1, w2, w3⟩, a13⟩ := id hA
  subst w1; subst w2; subst w3; subst a10
  by_cases q : ∃ A S, x_lt G.1 m = some A ∧ x_ij A.2.1 A.2.2.1 i j = some S
  · obtain ⟨A, S, q1, q2⟩ := q
    obtain ⟨j1, j2, j3⟩ := z_row (e := x_tcs A.2.1 (G.2.1 m.toNatClampNeg)) (c := x_tcc A.2.1 (G.2.1 m.toNatClampNeg)) (r := x_gT A.2.1 (G.2.1 m.toNatClampNeg)) a1 a3 q1 (fun hn hr => ⟨x_rAT hr hn, (x_rkT hr.1 hn).2⟩)
    refine ⟨_, _, z_bdD hk hA hD j1 j2 j3, c_qT a1 (fun A' S' e1 e2 => ?_) (fun e => ?_) (fun A' S' mm' e1 e2 hIV => ?_)⟩
    · rw [q1] at e1; cases e1; exact ⟨Nat.le_refl _, Nat.le_refl _⟩
    · exact absurd (e A q1) (by rw [q2]; exact fun z => by cases z)
    · rw [q1] at e1; cases e1
      rw [q2] at e2; cases e2
      refine r_qT hB.1 hB.2.2.1 (fun e => ?_) (fun A' S' e1 e2 iv' gc' gh' hI => ?_)
      · exact absurd (e A q1) (by rw [q2]; exact fun z => by cases z)
      · rw [q1] at e1; cases e1
        rw [q2] at e2; cases e2
        exact ⟨rfl, z_ask hA hB hD j1 j2 j3 hIV hI⟩
  · refine ⟨0, 0, z_bd0 hk hA hD, c_qT a1 (fun A' S' e1 e2 => absurd ⟨A', S', e1, e2⟩ q) (fun e => ?_) (fun A' S' mm' e1 e2 => absurd ⟨A', S', e1, e2⟩ q)⟩
    exact r_qT hB.1 hB.2.2.1 (fun _ iv' gc' gh' hI => ⟨rfl, z_ask0 hA hB hD hI⟩) (fun A' S' e1 e2 => absurd ⟨A', S', e1, e2⟩ q)
theorem z_best (hk : k < 512) (h : z_I k kc ks d1 d2 d3 d4 d5 lm l_y gy l_o o_r g_o g_t l1 l2 l3 mf mz mh ml gl gm gh lw1 lw2 lw3 vh vg v1 v2 v4 v7 v8 gi sv l_b pl pf gb mm cm np ns sa pp ss iv Rth Rge Rgf Rgr Rgk Rgq Rgw RgR RgS Rgo Rgz Rsh Rca Rnv) : ∃ mc ms, (kc + mc ≤ 505000 ∧ ks + ms ≤ 5300000) ∧ w346_wp lm cm np ns pa sa pp ss mc ms (fun r d1' d2' d3' d4' d5' q_o' l_o' o_r' g_o' g_t' mm' => w126_wp (fun r' iv' Rth' Rge' Rgr' Rgw' RgR' Rgo' Rgz' => r = r' ∧ z_I (k + 1) (kc + mc) (ks + ms) d1' d2' d3' d4' d5' lm l_y gy l_o' o_r' g_o' g_t' l1 l2 l3 mf mz mh ml gl gm gh lw1 lw2 lw3 vh vg v1 v2 v4 v7 v8 gi sv l_b pl pf gb mm' cm np ns sa pp ss iv' Rth' Rge' Rgf Rgr' Rgk Rgq Rgw' RgR' RgS Rgo' Rgz' Rsh Rca Rnv) m iv Rth Rge Rgr Rgw RgR Rgo Rgz) m d1 d2 d3 d4 d5 q_o l_o o_r g_o g_t mm := by
  obtain ⟨G, L, R, hA, hB, hD⟩ := h
  obtain ⟨a1, a2, a3, a4, a5, a6, a7, a8, a9, a10, a11, ⟨w1, w2, w3⟩, a13⟩ := id hA
  subst w1; subst w2; subst w3; subst a10
  cases q1 : x_lt G.1 m with
  | some A =>
    obtain ⟨j1, j2, j3⟩ := z_row (e := if G.2.1 m.toNatClampNeg 7 < 2 ^ A.2.1 then 2 ^ A.2.1 else 0) (c := if G.2.1 m.toNatClampNeg 7 < 2 ^ A.2.1 then 1 else 0) (r := x_g7 A.2.1 (G.2.1 m.toNatClampNeg)) a1 a3 q1 (fun hn hr => ⟨x_rA7 hr hn, (x_rk7 hr.1 hn).2⟩)
    refine ⟨_, _, z_bdD hk hA hD j1 j2 j3, c_qB a1 (fun A' e1 => ?_) (fun e => ?_) (fun A' S mm' e1 e2 hIV => ?_)⟩
    · rw [q1] at e1; cases e1; exact ⟨Nat.le_refl _, Nat.le_refl _⟩
    · rw [q1] at e; cases e
    · rw [q1] at e1; cases e1
      refine r_qB hB.1 hB.2.2.1 (fun e => ?_) (fun A' S' e1 e3 iv' hI => ?_)
      · rw [q1] at e; cases e
      · rw [q1] at e1; cases e1
        exact ⟨by rw [x_bestu e2 e3], z_ask hA hB hD j1 j2 j3 hIV hI⟩
  | none =>
    refine ⟨0, 0, z_bd0 hk hA hD, c_qB a1 (fun A' e1 => ?_) (fun e => ?_) (fun A' S' mm' e1 e2 => ?_)⟩
    · rw [q1] at e1; cases e1
    · exact r_qB hB.1 hB.2.2.1 (fun _ iv' hI => ⟨rfl, z_ask0 hA hB hD hI⟩) (fun A' S' e1 => by rw [q1] at e1; cases e1)
    · rw [q1] at e1; cases e1
end ZG
