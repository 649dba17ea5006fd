/-! both sides: what holds between calls -/
/-- the class, by its ghost state G and the bytes L that came -/
def z_A (G : x_GS) (L : Nat) (d1 : Int32) (d4 : Int32) (d5 : Option Nat) (lm : Nat → Option Nat) (l_y : Nat) (gy : Nat → Int32) (l_o : Nat) (o_r : Int32) (g_o : Nat → Int32) (g_t : Nat → Int32) (l1 : Nat) (l2 : Nat) (l3 : Nat) (mf : Int32) (mz : Int32) (mh : Int32) (ml : Option Nat) (gl : Nat → Int64) (gm : Nat → Int64) (gh : Nat → Int64) (lw1 : Nat) (lw2 : Nat) (lw3 : Nat) (vh : Option Nat) (vg : Option Nat) (v1 : Int32) (v2 : Int32) (v4 : Int32) (v7 : Int32) (v8 : Int32) (gi : Nat → Int32) (sv : Nat) (l_b : Nat) (pl : Int32) (pf : Int32) (gb : Nat → Int32) (mm : Nat → px_MR) (cm : Nat) (np : Nat) (ns : Nat) (sa : Nat → Nat) (pp : Nat → px_PR) (ss : Nat → px_SR) : Prop :=
  c_IV G lm d5 cm mm np ns pp ss sa o_r g_o g_t mf mz mh ml gl gm gh vh vg v1 v2 v4 v7 v8 gi ∧ pr_J l_b pl pf gb G.2.2.2.2.2.2 ∧ x_HG G ∧ d1 = nI L ∧ L ≤ l_y ∧ (∃ j, l_y = 512 * 2 ^ j) ∧ l_y ≤ 16384 ∧ (∀ i, i < l_y → ∃ x : Int8, gy i = x.toInt32) ∧ d4 = nI G.2.2.1 ∧ l_o = G.2.2.2.1 ∧ (l1 = G.2.2.2.2.1 ∧ l2 = G.2.2.2.2.1 ∧ l3 = G.2.2.2.2.1) ∧ (lw1 = G.2.2.2.2.2.1 ∧ lw2 = G.2.2.2.2.2.1 ∧ lw3 = G.2.2.2.2.2.1) ∧ sv < 21
/-- the reference -/
def z_B (G : x_GS) (L : Nat) (d2 : Int32) (d3 : Int32) (gy : Nat → Int32) (iv : Nat → Int32) (Rth : Nat → Int32) (Rge : Nat → Int32) (Rgf : Nat → Int32) (Rgr : Nat → Int32) (Rgk : Nat → Int32) (Rgq : Nat → Int32) (Rgw : Nat → Int32) (RgR : Nat → Int32) (RgS : Nat → Int32) (Rgo : Nat → Int32) (Rgz : Nat → Int32) (Rsh : Nat → Int32) (Rca : Nat → Int32) (Rnv : Nat → px_NV) : Prop :=
  r_T Rgo Rgz ∧ r_V Rnv ∧ r_LT G.1 Rth Rge Rgf Rgr Rgk Rgq Rgw RgR RgS ∧ rp_T iv Rsh G.2.2.2.2.2.2 ∧ iv 51 = nI L ∧ (∀ i, i < L → Rca i = gy i) ∧ iv 42 = d2 ∧ iv 52 = d3
/-- the room: k calls, R bytes run -/
def z_D (G : x_GS) (L R k kc ks l_b l_y : Nat) : Prop := R + L ≤ 20 * k ∧ G.2.2.1 ≤ R ∧ ks ≤ 500000 + 2 * (x_Ph G + l_b + l_y) + 306 * R + 6 * k ∧ 4 * kc ≤ 4000 + x_Ph G + l_b + l_y + 120 * R + 4 * k
def z_I (k kc ks : Nat) (d1 d2 d3 d4 : Int32) (d5 : Option Nat) (lm : Nat → Option Nat) (l_y : Nat) (gy : Nat → Int32) (l_o : Nat) (o_r : Int32) (g_o g_t : Nat → Int32) (l1 l2 l3 : Nat) (mf mz mh : Int32) (ml : Option Nat) (gl gm gh : Nat → Int64) (lw1 lw2 lw3 : Nat) (vh vg : Option Nat) (v1 v2 v4 v7 v8 : Int32) (gi : Nat → Int32) (sv : Nat) (l_b : Nat) (pl pf : Int32) (gb : Nat → Int32) (mm : Nat → px_MR) (cm np ns : Nat) (sa : Nat → Nat) (pp : Nat → px_PR) (ss : Nat → px_SR) (iv Rth Rge Rgf Rgr Rgk Rgq Rgw RgR RgS Rgo Rgz Rsh Rca : Nat → Int32) (Rnv : Nat → px_NV) : Prop := ∃ G L R, z_A G L d1 d4 d5 lm l_y gy l_o o_r g_o g_t l1 l2 l3 mf mz mh ml gl gm gh lw1 lw2 lw3 vh vg v1 v2 v4 v7 v8 gi sv l_b pl pf gb mm cm np ns sa pp ss ∧ z_B G L d2 d3 gy iv Rth Rge Rgf Rgr Rgk Rgq Rgw RgR RgS Rgo Rgz Rsh Rca Rnv ∧ z_D G L R k kc ks l_b l_y
theorem z_bd {G : x_GS} {R k kc ks l_b l_y : Nat} (h : x_HG G) (hb : l_b ≤ 65536) (hy : l_y ≤ 16384) (hR : R ≤ 10240) (hk : k ≤ 512) (hs : ks ≤ 500000 + 2 * (x_Ph G + l_b + l_y) + 306 * R + 6 * k) (hc : 4 * kc ≤ 4000 + x_Ph G + l_b + l_y + 120 * R + 4 * k) : kc ≤ 505000 ∧ ks ≤ 5300000 := by
  have := x_PhB h
  omega
theorem z_lb {lb : Nat} {pl pf : Int32} {gb : Nat → Int32} {U : List Nat} (h : pr_J lb pl pf gb U) : lb ≤ 65536 := by
  obtain ⟨⟨j, hj, e⟩, _⟩ := h
  have := Nat.pow_le_pow_right (n := 2) (by decide) hj
  omega
theorem z_r0 (iv : Nat → Int32) : r_I0 iv (va_up iv 49 0) := ⟨va_up_self _ _ _, fun q h _ _ => va_up_ne _ _ h⟩
section ZZ
variable {d1 d2 d3 d4 : Int32} {d5 : Option Nat} {lm : Nat → Option Nat} {l_y : Nat} {gy : Nat → Int32} {l_o : Nat} {o_r : Int32} {g_o g_t : Nat → Int32} {l1 l2 l3 : Nat} {mf mz mh : Int32} {ml : Option Nat} {gl gm gh : Nat → Int64} {lw1 lw2 lw3 : Nat} {vh vg : Option Nat} {v1 v2 v4 v7 v8 : Int32} {gi : Nat → Int32} {sv : Nat} {l_b : Nat} {pl pf : Int32} {gb : Nat → Int32} {mm : Nat → px_MR} {cm np ns : Nat} {sa : Nat → Nat} {pp : Nat → px_PR} {ss : Nat → px_SR} {iv Rth Rge Rgf Rgr Rgk Rgq Rgw RgR RgS Rgo Rgz Rsh Rca : Nat → Int32} {Rnv : Nat → px_NV} {G : x_GS} {L R k kc ks : Nat}
/-- what an ask leaves -/
theorem z_ask {sk' : Nat → Nat → Nat} {lw' c e : Nat} {mm' : Nat → px_MR} {vh' vg' : Option Nat} {v1' v2' v4' v7' v8' : Int32} {gi' iv' : Nat → Int32} (hA : z_A G L d1 d4 d5 lm l_y gy l_o o_r g_o g_t l1 l2 l3 mf mz mh ml gl gm gh lw1 lw2 lw3 vh vg v1 v2 v4 v7 v8 gi sv l_b pl pf gb mm cm np ns sa pp ss) (hB : z_B G L d2 d3 gy iv Rth Rge Rgf Rgr Rgk Rgq Rgw RgR RgS Rgo Rgz Rsh Rca Rnv) (hD : z_D G L R k kc ks l_b l_y) (hHG : x_HG (G.1, sk', G.2.2.1, G.2.2.2.1, G.2.2.2.2.1, lw', G.2.2.2.2.2.2)) (he : e + 2 * x_Ph G ≤ 2 * x_Ph (G.1, sk', G.2.2.1, G.2.2.2.1, G.2.2.2.2.1, lw', G.2.2.2.2.2.2)) (hc : 4 * c + x_Ph G ≤ x_Ph (G.1, sk', G.2.2.1, G.2.2.2.1, G.2.2.2.2.1, lw', G.2.2.2.2.2.2)) (hIV : c_IV (G.1, sk', G.2.2.1, G.2.2.2.1, G.2.2.2.2.1, lw', G.2.2.2.2.2.2) lm d5 cm mm' np ns pp ss sa o_r g_o g_t mf mz mh ml gl gm gh vh' vg' v1' v2' v4' v7' v8' gi') (hI : r_I0 iv iv') : z_I (k + 1) (kc + c) (ks + e) d1 d2 d3 d4 d5 lm l_y gy l_o o_r g_o g_t l1 l2 l3 mf mz mh ml gl gm gh lw' lw' lw' vh' vg' v1' v2' v4' v7' v8' gi' sv l_b pl pf gb mm' cm np ns sa pp ss iv' Rth Rge Rgf Rgr Rgk Rgq Rgw RgR RgS Rgo Rgz Rsh Rca Rnv := by
  obtain ⟨a1, a2, a3, a4, a5, a6, a7, a8, a9, a10, a11, a12, a13⟩ := hA
  obtain ⟨b1, b2, b3, b4, b5, b6, b7, b8⟩ := hB
  obtain ⟨r1, r2, r3, r4⟩ := hD
  refine ⟨(G.1, sk', G.2.2.1, G.2.2.2.1, G.2.2.2.2.1, lw', G.2.2.2.2.2.2), L, R, ⟨hIV, a2, hHG, a4, a5, a6, a7, a8, a9, a10, a11, ⟨rfl, rfl, rfl⟩, a13⟩, ⟨b1, b2, b3, ?_, ?_, b6, ?_, ?_⟩, ⟨by omega, r2, by omega, by omega⟩⟩
  · exact ⟨b4.1, by rw [hI.2 47 (by decide) (by decide) (by decide)]; exact b4.2.1, b4.2.2⟩
  · rw [hI.2 51 (by decide) (by decide) (by decide)]; exact b5
  · rw [hI.2 42 (by decide) (by decide) (by decide)]; exact b7
  · rw [hI.2 52 (by decide) (by decide) (by decide)]; exact b8
/-- an ask that leaves all as it was -/
theorem z_ask0 {iv' : Nat → Int32} (hA : z_A G L d1 d4 d5 lm l_y gy l_o o_r g_o g_t l1 l2 l3 mf mz mh ml gl gm gh lw1 lw2 lw3 vh vg v1 v2 v4 v7 v8 gi sv l_b pl pf gb mm cm np ns sa pp ss) (hB : z_B G L d2 d3 gy iv Rth Rge Rgf Rgr Rgk Rgq Rgw RgR RgS Rgo Rgz Rsh Rca Rnv) (hD : z_D G L R k kc ks l_b l_y) (hI : r_I0 iv iv') : z_I (k + 1) (kc + 0) (ks + 0) d1 d2 d3 d4 d5 lm l_y gy l_o o_r g_o g_t l1 l2 l3 mf mz mh ml gl gm gh lw1 lw2 lw3 vh vg v1 v2 v4 v7 v8 gi sv l_b pl pf gb mm cm np ns sa pp ss iv' Rth Rge Rgf Rgr Rgk Rgq Rgw RgR RgS Rgo Rgz Rsh Rca Rnv := by
  have hA' := hA
  obtain ⟨a1, a2, a3, a4, a5, a6, a7, a8, a9, a10, a11, ⟨w1, w2, w3⟩, a13⟩ := hA'
  subst w1; subst w2; subst w3
  exact z_ask (sk' := G.2.1) (lw' := G.2.2.2.2.2.1) (c := 0) (e := 0) hA hB hD a3 (by show 0 + 2 * x_Ph G ≤ 2 * x_Ph G; omega) (by show 4 * 0 + x_Ph G ≤ x_Ph G; omega) a1 hI
theorem z_bdD {sk' : Nat → Nat → Nat} {lw' c e : Nat} (hk : k < 512) (hA : z_A G L d1 d4 d5 lm l_y gy l_o o_r g_o g_t l1 l2 l3 mf mz mh ml gl gm gh lw1 lw2 lw3 vh vg v1 v2 v4 v7 v8 gi sv l_b pl pf gb mm cm np ns sa pp ss) (hD : z_D G L R k kc ks l_b l_y) (hHG : x_HG (G.1, sk', G.2.2.1, G.2.2.2.1, G.2.2.2.2.1, lw', G.2.2.2.2.2.2)) (he : e + 2 * x_Ph G ≤ 2 * x_Ph (G.1, sk', G.2.2.1, G.2.2.2.1, G.2.2.2.2.1, lw', G.2.2.2.2.2.2)) (hc : 4 * c + x_Ph G ≤ x_Ph (G.1, sk', G.2.2.1, G.2.2.2.1, G.2.2.2.2.1, lw', G.2.2.2.2.2.2)) : kc + c ≤ 505000 ∧ ks + e ≤ 5300000 := by
  obtain ⟨r1, r2, r3, r4⟩ := hD
  exact z_bd (R := R) (k := k) hHG (z_lb hA.2.1) hA.2.2.2.2.2.2.1 (by omega) (by omega) (by omega) (by omega)
theorem z_bd0 (hk : k < 512) (hA : z_A G L d1 d4 d5 lm l_y gy l_o o_r g_o g_t l1 l2 l3 mf mz mh ml gl gm gh lw1 lw2 lw3 vh vg v1 v2 v4 v7 v8 gi sv l_b pl pf gb mm cm np ns sa pp ss) (hD : z_D G L R k kc ks l_b l_y) : kc + 0 ≤ 505000 ∧ ks + 0 ≤ 5300000 := by
  obtain ⟨r1, r2, r3, r4⟩ := hD
  exact z_bd (R := R) (k := k) hA.2.2.1 (z_lb hA.2.1) hA.2.2.2.2.2.2.1 (by omega) (by omega) (by omega) (by omega)
end ZZ
