/-! both sides: the room that is used -/
section ZN
variable {d1 d2 d3 d4 : Int32} {d5 : Option Nat} {lm : Nat → Option Nat} {l_y : Nat} {gy : Nat → Int32} {l_o : Nat} {o_r : Int32} {g_o g_t : Nat → Int32} {l1 l2 l3 : Nat} {mf mz mh : Int32} {ml : Option Nat} {gl gm gh : Nat → Int64} {lw1 lw2 lw3 : Nat} {vh vg : Option Nat} {v1 v2 v4 v7 v8 : Int32} {gi : Nat → Int32} {sv : Nat} {l_b : Nat} {pl pf : Int32} {gb : Nat → Int32} {mm : Nat → px_MR} {cm np ns : Nat} {sa : Nat → Nat} {pp : Nat → px_PR} {ss : Nat → px_SR} {iv Rth Rge Rgf Rgr Rgk Rgq Rgw RgR RgS Rgo Rgz Rsh Rca : Nat → Int32} {Rnv : Nat → px_NV} {k kc ks : Nat}
theorem z_bnd (hk : k ≤ 512) (h : z_I k kc ks d1 d2 d3 d4 d5 lm l_y gy l_o o_r g_o g_t l1 l2 l3 mf mz mh ml gl gm gh lw1 lw2 lw3 vh vg v1 v2 v4 v7 v8 gi sv l_b pl pf gb mm cm np ns sa pp ss iv Rth Rge Rgf Rgr Rgk Rgq Rgw RgR RgS Rgo Rgz Rsh Rca Rnv) : kc ≤ 505000 ∧ ks ≤ 5300000 := by
  obtain ⟨G, L, R, hA, hB, hD⟩ := h
  obtain ⟨r1, r2, r3, r4⟩ := hD
  exact z_bd (R := R) (k := k) hA.2.2.1 (z_lb hA.2.1) hA.2.2.2.2.2.2.1 (by omega) hk r3 r4
end ZN
theorem px_lcmp0 (x : Int64) : lg_cmp x x = 0 := by
  unfold lg_cmp
  simp
section ZN2
variable {d1 d2 d3 d4 : Int32} {d5 : Option Nat} {lm : Nat → Option Nat} {l_y : Nat} {gy : Nat → Int32} {l_o : Nat} {o_r : Int32} {g_o g_t : Nat → Int32} {l1 l2 l3 : Nat} {mf mz mh : Int32} {ml : Option Nat} {gl gm gh : Nat → Int64} {lw1 lw2 lw3 : Nat} {vh vg : Option Nat} {v1 v2 v4 v7 v8 : Int32} {gi : Nat → Int32} {sv : Nat} {l_b : Nat} {pl pf : Int32} {gb : Nat → Int32} {mm : Nat → px_MR} {cm np ns : Nat} {sa : Nat → Nat} {pp : Nat → px_PR} {ss : Nat → px_SR} {iv Rth Rge Rgf Rgr Rgk Rgq Rgw RgR RgS Rgo Rgz Rsh Rca : Nat → Int32} {Rnv : Nat → px_NV} {k kc ks : Nat}
theorem z_next (h : z_I k kc ks d1 d2 d3 d4 d5 lm l_y gy l_o o_r g_o g_t l1 l2 l3 mf mz mh ml gl gm gh lw1 lw2 lw3 vh vg v1 v2 v4 v7 v8 gi sv l_b pl pf gb mm cm np ns sa pp ss iv Rth Rge Rgf Rgr Rgk Rgq Rgw RgR RgS Rgo Rgz Rsh Rca Rnv) : z_I (k + 1) kc ks d1 d2 d3 d4 d5 lm l_y gy l_o o_r g_o g_t l1 l2 l3 mf mz mh ml gl gm gh lw1 lw2 lw3 vh vg v1 v2 v4 v7 v8 gi sv l_b pl pf gb mm cm np ns sa pp ss iv Rth Rge Rgf Rgr Rgk Rgq Rgw RgR RgS Rgo Rgz Rsh Rca Rnv := by
  obtain ⟨G, L, R, hA, hB, r1, r2, r3, r4⟩ := h
  exact ⟨G, L, R, hA, hB, by omega, r2, by omega, by omega⟩
end ZN2
