/-! both sides: feed, end, run -/
theorem x_g2d : ∀ (t l m : Nat), x_g2 t l m = l ∨ 2 * l ≤ x_g2 t l m
  | 0, l, m => Or.inl rfl
  | t + 1, l, m => by
    show (if m ≤ l then l else x_g2 t (2 * l) m) = l ∨ 2 * l ≤ (if m ≤ l then l else x_g2 t (2 * l) m)
    split
    · exact Or.inl rfl
    · exact Or.inr (x_g2le t (2 * l) m)
theorem x_g2ub : ∀ (t l m : Nat), x_g2 t l m ≤ l * 2 ^ t
  | 0, l, m => by rw [Nat.pow_zero, Nat.mul_one]; exact Nat.le_refl _
  | t + 1, l, m => by
    show (if m ≤ l then l else x_g2 t (2 * l) m) ≤ l * 2 ^ (t + 1)
    have h2 : 2 * l * 2 ^ t = l * 2 ^ (t + 1) := by rw [Nat.pow_succ, Nat.mul_comm 2 l, Nat.mul_assoc, Nat.mul_comm 2]
    split
    · exact Nat.le_mul_of_pos_right _ (Nat.pow_pos (by decide))
    · rw [← h2]; exact x_g2ub t (2 * l) m
theorem z_g2 {lb M : Nat} {pl pf : Int32} {gb : Nat → Int32} {U : List Nat} (h : pr_J lb pl pf gb U) (hM : M ≤ 65536) : x_g2 8 lb M ≤ 65536 ∧ lb ≤ x_g2 8 lb M ∧ 4 * ((x_g2 8 lb M - lb + 15) / 16) ≤ x_g2 8 lb M - lb := by
  obtain ⟨⟨j, hj, e⟩, _⟩ := h
  have e8 : lb * 2 ^ (8 - j) = 65536 := by rw [e, Nat.mul_assoc, ← Nat.pow_add, show j + (8 - j) = 8 by omega]
  have eg : x_g2 8 lb M = x_g2 (8 - j) lb M := by
    have := x_g2f (8 - j) j lb M (by rw [e8]; exact hM)
    rw [show 8 - j + j = 8 by omega] at this
    exact this
  have h1 := x_g2ub (8 - j) lb M
  have h2 := x_g2le 8 lb M
  have h3 := x_g2d 8 lb M
  have h4 : 256 ≤ lb := by
    rw [e]; exact Nat.le_mul_of_pos_right _ (Nat.pow_pos (by decide))
  rw [e8, ← eg] at h1
  refine ⟨h1, h2, ?_⟩
  clear eg e8 e
  omega
theorem x_runS {b : Nat → Int32} {L : Nat} : ∀ (u n i : Nat) (G : x_GS), i ≤ L → (t_scr b L u n i).1 = true → G.2.2.2.2.2.2.length ≤ 65536 → (x_run b L u n i G).1.2.2.1 ≤ G.2.2.1 + (L - i)
  | 0, n, i, G, hi, h3, hU => Nat.le_add_right _ _
  | u + 1, n, i, G, hi, h3, hU => by
    unfold x_run
    by_cases q : n = 400 ∨ t_k b L i = 0
    · rw [if_pos q]; exact Nat.le_add_right _ _
    · rw [if_neg q]
      have hs : (t_st b L i).1 = true ∧ (t_scr b L u (n + 1) (t_st b L i).2).1 = true := by
        unfold t_scr at h3
        rw [if_neg (fun z => q (Or.inr z)), if_neg (fun z => q (Or.inl z))] at h3
        by_cases q2 : (t_st b L i).1 = true
        · rw [if_pos q2] at h3; exact ⟨q2, h3⟩
        · rw [if_neg q2] at h3; exact absurd h3 q2
      have hadv := t_stadv hi hs.1
      have hle := t_stl (b := b) hi
      obtain ⟨s1, s2⟩ := x_stpU (b := b) (L := L) (i := i) hU
      by_cases q2 : ¬ (x_stp b L i G).2 = 0
      · rw [if_pos q2]
        show (x_stp b L i G).1.2.2.1 ≤ _
        omega
      · rw [if_neg q2]
        have ih := x_runS u (n + 1) (t_st b L i).2 (x_stp b L i G).1 hle hs.2 s1
        show (x_run b L u (n + 1) (t_st b L i).2 (x_stp b L i G).1).1.2.2.1 ≤ _
        omega
theorem z_by2 {l L : Nat} (h1 : ∃ j, l = 512 * 2 ^ j) (h2 : L + 20 ≤ 16384) (hl : l ≤ 16384) (hL : L ≤ l) : (∃ j, x_by2 l L = 512 * 2 ^ j) ∧ x_by2 l L ≤ 16384 ∧ L + 20 ≤ x_by2 l L ∧ 512 ≤ l ∧ l ≤ x_by2 l L := by
  obtain ⟨j, e⟩ := h1
  have h5 : 512 ≤ l := by rw [e]; exact Nat.le_mul_of_pos_right _ (Nat.pow_pos (by decide))
  unfold x_by2
  by_cases q : L + 20 ≤ l
  · rw [if_pos q]; exact ⟨⟨j, e⟩, hl, q, h5, Nat.le_refl _⟩
  · rw [if_neg q]
    refine ⟨⟨j + 1, by rw [e, Nat.pow_succ, Nat.mul_comm (2 ^ j) 2, ← Nat.mul_assoc, ← Nat.mul_assoc]⟩, ?_, by omega, h5, by omega⟩
    have : l ≤ 8192 := by
      rcases Nat.lt_or_ge j 5 with w | w
      · have := Nat.pow_le_pow_right (n := 2) (by decide) (show j ≤ 4 by omega)
        omega
      · have := Nat.pow_le_pow_right (n := 2) (by decide) w
        omega
    omega
section ZL
variable {d1 d2 d3 d4 : Int32} {d5 : Option Nat} {lm : Nat → Option Nat} {l_y : Nat} {gy : Nat → Int32} {l_o : Nat} {o_r : Int32} {g_o g_t : Nat → Int32} {l1 l2 l3 : Nat} {mf mz mh : Int32} {ml : Option Nat} {gl gm gh : Nat → Int64} {lw1 lw2 lw3 : Nat} {vh vg : Option Nat} {v1 v2 v4 v7 v8 : Int32} {gi : Nat → Int32} {sv : Nat} {l_b : Nat} {pl pf : Int32} {gb : Nat → Int32} {mm : Nat → px_MR} {cm np ns : Nat} {sa : Nat → Nat} {pp : Nat → px_PR} {ss : Nat → px_SR} {iv Rth Rge Rgf Rgr Rgk Rgq Rgw RgR RgS Rgo Rgz Rsh Rca : Nat → Int32} {Rnv : Nat → px_NV} {G : x_GS} {L R k kc ks : Nat} {q_o q_y : Nat} {pa : Nat → Nat} {a1 a2 a3 a4 a5 : Int32}
theorem z_feed (hk : k < 512) (h : z_I k kc ks d1 d2 d3 d4 d5 lm l_y gy l_o o_r g_o g_t l1 l2 l3 mf mz mh ml gl gm gh lw1 lw2 lw3 vh vg v1 v2 v4 v7 v8 gi sv l_b pl pf gb mm cm np ns sa pp ss iv Rth Rge Rgf Rgr Rgk Rgq Rgw RgR RgS Rgo Rgz Rsh Rca Rnv) : ∃ mc ms, (kc + mc ≤ 505000 ∧ ks + ms ≤ 5300000) ∧ w355_wp lm cm np ns pa sa pp ss mc ms (fun r d1' d2' d3' d4' d5' q_y' l_y' gy' q_o' l_o' o_r' g_o' g_t' mm' => r = 0 ∧ mfe_wp (fun iv' Rca' => mth_wp (fun r' iv'' => r' = r ∧ z_I (k + 1) (kc + mc) (ks + ms) d1' d2' d3' d4' d5' lm l_y' gy' l_o' o_r' g_o' g_t' l1 l2 l3 mf mz mh ml gl gm gh lw1 lw2 lw3 vh vg v1 v2 v4 v7 v8 gi sv l_b pl pf gb mm' cm np ns sa pp ss iv'' Rth Rge Rgf Rgr Rgk Rgq Rgw RgR RgS Rgo Rgz Rsh Rca' Rnv) iv') a1 a2 a3 a4 a5 iv Rca) a1 a2 a3 a4 a5 d1 d2 d3 d4 d5 q_y l_y gy q_o l_o o_r g_o g_t mm := by
  obtain ⟨G, L, R, hA, hB, hD⟩ := h
  obtain ⟨c1, c2, c3, c4, c5, c6, c7, c8, c9, c10, c11, c12, c13⟩ := hA
  obtain ⟨b1, b2, b3, b4, b5, b6, b7, b8⟩ := hB
  obtain ⟨r1, r2, r3, r4⟩ := hD
  have hL : L + 20 ≤ 16384 := by omega
  obtain ⟨y1, y2, y3, y4, y5⟩ := z_by2 c6 hL c7 c5
  subst c4
  have hgrow : (if L + 20 ≤ l_y then 0 else 2 * l_y) + 2 * l_y ≤ 2 * x_by2 l_y L ∧ 4 * (if L + 20 ≤ l_y then 0 else 1) + l_y ≤ x_by2 l_y L := by
    unfold x_by2
    by_cases q : L + 20 ≤ l_y
    · rw [if_pos q, if_pos q, if_pos q]; omega
    · rw [if_neg q, if_neg q, if_neg q]; omega
  refine ⟨if L + 20 ≤ l_y then 0 else 1, if L + 20 ≤ l_y then 0 else 2 * l_y, z_bd (R := R) (k := k) (l_y := x_by2 l_y L) c3 (z_lb c2) y2 (by omega) (by omega) (by omega) (by omega), _, _, Nat.le_of_eq (Nat.zero_add _), Nat.le_of_eq (Nat.zero_add _), ?_⟩
  refine c_feed hL c5 y4 c7 (fun i hi => ?_) (fun z => ?_) (fun q_y' b' f1 f2 f3 => ?_)
  · obtain ⟨x, e⟩ := c8 i hi
    rw [e]; exact (b_naI8 x).2
  · rw [if_neg z, if_neg z]; exact ⟨Nat.le_refl _, Nat.le_refl _⟩
  · refine ⟨rfl, r_feed b5 (by omega) (fun z => absurd hL (by omega)) (fun _ iv' i1 i2 i3 => ?_)⟩
    refine ⟨i1, G, L + 20, R, ⟨c1, c2, c3, rfl, y3, y1, y2, fun i hi => ?_, c9, c10, c11, c12, c13⟩, ⟨b1, b2, b3, ?_, i2, ?_, ?_, ?_⟩, ⟨by omega, r2, by omega, by omega⟩⟩
    · by_cases q : i < L + 20
      · refine x_f20P (P := fun v => ∃ x : Int8, v = x.toInt32) (fun v k => ⟨_, (b_naI8 _).1⟩) (fun i hi => ?_) i q
        rw [f1 i hi]; exact c8 i (by omega)
      · have e : x_f20 b' L a1 a2 a3 a4 a5 i = b' i := by
          unfold x_f20 x_f4 upd
          repeat rw [if_neg (by omega)]
        rw [e]
        by_cases q2 : i < l_y
        · rw [f2 i q2]; exact c8 i q2
        · have : ¬ L + 20 ≤ l_y := fun w => by
            unfold x_by2 at hi
            rw [if_pos w] at hi
            exact q2 hi
          exact ⟨0, f3 this i (by omega)⟩
    · exact ⟨b4.1, by rw [i3 47 (by decide) (by decide)]; exact b4.2.1, b4.2.2⟩
    · refine x_f20c (fun i hi => ?_)
      rw [f1 i hi]; exact b6 i hi
    · rw [i3 42 (by decide) (by decide)]; exact b7
    · rw [i3 52 (by decide) (by decide)]; exact b8
theorem z_end {x : Int32} {got : Nat → Int64} (hx0 : ¬ x < 0) (hx1 : x ≤ d1) (h : z_I k kc ks d1 d2 d3 d4 d5 lm l_y gy l_o o_r g_o g_t l1 l2 l3 mf mz mh ml gl gm gh lw1 lw2 lw3 vh vg v1 v2 v4 v7 v8 gi sv l_b pl pf gb mm cm np ns sa pp ss iv Rth Rge Rgf Rgr Rgk Rgq Rgw RgR RgS Rgo Rgz Rsh Rca Rnv) : w359_wp (fun r d1' d2' d3' d4' d5' got' => men_wp (fun r2 iv' => mth_wp (fun r3 iv'' => r3 = r ∧ r = 0 ∧ got' 0 = r2.toInt64 ∧ z_I (k + 1) kc ks d1' d2' d3' d4' d5' lm l_y gy l_o o_r g_o g_t l1 l2 l3 mf mz mh ml gl gm gh lw1 lw2 lw3 vh vg v1 v2 v4 v7 v8 gi sv l_b pl pf gb mm cm np ns sa pp ss iv'' Rth Rge Rgf Rgr Rgk Rgq Rgw RgR RgS Rgo Rgz Rsh Rca Rnv) iv') x iv) x d1 d2 d3 d4 d5 got := by
  obtain ⟨G, L, R, hA, hB, hD⟩ := h
  obtain ⟨c1, c2, c3, c4, c5, c6, c7, c8, c9, c10, c11, c12, c13⟩ := hA
  obtain ⟨b1, b2, b3, b4, b5, b6, b7, b8⟩ := hB
  obtain ⟨r1, r2, r3, r4⟩ := hD
  subst c4
  obtain ⟨y, hy, ey⟩ := nI_of hx0
  subst ey
  have hyL : y ≤ L := (nI_leI hy (by omega)).1 hx1
  refine c_end hx0 hx1 (fun z6 e6 => ⟨(show vp_in (nI 0) 1 from b_in (by decide) (by decide)), ?_⟩)
  refine r_end b5 (fun z => ?_) (fun _ _ => ?_)
  · rcases z with z | z
    · exact absurd z hx0
    · exact absurd hx1 z
  · have e49 : va_up (va_up iv 49 0) 51 (nI y) 49 = 0 := by rw [va_up_ne _ _ (by decide), va_up_self]
    have e51 : va_up (va_up iv 49 0) 51 (nI y) 51 = nI y := va_up_self _ _ _
    have eo : ∀ q, q ≠ 49 → q ≠ 51 → va_up (va_up iv 49 0) 51 (nI y) q = iv q := fun q h1 h2 => by rw [va_up_ne _ _ h2, va_up_ne _ _ h1]
    refine ⟨e49, rfl, ?_, G, y, R, ⟨c1, c2, c3, rfl, by omega, c6, c7, c8, c9, c10, c11, c12, c13⟩, ⟨b1, b2, b3, ?_, e51, fun i hi => b6 i (by omega), ?_, ?_⟩, ⟨by omega, r2, by omega, by omega⟩⟩
    · rw [e6]; rfl
    · exact ⟨b4.1, by rw [eo 47 (by decide) (by decide)]; exact b4.2.1, b4.2.2⟩
    · rw [eo 42 (by decide) (by decide)]; exact b7
    · rw [eo 52 (by decide) (by decide)]; exact b8
theorem z_endT {x : Int32} (hk : k < 512) (hx : x < 0 ∨ ¬ x ≤ d1) (h : z_I k kc ks d1 d2 d3 d4 d5 lm l_y gy l_o o_r g_o g_t l1 l2 l3 mf mz mh ml gl gm gh lw1 lw2 lw3 vh vg v1 v2 v4 v7 v8 gi sv l_b pl pf gb mm cm np ns sa pp ss iv Rth Rge Rgf Rgr Rgk Rgq Rgw RgR RgS Rgo Rgz Rsh Rca Rnv) : (kc + 1 ≤ 505000 ∧ ks + 6 ≤ 5300000) ∧ men_wp (fun r2 iv' => mth_wp (fun r3 iv'' => r3 = 1 ∧ z_I (k + 1) (kc + 1) (ks + 6) d1 d2 d3 d4 d5 lm l_y gy l_o o_r g_o g_t l1 l2 l3 mf mz mh ml gl gm gh lw1 lw2 lw3 vh vg v1 v2 v4 v7 v8 gi sv l_b pl pf gb mm cm np ns sa pp ss iv'' Rth Rge Rgf Rgr Rgk Rgq Rgw RgR RgS Rgo Rgz Rsh Rca Rnv) iv') x iv := by
  obtain ⟨G, L, R, hA, hB, hD⟩ := h
  obtain ⟨c1, c2, c3, c4, c5, c6, c7, c8, c9, c10, c11, c12, c13⟩ := hA
  obtain ⟨b1, b2, b3, b4, b5, b6, b7, b8⟩ := hB
  obtain ⟨r1, r2, r3, r4⟩ := hD
  subst c4
  refine ⟨z_bd (R := R) (k := k + 1) c3 (z_lb c2) c7 (by omega) (by omega) (by omega) (by omega), r_end b5 (fun z => ?_) (fun q1 q2 => ?_)⟩
  · have eo : ∀ q, q ≠ 49 → va_up iv 49 1 q = iv q := fun q h1 => va_up_ne _ _ h1
    refine ⟨va_up_self _ _ _, G, L, R, ⟨c1, c2, c3, rfl, c5, c6, c7, c8, c9, c10, c11, c12, c13⟩, ⟨b1, b2, b3, ?_, ?_, b6, ?_, ?_⟩, ⟨by omega, r2, by omega, by omega⟩⟩
    · exact ⟨b4.1, by rw [eo 47 (by decide)]; exact b4.2.1, b4.2.2⟩
    · rw [eo 51 (by decide)]; exact b5
    · rw [eo 42 (by decide)]; exact b7
    · rw [eo 52 (by decide)]; exact b8
  · rcases hx with z | z
    · exact absurd z q1
    · exact absurd q2 z
end ZL
