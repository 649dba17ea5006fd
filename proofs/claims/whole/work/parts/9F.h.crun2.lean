/-! PURE, the class: run, whole -/
theorem x_g2f : ∀ (t s l m : Nat), m ≤ l * 2 ^ t → x_g2 (t + s) l m = x_g2 t l m
  | 0, s, l, m, h => by
    have h : m ≤ l := by rw [Nat.pow_zero, Nat.mul_one] at h; exact h
    rw [Nat.zero_add]
    cases s with
    | zero => rfl
    | succ s => show (if m ≤ l then l else _) = l; rw [if_pos h]
  | t + 1, s, l, m, h => by
    rw [show t + 1 + s = (t + s) + 1 by omega]
    show (if m ≤ l then l else x_g2 (t + s) (2 * l) m) = (if m ≤ l then l else x_g2 t (2 * l) m)
    split
    · rfl
    · refine x_g2f t s (2 * l) m ?_
      rw [Nat.pow_succ, Nat.mul_comm (2 ^ t) 2, ← Nat.mul_assoc, Nat.mul_comm l 2] at h
      exact h
/-- the product between calls -/
def pr_J (lb : Nat) (pl pf : Int32) (gb : Nat → Int32) (U : List Nat) : Prop := (∃ j, j ≤ 8 ∧ lb = 256 * 2 ^ j) ∧ U.length ≤ 65536 ∧ U.length ≤ lb ∧ pl = nI U.length ∧ pf = 0 ∧ ∀ j x, U[j]? = some x → gb j = nI x ∧ x < 128
theorem pr_JI {lb M : Nat} {pl pf : Int32} {gb : Nat → Int32} {U : List Nat} (h : pr_J lb pl pf gb U) (hM : M ≤ 65536) : pr_I M (x_g2 8 lb M) lb 0 0 gb [] := by
  obtain ⟨⟨j, hj, e⟩, h2, h3, h4, h5, h6⟩ := h
  have eg : x_g2 8 lb M = x_g2 (8 - j) lb M := by
    have := x_g2f (8 - j) j lb M (by
      rw [e, Nat.mul_assoc, ← Nat.pow_add, show j + (8 - j) = 8 by omega]
      exact hM)
    rw [show 8 - j + j = 8 by omega] at this
    exact this
  rw [eg]
  exact ⟨rfl, rfl, fun i x _ hx => (by cases hx), Nat.zero_le _, x_g2le _ _ _, hM, j, hj, e, rfl⟩
theorem pr_IJ {M T l : Nat} {pl pf : Int32} {g : Nat → Int32} {U : List Nat} (h : pr_I M T l pl pf g U) (hU : U.length ≤ 65536) (hM : M ≤ l) : pr_J l pl pf g U ∧ T = l := by
  obtain ⟨h1, h2, h3, h4, h5, h6, j, h7, h8, h9⟩ := h
  refine ⟨⟨⟨j, h7, h8⟩, hU, by omega, by rw [h1, Nat.min_eq_right hU], by rw [h2, if_neg (by omega)], fun i x hx => ?_⟩, ?_⟩
  · refine h3 i x ?_ hx
    refine Classical.byContradiction (fun w => ?_)
    rw [List.getElem?_eq_none (by omega)] at hx; cases hx
  · rw [← h9]
    cases (8 - j) with
    | zero => rfl
    | succ t => show (if M ≤ l then l else _) = l; rw [if_pos hM]
def x_clr (G : x_GS) : x_GS := (G.1, G.2.1, G.2.2.1, G.2.2.2.1, G.2.2.2.2.1, G.2.2.2.2.2.1, [])
theorem x_stMl {b : Nat → Int32} {L i : Nat} {G : x_GS} : x_stM b L i G ≤ 65536 := by
  unfold x_stM
  split
  · exact Nat.zero_le _
  · split
    · exact Nat.zero_le _
    · exact Nat.min_le_left _ _
theorem x_ruMl {b : Nat → Int32} {L : Nat} : ∀ (u n i : Nat) (G : x_GS), x_ruM b L u n i G ≤ 65536
  | 0, _, _, _ => Nat.zero_le _
  | u + 1, n, i, G => by
    unfold x_ruM
    have ih := x_ruMl (b := b) (L := L) u (n + 1) (t_st b L i).2 (x_stp b L i G).1
    have h := x_stMl (b := b) (L := L) (i := i) (G := G)
    split
    · exact Nat.zero_le _
    · split
      · exact Nat.max_le.2 ⟨h, Nat.zero_le _⟩
      · exact Nat.max_le.2 ⟨h, ih⟩
/-- a run of the first L bytes: the state; and what the product's array is then -/
noncomputable def x_RN (b : Nat → Int32) (L : Nat) (G : x_GS) : x_GS × Nat × Int32 := x_run b L (L + 1) 0 0 (x_clr G)
noncomputable def x_RM (b : Nat → Int32) (L : Nat) (G : x_GS) : Nat := x_ruM b L (L + 1) 0 0 (x_clr G)
noncomputable def x_RC (b : Nat → Int32) (L lb : Nat) (G : x_GS) : Nat := x_ruC b L (L + 1) 0 0 (x_clr G) + (x_g2 8 lb (x_RM b L G) - lb + 15) / 16
noncomputable def x_RE (b : Nat → Int32) (L lb : Nat) (G : x_GS) : Nat := x_ruE b L (L + 1) 0 0 (x_clr G) + 2 * (x_g2 8 lb (x_RM b L G) - lb)
section CRN
variable {post : c_PT9} {q_y ho N mc ms : Nat} {d1 d2 d3 d4 : Int32} {d5 : Option Nat} {lm : Nat → Option Nat} {ge : Nat → Int32} {q_o l_o : Nat} {o_r : Int32} {g_o g_t : Nat → Int32} {q_l q_m q_h l : Nat} {mf mz mh : Int32} {ml : Option Nat} {gl gm gh : Nat → Int64} {w1 w2 w3 w4 w5 w6 w7 w8 w9 w10 w11 w12 : Int64} {qk qr qg lw : Nat} {vh vg : Option Nat} {v1 v2 v3 v4 v5 v6 v7 v8 v9 : Int32} {gi gp gq gk gr gg : Nat → Int32} {qs : Nat} {tl tb ts tk tv : Int32} {gy : Nat → Int32} {sv : Nat} {sg sf s2 sd sh sx smn sr se : Int32} {gn : Nat → Int32} {q_b l_b : Nat} {pl pf : Int32} {gb gd : Nat → Int32} {mm : Nat → px_MR} {cm np ns : Nat} {hm pa sa : Nat → Nat} {pp : Nat → px_PR} {ss : Nat → px_SR} {b : Nat → Int32} {L : Nat} {G : x_GS}
theorem c_run (hLN : L ≤ N) (hN : N < 2 ^ 31) (hL16 : L ≤ 16384) (hv21 : sv < 21) (hIV : c_IV G lm d5 cm mm np ns pp ss sa o_r g_o g_t mf mz mh ml gl gm gh vh vg v1 v2 v4 v7 v8 gi) (hJ : pr_J l_b pl pf gb G.2.2.2.2.2.2) (hst : G.2.2.1 + L < 2 ^ 30) (hmc : (t_scr b L (L + 1) 0 0).1 = true → x_RC b L l_b G ≤ mc) (hms : (t_scr b L (L + 1) 0 0).1 = true → x_RE b L l_b G ≤ ms)
    (h0 : (t_scr b L (L + 1) 0 0).1 = false → ∀ tl' tb' tk' tv' sv' sg' sf' s2' sd' sh' sx' smn' sr' se' gn', sv' < 21 → post (-1) 0 (nI (t_j b L (t_scr b L (L + 1) 0 0).2)) d3 (nI G.2.2.1) d5 lm ge q_o G.2.2.2.1 o_r g_o g_t q_l q_m q_h G.2.2.2.2.1 G.2.2.2.2.1 G.2.2.2.2.1 mf mz mh ml gl gm gh w1 w2 w3 w4 w5 w6 w7 w8 w9 w10 w11 w12 qk qr qg G.2.2.2.2.2.1 G.2.2.2.2.2.1 G.2.2.2.2.2.1 vh vg v1 v2 v3 v4 v5 v6 v7 v8 v9 gi gp gq gk gr gg q_y tl' tb' (nI (t_j b L (t_scr b L (L + 1) 0 0).2)) tk' tv' b sv' sg' sf' s2' sd' sh' sx' smn' sr' se' gn' q_b l_b pl pf gb gd mm cm np ns hm pa sa pp ss)
    (h1 : (t_scr b L (L + 1) 0 0).1 = true → ∀ d5' lm' ge' q_o' o_r' g_o' g_t' q_l' q_m' q_h' mf' mz' mh' ml' gl' gm' gh' w1' w2' w3' w4' w5' w6' w7' w8' w9' w10' w11' w12' qk' qr' qg' vh' vg' v1' v2' v3' v4' v5' v6' v7' v8' v9' gi' gp' gq' gk' gr' gg' tl' tb' ts' tk' tv' sv' sg' sf' s2' sd' sh' sx' smn' sr' se' gn' q_b' pl' pf' gb' gd' mm' cm' np' ns' hm' pa' sa' pp' ss', sv' < 21 → c_IV (x_RN b L G).1 lm' d5' cm' mm' np' ns' pp' ss' sa' o_r' g_o' g_t' mf' mz' mh' ml' gl' gm' gh' vh' vg' v1' v2' v4' v7' v8' gi' → pr_J (x_g2 8 l_b (x_RM b L G)) pl' pf' gb' (x_RN b L G).1.2.2.2.2.2.2 → post (nI (x_RN b L G).2.1) 0 d2 (x_RN b L G).2.2 (nI (x_RN b L G).1.2.2.1) d5' lm' ge' q_o' (x_RN b L G).1.2.2.2.1 o_r' g_o' g_t' q_l' q_m' q_h' (x_RN b L G).1.2.2.2.2.1 (x_RN b L G).1.2.2.2.2.1 (x_RN b L G).1.2.2.2.2.1 mf' mz' mh' ml' gl' gm' gh' w1' w2' w3' w4' w5' w6' w7' w8' w9' w10' w11' w12' qk' qr' qg' (x_RN b L G).1.2.2.2.2.2.1 (x_RN b L G).1.2.2.2.2.2.1 (x_RN b L G).1.2.2.2.2.2.1 vh' vg' v1' v2' v3' v4' v5' v6' v7' v8' v9' gi' gp' gq' gk' gr' gg' q_y tl' tb' ts' tk' tv' b sv' sg' sf' s2' sd' sh' sx' smn' sr' se' gn' q_b' (x_g2 8 l_b (x_RM b L G)) pl' pf' gb' gd' mm' cm' np' ns' hm' pa' sa' pp' ss') :
    w135_wp q_y ho N mc ms post (nI L) d2 d3 (nI G.2.2.1) d5 lm ge q_o G.2.2.2.1 o_r g_o g_t q_l q_m q_h G.2.2.2.2.1 G.2.2.2.2.1 G.2.2.2.2.1 mf mz mh ml gl gm gh w1 w2 w3 w4 w5 w6 w7 w8 w9 w10 w11 w12 qk qr qg G.2.2.2.2.2.1 G.2.2.2.2.2.1 G.2.2.2.2.2.1 vh vg v1 v2 v3 v4 v5 v6 v7 v8 v9 gi gp gq gk gr gg qs tl tb ts tk tv b sv sg sf s2 sd sh sx smn sr se gn q_b l_b pl pf gb gd mm cm np ns hm pa sa pp ss := by
  unfold w135_wp
  refine c_readsWhole hLN hN hL16 hv21 (fun sv' sg' sf' s2' sd' sh' sx' smn' sr' se' gn' hv' tvx htvx => ⟨fun z => ?_, fun z => ?_⟩)
  · have hok : (t_scr b L (L + 1) 0 0).1 = true := by
      cases hh : (t_scr b L (L + 1) 0 0).1 with
      | true => rfl
      | false => rw [if_neg (by rw [hh]; decide)] at z; exact absurd rfl z
    unfold w168_wp w137_wp
    refine c_step (i := 0) rfl hLN hN (Nat.zero_le _) (fun v hv => ⟨L + 2, ?_⟩)
    have hMl : x_RM b L G ≤ 65536 := x_ruMl _ _ _ _
    have hIp := pr_JI hJ hMl
    have hle := x_g2le 8 l_b (x_RM b L G)
    have hb : pr_b (0 + x_ruC b L (L + 1) 0 0 (x_clr G)) (0 + x_ruE b L (L + 1) 0 0 (x_clr G)) l_b (x_g2 8 l_b (x_RM b L G)) mc ms := by
      have a1 := hmc hok
      have a2 := hms hok
      unfold x_RC at a1
      unfold x_RE at a2
      unfold pr_b
      omega
    exact c_loop (M := x_RM b L G) (T := x_g2 8 l_b (x_RM b L G)) (d1 := 0) (d2 := d2) hLN hN hL16 L 0 0 0 (x_clr G) d5 lm ge q_o o_r g_o g_t q_l q_m q_h mf mz mh ml gl gm gh w1 w2 w3 w4 w5 w6 w7 w8 w9 w10 w11 w12 qk qr qg vh vg v1 v2 v3 v4 v5 v6 v7 v8 v9 gi gp gq gk gr gg v sv' sg' sf' s2' sd' sh' sx' smn' sr' se' gn' q_b l_b 0 0 gb gd mm cm np ns hm pa sa pp ss 0 0 (Nat.zero_le _) (Nat.le_refl _) (by decide) hv' hv hok hst (Nat.zero_le _) hIV hIp hb (Nat.le_refl _) (fun d5'' lm'' ge'' q_o'' o_r'' g_o'' g_t'' q_l'' q_m'' q_h'' mf'' mz'' mh'' ml'' gl'' gm'' gh'' w1'' w2'' w3'' w4'' w5'' w6'' w7'' w8'' w9'' w10'' w11'' w12'' qk'' qr'' qg'' vh'' vg'' v1'' v2'' v3'' v4'' v5'' v6'' v7'' v8'' v9'' gi'' gp'' gq'' gk'' gr'' gg'' tl'' tb'' ts'' tk'' tv'' sv'' sg'' sf'' s2'' sd'' sh'' sx'' smn'' sr'' se'' gn'' q_b'' l_b'' pl'' pf'' gb'' gd'' mm'' cm'' np'' ns'' hm'' pa'' sa'' pp'' ss'' j1 j2 j3 j4 j5 => by
      obtain ⟨k1, k2⟩ := pr_IJ j3 j4 j5
      have := h1 hok d5'' lm'' ge'' q_o'' o_r'' g_o'' g_t'' q_l'' q_m'' q_h'' mf'' mz'' mh'' ml'' gl'' gm'' gh'' w1'' w2'' w3'' w4'' w5'' w6'' w7'' w8'' w9'' w10'' w11'' w12'' qk'' qr'' qg'' vh'' vg'' v1'' v2'' v3'' v4'' v5'' v6'' v7'' v8'' v9'' gi'' gp'' gq'' gk'' gr'' gg'' tl'' tb'' ts'' tk'' tv'' sv'' sg'' sf'' s2'' sd'' sh'' sx'' smn'' sr'' se'' gn'' q_b'' pl'' pf'' gb'' gd'' mm'' cm'' np'' ns'' hm'' pa'' sa'' pp'' ss'' j1 j2 (by rw [k2]; exact k1)
      rw [k2] at this
      rw [Nat.zero_add]
      exact this)
  · have hno : (t_scr b L (L + 1) 0 0).1 = false := by
      cases hh : (t_scr b L (L + 1) 0 0).1 with
      | false => rfl
      | true => rw [if_pos hh] at z; exact absurd z (by decide)
    exact h0 hno _ _ _ _ _ _ _ _ _ _ _ _ _ _ _ hv'
end CRN
