/-! PURE, the class: tellCommon -/
theorem x_g77 (n : Nat) (g : Nat → Nat) : x_g7 n (x_g7 n g) = x_g7 n g := by
  funext y
  unfold x_g7
  by_cases w7 : y = 7
  · rw [if_pos w7, if_pos rfl, if_pos w7]
    omega
  · rw [if_neg w7]
/-- a letter's matroid was asked for its ranks -/
def c_A7 (M M' : px_MR) (n r : Nat) (b : Nat → Bool) : Prop := c_kn M' n r b ∧ c_fr M M' ∧ c_lv M' = x_g7 n (c_lv M) ∧ c_R M' n b
theorem c_A7Z {M M1 M' : px_MR} {n r : Nat} {b : Nat → Bool} (h : c_kn M n r b) (h1 : c_Z M M1 n b) (h2 : c_Z M1 M' n b) (hR : c_R M' n b) : c_A7 M M' n r b := by
  have k1 := c_Zk h h1
  have k2 := c_Zk k1.1 h2
  refine ⟨k2.1, c_frt k1.2 k2.2, ?_, hR⟩
  rw [c_lvZ k1.1 h2 hR]
  rcases h1 with z | z
  · rw [z]
  · rw [c_lvQ h z, x_g77]
section CTC
variable {cm np ns a c : Nat} {pa sa : Nat → Nat} {pp : Nat → px_PR} {ss : Nat → px_SR} {mc ms : Nat} {q_o l_o q : Nat} {o_r : Int32} {g_o g_t : Nat → Int32} {mm : Nat → px_MR} {n r s : Nat} {b d : Nat → Bool} {M T q_b l_b : Nat} {pl pf d1 d2 d3 d4 : Int32} {d5 : Option Nat} {g gd : Nat → Int32} {U : List Nat} {post : Int32 → Int32 → Int32 → Int32 → Option Nat → Nat → Nat → Int32 → Int32 → (Nat → Int32) → (Nat → Int32) → Nat → Nat → Int32 → (Nat → Int32) → (Nat → Int32) → (Nat → px_MR) → Prop}
theorem c_tellCom {V : List Nat} (ha : a < cm) (hc : c < cm) (h : c_kn (mm a) n r b) (h' : c_kn (mm c) n s d) (hcd : c = a → d = b) (ho : o_Ok l_o o_r g_o g_t q) (hnq : n ≤ q) (hV : ∀ Tp, x_top n (x_cp b d) Tp → x_set Tp ++ x_set (x_cv b d n (x_n Tp) (2 ^ n)) = V) (hI : pr_I M T l_b pl pf g U) (hb : pr_b (c_remc mm a c n) (c_rems mm a c n) l_b T mc ms) (hM : min 65536 (U.length + V.length) ≤ M)
    (hp : ∀ mm' q' l' pl' pf' g' gd', (∀ i, i ≠ a → i ≠ c → mm' i = mm i) → c_A7 (mm a) (mm' a) n r b → c_A7 (mm c) (mm' c) n s d → pr_I M T l' pl' pf' g' (U ++ V) → post d1 d2 d3 d4 d5 q' l' pl' pf' g' gd' q_o l_o o_r g_o g_t mm') : w287r_wp cm np ns pa sa pp ss a c mc ms post d1 d2 d3 d4 d5 q_b l_b pl pf g gd q_o l_o o_r g_o g_t mm := by
  have hn := c_knn h
  have hb0 : c_remc mm a c n ≤ mc ∧ c_rems mm a c n ≤ ms := by
    unfold pr_b at hb
    omega
  -- what the first question costs
  obtain ⟨m1, s1, hm1, hs1, hz1⟩ : ∃ m1 s1 : Nat, (0 < min r s → m1 = c_remc mm a c n) ∧ (0 < min r s → s1 = c_rems mm a c n) ∧ (min r s = 0 → m1 = 0 ∧ s1 = 0) := by
    by_cases w : 0 < min r s
    · exact ⟨c_remc mm a c n, c_rems mm a c n, fun _ => rfl, fun _ => rfl, fun z => by omega⟩
    · exact ⟨0, 0, fun z => absurd z w, fun z => absurd z w, fun _ => ⟨rfl, rfl⟩⟩
  have hle : m1 ≤ c_remc mm a c n ∧ s1 ≤ c_rems mm a c n := by
    by_cases w : 0 < min r s
    · rw [hm1 w, hs1 w]; exact ⟨Nat.le_refl _, Nat.le_refl _⟩
    · have := hz1 (by omega); omega
  unfold w287r_wp w287r_L28
  refine ⟨m1, s1, by omega, by omega, ha, c_common ha hc h.1 h'.1 h.2.1 h'.2.1 hcd ho hnq (fun w => by rw [hm1 w]; exact Nat.le_refl _) (fun w => by rw [hs1 w]; exact Nat.le_refl _) (fun mm1 Tp hJ hT => ?_)⟩
  have hVe := hV Tp hT
  subst hVe
  have hTl := hT.1
  have hcvl := x_cvl b d n (x_n Tp) (2 ^ n)
  have hpn := Nat.two_pow_pos n
  -- what is left to pay
  have hrem : m1 + c_remc mm1 a c n ≤ c_remc mm a c n ∧ s1 + c_rems mm1 a c n ≤ c_rems mm a c n := by
    rcases hJ.2 with ⟨_, r1, r2⟩ | ⟨z, e⟩
    · obtain ⟨e1, e2⟩ := c_RR0 (a := a) (c := c) r1 r2
      rw [e1, e2]
      omega
    · rw [e]
      have hz := hz1 z
      omega
  have hbR : pr_b (0 + m1) (0 + s1) l_b T (mc - c_remc mm1 a c n) (ms - c_rems mm1 a c n) := by
    unfold pr_b at hb ⊢
    omega
  have nxt : ∀ (m2 s2 q1 l1 : Nat) (pl1 pf1 : Int32) (gg1 gd1 : Nat → Int32), pr_I M T l1 pl1 pf1 gg1 (U ++ x_set Tp) → min 65536 ((U ++ x_set Tp).length + (x_set (x_cv b d n (x_n Tp) (2 ^ n))).length) ≤ M → pr_b (0 + m1 + m2) (0 + s1 + s2) l1 T (mc - c_remc mm1 a c n) (ms - c_rems mm1 a c n) → ∃ m22_23 s22_23 : Nat, 0 + m1 + m2 + m22_23 ≤ mc ∧ 0 + s1 + s2 + s22_23 ≤ ms ∧ a < cm ∧ (w289_wp a cm np ns pa sa pp ss c m22_23 s22_23 (fun r22 v17 v18 v19 v20 v21 v22 => ∃ m25_31 s25_31 : Nat, 0 + m1 + m2 + m22_23 + m25_31 ≤ mc ∧ 0 + s1 + s2 + s22_23 + s25_31 ≤ ms ∧ (w277_wp m25_31 s25_31 (fun v25 v26 v27 v28 v29 v30 => post d1 d2 d3 d4 d5 v25 v26 v27 v28 v29 v30 v17 v18 v19 v20 v21 v22) r22 q1 l1 pl1 pf1 gg1 gd1)) q_o l_o o_r g_o g_t mm1) := by
    intro m2 s2 q1 l1 pl1 pf1 gg1 gd1 hI1 hM1 hb1
    have hb2 : pr_b (0 + m1 + m2 + c_remc mm1 a c n) (0 + s1 + s2 + c_rems mm1 a c n) l1 T mc ms := by
      unfold pr_b at hb1 ⊢
      omega
    have hb3 : 0 + m1 + m2 + c_remc mm1 a c n ≤ mc ∧ 0 + s1 + s2 + c_rems mm1 a c n ≤ ms := by
      unfold pr_b at hb2
      omega
    refine ⟨c_remc mm1 a c n, c_rems mm1 a c n, hb3.1, hb3.2, ha, c_cover ha hc (c_ZB h.1 hJ.1.2.1) (c_ZB h'.1 hJ.1.2.2) (c_ZK h.2.1 hJ.1.2.1) (c_ZK h'.2.1 hJ.1.2.2) hcd ho hnq (Nat.le_refl _) (Nat.le_refl _) (fun mm2 T2 hJ2 hR1 hR2 hT2 => ?_)⟩
    rw [x_topu hn.1 hT2 hT]
    refine c_sub (c_setLine (show x_cv b d n (x_n Tp) (2 ^ n) < 2 ^ 31 by omega)) hI1 hb2 hM1 (fun m3 s3 q3 l3 pl3 pf3 g3 gd3 hI3 _ _ => ?_)
    rw [List.append_assoc] at hI3
    exact hp mm2 _ _ _ _ _ _ (fun i h1 h2 => by rw [hJ2.1 i h1 h2, hJ.1.1 i h1 h2]) (c_A7Z h hJ.1.2.1 hJ2.2.1 hR1) (c_A7Z h' hJ.1.2.2 hJ2.2.2 hR2) hI3
  obtain ⟨m2, s2, g1, g2, g3⟩ := c_sub2 (V := x_set Tp) (W := x_set (x_cv b d n (x_n Tp) (2 ^ n))) (P := fun mc ms post => w277_wp mc ms post (nI Tp)) (post := fun m2 s2 v9 v10 v11 v12 v13 v14 => ∃ m22_23 s22_23 : Nat, 0 + m1 + m2 + m22_23 ≤ mc ∧ 0 + s1 + s2 + s22_23 ≤ ms ∧ a < cm ∧ (w289_wp a cm np ns pa sa pp ss c m22_23 s22_23 (fun r22 v17 v18 v19 v20 v21 v22 => ∃ m25_31 s25_31 : Nat, 0 + m1 + m2 + m22_23 + m25_31 ≤ mc ∧ 0 + s1 + s2 + s22_23 + s25_31 ≤ ms ∧ (w277_wp m25_31 s25_31 (fun v25 v26 v27 v28 v29 v30 => post d1 d2 d3 d4 d5 v25 v26 v27 v28 v29 v30 v17 v18 v19 v20 v21 v22) r22 v9 v10 v11 v12 v13 v14)) q_o l_o o_r g_o g_t mm1)) (g_d := gd) (q_b := q_b) (c_setLine (show Tp < 2 ^ 31 by omega)) hI hbR hM nxt
  exact ⟨m2, s2, by omega, by omega, g3⟩
end CTC
