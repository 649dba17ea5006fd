/-! PURE, the class: tellTutte -/
def x_gT (n : Nat) (g : Nat → Nat) (j : Nat) : Nat := if g 29 = 0 then (if j = 7 then max (g 7) (2 ^ n) else if j = 8 then 169 else if j = 29 then 1 else g j) else g j
def x_tcc (n : Nat) (g : Nat → Nat) : Nat := if g 29 = 0 then (if g 7 < 2 ^ n then 1 else 0) + (if g 8 = 0 then 1 else 0) else 0
def x_tcs (n : Nat) (g : Nat → Nat) : Nat := if g 29 = 0 then (if g 7 < 2 ^ n then 2 ^ n else 0) + (if g 8 = 0 then 169 else 0) else 0
theorem c_lvP {M M' : px_MR} {n r : Nat} {b : Nat → Bool} (h : c_kn M n r b) (hf : c_f78 M M') (hP : c_P M' n r b) (h0 : M.2.1 10 = 0 → c_R M' n b ∧ M'.2.2.1 7 = c_rl M n) (hs : ¬ M.2.1 10 = 0 → M' = M) : c_lv M' = x_gT n (c_lv M) := by
  have e29 : c_lv M 29 = if M.2.1 10 = 0 then 0 else 1 := rfl
  funext j
  unfold x_gT
  rw [e29]
  by_cases q : M.2.1 10 = 0
  · rw [if_pos q, if_pos rfl]
    have h7 := (h0 q).2
    rw [c_rlm h] at h7
    by_cases j7 : j = 7
    · rw [if_pos j7, j7]; exact h7
    · rw [if_neg j7]
      by_cases j8 : j = 8
      · rw [if_pos j8, j8]; exact hP.2.1
      · rw [if_neg j8]
        by_cases j29 : j = 29
        · rw [if_pos j29, j29]
          show (if M'.2.1 10 = 0 then 0 else 1) = 1
          rw [hP.1, if_neg (by decide)]
        · rw [if_neg j29]
          unfold c_lv
          rw [hf.2.2.1 j j7 j8, hf.2.2.2.1 5 (by decide), if_neg j29, if_neg j29]
  · rw [if_neg q, if_neg (by decide), hs q]
theorem c_pcb (M : px_MR) (n : Nat) : c_pc M n ≤ x_tcc n (c_lv M) ∧ c_ps M n ≤ x_tcs n (c_lv M) := by
  have e29 : c_lv M 29 = if M.2.1 10 = 0 then 0 else 1 := rfl
  have e8 : c_lv M 8 = M.2.2.1 8 := rfl
  have := c_rcb M n
  unfold c_pc c_ps x_tcc x_tcs
  rw [e29, e8]
  by_cases q : M.2.1 10 = 0
  · rw [if_pos q, if_pos q, if_pos q, if_pos rfl, if_pos rfl]
    omega
  · rw [if_neg q, if_neg q, if_neg q]
    exact ⟨Nat.zero_le _, Nat.zero_le _⟩
theorem x_T0 {n r i j : Nat} {b : Nat → Bool} (h : x_M n r b) (hij : r < i ∨ n - r < j) : x_T Int64 b n r i j = 0 := by
  unfold x_T
  refine x_sm0 (2 ^ n) (fun S hS => ?_)
  rcases hij with z | z
  · rw [x_cz (r - x_rk b S) i (by omega)]
    exact Lean.Grind.Semiring.zero_mul _
  · have := x_nul h hS
    rw [x_cz (x_n S - x_rk b S) j (by omega)]
    exact Lean.Grind.Semiring.mul_zero _
theorem x_tuZ {c : Nat → Nat → Nat} {f : Bool} : ∀ (u a : Nat), (∀ q, a ≤ q → q < a + u → c (q / 13) (q % 13) = 0) → x_tuW c (a + u) f = x_tuW c a f
  | 0, _, _ => rfl
  | u + 1, a, h => by
    rw [← x_tuZ (c := c) (f := f) u a (fun q h1 h2 => h q h1 (by omega)), show a + (u + 1) = a + u + 1 from rfl, x_tuW, if_pos (h (a + u) (by omega) (by omega))]
theorem x_st4 : x_str 4 = [32, 43, 32] := by decide +kernel
section CTT
variable {cm np ns a : Nat} {pa sa : Nat → Nat} {pp : Nat → px_PR} {ss : Nat → px_SR} {mc ms : Nat} {q_o l_o q : Nat} {o_r : Int32} {g_o g_t : Nat → Int32} {mm : Nat → px_MR} {n r : Nat} {b : Nat → Bool} {M T q_b l_b : Nat} {pl pf d1 d2 d3 d4 : Int32} {d5 : Option Nat} {g gd : Nat → Int32} {U : List Nat} {post : Int32 → Int32 → Int32 → Int32 → Option Nat → Nat → Nat → Int32 → Int32 → (Nat → Int32) → (Nat → Int32) → Nat → Nat → Int32 → (Nat → Int32) → (Nat → Int32) → (Nat → px_MR) → Prop}
/-- coefficient, asked of a letter's matroid -/
theorem c_aP {post : Int64 → Nat → Nat → Int32 → (Nat → Int32) → (Nat → Int32) → (Nat → px_MR) → Prop} {i j : Nat} (ha : a < cm) (h : c_kn (mm a) n r b) (hi : i ≤ r) (hj : j ≤ n - r) (hmc : c_pc (mm a) n ≤ mc) (hms : c_ps (mm a) n ≤ ms)
    (hp : ∀ M', c_kn M' n r b → c_fr (mm a) M' → c_lv M' = x_gT n (c_lv (mm a)) → (c_R (mm a) n b → c_R M' n b) → c_pc M' n = 0 → c_ps M' n = 0 → post (x_T Int64 b n r i j) q_o l_o o_r g_o g_t (va_up mm a M')) : w280_wp a cm np ns pa sa pp ss mc ms post (nI i) (nI j) q_o l_o o_r g_o g_t mm := by
  obtain ⟨k1, k2, k3, k4, k5, k6⟩ := id h
  refine c_coef ha k1 k2 k4 k5 hi hj hmc hms (fun M' f1 f2 f3 f4 f5 f6 => ?_)
  have := c_Pk h f1 f2 f3 f4 f5 f6
  refine hp M' this.1 this.2.1 (c_lvP h f1 f4 f5 f6) (fun hR => ?_) this.2.2.2.2.1 this.2.2.2.2.2
  by_cases c : (mm a).2.1 10 = 0
  · exact (f5 c).1
  · rw [f6 c]; exact hR
theorem x_gTT (n : Nat) (g : Nat → Nat) : x_gT n (x_gT n g) = x_gT n g := by
  funext j
  by_cases q : g 29 = 0
  · have e : x_gT n g 29 = 1 := by unfold x_gT; rw [if_pos q]; rfl
    have h1 : x_gT n (x_gT n g) j = if x_gT n g 29 = 0 then _ else x_gT n g j := rfl
    rw [h1, e, if_neg (by decide)]
  · have e : x_gT n g 29 = g 29 := by unfold x_gT; rw [if_neg q]
    have h1 : x_gT n (x_gT n g) j = if x_gT n g 29 = 0 then _ else x_gT n g j := rfl
    rw [h1, e, if_neg q]
theorem c_tellTut {c : Nat → Nat → Nat} (ha : a < cm) (h : c_kn (mm a) n r b) (hc : ∀ i j, i < 13 → j < 13 → x_T Int64 b n r i j = nL (c i j) ∧ c i j < 2 ^ 31) (hI : pr_I M T l_b pl pf g U) (hb : pr_b (x_tcc n (c_lv (mm a))) (x_tcs n (c_lv (mm a))) l_b T mc ms) (hM : min 65536 (U.length + (x_tuW c 169 true ++ [10]).length) ≤ M)
    (hp : ∀ M' q' l' pl' pf' g' gd', c_kn M' n r b → c_fr (mm a) M' → c_lv M' = x_gT n (c_lv (mm a)) → (c_R (mm a) n b → c_R M' n b) → pr_I M T l' pl' pf' g' (U ++ (x_tuW c 169 true ++ [10])) → post d1 d2 d3 d4 d5 q' l' pl' pf' g' gd' q_o l_o o_r g_o g_t (va_up mm a M')) : w279_wp cm np ns pa sa pp ss a mc ms post d1 d2 d3 d4 d5 q_b l_b pl pf g gd q_o l_o o_r g_o g_t mm := by
  have hn := c_knn h
  have hx := h.1.2.2.1
  have hr := x_rlen hx
  have hz : ∀ i j, i < 13 → j < 13 → r < i ∨ n - r < j → c i j = 0 := fun i j hi hj hij => by
    have h1 := hc i j hi hj
    rw [x_T0 hx hij] at h1
    exact ((nL_eq (b := 0) (by omega) (by decide)).1 ((lg_cmp_eq _ _).2 h1.1.symm))
  have hzr : ∀ i f, i ≤ 12 → x_tuW c (13 * (i + 1)) f = x_tuW c (13 * i + (n - r + 1)) f := fun i f hi => by
    have := x_tuZ (c := c) (f := f) (12 - (n - r)) (13 * i + (n - r + 1)) (fun q h1 h2 => hz _ _ (by omega) (by omega) (Or.inr (by omega)))
    rw [← this]
    congr 1
    omega
  have hz0 : x_tuW c 169 true = x_tuW c (13 * (r + 1)) true := by
    have := x_tuZ (c := c) (f := true) (13 * (12 - r)) (13 * (r + 1)) (fun q h1 h2 => hz _ _ (by omega) (by omega) (Or.inl (by omega)))
    rw [← this]
    congr 1
    omega
  rw [hz0] at hM hp
  -- down the first power
  have outer : ∀ (u : Nat), u ≤ r + 1 → ∀ (f : Bool) (q' l' : Nat) (pl' pf' : Int32) (g' gd' : Nat → Int32) (kc ks : Nat) (W : List Nat) (M1 : px_MR), c_kn M1 n r b → c_fr (mm a) M1 → (c_lv M1 = if u = r + 1 then c_lv (mm a) else x_gT n (c_lv (mm a))) → (c_R (mm a) n b → c_R M1 n b) → pr_I M T l' pl' pf' g' W → pr_b (kc + c_pc M1 n) (ks + c_ps M1 n) l' T mc ms → W ++ (x_tuW c (13 * u) f ++ [10]) = U ++ (x_tuW c (13 * (r + 1)) true ++ [10]) → w279_L7 cm np ns pa sa pp ss a mc ms post (u + 1) (if f = true then 1 else 0) (nI u + -1) d1 d2 d3 d4 d5 q' l' pl' pf' g' gd' q_o l_o o_r g_o g_t (va_up mm a M1) kc ks := by
    intro u
    induction u with
    | zero =>
      intro hu f q' l' pl' pf' g' gd' kc ks W M1 k1 k2 k3 k4 hI1 hb1 hW
      unfold w279_L7
      refine ⟨fun _ => ?_, fun z => absurd (show nI 0 + -1 < 0 by decide) z⟩
      have hW : W ++ [10] = U ++ (x_tuW c (13 * (r + 1)) true ++ [10]) := hW
      refine c_sub (c_pput (c := 10) (by decide)) hI1 (show pr_b kc ks l' T mc ms by unfold pr_b at hb1 ⊢; omega) (pr_len hM hW) (fun m s' q1 l1 pl1 pf1 g1 gd1 hI2 _ _ => ?_)
      rw [hW] at hI2
      rw [if_neg (by omega)] at k3
      exact hp M1 _ _ _ _ _ _ k1 k2 k3 k4 hI2
    | succ u ih =>
      intro hu f q' l' pl' pf' g' gd' kc ks W M1 k1 k2 k3 k4 hI1 hb1 hW
      have eu : nI (u + 1) + -1 = nI u := pk_m1 u
      rw [eu]
      unfold w279_L7
      refine ⟨fun z => absurd z (nI_pos (by omega)), fun _ => ⟨ha, ha, fun z35 e35 => ⟨n - r + 1 + 1, ?_⟩⟩⟩
      rw [va_up_self, k1.1.1, k1.1.2.1, nI_subn hr] at e35
      rw [e35, ← pk_m1 (n - r)]
      rw [hzr u f (by omega)] at hW
      -- down the second power
      have inner : ∀ (v : Nat), v ≤ n - r + 1 → ∀ (f : Bool) (q' l' : Nat) (pl' pf' : Int32) (g' gd' : Nat → Int32) (kc ks : Nat) (W : List Nat) (M1 : px_MR), c_kn M1 n r b → c_fr (mm a) M1 → (c_lv M1 = if u = r ∧ v = n - r + 1 then c_lv (mm a) else x_gT n (c_lv (mm a))) → (c_R (mm a) n b → c_R M1 n b) → pr_I M T l' pl' pf' g' W → pr_b (kc + c_pc M1 n) (ks + c_ps M1 n) l' T mc ms → W ++ (x_tuW c (13 * u + v) f ++ [10]) = U ++ (x_tuW c (13 * (r + 1)) true ++ [10]) → w279_L22 (w279_L7 cm np ns pa sa pp ss a mc ms post (u + 1)) cm np ns pa sa pp ss a mc ms post (v + 1) (if f = true then 1 else 0) (nI u) (nI v + -1) d1 d2 d3 d4 d5 q' l' pl' pf' g' gd' q_o l_o o_r g_o g_t (va_up mm a M1) kc ks := by
        intro v
        induction v with
        | zero =>
          intro hv f q' l' pl' pf' g' gd' kc ks W M1 k1 k2 k3 k4 hI1 hb1 hW
          unfold w279_L22
          refine ⟨fun _ z18 e18 => ?_, fun z => absurd (show nI 0 + -1 < 0 by decide) z⟩
          rw [e18]
          rw [if_neg (by omega)] at k3
          exact ih (by omega) f q' l' pl' pf' g' gd' kc ks W M1 k1 k2 (by rw [if_neg (by omega)]; exact k3) k4 hI1 hb1 hW
        | succ v ihv =>
          intro hv f q' l' pl' pf' g' gd' kc ks W M1 k1 k2 k3 k4 hI1 hb1 hW
          have ev : nI (v + 1) + -1 = nI v := pk_m1 v
          rw [ev]
          unfold w279_L22
          refine ⟨fun z => absurd z (nI_pos (by omega)), fun _ => ?_⟩
          have hbb : kc + c_pc M1 n ≤ mc ∧ ks + c_ps M1 n ≤ ms := by
            unfold pr_b at hb1
            omega
          refine ⟨c_pc M1 n, c_ps M1 n, hbb.1, hbb.2, ha, c_aP (mm := va_up mm a M1) ha (by rw [va_up_self]; exact k1) (show u ≤ r by omega) (show v ≤ n - r by omega) (by rw [va_up_self]; exact Nat.le_refl _) (by rw [va_up_self]; exact Nat.le_refl _) (fun M2 j1 j2 j3 j4 j5 j6 => ?_)⟩
          rw [va_up_self] at j2 j3 j4
          have hvv : va_up (va_up mm a M1) a M2 = va_up mm a M2 := by
            funext y
            by_cases w : y = a
            · rw [w, va_up_self, va_up_self]
            · rw [va_up_ne _ _ w, va_up_ne _ _ w, va_up_ne _ _ w]
          rw [hvv]
          have hlv2 : c_lv M2 = x_gT n (c_lv (mm a)) := by
            rw [j3, k3]
            by_cases w : u = r ∧ v + 1 = n - r + 1
            · rw [if_pos w]
            · rw [if_neg w, x_gTT]
          have hk2 := c_frt k2 j2
          have hR2 : c_R (mm a) n b → c_R M2 n b := fun hR => j4 (k4 hR)
          obtain ⟨hc1, hc2⟩ := hc u v (by omega) (by omega)
          have hq1 : (13 * u + v) / 13 = u := by omega
          have hq2 : (13 * u + v) % 13 = v := by omega
          rw [hc1]
          have hcz : lg_cmp (nL (c u v)) 0 = 0 ↔ c u v = 0 := nL_eq (b := 0) (by omega) (by decide)
          refine ⟨fun z => ?_, fun z => ?_⟩
          · intro z1 e1
            rw [e1]
            have hW' : W ++ (x_tuW c (13 * u + v) f ++ [10]) = U ++ (x_tuW c (13 * (r + 1)) true ++ [10]) := by
              rw [← hW]
              show _ = W ++ (x_tuW c (13 * u + v + 1) f ++ [10])
              have e : x_tuW c (13 * u + v + 1) f = x_tuW c (13 * u + v) f := by
                rw [x_tuW, hq1, hq2, if_pos (hcz.1 z)]
              rw [e]
            exact ihv (by omega) f q' l' pl' pf' g' gd' _ _ W M2 j1 hk2 (by rw [if_neg (by omega)]; exact hlv2) hR2 hI1 (by rw [j5, j6]; exact hb1) hW'
          · have hcn : ¬ c u v = 0 := fun w => z (hcz.2 w)
            have e : x_tuW c (13 * u + v + 1) f = (if f = true then [] else [32, 43, 32]) ++ (x_term (c u v) u v ++ x_tuW c (13 * u + v) false) := by
              rw [x_tuW, hq1, hq2, if_neg hcn]
            have hW' : W ++ ((if f = true then [] else [32, 43, 32]) ++ (x_term (c u v) u v ++ (x_tuW c (13 * u + v) false ++ [10]))) = U ++ (x_tuW c (13 * (r + 1)) true ++ [10]) := by
              rw [← hW]
              show _ = W ++ (x_tuW c (13 * u + v + 1) f ++ [10])
              rw [e]
              simp only [List.append_assoc]
            have term : ∀ (y0 : Nat), y0 < 32 → x_str y0 = (if f = true then [] else [32, 43, 32]) → w279_L60 (w279_L7 cm np ns pa sa pp ss a mc ms post (u + 1)) (w279_L22 (w279_L7 cm np ns pa sa pp ss a mc ms post (u + 1)) cm np ns pa sa pp ss a mc ms post (v + 1)) cm np ns pa sa pp ss a mc ms post (nI u) (nI v) (nL (c u v)) y0 d1 d2 d3 d4 d5 q' l' pl' pf' g' gd' q_o l_o o_r g_o g_t (va_up mm a M2) (kc + c_pc M1 n) (ks + c_ps M1 n) := by
              intro y0 hy0 ey0
              rw [← ey0] at hW'
              refine c_sub2 (V := x_str y0) (W := x_term (c u v) u v ++ (x_tuW c (13 * u + v) false ++ [10])) (c_text hy0) hI1 hb1 (pr_len hM hW') (fun m s' q2 l2 pl2 pf2 g2 gd2 hI2 _ hb2 => ?_)
              have hW2 : (W ++ x_str y0) ++ (x_term (c u v) u v ++ (x_tuW c (13 * u + v) false ++ [10])) = U ++ (x_tuW c (13 * (r + 1)) true ++ [10]) := by rw [List.append_assoc]; exact hW'
              refine c_sub2 (V := x_term (c u v) u v) (W := x_tuW c (13 * u + v) false ++ [10]) (c_term (by omega) (by omega) (by omega)) hI2 hb2 (pr_len hM hW2) (fun m s' q3 l3 pl3 pf3 g3 gd3 hI3 _ hb3 => ?_)
              intro z1 e1
              rw [e1]
              exact ihv (by omega) false q3 l3 pl3 pf3 g3 gd3 _ _ _ M2 j1 hk2 (by rw [if_neg (by omega)]; exact hlv2) hR2 hI3 (by rw [j5, j6]; exact hb3) (by rw [List.append_assoc]; exact hW2)
            refine ⟨fun zf => ?_, fun zf => ?_⟩
            · have : f = false := by
                cases f
                · rfl
                · exact absurd zf (by decide)
              exact term 4 (by decide) (by rw [x_st4, this]; rfl)
            · have : f = true := by
                cases f
                · exact absurd rfl zf
                · rfl
              exact term 1 (by decide) (by rw [x_st123.1, this]; rfl)
      exact inner (n - r + 1) (Nat.le_refl _) f q' l' pl' pf' g' gd' kc ks W M1 k1 k2 (by
        rw [k3]
        by_cases w : u = r
        · rw [if_pos (by omega), if_pos ⟨w, rfl⟩]
        · rw [if_neg (by omega), if_neg (fun z => w z.1)]) k4 hI1 hb1 hW
  unfold w279_wp
  refine ⟨ha, fun z36 e36 => ⟨r + 1 + 1, ?_⟩⟩
  rw [e36, h.1.2.1, ← pk_m1 r]
  have hpc := c_pcb (mm a) n
  have := outer (r + 1) (Nat.le_refl _) true q_b l_b pl pf g gd 0 0 U (mm a) h (c_frr _) (by rw [if_pos rfl]) (fun hR => hR) hI (by unfold pr_b at hb ⊢; omega) rfl
  rw [c_vid] at this
  exact this
end CTT
