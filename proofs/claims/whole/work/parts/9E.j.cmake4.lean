/-! PURE, the class: make, whole -/
section CMY
variable {lm : Nat → Option Nat} {spare : Option Nat} {cm np ns a0 ho mc ms kc ks : Nat} {mm : Nat → px_MR} {st : Nat} {lt : Nat → Option x_LR} {sk sk1 : Nat → Nat → Nat} {pa sa hm : Nat → Nat} {pp : Nat → px_PR} {ss : Nat → px_SR} {sp sn sm : Nat → Nat} {sK : Nat → Nat → Nat → Int} {q : Nat} {d1 d2 d3 : Int32} {d5 : Option Nat} {q_o l_o : Nat} {o_r : Int32} {g_o g_t : Nat → Int32} {q_l q_m q_h l : Nat} {mf mz mh : Int32} {ml : Option Nat} {gl gm gh : Nat → Int64} {ge : Nat → Int32} {sv : Nat} {sg sf s2 sd sh sx smn sr se : Int32} {gn : Nat → Int32} {post : c_mkT} {x : Nat} {C : x_LR} {vs : List Int32} {num ask : Bool} {nf lw : Nat} {g0 gf : Nat → Nat} {v1 v2 fd co de : Int32} {gi : Nat → Int32}
theorem o_Okl (h : o_Ok l_o o_r g_o g_t q) {n : Nat} (hn : n ≤ q) : 2 ^ (n + 1) ≤ l_o := Nat.le_trans (Nat.pow_le_pow_right (by decide) (by omega)) h.2.2.1
theorem c_mid (hLX : c_LX lm a0 cm mm st lt sk np ns pp sp sn sm sK q) (hv : c_vac (mm a0)) (hg0 : g0 = c_lv (mm a0)) (hP : c_PW cm np ns mm pp ss sa sp sn sm sK l_o o_r g_o g_t q l mf mz mh ml gl gm gh) (hWT : c_WT lm mm lt st lw v1 v2 fd co de gi) (hH : c_mkH num ask lt sk sv sf s2 sd sh sx smn sr gn vs C sk1 nf gf) (ha0 : a0 < cm) (hx : x < 26) (hsg : sg = nI x) (hst : st + 1 < 2 ^ 31) (hmc : kc + x_mcc num ask l_o l g0 gf nf C.2.1 ≤ mc) (hms : ks + x_mcs num ask l_o l g0 gf nf C.2.1 ≤ ms)
    (h : ∀ ge' lm' spare' q_o' l_o' o' g' t' q_l' q_m' q_h' l' mf' mz' mh' ml' gl' gm' gh' mm' np' ns' pa' sa' pp' ss', c_mkQ lm cm st lt sk1 l_o l lw num g0 x C v1 v2 fd co de gi lm' spare' l_o' o' g' t' l' mf' mz' mh' ml' gl' gm' gh' mm' np' ns' sa' pp' ss' → post d1 d2 d3 (nI (st + 1)) spare' lm' ge' q_o' l_o' o' g' t' q_l' q_m' q_h' l' l' l' mf' mz' mh' ml' gl' gm' gh' sv sg sf s2 sd sh sx smn sr se gn mm' cm np' ns' hm pa' sa' pp' ss') :
    w176_L25 ho mc ms post (some a0) d1 d2 d3 (nI st) d5 lm ge q_o l_o o_r g_o g_t q_l q_m q_h l l l mf mz mh ml gl gm gh sv sg sf s2 sd sh sx smn sr se gn mm cm np ns hm pa sa pp ss kc ks := by
  obtain ⟨p1, p2, p3, p4, p5, p6⟩ := id hP
  have hq12 := p1.1
  unfold w176_L25
  refine ⟨fun e => (by cases e), fun a e => ?_⟩
  cases e
  refine c_at26 ?_
  rcases hH with ⟨hnum, hsf, hsk, p, n, k, R, hnm, hpm, hn, hC⟩ | ⟨hnum, f, A, hf, hsf, hA, hnf, hgf, hcase⟩
  · subst hsk
    subst hC
    subst hsf
    rw [t_lam]
    refine ⟨fun _ => ?_, fun a37 e => (by cases e)⟩
    have hC1 : (x_raw p n k R).2.1 = n := rfl
    rw [hC1] at hmc hms
    unfold x_mcc at hmc
    unfold x_mcs at hms
    rw [if_pos hnum] at hmc hms
    have hkn : min k n * n ≤ 12 * 12 := Nat.mul_le_mul (by omega) hn
    refine ⟨_, _, hmc, hms, ?_⟩
    refine c_mkN hnm ha0 hpm hn p2 p3 p4 p5 p1 hv (by rw [hg0]; exact Nat.le_refl _) (by rw [hg0]; have e : c_bgs (o_ln l_o n) (mm a0) n = x_bs (o_ln l_o n) (c_lv (mm a0)) n := rfl; rw [e]; omega) (fun ge' q_o' l_o' o' g' t' mm' q_l' q_m' q_h' l' mf' mz' mh' ml' gl' gm' gh' np' pa' sa' pp' ss' hmn => ?_)
    obtain ⟨m1, m2, m3, m4, m5, m6, m7, m8, m9, m10, sp', sn', sm', sK', M, n1, n2, n3, n4, n5, n6, n7, n8⟩ := hmn
    subst n5
    have hLX' : c_LX lm a0 cm (va_up mm a0 M) st lt sk1 np' (ns + 1) pp' sp' sn' sm' sK' (max q n) := c_LXp hLX (fun i hi => va_up_ne _ _ hi) (by omega) (by omega) m7 n1 (Nat.le_max_left _ _)
    refine c_L56 hx hsg ha0 (h _ _ _ _ _ _ _ _ _ _ _ _ _ _ _ _ _ _ _ _ _ _ _ _ _ _ (c_mkE (num := num) (g0 := g0) (l := l) (l_o := l_o) hLX' ha0 hx hst ?_ (Nat.le_max_right _ _) ?_ ⟨m2, m9, n3, n4, m10, fun z hz => ?_⟩ hWT (fun a ha => by rw [va_up_ne _ _ ha]) (fun a n' b ha hR => by rw [va_up_ne _ _ ha]; exact hR) m1 ?_))
    · rw [va_up_self]; exact n6
    · rw [va_up_self, n7, hg0]
    · by_cases w : z = ns
      · rw [w, n2]; exact Nat.le_max_right _ _
      · rw [(n1 z (by omega)).2.1]
        exact Nat.le_trans (p6 z (by omega)) (Nat.le_max_left _ _)
    · rw [if_pos hnum]; exact m3
  · obtain ⟨a1, l1, l2, l3, l4, l5, l6⟩ := c_LXl hLX hf hA
    subst hsf
    rw [t_la26 hf, l1]
    refine ⟨fun e => (by cases e), fun a37 e => ?_⟩
    cases e
    unfold x_mcc at hmc
    unfold x_mcs at hms
    rw [if_neg (by rw [hnum]; decide)] at hmc hms
    refine ⟨_, _, hmc, hms, ?_⟩
    have hAn : A.2.1 ≤ 12 := l4.2.2.1.1
    have ebc : ∀ n, c_bgc l_o (mm a0) n = x_bc l_o g0 n := fun n => by rw [hg0]; rfl
    have ebs : ∀ n, c_bgs l_o (mm a0) n = x_bs l_o g0 n := fun n => by rw [hg0]; rfl
    -- when it is made
    have fin : ∀ (q_o' l_o' : Nat) (o' : Int32) (g' t' : Nat → Int32) (mm' : Nat → px_MR) (np' : Nat) (pa' : Nat → Nat) (pp' : Nat → px_PR), sk1 = (if ask = true then va_up sk f (x_g7 A.2.1 (sk f)) else sk) → c_mkP ask mm a0 a1 cm np ns pa pp sp sn sm sK l_o q A C l_o' o' g' t' mm' np' pa' pp' → w176_L56 ho mc ms post (some a0) d1 d2 d3 (nI st) d5 lm ge q_o' l_o' o' g' t' q_l q_m q_h l l l mf mz mh ml gl gm gh sv sg (nI f) s2 sd sh sx smn sr se gn mm' cm np' ns hm pa' sa pp' ss (kc + ((if ask = true ∧ gf 7 < 2 ^ nf then 1 else 0) + (x_bc l_o g0 C.2.1 + C.2.1))) (ks + ((if ask = true ∧ gf 7 < 2 ^ nf then 2 ^ nf else 0) + (x_bs l_o g0 C.2.1 + 3 * C.2.1))) := by
      intro q_o' l_o' o' g' t' mm' np' pa' pp' hsk hmk
      obtain ⟨m1, m2, ⟨M1, M'', e1, e2, e3, e4, e5⟩, m4, m5, m6, m7, m8, m9⟩ := hmk
      have hkf : c_kn M1 A.2.1 A.2.2.1 (x_bg A.1 A.2.2.2.1) ∧ c_fr (mm a1) M1 ∧ c_lv M1 = (if ask = true then x_g7 A.2.1 (sk f) else sk f) ∧ (∀ n b, c_R (mm a1) n b → c_R M1 n b) := by
        have hk : c_kn (mm a1) A.2.1 A.2.2.1 (x_bg A.1 A.2.2.2.1) := l4.2.2.2.2.1
        by_cases w : ask = true
        · rw [if_pos w] at e2 ⊢
          have := c_Qk hk e2
          refine ⟨this.1, this.2.1, by rw [l6]; exact c_lvQ hk e2, fun n b hR => ?_⟩
          rcases e2.2.2.2 with z | z
          · have := hR.1; rw [z] at this; exact absurd this (by decide)
          · rw [z]; exact hR
        · rw [if_neg w] at e2 ⊢
          rw [e2]
          exact ⟨hk, c_frr _, l6.symm, fun _ _ h => h⟩
      obtain ⟨hk1, hf1, hlv1, hR1⟩ := hkf
      have hska : va_up sk f (c_lv M1) = sk1 := by
        rw [hsk, hlv1]
        by_cases w : ask = true
        · rw [if_pos w, if_pos w]
        · rw [if_neg w, if_neg w]
          funext i
          by_cases u : i = f
          · rw [u, va_up_self]
          · rw [va_up_ne _ _ u]
      have hLX1 := c_LXa hLX hf l1 hA hk1 hf1
      rw [hska] at hLX1
      subst e1
      have hLX' : c_LX lm a0 cm (va_up (va_up mm a1 M1) a0 M'') st lt sk1 np' ns pp' sp sn sm sK (max q C.2.1) := c_LXp hLX1 (fun i hi => va_up_ne _ _ hi) m4 (Nat.le_refl _) m7 (fun _ _ => ⟨rfl, rfl, rfl, rfl⟩) (Nat.le_max_left _ _)
      refine c_L56 hx hsg ha0 (h _ _ _ _ _ _ _ _ _ _ _ _ _ _ _ _ _ _ _ _ _ _ _ _ _ _ (c_mkE (num := num) (g0 := g0) (l := l) (l_o := l_o) hLX' ha0 hx hst ?_ (Nat.le_max_right _ _) ?_ ⟨m2, m8, p3, p4, m9, fun z hz => Nat.le_trans (p6 z hz) (Nat.le_max_left _ _)⟩ hWT (fun a ha => by rw [va_up_ne _ _ ha]; exact c_sta hf1) (fun a n' b ha hR => ?_) m1 ?_))
      · rw [va_up_self]; exact e3
      · rw [va_up_self, e4, hg0]
      · rw [va_up_ne _ _ ha]
        by_cases u : a = a1
        · rw [u, va_up_self]; rw [u] at hR; exact hR1 _ _ hR
        · rw [va_up_ne _ _ u]; exact hR
      · rw [if_neg (by rw [hnum]; decide)]
    rcases hcase with ⟨c1, c2, c3, c4, c5⟩ | ⟨c1, c2, c3, c4, c5⟩ | ⟨c1, c2, c3, g, B, c4, c5, c6, c7, c8, c9⟩ | ⟨c1, c2, c3, c4, c5, c6, c7, c8, c9⟩
    · subst c1
      have hC1 : C.2.1 = A.2.1 := by rw [c5]; rfl
      refine c_mk3 (A := A) ha0 l2 (fun e => l3 e.symm) p2 p5 p1 l4 hv (by rw [c3]; exact t_lam) ?_ ?_ (fun q_o' l_o' o' g' t' mm' np' pa' pp' hmk => ?_)
      · rw [ebc, hC1]; exact Nat.le_add_left _ _
      · rw [ebs, hC1]; exact Nat.le_add_left _ _
      · rw [← c5] at hmk
        exact fin _ _ _ _ _ _ _ _ _ (by rw [c2, c4]; rfl) (by rw [c2]; exact hmk)
    · have hC1 : C.2.1 = A.2.1 := by rw [c5]; rfl
      refine c_mk7 (A := A) c1 ha0 l2 (fun e => l3 e.symm) p2 p5 p1 l4 hv (by rw [c3]; exact t_lam) ?_ ?_ (fun q_o' l_o' o' g' t' mm' np' pa' pp' hmk => ?_)
      · rw [ebc, hC1]; exact Nat.le_add_left _ _
      · rw [ebs, hC1]; exact Nat.le_add_left _ _
      · rw [← c5] at hmk
        exact fin _ _ _ _ _ _ _ _ _ (by rw [c2, c4]; rfl) (by rw [c2]; exact hmk)
    · have hC1 : C.2.1 = A.2.1 + B.2.1 := by rw [c9]; rfl
      obtain ⟨a2, y1, y2, y3, y4, y5, y6⟩ := c_LXl hLX c4 c6
      refine c_mk6 (A := A) (B := B) (a2 := a2) c1 ha0 l2 y2 (fun e => l3 e.symm) (fun e => y3 e.symm) p2 p5 p1 l4 y4 c7 c8 hv (by rw [c5, t_la26 c4]; exact y1) ?_ ?_ (fun q_o' l_o' o' g' t' mm' np' pa' pp' hmk => ?_)
      · rw [ebc, hC1]; exact Nat.le_add_left _ _
      · rw [ebs, hC1]; exact Nat.le_add_left _ _
      · rw [← c9] at hmk
        exact fin _ _ _ _ _ _ _ _ _ (by rw [c2, c3]; rfl) (by rw [c2]; exact hmk)
    · have hrb := c_rcb (mm a1) A.2.1
      rw [← l6] at hrb
      refine c_mk45 (A := A) (vs := vs) c1 ha0 l2 (fun e => l3 e.symm) p2 p5 p1 l4 hv (by rw [c3]; exact t_lam) c4 c5 c6 c7 ?_ ?_ (fun q_o' l_o' o' g' t' mm' np' pa' pp' hmk => ?_)
      · rw [ebc, ← c9, c2, hnf, hgf]
        refine Nat.add_le_add_right (Nat.le_trans hrb.1 ?_) _
        by_cases w : sk f 7 < 2 ^ A.2.1
        · rw [if_pos w, if_pos ⟨rfl, w⟩]; exact Nat.le_refl _
        · rw [if_neg w]; exact Nat.zero_le _
      · rw [ebs, ← c9, c2, hnf, hgf]
        refine Nat.add_le_add_right (Nat.le_trans hrb.2 ?_) _
        by_cases w : sk f 7 < 2 ^ A.2.1
        · rw [if_pos w, if_pos ⟨rfl, w⟩]; exact Nat.le_refl _
        · rw [if_neg w]; exact Nat.zero_le _
      · rw [← c9] at hmk
        exact fin _ _ _ _ _ _ _ _ _ (by rw [c2, c8]; rfl) (by rw [c2]; exact hmk)
theorem c_make (hL : c_LT lm spare cm mm st lt sk np ns pp sp sn sm sK q) (hg0 : g0 = if sk 26 6 = 0 then x_g0 else sk 26) (hP : c_PW cm np ns mm pp ss sa sp sn sm sK l_o o_r g_o g_t q l mf mz mh ml gl gm gh) (hWT : c_WT lm mm lt st lw v1 v2 fd co de gi) (hH : c_mkH num ask lt sk sv sf s2 sd sh sx smn sr gn vs C sk1 nf gf) (hx : x < 26) (hsg : sg = nI x) (hst : st + 1 < 2 ^ 31) (hmc : (if sk 26 6 = 0 then 13 else 0) + x_mcc num ask l_o l g0 gf nf C.2.1 ≤ mc) (hms : (if sk 26 6 = 0 then 155 else 0) + x_mcs num ask l_o l g0 gf nf C.2.1 ≤ ms)
    (h : ∀ ge' lm' spare' q_o' l_o' o' g' t' q_l' q_m' q_h' l' mf' mz' mh' ml' gl' gm' gh' mm' cm' np' ns' hm' pa' sa' pp' ss', (∀ a, a < cm → hm' a = hm a) → cm ≤ cm' → c_mkQ lm cm' st lt sk1 l_o l lw num g0 x C v1 v2 fd co de gi lm' spare' l_o' o' g' t' l' mf' mz' mh' ml' gl' gm' gh' mm' np' ns' sa' pp' ss' → post d1 d2 d3 (nI (st + 1)) spare' lm' ge' q_o' l_o' o' g' t' q_l' q_m' q_h' l' l' l' mf' mz' mh' ml' gl' gm' gh' sv sg sf s2 sd sh sx smn sr se gn mm' cm' np' ns' hm' pa' sa' pp' ss') :
    w176_wp ho mc ms post d1 d2 d3 (nI st) spare lm ge q_o l_o o_r g_o g_t q_l q_m q_h l l l mf mz mh ml gl gm gh sv sg sf s2 sd sh sx smn sr se gn mm cm np ns hm pa sa pp ss := by
  have hall : ∀ y a, lm y = some a → a < cm := fun y a e => by
    by_cases hy : y < 26
    · rcases hL.2.1 y hy with z | ⟨a', A, e1, e2, e3, _⟩
      · rw [z.1] at e; cases e
      · rw [e1] at e; cases e; exact e3
    · rw [hL.1 y (by omega)] at e; cases e
  unfold w176_wp
  refine ⟨fun e => ?_, fun a e => ?_⟩
  · subst e
    have h26 : ∀ k, sk 26 k = 0 := by
      rcases hL.2.2.2.1 with z | ⟨a, z, _⟩
      · exact z.2
      · cases z
    rw [if_pos (h26 6)] at hmc hms hg0
    refine ⟨by omega, by omega, fun q7 => ⟨12, 140, by omega, by omega, ?_⟩⟩
    refine ⟨by omega, by omega, fun q1 => ⟨by omega, by omega, fun q2 => ⟨by omega, by omega, fun q3 => ⟨by omega, by omega, fun q4 => ⟨by omega, by omega, fun q5 => ⟨by omega, by omega, fun q6 => ⟨by omega, by omega, fun q7 => ⟨by omega, by omega, fun q8 => ?_⟩⟩⟩⟩⟩⟩⟩⟩
    refine ⟨rfl, rfl, rfl, rfl, rfl, rfl, rfl, rfl, rfl, fun hm1 mm1 ehm emm => ⟨?_, ?_⟩⟩
    · funext y
      unfold px_mo
      cases hy : lm y with
      | none => rfl
      | some a =>
        have := hall y a hy
        show some (hm a) = some (hm1 a)
        rw [ehm, va_up_ne _ _ (by omega)]
    · subst emm
      have hnew : va_up mm cm (px_nR ho q1 q2 q3 q4 q5 q6 q7 q8 0 0 0 0 0 0) cm = px_nR ho q1 q2 q3 q4 q5 q6 q7 q8 0 0 0 0 0 0 := va_up_self _ _ _
      obtain ⟨p1, p2, p3, p4, p5, p6⟩ := hP
      refine c_mid (a0 := cm) (cm := cm + 1) (c_LTN hL) (by rw [hnew]; exact c_va0 _ _ _ _ _ _ _ _ _ _ _ _ _ _ _) (by rw [hnew, c_lv0]; exact hg0) ⟨p1, p2, p3, p4, fun i hi e y hy => ?_, p6⟩ ⟨hWT.1, hWT.2.1, fun y z a b A B hy hz ey ez eA eB e1 e2 => ?_⟩ hH (Nat.lt_succ_self cm) hx hsg hst (by omega) (by omega) (fun ge' lm' spare' q_o' l_o' o' g' t' q_l' q_m' q_h' l' mf' mz' mh' ml' gl' gm' gh' mm' np' ns' pa' sa' pp' ss' hQ => h _ _ _ _ _ _ _ _ _ _ _ _ _ _ _ _ _ _ _ _ _ _ _ _ _ _ _ _ (fun a ha => by rw [ehm, va_up_ne _ _ (by omega)]) (Nat.le_succ cm) hQ)
      · by_cases w : i = cm
        · rw [w, hnew] at hy; exact absurd hy (by intro q; cases q)
        · rw [va_up_ne _ _ w] at hy
          exact p5 i (by omega) e y hy
      · have ha := hall y a ey
        have hb := hall z b ez
        rw [va_up_ne _ _ (show a ≠ cm by omega)] at e1 ⊢
        rw [va_up_ne _ _ (show b ≠ cm by omega)] at e2 ⊢
        exact hWT.2.2 y z a b A B hy hz ey ez eA eB e1 e2
  · subst e
    obtain ⟨x1, x2, x3, x4⟩ := c_LTX hL
    have hne : ¬ sk 26 6 = 0 := by
      rw [x4]
      have h16 : 16 ≤ (mm a).2.2.1 6 := x3.1
      show ¬ (mm a).2.2.1 6 = 0
      omega
    rw [if_neg hne] at hmc hms hg0
    exact c_mid (a0 := a) x1 x3 (by rw [hg0, x4]) hP hWT hH x2 hx hsg hst (by omega) (by omega) (fun ge' lm' spare' q_o' l_o' o' g' t' q_l' q_m' q_h' l' mf' mz' mh' ml' gl' gm' gh' mm' np' ns' pa' sa' pp' ss' hQ => h _ _ _ _ _ _ _ _ _ _ _ _ _ _ _ _ _ _ _ _ _ _ _ _ _ _ _ _ (fun _ _ => rfl) (Nat.le_refl cm) hQ)
end CMY
