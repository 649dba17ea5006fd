/-! PURE, the class: tell, whole -/
theorem c_knw {M M' : px_MR} {n r : Nat} {b : Nat → Bool} (h : c_kn M n r b) (h1 : M'.2.1 = M.2.1) (h2 : M'.2.2.1 = M.2.2.1) (h3 : ∀ k, k ≠ 3 → M'.2.2.2.1 k = M.2.2.2.1 k) (h4 : M'.2.2.2.2 = M.2.2.2.2) : c_kn M' n r b := by
  unfold c_kn c_B c_K c_R c_LK c_P at *
  rw [h1, h2, h4, h3 6 (by decide), h3 7 (by decide), h3 5 (by decide)]
  obtain ⟨k1, k2, k3, k4⟩ := h
  refine ⟨k1, k2, fun k hk => ?_, k4⟩
  rw [h3 (20 + k) (by omega)]
  exact k3 k hk
theorem c_lvw {M M' : px_MR} (h1 : M'.2.1 = M.2.1) (h2 : M'.2.2.1 = M.2.2.1) (h3 : M'.2.2.2.1 5 = M.2.2.2.1 5) : c_lv M' = c_lv M := by
  funext k
  unfold c_lv
  rw [h1, h2, h3]
def c_tkQ (lm : Nat → Option Nat) (spare : Option Nat) (cm np ns st : Nat) (lt' : Nat → Option x_LR) (sk' : Nat → Nat → Nat) (pp : Nat → px_PR) (ss : Nat → px_SR) (sa : Nat → Nat) (sp sn sm : Nat → Nat) (sK : Nat → Nat → Nat → Int) (q l_o l lw' M T : Nat) (U : List Nat) (o' : Int32) (go' gt' : Nat → Int32) (l_b' : Nat) (pl' pf' : Int32) (gb' : Nat → Int32) (mf' mz' mh' : Int32) (ml' : Option Nat) (gl' gm' gh' : Nat → Int64) (vh' vg' : Option Nat) (v1' v2' v4' v7' v8' : Int32) (gi' : Nat → Int32) (mm' : Nat → px_MR) : Prop :=
  c_PW cm np ns mm' pp ss sa sp sn sm sK l_o o' go' gt' q l mf' mz' mh' ml' gl' gm' gh' ∧ c_LT lm spare cm mm' st lt' sk' np ns pp sp sn sm sK q ∧ c_WT lm mm' lt' st lw' v1' v2' v4' v7' v8' gi' ∧ (∀ a, vh' = some a → a < cm) ∧ (∀ a, vg' = some a → a < cm) ∧ pr_I M T l_b' pl' pf' gb' U
theorem c_vsT0 : ∀ v, v < 21 → 8 ≤ v → px_vs.getD v 0 = nI (if v = 20 then 0 else v - 2) := by decide
theorem c_vsT (v : Nat) (h1 : v < 21) (h2 : 8 ≤ v) : (px_vs.getD v 0 = 6 ↔ v = 8) ∧ (px_vs.getD v 0 = 7 ↔ v = 9) ∧ (px_vs.getD v 0 = 8 ↔ v = 10) ∧ (px_vs.getD v 0 = 9 ↔ v = 11) ∧ (px_vs.getD v 0 = 10 ↔ v = 12) ∧ (px_vs.getD v 0 = 11 ↔ v = 13) ∧ (px_vs.getD v 0 = 12 ↔ v = 14) ∧ (px_vs.getD v 0 = 13 ↔ v = 15) ∧ (px_vs.getD v 0 = 14 ↔ v = 16) ∧ (px_vs.getD v 0 = 15 ↔ v = 17) ∧ (px_vs.getD v 0 = 16 ↔ v = 18) ∧ (px_vs.getD v 0 = 17 ↔ v = 19) := by
  rw [c_vsT0 v h1 h2]
  have key : ∀ k, k < 18 → 5 < k → (nI (if v = 20 then 0 else v - 2) = nI k ↔ v = k + 2) := fun k hk hk2 => by
    rw [nI_eq (by split <;> omega) (by omega)]
    split <;> omega
  exact ⟨key 6 (by decide) (by decide), key 7 (by decide) (by decide), key 8 (by decide) (by decide), key 9 (by decide) (by decide), key 10 (by decide) (by decide), key 11 (by decide) (by decide), key 12 (by decide) (by decide), key 13 (by decide) (by decide), key 14 (by decide) (by decide), key 15 (by decide) (by decide), key 16 (by decide) (by decide), key 17 (by decide) (by decide)⟩
abbrev c_tlT := Int32 → Int32 → Int32 → Int32 → Option Nat → Nat → Nat → Int32 → (Nat → Int32) → (Nat → Int32) → Nat → Int32 → Int32 → Int32 → Int32 → Int32 → Int32 → Int32 → Int32 → Int32 → (Nat → Int32) → Nat → Nat → Int32 → Int32 → (Nat → Int32) → (Nat → Int32) → Nat → Nat → Nat → Nat → Nat → Nat → Int32 → Int32 → Int32 → Option Nat → (Nat → Int64) → (Nat → Int64) → (Nat → Int64) → Int64 → Int64 → Int64 → Int64 → Int64 → Int64 → Int64 → Int64 → Int64 → Int64 → Int64 → Int64 → Nat → Nat → Nat → Nat → Nat → Nat → Option Nat → Option Nat → Int32 → Int32 → Int32 → Int32 → Int32 → Int32 → Int32 → Int32 → Int32 → (Nat → Int32) → (Nat → Int32) → (Nat → Int32) → (Nat → Int32) → (Nat → Int32) → (Nat → Int32) → (Nat → px_MR) → Prop
section CTV
variable {lm : Nat → Option Nat} {spare : Option Nat} {cm np ns a : Nat} {mm : Nat → px_MR} {st : Nat} {lt : Nat → Option x_LR} {sk : Nat → Nat → Nat} {pp : Nat → px_PR} {sp sn sm : Nat → Nat} {sK : Nat → Nat → Nat → Int} {q f : Nat} {A : x_LR} {M1 : px_MR} {w' : Nat → Int32} {lw : Nat} {v1 v2 fd co de : Int32} {gi : Nat → Int32}
/-- other weights -/
theorem c_LTw (hL : c_LT lm spare cm mm st lt sk np ns pp sp sn sm sK q) (hT : c_WT lm mm lt st lw v1 v2 fd co de gi) (hf : f < 26) (hA : lt f = some A) (ha : lm f = some a) (h1 : M1.2.1 = (mm a).2.1) (h2 : M1.2.2.1 = (mm a).2.2.1) (h3 : ∀ k, k ≠ 3 → M1.2.2.2.1 k = (mm a).2.2.2.1 k) (h4 : M1.2.2.2.2 = (mm a).2.2.2.2) (hw : ∀ e, e < A.2.1 → M1.2.2.2.1 3 e = w' e) :
    c_LT lm spare cm (va_up mm a M1) st (va_up lt f (some (A.1, A.2.1, A.2.2.1, A.2.2.2.1, w'))) sk np ns pp sp sn sm sK q ∧ c_WT lm (va_up mm a M1) (va_up lt f (some (A.1, A.2.1, A.2.2.1, A.2.2.2.1, w'))) st lw v1 v2 fd co de gi := by
  obtain ⟨l1, l2, l3, l4, l5, l6⟩ := id hL
  obtain ⟨a', t1, hac, hG, hAq, hsk⟩ := c_LTl hL hf hA
  rw [ha] at t1
  cases t1
  have hst : ∀ b, (va_up mm a M1 b).2.1 11 = (mm b).2.1 11 := fun b => by
    by_cases w : b = a
    · rw [w, va_up_self, h1]
    · rw [va_up_ne _ _ w]
  have hlv : c_lv M1 = c_lv (mm a) := c_lvw h1 h2 (h3 5 (by decide))
  obtain ⟨g1, g2, g3, g4, g5, g6, g7, g8, g9⟩ := id hG
  have hk' : c_kn M1 A.2.1 A.2.2.1 (x_bg A.1 A.2.2.2.1) := c_knw g5 h1 h2 h3 h4
  have hG' : c_GL np ns pp sp sn sm sK M1 (A.1, A.2.1, A.2.2.1, A.2.2.2.1, w') := by
    refine ⟨by rw [h1]; exact g1, g2, g3, g4, hk', by rw [h3 6 (by decide)]; exact g6, hw, by rw [h3 2 (by decide), h4]; exact g8, by rw [h3 2 (by decide), h4]; exact g9⟩
  have hRk : ∀ b n' b', c_R (mm b) n' b' → c_R (va_up mm a M1 b) n' b' := fun b n' b' hR => by
    by_cases w : b = a
    · rw [w] at hR
      rw [w, va_up_self]
      unfold c_R at *
      rw [h1, h2, h3 7 (by decide)]; exact hR
    · rw [va_up_ne _ _ w]; exact hR
  refine ⟨⟨l1, fun x hx => ?_, l3, ?_, fun b hb => ?_, fun b c hb hc e => ?_⟩, hT.1, hT.2.1, fun x y b d A' B' hx hy ex ey eA eB e1 e2 => ?_⟩
  · by_cases w : x = f
    · subst w
      refine Or.inr ⟨a, _, ha, va_up_self _ _ _, hac, by rw [va_up_self]; exact hG', hAq, by rw [va_up_self, hlv]; exact hsk⟩
    · rw [va_up_ne _ _ w]
      rcases l2 x hx with z | ⟨b, A', e1, e2, e3, e4, e5, e6⟩
      · exact Or.inl z
      · have : b ≠ a := fun z => w (l3 x f b hx hf e1 (by rw [ha, z]))
        exact Or.inr ⟨b, A', e1, e2, e3, by rw [va_up_ne _ _ this]; exact e4, e5, by rw [va_up_ne _ _ this]; exact e6⟩
  · rcases l4 with z | ⟨b, e1, e2, e3, e4⟩
    · exact Or.inl z
    · have : b ≠ a := fun z => e4 f (by rw [ha, z])
      exact Or.inr ⟨b, e1, e2, by rw [va_up_ne _ _ this]; exact e3, e4⟩
  · rw [hst]
    refine ⟨?_, (l5 b hb).2⟩
    by_cases w : b = a
    · rw [w, va_up_self]; exact c_knv hk'
    · rw [va_up_ne _ _ w]; exact (l5 b hb).1
  · rw [hst, hst] at e
    exact l6 b c hb hc e
  · rw [hst] at e1 e2
    have old : ∀ z C, z < 26 → va_up lt f (some (A.1, A.2.1, A.2.2.1, A.2.2.2.1, w')) z = some C → ∃ C0, lt z = some C0 ∧ C0.1 = C.1 ∧ C0.2.1 = C.2.1 ∧ C0.2.2.1 = C.2.2.1 ∧ C0.2.2.2.1 = C.2.2.2.1 := fun z C hz e => by
      by_cases w : z = f
      · rw [w, va_up_self] at e
        cases e
        exact ⟨A, by rw [w]; exact hA, rfl, rfl, rfl, rfl⟩
      · rw [va_up_ne _ _ w] at e
        exact ⟨C, e, rfl, rfl, rfl, rfl⟩
    obtain ⟨A0, a1, a2, a3, a4, a5⟩ := old x A' hx eA
    obtain ⟨B0, b1, b2, b3, b4, b5⟩ := old y B' hy eB
    have := hT.2.2 x y b d A0 B0 hx hy ex ey a1 b1 e1 e2
    rw [a2, a3, a4, a5, b2, b3, b4, b5] at this
    exact ⟨this.1, fun q1 q2 => ⟨hRk _ _ _ (this.2 q1 q2).1, hRk _ _ _ (this.2 q1 q2).2.1, (this.2 q1 q2).2.2⟩⟩
end CTV
section CTW
variable {lm : Nat → Option Nat} {spare : Option Nat} {cm np ns a : Nat} {mm : Nat → px_MR} {st : Nat} {lt : Nat → Option x_LR} {sk : Nat → Nat → Nat} {pa sa : Nat → Nat} {pp : Nat → px_PR} {ss : Nat → px_SR} {sp sn sm : Nat → Nat} {sK : Nat → Nat → Nat → Int} {q : Nat} {q_o l_o : Nat} {o_r : Int32} {g_o g_t : Nat → Int32} {q_l q_m q_h l lw : Nat} {mf mz mh : Int32} {ml : Option Nat} {gl gm gh : Nat → Int64} {f f2 : Nat} {A B : x_LR} {mc ms M T q_b l_b : Nat} {pl pf d1 d2 d3 d4 : Int32} {d5 : Option Nat} {gb gd : Nat → Int32} {U V : List Nat} {w1 w2 w3 w4 w5 w6 w7 w8 w9 w10 w11 w12 : Int64} {sv : Nat} {sg sf s2 sd sh sx smn sr se : Int32} {gn : Nat → Int32} {vs : List Int32} {qk qr qg : Nat} {vh vg : Option Nat} {v1 v2 v3 v4 v5 v6 v7 v8 v9 : Int32} {gi gp gq gk gr gg : Nat → Int32} {post : c_tlT}
theorem c_tell (hP : c_PW cm np ns mm pp ss sa sp sn sm sK l_o o_r g_o g_t q l mf mz mh ml gl gm gh) (hL : c_LT lm spare cm mm st lt sk np ns pp sp sn sm sK q) (hT : c_WT lm mm lt st lw v1 v2 v4 v7 v8 gi) (hvh : ∀ a, vh = some a → a < cm) (hvg : ∀ a, vg = some a → a < cm) (hf : f < 26) (hA : lt f = some A) (ha : lm f = some a) (hsv : 8 ≤ sv ∧ sv < 21) (h4 : ∀ k, k < 4 → ∃ j, sk f (20 + k) * 4 ^ j = 4096) (h2 : sv = 16 ∨ sv = 19 → f2 < 26 ∧ s2 = nI f2 ∧ lt f2 = some B) (h16 : sv = 16 → B.2.1 = A.2.1) (h8 : sv = 8 → vs.length = A.2.1 ∧ ∀ j x, j < 160 → vs[j]? = some x → gn j = x) (hlw : lw ≤ 4096) (hI : pr_I M T l_b pl pf gb U) (hb : pr_b (x_tkC sv A B f f2 sk lw) (x_tkE sv A B f f2 sk lw) l_b T mc ms) (hV : ∀ V', x_PG sv A B V' → V' = V) (hM : min 65536 (U.length + V.length) ≤ M)
    (hp : ∀ q_o' o' go' gt' q_b' l_b' pl' pf' gb' gd' q_l' q_m' q_h' mf' mz' mh' ml' gl' gm' gh' w1' w2' w3' w4' w5' w6' w7' w8' w9' w10' w11' w12' qk' qr' qg' vh' vg' v1' v2' v3' v4' v5' v6' v7' v8' v9' gi' gp' gq' gk' gr' gg' mm', c_tkQ lm spare cm np ns st (x_tkA sv A vs f lt) (x_tkS sv A B f f2 sk) pp ss sa sp sn sm sK q l_o l (x_tkW sv A B lw) M T (U ++ V) o' go' gt' l_b' pl' pf' gb' mf' mz' mh' ml' gl' gm' gh' vh' vg' v1' v2' v4' v7' v8' gi' mm' → post d1 d2 d3 d4 d5 q_o' l_o o' go' gt' sv sg sf s2 sd sh sx smn sr se gn q_b' l_b' pl' pf' gb' gd' q_l' q_m' q_h' l l l mf' mz' mh' ml' gl' gm' gh' w1' w2' w3' w4' w5' w6' w7' w8' w9' w10' w11' w12' qk' qr' qg' (x_tkW sv A B lw) (x_tkW sv A B lw) (x_tkW sv A B lw) vh' vg' v1' v2' v3' v4' v5' v6' v7' v8' v9' gi' gp' gq' gk' gr' gg' mm') :
    w268r_wp lm cm np ns pa sa pp ss a mc ms post d1 d2 d3 d4 d5 q_o l_o o_r g_o g_t sv sg sf s2 sd sh sx smn sr se gn q_b l_b pl pf gb gd q_l q_m q_h l l l mf mz mh ml gl gm gh w1 w2 w3 w4 w5 w6 w7 w8 w9 w10 w11 w12 qk qr qg lw lw lw vh vg v1 v2 v3 v4 v5 v6 v7 v8 v9 gi gp gq gk gr gg mm := by
  obtain ⟨a', t1, hac, hG, hAq, hsk⟩ := c_LTl hL hf hA
  rw [ha] at t1
  cases t1
  obtain ⟨p1, p2, p3, p4, p5, p6⟩ := id hP
  have hk : c_kn (mm a) A.2.1 A.2.2.1 (x_bg A.1 A.2.2.2.1) := hG.2.2.2.2.1
  have hn := c_knn hk
  have h6 : ∀ S, S < 2 ^ A.2.1 → (mm a).2.2.2.1 6 S = x_sgn2 A.1 A.2.1 A.2.2.1 (x_Fg A.1 A.2.2.2.1) S := hG.2.2.2.2.2.1
  have hrA := x_rlen hk.1.2.2.1
  -- what is asked of the first alone
  have one : ∀ (M1 : px_MR) (q_o' : Nat) (o' : Int32) (go' gt' : Nat → Int32) (q_b' l_b' : Nat) (pl' pf' : Int32) (gb' gd' : Nat → Int32) (q_l' q_m' q_h' : Nat) (mf' mz' mh' : Int32) (ml' : Option Nat) (gl' gm' gh' : Nat → Int64) (w1' w2' w3' w4' w5' w6' w7' w8' w9' w10' w11' w12' : Int64), sv ≠ 8 → sv ≠ 19 → c_kn M1 A.2.1 A.2.2.1 (x_bg A.1 A.2.2.2.1) → c_fr (mm a) M1 → (c_R (mm a) A.2.1 (x_bg A.1 A.2.2.2.1) → c_R M1 A.2.1 (x_bg A.1 A.2.2.2.1)) → va_up sk f (c_lv M1) = x_tkS sv A B f f2 sk → c_MN ns sa sp sn sm sK l mf' mz' mh' ml' gl' gm' gh' → o_Ok l_o o' go' gt' q → pr_I M T l_b' pl' pf' gb' (U ++ V) → post d1 d2 d3 d4 d5 q_o' l_o o' go' gt' sv sg sf s2 sd sh sx smn sr se gn q_b' l_b' pl' pf' gb' gd' q_l' q_m' q_h' l l l mf' mz' mh' ml' gl' gm' gh' w1' w2' w3' w4' w5' w6' w7' w8' w9' w10' w11' w12' qk qr qg lw lw lw vh vg v1 v2 v3 v4 v5 v6 v7 v8 v9 gi gp gq gk gr gg (va_up mm a M1) := by
    intro M1 q_o' o' go' gt' q_b' l_b' pl' pf' gb' gd' q_l' q_m' q_h' mf' mz' mh' ml' gl' gm' gh' w1' w2' w3' w4' w5' w6' w7' w8' w9' w10' w11' w12' n8 n19 k1 k2 k3 k4 k5 k6 k7
    obtain ⟨g1, g2, g3⟩ := c_ask1 hP hL hT hf hA ha hac k1 k2 k3 rfl
    rw [k4] at g2
    have ew : x_tkW sv A B lw = lw := by unfold x_tkW x_slw; rw [if_neg (fun z => n19 (of_decide_eq_true z).1)]
    have eA : x_tkA sv A vs f lt = lt := by unfold x_tkA; rw [if_neg n8]
    rw [ew, eA] at hp
    exact hp _ _ _ _ _ _ _ _ _ _ _ _ _ _ _ _ _ _ _ _ _ _ _ _ _ _ _ _ _ _ _ _ _ _ _ _ _ _ _ _ _ _ _ _ _ _ _ _ _ _ _ _ _ ⟨⟨k6, g1.2.1, g1.2.2.1, k5, g1.2.2.2.2.1, g1.2.2.2.2.2⟩, g2, g3, hvh, hvg, k7⟩
  have vid : va_up mm a (mm a) = mm := c_vid mm a
  have sid : va_up sk f (c_lv (mm a)) = sk := by
    funext i
    by_cases w : i = f
    · rw [w, va_up_self, hsk]
    · rw [va_up_ne _ _ w]
  have hvs := c_vsT sv hsv.2 hsv.1
  unfold w268r_wp w268r_L244
  refine ⟨hsv.2, c_v172 hsv.2 ?_⟩
  rw [nI_clamp (show sv < 2 ^ 31 by omega)]
  refine ⟨b_in hsv.2 (by omega), fun z => ?_, fun z => ?_, fun z => ?_, fun z => ?_, fun z => ?_, fun z => ?_, fun z => ?_, fun z => ?_, fun z => ?_, fun z => ?_, fun z => ?_, fun z => ?_, fun z1 z2 z3 z4 z5 z6 z7 z8 z9 z10 z11 z12 => ?_⟩
  · have z := hvs.1.1 z
    subst z
    obtain ⟨e1, e2⟩ := h8 rfl
    have hV0 : V = [] := (hV [] (Or.inl ⟨rfl, rfl⟩)).symm
    rw [hk.1.1, show Int32.toNatClampNeg 0 = 0 from rfl, nI_clamp (show A.2.1 < 2 ^ 31 by omega)]
    refine ⟨hac, hac, hac, by decide, by decide, nI_pos (by omega), by omega, by omega, fun _ _ => rfl, fun g97 e97 mm3 e3 => ?_⟩
    subst e3
    have hw : ∀ e, e < A.2.1 → g97 e = vs.getD e 0 := fun e he => by
      rw [e97]
      unfold va_cpy
      rw [if_pos ⟨Nat.zero_le _, by omega⟩, Nat.sub_zero, Nat.zero_add]
      exact e2 e _ (by omega) (by rw [List.getD_eq_getElem?_getD, List.getElem?_eq_getElem (by omega)]; rfl)
    obtain ⟨r1, r2⟩ := c_LTw (M1 := ((mm a).1, (mm a).2.1, (mm a).2.2.1, va_up (mm a).2.2.2.1 3 g97, (mm a).2.2.2.2)) (w' := fun e => vs.getD e 0) hL hT hf hA ha rfl rfl (fun k hk => va_up_ne _ _ hk) rfl (fun e he => by show va_up (mm a).2.2.2.1 3 g97 3 e = _; rw [va_up_self]; exact hw e he)
    refine hp _ _ _ _ _ _ _ _ _ _ _ _ _ _ _ _ _ _ _ _ _ _ _ _ _ _ _ _ _ _ _ _ _ _ _ _ _ _ _ _ _ _ _ _ _ _ _ _ _ _ _ _ _ ⟨⟨p1, p2, p3, p4, c_pokup p5 (Nat.le_refl _) (fun e y hy => p5 a hac e y hy), p6⟩, r1, r2, hvh, hvg, ?_⟩
    rw [hV0, List.append_nil]
    exact hI
  · have z := hvs.2.1.1 z
    subst z
    have hVe : V = x_dg A.2.2.1 ++ [10] := (hV _ (Or.inr (Or.inl ⟨rfl, rfl⟩))).symm
    subst hVe
    rw [hk.1.2.1]
    refine ⟨hac, ?_⟩
    refine c_sub2 (V := x_dg A.2.2.1) (W := [10]) (c_num32 (by omega)) hI hb hM (fun m1 s1 q1 l1 pl1 pf1 g1 gd1 hI1 hM1 hb1 => ?_)
    refine c_sub (c_pput (c := 10) (by decide)) hI1 hb1 hM1 (fun m2 s2 q2 l2 pl2 pf2 g2 gd2 hI2 _ _ => ?_)
    rw [List.append_assoc] at hI2
    have := one (mm a) q_o o_r g_o g_t q2 l2 pl2 pf2 g2 gd2 q_l q_m q_h mf mz mh ml gl gm gh w1 w2 w3 w4 w5 w6 w7 w8 w9 w10 w11 w12 (by decide) (by decide) hk (c_frr _) (fun h => h) sid p4 p1 hI2
    rw [vid] at this
    exact this
  · have z := hvs.2.2.1.1 z
    subst z
    have hVe := (hV _ (Or.inr (Or.inr (Or.inl ⟨by decide, by decide, rfl⟩)))).symm
    subst hVe
    refine ⟨mc, ms, by omega, by omega, c_tellList (k := 0) (q := q) hac hk p1 hAq (by decide) (by rw [← hsk]; exact h4 0 (by decide)) hI (by rw [← hsk]; exact hb) hM (fun M1 q2 l2 pl2 pf2 g2 gd2 k1 k2 k3 k4 hI2 => one M1 q_o o_r g_o g_t q2 l2 pl2 pf2 g2 gd2 q_l q_m q_h mf mz mh ml gl gm gh w1 w2 w3 w4 w5 w6 w7 w8 w9 w10 w11 w12 (by decide) (by decide) k1 k2 k4 (by rw [k3, ← hsk]; rfl) p4 p1 hI2)⟩
  · have z := hvs.2.2.2.1.1 z
    subst z
    have hVe := (hV _ (Or.inr (Or.inr (Or.inl ⟨by decide, by decide, rfl⟩)))).symm
    subst hVe
    refine ⟨mc, ms, by omega, by omega, c_tellList (k := 1) (q := q) hac hk p1 hAq (by decide) (by rw [← hsk]; exact h4 1 (by decide)) hI (by rw [← hsk]; exact hb) hM (fun M1 q2 l2 pl2 pf2 g2 gd2 k1 k2 k3 k4 hI2 => one M1 q_o o_r g_o g_t q2 l2 pl2 pf2 g2 gd2 q_l q_m q_h mf mz mh ml gl gm gh w1 w2 w3 w4 w5 w6 w7 w8 w9 w10 w11 w12 (by decide) (by decide) k1 k2 k4 (by rw [k3, ← hsk]; rfl) p4 p1 hI2)⟩
  · have z := hvs.2.2.2.2.1.1 z
    subst z
    have hVe := (hV _ (Or.inr (Or.inr (Or.inl ⟨by decide, by decide, rfl⟩)))).symm
    subst hVe
    refine ⟨mc, ms, by omega, by omega, c_tellList (k := 2) (q := q) hac hk p1 hAq (by decide) (by rw [← hsk]; exact h4 2 (by decide)) hI (by rw [← hsk]; exact hb) hM (fun M1 q2 l2 pl2 pf2 g2 gd2 k1 k2 k3 k4 hI2 => one M1 q_o o_r g_o g_t q2 l2 pl2 pf2 g2 gd2 q_l q_m q_h mf mz mh ml gl gm gh w1 w2 w3 w4 w5 w6 w7 w8 w9 w10 w11 w12 (by decide) (by decide) k1 k2 k4 (by rw [k3, ← hsk]; rfl) p4 p1 hI2)⟩
  · have z := hvs.2.2.2.2.2.1.1 z
    subst z
    have hVe := (hV _ (Or.inr (Or.inr (Or.inl ⟨by decide, by decide, rfl⟩)))).symm
    subst hVe
    refine ⟨mc, ms, by omega, by omega, c_tellList (k := 3) (q := q) hac hk p1 hAq (by decide) (by rw [← hsk]; exact h4 3 (by decide)) hI (by rw [← hsk]; exact hb) hM (fun M1 q2 l2 pl2 pf2 g2 gd2 k1 k2 k3 k4 hI2 => one M1 q_o o_r g_o g_t q2 l2 pl2 pf2 g2 gd2 q_l q_m q_h mf mz mh ml gl gm gh w1 w2 w3 w4 w5 w6 w7 w8 w9 w10 w11 w12 (by decide) (by decide) k1 k2 k4 (by rw [k3, ← hsk]; rfl) p4 p1 hI2)⟩
  · have z := hvs.2.2.2.2.2.2.1.1 z
    subst z
    have hVe := (hV _ (Or.inr (Or.inr (Or.inr (Or.inl ⟨rfl, rfl⟩))))).symm
    subst hVe
    refine ⟨mc, ms, by omega, by omega, c_tellTut hac hk (fun i j _ _ => x_Tok hk.1.2.2.1 i j) hI (by rw [← hsk]; exact hb) hM (fun M1 q2 l2 pl2 pf2 g2 gd2 k1 k2 k3 k4 hI2 => one M1 q_o o_r g_o g_t q2 l2 pl2 pf2 g2 gd2 q_l q_m q_h mf mz mh ml gl gm gh w1 w2 w3 w4 w5 w6 w7 w8 w9 w10 w11 w12 (by decide) (by decide) k1 k2 k4 (by rw [k3, ← hsk]; rfl) p4 p1 hI2)⟩
  · have z := hvs.2.2.2.2.2.2.2.1.1 z
    subst z
    have hrb := c_rcb (mm a) A.2.1
    rw [← hsk] at hrb
    have hbb : pr_b (0 + c_rc (mm a) A.2.1) (0 + c_rs (mm a) A.2.1) l_b T mc ms := by
      have hb : pr_b (if sk f 7 < 2 ^ A.2.1 then 1 else 0) (if sk f 7 < 2 ^ A.2.1 then 2 ^ A.2.1 else 0) l_b T mc ms := hb
      unfold pr_b at hb ⊢
      omega
    have hb0 : c_rc (mm a) A.2.1 ≤ mc ∧ c_rs (mm a) A.2.1 ≤ ms := by
      unfold pr_b at hbb
      omega
    refine ⟨c_rc (mm a) A.2.1, c_rs (mm a) A.2.1, by omega, by omega, hac, c_bestB (w := fun e => (A.2.2.2.2 e).toInt) hac hk.1 hk.2.1 (fun e he => by rw [hG.2.2.2.2.2.2.1 e he]) (Nat.le_refl _) (Nat.le_refl _) (fun M1 G hQ hG1 => ?_)⟩
    have hVe := (hV _ (Or.inr (Or.inr (Or.inr (Or.inr (Or.inl ⟨rfl, G, hG1, rfl⟩)))))).symm
    subst hVe
    have hGl : G < 2 ^ A.2.1 := (hk.1.2.2.1.2.2.1 G hG1.1).1
    have hqk := c_Qk hk hQ
    refine c_sub (c_setLine (show G < 2 ^ 31 by omega)) hI hbb hM (fun m2 s2 q2 l2 pl2 pf2 g2 gd2 hI2 _ _ => ?_)
    exact one M1 q_o o_r g_o g_t q2 l2 pl2 pf2 g2 gd2 q_l q_m q_h mf mz mh ml gl gm gh w1 w2 w3 w4 w5 w6 w7 w8 w9 w10 w11 w12 (by decide) (by decide) hqk.1 hqk.2.1 (c_QRR hQ) (by rw [c_lvQ hk hQ, ← hsk]; rfl) p4 p1 hI2
  · have z := hvs.2.2.2.2.2.2.2.2.1.1 z
    subst z
    obtain ⟨hf2, es2, hB⟩ := h2 (Or.inl rfl)
    have e16 := h16 rfl
    obtain ⟨c, c1, hcc, hG2, hBq, hsk2⟩ := c_LTl hL hf2 hB
    subst es2
    refine c_at26 ?_
    rw [t_la26 hf2, c1]
    refine ⟨fun e => (by cases e), fun a198 e198 => ?_⟩
    cases e198
    have hk2 : c_kn (mm c) B.2.1 B.2.2.1 (x_bg B.1 B.2.2.2.1) := hG2.2.2.2.2.1
    have hcf : c = a ↔ f2 = f := ⟨fun w => hL.2.2.1 f2 f a hf2 hf (by rw [c1, w]) ha, fun w => by rw [w, ha] at c1; cases c1; rfl⟩
    have hcd : c = a → x_bg B.1 B.2.2.2.1 = x_bg A.1 A.2.2.2.1 := fun w => by
      rw [hcf.1 w, hA] at hB; cases hB; rfl
    have hrb := c_rcb (mm a) A.2.1
    have hrb2 := c_rcb (mm c) B.2.1
    rw [← hsk] at hrb
    rw [← hsk2] at hrb2
    have hbb : pr_b (c_remc mm a c A.2.1) (c_rems mm a c A.2.1) l_b T mc ms := by
      have hb : pr_b ((if sk f 7 < 2 ^ A.2.1 then 1 else 0) + (if f2 = f then 0 else if sk f2 7 < 2 ^ B.2.1 then 1 else 0) + 0) ((if sk f 7 < 2 ^ A.2.1 then 2 ^ A.2.1 else 0) + (if f2 = f then 0 else if sk f2 7 < 2 ^ B.2.1 then 2 ^ B.2.1 else 0) + 0) l_b T mc ms := hb
      unfold c_remc c_rems
      rw [e16] at hrb2 hb
      by_cases w : c = a
      · rw [if_pos w, if_pos w]
        rw [if_pos (hcf.1 w), if_pos (hcf.1 w)] at hb
        unfold pr_b at hb ⊢
        omega
      · rw [if_neg w, if_neg w]
        rw [if_neg (fun w2 => w (hcf.2 w2)), if_neg (fun w2 => w (hcf.2 w2))] at hb
        unfold pr_b at hb ⊢
        omega
    refine ⟨mc, ms, by omega, by omega, c_tellCom (q := q) (V := V) hac hcc hk (by rw [e16] at hk2; exact hk2) hcd p1 hAq (fun Tp hTp => hV _ (Or.inr (Or.inr (Or.inr (Or.inr (Or.inr (Or.inl ⟨rfl, Tp, hTp, rfl⟩))))))) hI hbb hM (fun mm' q2 l2 pl2 pf2 g2 gd2 hmm k1 k2 hI2 => ?_)⟩
    obtain ⟨g1, g2', g3⟩ := c_ask2 hP hL hT hf hf2 hA hB ha c1 hac hcc hmm k1 (by rw [e16]; exact k2)
    exact hp _ _ _ _ _ _ _ _ _ _ _ _ _ _ _ _ _ _ _ _ _ _ _ _ _ _ _ _ _ _ _ _ _ _ _ _ _ _ _ _ _ _ _ _ _ _ _ _ _ _ _ _ _ ⟨g1, g2', g3, hvh, hvg, hI2⟩
  · have z := hvs.2.2.2.2.2.2.2.2.2.1.1 z
    subst z
    have hVe := (hV _ (Or.inr (Or.inr (Or.inr (Or.inr (Or.inr (Or.inr (Or.inl ⟨rfl, rfl⟩)))))))).symm
    subst hVe
    refine ⟨mc, ms, by omega, by omega, c_tellChi (q := q) hac hk h6 p1 hAq hI hb hM (fun q2 l2 pl2 pf2 g2 gd2 hI2 => ?_)⟩
    have := one (mm a) q_o o_r g_o g_t q2 l2 pl2 pf2 g2 gd2 q_l q_m q_h mf mz mh ml gl gm gh w1 w2 w3 w4 w5 w6 w7 w8 w9 w10 w11 w12 (by decide) (by decide) hk (c_frr _) (fun h => h) sid p4 p1 hI2
    rw [vid] at this
    exact this
  · have z := hvs.2.2.2.2.2.2.2.2.2.2.1.1 z
    subst z
    have hVe := (hV _ (Or.inr (Or.inr (Or.inr (Or.inr (Or.inr (Or.inr (Or.inr (Or.inl ⟨rfl, rfl⟩))))))))).symm
    subst hVe
    refine ⟨mc, ms, by omega, by omega, c_tellSgn (q := q) hac hk h6 p1 hAq (by rw [← hsk]; exact h4 1 (by decide)) hI (by rw [← hsk]; exact hb) hM (fun M1 q2 l2 pl2 pf2 g2 gd2 k1 k2 k3 k4 hI2 => one M1 q_o o_r g_o g_t q2 l2 pl2 pf2 g2 gd2 q_l q_m q_h mf mz mh ml gl gm gh w1 w2 w3 w4 w5 w6 w7 w8 w9 w10 w11 w12 (by decide) (by decide) k1 k2 k4 (by rw [k3, ← hsk]; rfl) p4 p1 hI2)⟩
  · have z := hvs.2.2.2.2.2.2.2.2.2.2.2.1 z
    subst z
    obtain ⟨hf2, es2, hB⟩ := h2 (Or.inr rfl)
    obtain ⟨c, c1, hcc, hG2, hBq, hsk2⟩ := c_LTl hL hf2 hB
    subst es2
    refine c_at26 ?_
    rw [t_la26 hf2, c1]
    refine ⟨fun e => (by cases e), fun a198 e198 => ?_⟩
    cases e198
    have hk2 : c_kn (mm c) B.2.1 B.2.2.1 (x_bg B.1 B.2.2.2.1) := hG2.2.2.2.2.1
    have hcf : c = a ↔ f2 = f := ⟨fun w => hL.2.2.1 f2 f a hf2 hf (by rw [c1, w]) ha, fun w => by rw [w, ha] at c1; cases c1; rfl⟩
    have hsame : c = a → B.2.1 = A.2.1 ∧ B.2.2.1 = A.2.2.1 ∧ x_bg B.1 B.2.2.2.1 = x_bg A.1 A.2.2.2.1 := fun w => by
      rw [hcf.1 w, hA] at hB; cases hB; exact ⟨rfl, rfl, rfl⟩
    have hrb := c_rcb (mm a) A.2.1
    have hrb2 := c_rcb (mm c) B.2.1
    rw [← hsk] at hrb
    rw [← hsk2] at hrb2
    have hslw : ∀ {s0 s1 : Int32}, w_slow s0 s1 v1 v2 A.2.1 A.2.2.1 B.2.1 B.2.2.1 → x_slw 19 A B = true := fun h => decide_eq_true ⟨rfl, h.2.1, h.2.2⟩
    have hC : x_slw 19 A B = true → c_mrc mm a c A.2.1 B.2.1 lw ≤ x_tkC 19 A B f f2 sk lw ∧ c_mrs mm a c A.2.1 B.2.1 lw ≤ x_tkE 19 A B f f2 sk lw := fun hs => by
      have e1 : x_tkC 19 A B f f2 sk lw = (if sk f 7 < 2 ^ A.2.1 then 1 else 0) + (if f2 = f then 0 else if sk f2 7 < 2 ^ B.2.1 then 1 else 0) + (if 2 ^ A.2.1 ≤ lw then 0 else 3) := by
        unfold x_tkC
        rw [if_neg (by decide), if_neg (by decide), if_neg (by decide), if_pos (Or.inr hs)]
        by_cases w : 2 ^ A.2.1 ≤ lw
        · rw [if_pos w, if_pos (Or.inr w)]
        · rw [if_neg w, if_neg (show ¬ (19 = 16 ∨ 2 ^ A.2.1 ≤ lw) from fun z => z.elim (by decide) w)]
      have e2 : x_tkE 19 A B f f2 sk lw = (if sk f 7 < 2 ^ A.2.1 then 2 ^ A.2.1 else 0) + (if f2 = f then 0 else if sk f2 7 < 2 ^ B.2.1 then 2 ^ B.2.1 else 0) + (if 2 ^ A.2.1 ≤ lw then 0 else 3 * 2 ^ A.2.1) := by
        unfold x_tkE
        rw [if_neg (by decide), if_neg (by decide), if_neg (by decide), if_pos (Or.inr hs)]
        by_cases w : 2 ^ A.2.1 ≤ lw
        · rw [if_pos w, if_pos (Or.inr w)]
        · rw [if_neg w, if_neg (show ¬ (19 = 16 ∨ 2 ^ A.2.1 ≤ lw) from fun z => z.elim (by decide) w)]
      rw [e1, e2]
      unfold c_mrc c_mrs
      by_cases w : c = a
      · rw [if_pos w, if_pos w, if_pos (hcf.1 w), if_pos (hcf.1 w)]
        omega
      · rw [if_neg w, if_neg w, if_neg (fun w2 => w (hcf.2 w2)), if_neg (fun w2 => w (hcf.2 w2))]
        omega
    refine ⟨mc, ms, by omega, by omega, c_tellMin (q := q) (V := V) (C0 := x_tkC 19 A B f f2 sk lw) (S0 := x_tkE 19 A B f f2 sk lw) hac hcc hk hk2 hsame hlw p1 hAq (fun e1 e2 => (hT.2.2 f f2 a c A B hf hf2 ha c1 hA hB e1 e2).1) (fun V' hV' => hV V' (Or.inr (Or.inr (Or.inr (Or.inr (Or.inr (Or.inr (Or.inr (Or.inr (Or.inl ⟨rfl, hV'⟩)))))))))) (fun hs => (hC (hslw hs)).1) (fun hs => (hC (hslw hs)).2) hI hb hM (fun q2 l2 pl2 pf2 g2 gd2 qk' qr' qg' lw' vh' vg' gb' fd kp' lo' co' de' ta' gi' gp' gq' gk' gr' gg' mm' hans hJ hsl hvh' hvg' hI2 => ?_)⟩
    have bvh : ∀ y, vh' = some y → y < cm := fun y e => by
      rcases hvh' with w | w
      · exact hvh y (by rw [← w]; exact e)
      · rw [w] at e; cases e; exact hac
    have bvg : ∀ y, vg' = some y → y < cm := fun y e => by
      rcases hvg' with w | w
      · exact hvg y (by rw [← w]; exact e)
      · rw [w] at e; cases e; exact hcc
    obtain ⟨s1, s1a, s1b, s1c⟩ := (hL.2.2.2.2.1 a hac).2
    obtain ⟨s2', s2a, s2b, s2c⟩ := (hL.2.2.2.2.1 c hcc).2
    -- the new answer is kept
    have wt : ∀ lw2, (∀ b, (mm' b).2.1 11 = (mm b).2.1 11) → (B.2.2.1 ≤ A.2.2.1 → B.2.1 - B.2.2.1 ≤ A.2.1 - A.2.2.1 → c_R (mm' a) A.2.1 (x_bg A.1 A.2.2.2.1) ∧ c_R (mm' c) B.2.1 (x_bg B.1 B.2.2.2.1) ∧ 2 ^ A.2.1 ≤ lw2) → c_WT lm mm' lt st lw2 ((mm a).2.1 11) ((mm c).2.1 11) fd co' de' gi' := by
      intro lw2 hst hR
      refine ⟨Or.inr ⟨s1, s1b, s1c⟩, Or.inr ⟨s2', s2b, s2c⟩, fun x y b d A' B' hx hy ex ey eA eB e1 e2 => ?_⟩
      obtain ⟨b0, x1, x2, _⟩ := c_LTl hL hx eA
      rw [ex] at x1
      cases x1
      obtain ⟨d0, y1, y2, _⟩ := c_LTl hL hy eB
      rw [ey] at y1
      cases y1
      rw [hst] at e1 e2
      have eb := hL.2.2.2.2.2 b a x2 hac e1
      have ed := hL.2.2.2.2.2 d c y2 hcc e2
      subst eb
      subst ed
      have exf := hL.2.2.1 x f b hx hf ex ha
      have eyf := hL.2.2.1 y f2 d hy hf2 ey c1
      subst exf
      subst eyf
      rw [hA] at eA
      cases eA
      rw [hB] at eB
      cases eB
      exact ⟨hans, hR⟩
    rcases hsl with ⟨hs, elw, hR1, hR2⟩ | ⟨hns, elw, emm⟩
    · have hs' := hslw hs
      have ew : x_tkW 19 A B lw = lw' := by unfold x_tkW; rw [if_pos hs', elw]
      have eS : x_tkS 19 A B f f2 sk = va_up (va_up sk f (x_g7 A.2.1 (sk f))) f2 (x_g7 B.2.1 (va_up sk f (x_g7 A.2.1 (sk f)) f2)) := by
        unfold x_tkS
        rw [if_neg (by decide), if_neg (by decide), if_neg (by decide), if_pos (Or.inr hs')]
      rw [ew, eS] at hp
      have a71 := c_A7Z hk hJ.2.1 (Or.inl rfl) hR1
      have a72 := c_A7Z hk2 hJ.2.2 (Or.inl rfl) hR2
      obtain ⟨g1, g2', g3⟩ := c_ask2 hP hL hT hf hf2 hA hB ha c1 hac hcc hJ.1 a71 a72
      have hst : ∀ b, (mm' b).2.1 11 = (mm b).2.1 11 := fun b => by
        by_cases w1 : b = a
        · rw [w1]; exact a71.2.1.1 11 (by decide) (by decide)
        · by_cases w2 : b = c
          · rw [w2]; exact a72.2.1.1 11 (by decide) (by decide)
          · rw [hJ.1 b w1 w2]
      exact hp _ _ _ _ _ _ _ _ _ _ _ _ _ _ _ _ _ _ _ _ _ _ _ _ _ _ _ _ _ _ _ _ _ _ _ _ _ _ _ _ _ _ _ _ _ _ _ _ _ _ _ _ _ ⟨g1, g2', wt lw' hst (fun _ _ => ⟨hR1, hR2, by rw [elw]; exact Nat.le_max_right _ _⟩), bvh, bvg, hI2⟩
    · subst emm
      subst elw
      have key : x_slw 19 A B = true → c_R (mm' a) A.2.1 (x_bg A.1 A.2.2.2.1) ∧ c_R (mm' c) B.2.1 (x_bg B.1 B.2.2.2.1) ∧ 2 ^ A.2.1 ≤ lw' := fun hs => by
        have hs := of_decide_eq_true hs
        have hst : (mm' a).2.1 11 = v1 ∧ (mm' c).2.1 11 = v2 := Classical.byContradiction (fun w => hns ⟨w, hs.2.1, hs.2.2⟩)
        exact (hT.2.2 f f2 a c A B hf hf2 ha c1 hA hB hst.1 hst.2).2 hs.2.1 hs.2.2
      have ew : x_tkW 19 A B lw' = lw' := by
        unfold x_tkW
        by_cases w : x_slw 19 A B = true
        · rw [if_pos w]
          have := (key w).2.2
          omega
        · rw [if_neg w]
      have eS : x_tkS 19 A B f f2 sk = sk := by
        unfold x_tkS
        rw [if_neg (by decide), if_neg (by decide), if_neg (by decide)]
        by_cases w : x_slw 19 A B = true
        · rw [if_pos (Or.inr w)]
          obtain ⟨r1, r2, _⟩ := key w
          have e1 : va_up sk f (x_g7 A.2.1 (sk f)) = sk := by
            rw [hsk, c_lvR r1]; exact sid
          rw [e1, hsk2, c_lvR r2]
          funext i
          by_cases w : i = f2
          · rw [w, va_up_self, hsk2]
          · rw [va_up_ne _ _ w]
        · rw [if_neg (fun z => z.elim (fun z => by omega) w), if_neg (by decide)]
      rw [ew, eS] at hp
      exact hp _ _ _ _ _ _ _ _ _ _ _ _ _ _ _ _ _ _ _ _ _ _ _ _ _ _ _ _ _ _ _ _ _ _ _ _ _ _ _ _ _ _ _ _ _ _ _ _ _ _ _ _ _ ⟨hP, hL, wt lw' (fun _ => rfl) (fun q1 q2 => key (decide_eq_true ⟨rfl, q1, q2⟩)), bvh, bvg, hI2⟩
  · have hn12 : sv = 20 := by
      have a1 : sv ≠ 8 := fun w => z1 (hvs.1.2 w)
      have a2 : sv ≠ 9 := fun w => z2 (hvs.2.1.2 w)
      have a3 : sv ≠ 10 := fun w => z3 (hvs.2.2.1.2 w)
      have a4 : sv ≠ 11 := fun w => z4 (hvs.2.2.2.1.2 w)
      have a5 : sv ≠ 12 := fun w => z5 (hvs.2.2.2.2.1.2 w)
      have a6 : sv ≠ 13 := fun w => z6 (hvs.2.2.2.2.2.1.2 w)
      have a7 : sv ≠ 14 := fun w => z7 (hvs.2.2.2.2.2.2.1.2 w)
      have a8 : sv ≠ 15 := fun w => z8 (hvs.2.2.2.2.2.2.2.1.2 w)
      have a9 : sv ≠ 16 := fun w => z9 (hvs.2.2.2.2.2.2.2.2.1.2 w)
      have a10 : sv ≠ 17 := fun w => z10 (hvs.2.2.2.2.2.2.2.2.2.1.2 w)
      have a11 : sv ≠ 18 := fun w => z11 (hvs.2.2.2.2.2.2.2.2.2.2.1.2 w)
      have a12 : sv ≠ 19 := fun w => z12 (hvs.2.2.2.2.2.2.2.2.2.2.2.2 w)
      omega
    subst hn12
    have hVe := (hV _ (Or.inr (Or.inr (Or.inr (Or.inr (Or.inr (Or.inr (Or.inr (Or.inr (Or.inr ⟨rfl, rfl⟩)))))))))).symm
    subst hVe
    have hrb := c_rcb (mm a) A.2.1
    rw [← hsk] at hrb
    have hbb : pr_b (c_rc (mm a) A.2.1) (c_rs (mm a) A.2.1) l_b T mc ms := by
      have hb : pr_b (if sk f 7 < 2 ^ A.2.1 then 1 else 0) (if sk f 7 < 2 ^ A.2.1 then 2 ^ A.2.1 else 0) l_b T mc ms := hb
      unfold pr_b at hb ⊢
      omega
    refine ⟨mc, ms, by omega, by omega, c_tellRows (q0 := q) hac hG p2 p3 p4 p1 p6 p5 hI hbb hM (fun M1 q2 l2 pl2 pf2 g2 gd2 q_o' o' go' gt' q_l' q_m' q_h' mf' mz' mh' ml' gl' gm' gh' w1' w2' w3' w4' w5' w6' w7' w8' w9' w10' w11' w12' k1 k2 k3 k4 k5 k6 hI2 => one M1 q_o' o' go' gt' q2 l2 pl2 pf2 g2 gd2 q_l' q_m' q_h' mf' mz' mh' ml' gl' gm' gh' w1' w2' w3' w4' w5' w6' w7' w8' w9' w10' w11' w12' (by decide) (by decide) k1 k2 k4 (by rw [k3, ← hsk]; rfl) k5 k6 hI2)⟩
end CTW
