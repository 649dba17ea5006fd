/-! PURE, the reference: make of what is told; weigh -/
section RWG
variable {L i m y n : Nat} {b iv gs gp fr fc gm gth ge gf gr gk gq gw gR gS go gz gl gsv : Nat → Int32} {nv : Nat → px_NV}
theorem r_mkM {post : (Nat → Int32) → (Nat → Int32) → (Nat → Int32) → (Nat → Int32) → (Nat → Int32) → (Nat → Int32) → (Nat → Int32) → (Nat → Int32) → (Nat → Int32) → (Nat → Int32) → (Nat → Int32) → (Nat → Int32) → (Nat → Int32) → (Nat → Int32) → (Nat → Int32) → (Nat → Int32) → (Nat → Int32) → (Nat → Int32) → (Nat → Int32) → (Nat → Int32) → (Nat → px_NV) → Prop} (hL : L ≤ 16384) (hi : i ≤ L) (ht : r_tat iv b L i) (hv : t_vb b L i 0 8 = nI 0)
    (h : ∀ iv1, r_tat iv1 b L (t_e b L i) → (∀ q, q ≠ 38 → q ≠ 39 → q ≠ 40 → iv1 q = iv q) → w98_wp (fun v206 v207 v208 v209 v210 v211 v212 v213 v214 v215 v216 v217 v218 v219 v220 v221 v222 v223 v224 => post v206 v207 v208 v209 v210 v211 v212 v213 v214 v215 v216 v217 v218 v219 v220 v221 v222 v223 gl gsv v224) (nI m) iv1 gs gp fr fc gm gth ge gf gr gk gq gw gR gS go gz b nv) : w102_wp post (nI m) iv gs gp fr fc gm gth ge gf gr gk gq gw gR gS go gz b gl gsv nv := by
  refine r_wordOf t_so9 hL hi ht.2.1 ht.2.2.1 ht.2.2.2 ?_
  rw [hv]
  refine r_nxt hL hi ht (fun iv1 s1 s2 => ?_)
  exact ⟨fun w => absurd rfl w, fun _ => h iv1 s1 s2⟩
theorem r_mkGr {post : (Nat → Int32) → (Nat → Int32) → (Nat → Int32) → (Nat → Int32) → (Nat → Int32) → (Nat → Int32) → (Nat → Int32) → (Nat → Int32) → (Nat → Int32) → (Nat → Int32) → (Nat → Int32) → (Nat → Int32) → (Nat → Int32) → (Nat → Int32) → (Nat → Int32) → (Nat → Int32) → (Nat → Int32) → (Nat → Int32) → (Nat → Int32) → (Nat → Int32) → (Nat → px_NV) → Prop} (hL : L ≤ 16384) (hi : i ≤ L) (ht : r_tat iv b L i) (hv : t_vb b L i 0 8 = nI 1)
    (h : ∀ iv1, r_tat iv1 b L (t_e b L i) → (∀ q, q ≠ 38 → q ≠ 39 → q ≠ 40 → iv1 q = iv q) → w99_wp (fun v185 v186 v187 v188 v189 v190 v191 v192 v193 v194 v195 v196 v197 v198 v199 v200 v201 v202 v203 v204 => post v185 v186 v187 v188 v189 v190 v191 v192 v193 v194 v195 v196 v197 v198 v199 v200 v201 v202 v203 gsv v204) (nI m) iv1 gs gp fr fc gm gth ge gf gr gk gq gw gR gS go gz b gl nv) : w102_wp post (nI m) iv gs gp fr fc gm gth ge gf gr gk gq gw gR gS go gz b gl gsv nv := by
  refine r_wordOf t_so9 hL hi ht.2.1 ht.2.2.1 ht.2.2.2 ?_
  rw [hv]
  refine r_nxt hL hi ht (fun iv1 s1 s2 => ?_)
  exact ⟨fun _ => ⟨fun w => absurd rfl w, fun _ => h iv1 s1 s2⟩, fun w => absurd w (by decide)⟩
theorem r_mkUn {post : (Nat → Int32) → (Nat → Int32) → (Nat → Int32) → (Nat → Int32) → (Nat → Int32) → (Nat → Int32) → (Nat → Int32) → (Nat → Int32) → (Nat → Int32) → (Nat → Int32) → (Nat → Int32) → (Nat → Int32) → (Nat → Int32) → (Nat → Int32) → (Nat → Int32) → (Nat → Int32) → (Nat → Int32) → (Nat → Int32) → (Nat → Int32) → (Nat → Int32) → (Nat → px_NV) → Prop} (hL : L ≤ 16384) (hi : i ≤ L) (ht : r_tat iv b L i) (hv : t_vb b L i 0 8 = nI 2)
    (h : ∀ iv1, r_tat iv1 b L (t_e b L i) → (∀ q, q ≠ 38 → q ≠ 39 → q ≠ 40 → iv1 q = iv q) → w100_wp (fun v165 v166 v167 v168 v169 v170 v171 v172 v173 v174 v175 v176 v177 v178 v179 v180 v181 v182 v183 => post v165 v166 v167 v168 v169 v170 v171 v172 v173 v174 v175 v176 v177 v178 v179 v180 v181 v182 gl gsv v183) (nI m) iv1 gs gp fr fc gm gth ge gf gr gk gq gw gR gS go gz b nv) : w102_wp post (nI m) iv gs gp fr fc gm gth ge gf gr gk gq gw gR gS go gz b gl gsv nv := by
  refine r_wordOf t_so9 hL hi ht.2.1 ht.2.2.1 ht.2.2.2 ?_
  rw [hv]
  refine r_nxt hL hi ht (fun iv1 s1 s2 => ?_)
  exact ⟨fun _ => ⟨fun _ => ⟨fun w => absurd rfl w, fun _ => h iv1 s1 s2⟩, fun w => absurd w (by decide)⟩, fun w => absurd w (by decide)⟩
theorem r_weigh {post : (Nat → Int32) → (Nat → Int32) → (Nat → Int32) → (Nat → Int32) → (Nat → Int32) → (Nat → Int32) → Prop} {vs : List Int32} {ie : Nat} (hL : L ≤ 16384) (hi : i ≤ L) (hy : y < 26) (hn : gth y = 0 ∨ (gth y = 1 ∧ ge y = nI n ∧ n ≤ 12)) (h43 : iv 43 = 0) (ht : r_tat iv b L i) (evs : vs = t_vl (t_it b L false L (t_e b L i))) (eie : ie = t_lp b L false L (t_e b L i)) (hk3 : t_k b L ie = 125)
    (hB0 : gth y = 0 → ∀ iv' gl', r_tat iv' b L (t_e b L ie) → r_Eq iv iv' → iv' 43 = 1 → post iv' gth ge gw b gl')
    (hB : gth y = 1 → ¬ vs.length = n → ∀ iv' gl', r_tat iv' b L (t_e b L ie) → r_Eq iv iv' → iv' 43 = 2 → post iv' gth ge gw b gl')
    (hG : gth y = 1 → vs.length = n → ∀ iv' gl' gw', r_tat iv' b L (t_e b L ie) → r_Eq iv iv' → iv' 43 = 0 → (∀ e, e < n → gw' (12 * y + e) = vs.getD e 0) → (∀ q, (∀ e, e < n → q ≠ 12 * y + e) → gw' q = gw q) → post iv' gth ge gw' b gl') : w103_wp post (nI y) iv gth ge gw b gl := by
  have hid := (t_el (b := b) hi).2.1
  have hie : ie ≤ L := by rw [eie]; exact t_lpl L _ hid
  have iny : vp_in (nI y) 26 := b_in hy (by omega)
  have hvl : vs.length ≤ L := by rw [evs]; exact Nat.le_trans (t_vln _) (t_itn L _)
  have done : ∀ (k : Nat) (iv1 gl1 : Nat → Int32), r_tat iv1 b L ie → r_Eq iv iv1 → iv1 43 = 0 → (∀ e, e < vs.length → e < 255 → gl1 e = vs.getD e 0) → w103_L6 post (k + 1) (nI y) (nI vs.length) iv1 gth ge gw b gl1 := fun k iv1 gl1 t1 t2 t3 t4 => by
    unfold w103_L6 w103_L82 w103_L119
    rw [t1.2.1, hk3, nI_clamp (show y < 2 ^ 31 by omega)]
    refine ⟨fun _ => ?_, fun w => absurd rfl w⟩
    refine r_nxt hL hie t1 (fun iv2 s1 s2 => ⟨iny, ?_⟩)
    have u2 : r_Eq iv iv2 := r_EqT t2 (fun q _ _ _ b4 b5 b6 _ => s2 q b4 b5 b6)
    have u3 : iv2 43 = 0 := by rw [s2 43 (by decide) (by decide) (by decide)]; exact t3
    refine r_may u3 (by decide) (fun w => ⟨fun w0 => t_10 w0, fun _ => ⟨iny, ?_⟩⟩) (fun w => ⟨fun _ => hB0 w _ gl1 (r_tatU s1 (fun q hq => va_up_ne _ _ (by omega))) (r_EqT u2 (fun q _ _ _ _ _ _ a7 => va_up_ne _ _ a7)) (va_up_self _ _ _), fun w0 => absurd rfl w0⟩)
    obtain ⟨g1, g2, g3⟩ := hn.resolve_left w
    rw [g2]
    refine ⟨fun w1 => r_may u3 (by decide) (fun w2 => absurd rfl w2) (fun _ => ⟨fun _ => hB g1 (fun q => w1 (by rw [q])) _ gl1 (r_tatU s1 (fun q hq => va_up_ne _ _ (by omega))) (r_EqT u2 (fun q _ _ _ _ _ _ a7 => va_up_ne _ _ a7)) (va_up_self _ _ _), fun w0 => absurd rfl w0⟩), fun w1 => r_may u3 (by decide) (fun _ => ⟨fun w0 => t_10 w0, fun _ => ⟨n + 1, ?_⟩⟩) (fun w2 => t_10 w2)⟩
    have hln : vs.length = n := (nI_eq (by omega) (by omega)).1 w1
    rw [hln] at t4 ⊢
    have put : ∀ (u e : Nat) (gw1 : Nat → Int32), e + u = n → (∀ e', e' < e → gw1 (12 * y + e') = vs.getD e' 0) → (∀ q, (∀ e', e' < n → q ≠ 12 * y + e') → gw1 q = gw q) → w103_L91 post (u + 1) (nI y) (nI n) (nI e) iv2 gth ge gw1 b gl1 := by
      intro u
      induction u with
      | zero =>
        intro e gw1 he h1 h2
        have : e = n := by omega
        subst this
        unfold w103_L91 w103_L119
        exact ⟨fun _ => hG g1 hln iv2 gl1 gw1 s1 u2 u3 h1 h2, fun w => absurd (nI_le (Nat.le_refl e) (by omega)) w⟩
      | succ u ih =>
        intro e gw1 he h1 h2
        have ix : (12 : Int32) * nI y + nI e = nI (12 * y + e) := b_ix12
        unfold w103_L91
        rw [ix, nI_clamp (show 12 * y + e < 2 ^ 31 by omega), nI_clamp (show e < 2 ^ 31 by omega)]
        refine ⟨fun w => absurd w (nI_ge (by omega) (by omega)), fun _ => ⟨b_in (by omega) (by omega), fun z1 e1 => ⟨b_in (by omega) (by omega), fun z2 e2 => ?_⟩⟩⟩
        rw [e2, nI_1]
        refine ih (e + 1) _ (by omega) (fun e' q => ?_) (fun q hq => ?_)
        · by_cases z : e' = e
          · rw [z, pk_us, e1]; exact t4 e (by omega) (by omega)
          · rw [pk_un (by omega)]; exact h1 e' (by omega)
        · rw [pk_un (hq e (by omega))]; exact h2 q hq
    exact put n 0 gw (by omega) (fun e' q => absurd q (Nat.not_lt_zero e')) (fun _ _ => rfl)
  have loop : ∀ (u j c : Nat) (pre : List Int32) (iv1 gl1 : Nat → Int32), j ≤ L → ie = t_lp b L false u j → vs = pre ++ t_vl (t_it b L false u j) → pre.length = c → r_tat iv1 b L j → r_Eq iv iv1 → iv1 43 = 0 → (∀ e, e < c → e < 255 → gl1 e = vs.getD e 0) → w103_L6 post (u + 1) (nI y) (nI c) iv1 gth ge gw b gl1 := by
    intro u
    induction u with
    | zero =>
      intro j c pre iv1 gl1 a1 a2 a3 a4 a7 a8 a9 a10
      have a2 : ie = j := a2
      rw [← a2] at a7
      have hz : t_vl (t_it b L false 0 j) = [] := rfl
      rw [hz, List.append_nil] at a3
      have e : c = vs.length := by rw [a3, a4]
      subst e
      exact done 0 iv1 gl1 a7 a8 a9 a10
    | succ u ih =>
      intro j c pre iv1 gl1 a1 a2 a3 a4 a7 a8 a9 a10
      have hlp : t_lp b L false (u + 1) j = if (t_is b L 2 j || (false && t_is b L 44 j)) = true then t_lp b L false u (t_e b L j) else j := rfl
      have hit : t_it b L false (u + 1) j = if t_is b L 2 j = true then some (t_v b L j) :: t_it b L false u (t_e b L j) else if (false && t_is b L 44 j) = true then none :: t_it b L false u (t_e b L j) else [] := rfl
      by_cases q : t_is b L 2 j = true
      · have hk : t_k b L j = 2 := of_decide_eq_true q
        have hadv := t_isj a1 (by decide) q
        rw [hlp, if_pos (by rw [q]; rfl)] at a2
        rw [hit, if_pos q] at a3
        have a3' : vs = (pre ++ [t_v b L j]) ++ t_vl (t_it b L false u (t_e b L j)) := by rw [a3, List.append_assoc]; rfl
        have hval : vs.getD c 0 = t_v b L j := by
          rw [a3, List.getD_eq_getElem?_getD, List.getElem?_append_right (by omega), a4, Nat.sub_self]; rfl
        have hcl : c < L := by
          have : vs.length = c + 1 + (t_vl (t_it b L false u (t_e b L j))).length := by
            have := congrArg List.length a3'
            rw [List.length_append, List.length_append, a4] at this
            exact this
          omega
        have go : ∀ (y0 : Int32) (d : Nat), y0 = nI d → d < 256 → (c < 255 → d = c) → (¬ c < 255 → d = 255) → w103_L33 (w103_L6 post (u + 1)) post (nI y) (nI c) y0 iv1 gth ge gw b gl1 := fun y0 d ey hd256 hd1 hd2 => by
          unfold w103_L33
          rw [ey, nI_clamp (show d < 2 ^ 31 by omega)]
          refine r_value hL a1 hk a7 ⟨b_in (by omega) (by omega), fun z6 e6 => ?_⟩
          refine r_nxt hL a1 a7 (fun iv2 s1 s2 => ?_)
          rw [e6, nI_1]
          refine ih (t_e b L j) (c + 1) (pre ++ [t_v b L j]) iv2 _ hadv.2 a2 a3' (by rw [List.length_append, a4]; rfl) s1 (r_EqT a8 (fun q _ _ _ b4 b5 b6 _ => s2 q b4 b5 b6)) (by rw [s2 43 (by decide) (by decide) (by decide)]; exact a9) (fun e he he2 => ?_)
          by_cases z : e = c
          · rw [z] at he2 ⊢
            rw [hd1 he2, pk_us]; exact hval.symm
          · have hne : e ≠ d := fun w => by
              by_cases w2 : c < 255
              · exact z (by rw [w, hd1 w2])
              · have := hd2 w2; omega
            rw [pk_un hne]; exact a10 e (by omega) he2
        unfold w103_L6
        rw [a7.2.1, hk]
        refine ⟨fun w => absurd w (by decide), fun _ => ⟨fun w => go 255 255 rfl (by decide) (fun z => absurd w (show ¬ nI 255 ≤ nI c from nI_ge (by omega) (by omega))) (fun _ => rfl), fun w => ?_⟩⟩
        have hc : c < 255 := Classical.byContradiction (fun z => w (show nI 255 ≤ nI c from nI_le (by omega) (by omega)))
        exact go (nI c) c rfl (by omega) (fun _ => rfl) (fun z => absurd hc z)
      · have qf := Bool.eq_false_iff.2 q
        rw [hlp, if_neg (by rw [qf]; exact Bool.noConfusion)] at a2
        rw [hit, if_neg q, if_neg (by exact Bool.noConfusion)] at a3
        have hz : t_vl [] = [] := rfl
        rw [hz, List.append_nil] at a3
        rw [← a2] at a7
        have e : c = vs.length := by rw [a3, a4]
        subst e
        exact done (u + 1) iv1 gl1 a7 a8 a9 a10
  unfold w103_wp
  refine r_nxt hL hi ht (fun iv1 s1 s2 => ⟨L + 1, ?_⟩)
  exact loop L (t_e b L i) 0 [] iv1 gl hid eie evs rfl s1 (fun q _ _ _ b4 b5 b6 _ => s2 q b4 b5 b6) (by rw [s2 43 (by decide) (by decide) (by decide)]; exact h43) (fun e he => absurd he (Nat.not_lt_zero e))
end RWG
