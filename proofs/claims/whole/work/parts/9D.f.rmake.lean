/-! PURE, the reference: make (dual, delete, contract, copy, sum) -/
section RMK
variable {L i m y p n r : Nat} {g : Nat → Int} {b iv gs gp fr fc gm gth ge gf gr gk gq gw gR gS go gz gl gsv : Nat → Int32} {nv : Nat → px_NV}
theorem r_gth1 (h : r_G y p n r g gth ge gf gr gk gq gR gS) : gth y = 1 ∧ y < 26 ∧ ge y = nI n ∧ gf y = nI p ∧ n ≤ 12 ∧ p < 256 := by
  obtain ⟨h0, piv, K, hL, hp⟩ := h
  refine ⟨hL.2.1, hL.1, hL.2.2.1, hL.2.2.2.1, h0.1, ?_⟩
  rcases hL.2.2.2.2.2.1 with q | q
  · rw [q]; decide
  · have := q.2.1; omega
theorem r_tatU {iv iv' : Nat → Int32} (h : r_tat iv b L i) (e : ∀ q, q = 37 ∨ q = 38 ∨ q = 39 ∨ q = 40 → iv' q = iv q) : r_tat iv' b L i := by
  obtain ⟨e1, e2, e3, e4⟩ := h
  exact ⟨by rw [e 37 (Or.inl rfl)]; exact e1, by rw [e 38 (Or.inr (Or.inl rfl))]; exact e2, by rw [e 39 (Or.inr (Or.inr (Or.inl rfl)))]; exact e3, by rw [e 40 (Or.inr (Or.inr (Or.inr rfl)))]; exact e4⟩
theorem r_mkDual {post : (Nat → Int32) → (Nat → Int32) → (Nat → Int32) → (Nat → Int32) → (Nat → Int32) → (Nat → Int32) → (Nat → Int32) → (Nat → Int32) → (Nat → Int32) → (Nat → Int32) → (Nat → Int32) → (Nat → Int32) → (Nat → Int32) → (Nat → Int32) → (Nat → Int32) → (Nat → Int32) → (Nat → Int32) → (Nat → Int32) → (Nat → Int32) → (Nat → Int32) → (Nat → px_NV) → Prop} (hL : L ≤ 16384) (hi : i ≤ L) (hm : m < 26) (hT : r_T go gz) (hV : r_V nv) (h43 : iv 43 = 0) (ht : r_tat iv b L i) (hv : t_vb b L i 0 8 = nI 3) (hjy : t_j b L (t_e b L i) < L) (hny : b (t_j b L (t_e b L i)) - 97 = nI y) (hy26 : y < 26) (hy : gth y = 0 ∨ r_G y p n r g gth ge gf gr gk gq gR gS)
    (hB : gth y = 0 → ∀ iv', r_tat iv' b L (t_e b L (t_e b L i)) → r_Eq iv iv' → iv' 43 = 1 → post iv' gs gp fr fc gm gth ge gf gr gk gq gw gR gS go gz b gl gsv nv)
    (hG : r_G y p n r g gth ge gf gr gk gq gR gS → ∀ iv' gs' gp' fr' fc' gm' gk' gq' gw' gR' gS' nv', r_tat iv' b L (t_e b L (t_e b L i)) → r_Eq iv iv' → iv' 43 = 0 → r_V nv' → r_G m p n (n - r) (x_fd n g) (upd gth m 1) (upd ge m (nI n)) (upd gf m (nI p)) (upd gr m (nI (n - r))) gk' gq' gR' gS' → (∀ e, e < 12 → gw' (12 * m + e) = 0) → r_kf m gk gq gw gR gS gk' gq' gw' gR' gS' → post iv' gs' gp' fr' fc' gm' (upd gth m 1) (upd ge m (nI n)) (upd gf m (nI p)) (upd gr m (nI (n - r))) gk' gq' gw' gR' gS' go gz b gl gsv nv') : w102_wp post (nI m) iv gs gp fr fc gm gth ge gf gr gk gq gw gR gS go gz b gl gsv nv := by
  have hi1 := (t_el (b := b) hi).2.1
  refine r_wordOf t_so9 hL hi ht.2.1 ht.2.2.1 ht.2.2.2 ?_
  rw [hv]
  refine r_nxt hL hi ht (fun iv1 s1 s2 => ?_)
  refine ⟨fun _ => ⟨fun _ => ⟨fun _ => ?_, fun w => absurd w (by decide)⟩, fun w => absurd w (by decide)⟩, fun w => absurd w (by decide)⟩
  refine r_letter hL hi1 hjy s1 (fun iv2 s3 s4 => ?_)
  rw [hny]
  have u2 : r_Eq iv iv2 := fun q _ _ _ b4 b5 b6 _ => by rw [s4 q b4 b5 b6, s2 q b4 b5 b6]
  have u3 : iv2 43 = 0 := by rw [s4 43 (by decide) (by decide) (by decide), s2 43 (by decide) (by decide) (by decide)]; exact h43
  refine ⟨fun _ => ⟨b_in hy26 (by omega), ?_⟩, fun w => absurd w (by decide)⟩
  rw [nI_clamp (show y < 2 ^ 31 by omega)]
  refine r_may u3 (by decide) (fun w => ⟨fun _ => ⟨fun w1 => absurd rfl w1, fun _ => ?_⟩, fun w0 => t_10 w0⟩) (fun w => ⟨fun w0 => absurd rfl w0, fun _ => ?_⟩)
  · have hG' := hy.resolve_left w
    unfold w102_L386
    exact r_dual hm hT hV hG' (fun iv' gs' gp' fr' fc' gm' gk' gq' gw' gR' gS' nv' a0 a1 a2 a3 a4 => hG hG' iv' gs' gp' fr' fc' gm' gk' gq' gw' gR' gS' nv' (r_tatU s3 (fun q hq => a0 q (by omega) (by omega) (by omega))) (r_EqT u2 (fun q b1 b2 b3 _ _ _ _ => a0 q b1 b2 b3)) (by rw [a0 43 (by decide) (by decide) (by decide)]; exact u3) a1 a2 a3 a4)
  · exact hB w _ (r_tatU s3 (fun q hq => va_up_ne _ _ (by omega))) (r_EqT u2 (fun q _ _ _ _ _ _ a7 => va_up_ne _ _ a7)) (va_up_self _ _ _)
/-- delete (4) and contract (5) -/
theorem r_mkMin {post : (Nat → Int32) → (Nat → Int32) → (Nat → Int32) → (Nat → Int32) → (Nat → Int32) → (Nat → Int32) → (Nat → Int32) → (Nat → Int32) → (Nat → Int32) → (Nat → Int32) → (Nat → Int32) → (Nat → Int32) → (Nat → Int32) → (Nat → Int32) → (Nat → Int32) → (Nat → Int32) → (Nat → Int32) → (Nat → Int32) → (Nat → Int32) → (Nat → Int32) → (Nat → px_NV) → Prop} {v n' U ie : Nat} {k : Nat → Nat} {vs : List Int32} (hL : L ≤ 16384) (hi : i ≤ L) (hm : m < 26) (hT : r_T go gz) (hV : r_V nv) (h43 : iv 43 = 0) (ht : r_tat iv b L i) (hv : t_vb b L i 0 8 = nI v) (hv45 : v = 4 ∨ v = 5) (hjy : t_j b L (t_e b L i) < L) (hny : b (t_j b L (t_e b L i)) - 97 = nI y) (hy26 : y < 26) (evs : vs = t_vl (t_it b L false L (t_e b L (t_e b L (t_e b L i))))) (eie : ie = t_lp b L false L (t_e b L (t_e b L (t_e b L i)))) (hk3 : t_k b L ie = 125) (hy : gth y = 0 ∨ r_G y p n r g gth ge gf gr gk gq gR gS)
    (hS : gth y = 1 → t_rsg (nI n) vs (-1) = true → t_sts vs vs.length < 2 ^ n ∧ x_kp (x_co n (t_sts vs vs.length)) n' k ∧ n' = x_n (x_co n (t_sts vs vs.length)) ∧ (v = 4 → x_Ud p n g (t_sts vs vs.length) U) ∧ (v = 5 → x_Uc p n g (t_sts vs vs.length) U))
    (hB0 : gth y = 0 → ∀ iv', r_tat iv' b L (t_e b L (t_e b L i)) → r_Eq iv iv' → iv' 43 = 1 → post iv' gs gp fr fc gm gth ge gf gr gk gq gw gR gS go gz b gl gsv nv)
    (hB : r_G y p n r g gth ge gf gr gk gq gR gS → t_rsg (nI n) vs (-1) = false → ∀ iv', r_tat iv' b L (t_e b L ie) → r_Eq iv iv' → iv' 43 = 2 → post iv' gs gp fr fc gm gth ge gf gr gk gq gw gR gS go gz b gl gsv nv)
    (hG : r_G y p n r g gth ge gf gr gk gq gR gS → t_rsg (nI n) vs (-1) = true → ∀ iv' gs' gp' fr' fc' gm' gk' gq' gw' gR' gS' nv', r_tat iv' b L (t_e b L ie) → r_Eq iv iv' → iv' 43 = 0 → r_V nv' → r_G m p n' (r - x_n U) (x_fr n' k U g) (upd gth m 1) (upd ge m (nI n')) (upd gf m (nI p)) (upd gr m (nI (r - x_n U))) gk' gq' gR' gS' → (∀ e, e < 12 → gw' (12 * m + e) = 0) → r_kf m gk gq gw gR gS gk' gq' gw' gR' gS' → post iv' gs' gp' fr' fc' gm' (upd gth m 1) (upd ge m (nI n')) (upd gf m (nI p)) (upd gr m (nI (r - x_n U))) gk' gq' gw' gR' gS' go gz b gl gsv nv') : w102_wp post (nI m) iv gs gp fr fc gm gth ge gf gr gk gq gw gR gS go gz b gl gsv nv := by
  have hi1 := (t_el (b := b) hi).2.1
  have hi2 := (t_el (b := b) hi1).2.1
  have dv : ∀ c, c < 4 ∨ c = 6 → ¬ nI v = nI c := fun c hc w => by
    have := (nI_eq (by omega) (by omega)).1 w
    omega
  refine r_wordOf t_so9 hL hi ht.2.1 ht.2.2.1 ht.2.2.2 ?_
  rw [hv]
  refine r_nxt hL hi ht (fun iv1 s1 s2 => ?_)
  refine ⟨fun _ => ⟨fun _ => ⟨fun _ => ?_, fun w => absurd w (dv 2 (by omega))⟩, fun w => absurd w (dv 1 (by omega))⟩, fun w => absurd w (dv 0 (by omega))⟩
  refine r_letter hL hi1 hjy s1 (fun iv2 s3 s4 => ?_)
  rw [hny]
  have u2 : r_Eq iv iv2 := fun q _ _ _ b4 b5 b6 _ => by rw [s4 q b4 b5 b6, s2 q b4 b5 b6]
  have u3 : iv2 43 = 0 := by rw [s4 43 (by decide) (by decide) (by decide), s2 43 (by decide) (by decide) (by decide)]; exact h43
  refine ⟨fun _ => ⟨b_in hy26 (by omega), ?_⟩, fun w => absurd w (dv 6 (by omega))⟩
  rw [nI_clamp (show y < 2 ^ 31 by omega)]
  have main : r_G y p n r g gth ge gf gr gk gq gR gS → w102_L242 post (nI m) (nI v) (nI y) iv2 gs gp fr fc gm gth ge gf gr gk gq gw gR gS go gz b gl gsv nv := fun hG' => by
    obtain ⟨g1, g2, g3, g4, g5, g6⟩ := r_gth1 hG'
    unfold w102_L242
    refine r_set (n := n) hL hi2 hy26 g5 g3 u3 s3 evs eie hk3 (fun hbad x iv' t1 t2 t3 => ?_) (fun hgd iv' t1 t2 t3 => ?_)
    · refine ⟨fun w => absurd w ?_, fun _ => hB hG' hbad iv' t1 (r_EqT u2 t2) t3⟩
      rw [t3]; decide
    · obtain ⟨c1, c2, c3, c4, c5⟩ := hS g1 hgd
      refine ⟨fun _ => ⟨fun w => ?_, fun w => ?_⟩, fun w => absurd (by rw [t3]; exact Int32.le_refl 0) w⟩
      · have hv5 : v = 5 := hv45.resolve_left (fun z => w (by rw [z]; rfl))
        unfold w102_L286 w102_L386
        exact r_contr hm hT hV hG' c1 c2 c3 (c5 hv5) (fun iv'' gs' gp' fr' fc' gm' gk' gq' gw' gR' gS' nv' a0 a1 a2 a3 a4 => hG hG' hgd iv'' gs' gp' fr' fc' gm' gk' gq' gw' gR' gS' nv' (r_tatU t1 (fun q hq => a0 q (by omega) (by omega) (by omega))) (r_EqT (r_EqT u2 t2) (fun q b1 b2 b3 _ _ _ _ => a0 q b1 b2 b3)) (by rw [a0 43 (by decide) (by decide) (by decide)]; exact t3) a1 a2 a3 a4)
      · have hv4 : v = 4 := by
          have := (nI_eq (a := v) (b := 4) (by omega) (by omega)).1 w
          exact this
        unfold w102_L286 w102_L386
        exact r_deleted hm hT hV hG' c1 c2 c3 (c4 hv4) (fun iv'' gs' gp' fr' fc' gm' gk' gq' gw' gR' gS' nv' a0 a1 a2 a3 a4 => hG hG' hgd iv'' gs' gp' fr' fc' gm' gk' gq' gw' gR' gS' nv' (r_tatU t1 (fun q hq => a0 q (by omega) (by omega) (by omega))) (r_EqT (r_EqT u2 t2) (fun q b1 b2 b3 _ _ _ _ => a0 q b1 b2 b3)) (by rw [a0 43 (by decide) (by decide) (by decide)]; exact t3) a1 a2 a3 a4)
  refine r_may u3 (by decide) (fun w => ⟨fun _ => ⟨fun _ => ⟨fun _ => main (hy.resolve_left w), fun w4 => ⟨fun w5 => ?_, fun _ => main (hy.resolve_left w)⟩⟩, fun w3 => absurd w3 (dv 3 (by omega))⟩, fun w0 => t_10 w0⟩) (fun w => ⟨fun w0 => absurd rfl w0, fun _ => ?_⟩)
  · exfalso
    rcases hv45 with z | z
    · exact w4 (by rw [z]; rfl)
    · exact w5 (by rw [z]; rfl)
  · exact hB0 w _ (r_tatU s3 (fun q hq => va_up_ne _ _ (by omega))) (r_EqT u2 (fun q _ _ _ _ _ _ a7 => va_up_ne _ _ a7)) (va_up_self _ _ _)
end RMK
