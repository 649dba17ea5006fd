/-! PURE, the reference: make (copy, sum, and those that are told) -/
section RMK2
variable {L i m y p n r : Nat} {g : Nat → Int} {b iv gs gp fr fc gm gth ge gf gr gk gq gw gR gS go gz gl gsv : Nat → Int32} {nv : Nat → px_NV}
theorem r_mkCopy {post : (Nat → Int32) → (Nat → Int32) → (Nat → Int32) → (Nat → Int32) → (Nat → Int32) → (Nat → Int32) → (Nat → Int32) → (Nat → Int32) → (Nat → Int32) → (Nat → Int32) → (Nat → Int32) → (Nat → Int32) → (Nat → Int32) → (Nat → Int32) → (Nat → Int32) → (Nat → Int32) → (Nat → Int32) → (Nat → Int32) → (Nat → Int32) → (Nat → Int32) → (Nat → px_NV) → Prop} (hL : L ≤ 16384) (hi : i ≤ L) (hm : m < 26) (hT : r_T go gz) (hV : r_V nv) (h43 : iv 43 = 0) (ht : r_tat iv b L i) (hv : t_vb b L i 0 8 = nI 7) (hjy : t_j b L (t_e b L i) < L) (hny : b (t_j b L (t_e b L i)) - 97 = nI y) (hy26 : y < 26) (hy : gth y = 0 ∨ r_G y p n r g gth ge gf gr gk gq gR gS)
    (hB : gth y = 0 → ∀ iv', r_tat iv' b L (t_e b L (t_e b L i)) → r_Eq iv iv' → iv' 43 = 1 → post iv' gs gp fr fc gm gth ge gf gr gk gq gw gR gS go gz b gl gsv nv)
    (hG : r_G y p n r g gth ge gf gr gk gq gR gS → ∀ iv' gs' gp' fr' fc' gm' gk' gq' gw' gR' gS' gsv' nv', r_tat iv' b L (t_e b L (t_e b L i)) → r_Eq iv iv' → iv' 43 = 0 → r_V nv' → r_G m p n r g (upd gth m 1) (upd ge m (nI n)) (upd gf m (nI p)) (upd gr m (nI r)) gk' gq' gR' gS' → (∀ e, e < 12 → gw' (12 * m + e) = gw (12 * y + e)) → r_kf m gk gq gw gR gS gk' gq' gw' gR' gS' → post iv' gs' gp' fr' fc' gm' (upd gth m 1) (upd ge m (nI n)) (upd gf m (nI p)) (upd gr m (nI r)) gk' gq' gw' gR' gS' go gz b gl gsv' nv') : w102_wp post (nI m) iv gs gp fr fc gm gth ge gf gr gk gq gw gR gS go gz b gl gsv nv := by
  have hi1 := (t_el (b := b) hi).2.1
  refine r_wordOf t_so9 hL hi ht.2.1 ht.2.2.1 ht.2.2.2 ?_
  rw [hv]
  refine r_nxt hL hi ht (fun iv1 s1 s2 => ?_)
  refine ⟨fun _ => ⟨fun _ => ⟨fun _ => ?_, fun w => absurd w (by decide)⟩, fun w => absurd w (by decide)⟩, fun w => absurd w (by decide)⟩
  refine r_letter hL hi1 hjy s1 (fun iv2 s3 s4 => ?_)
  rw [hny]
  have u2 : r_Eq iv iv2 := fun q _ _ _ b4 b5 b6 _ => by rw [s4 q b4 b5 b6, s2 q b4 b5 b6]
  have u3 : iv2 43 = 0 := by rw [s4 43 (by decide) (by decide) (by decide), s2 43 (by decide) (by decide) (by decide)]; exact h43
  refine ⟨fun _ => ⟨b_in hy26 (by omega), ?_⟩, fun w => absurd w (by decide)⟩
  rw [nI_clamp (show y < 2 ^ 31 by omega)]
  refine r_may u3 (by decide) (fun w => ⟨fun _ => ⟨fun _ => ⟨fun w4 => absurd w4 (by decide), fun _ => ⟨fun _ => ?_, fun w5 => absurd w5 (by decide)⟩⟩, fun w3 => absurd w3 (by decide)⟩, fun w0 => t_10 w0⟩) (fun w => ⟨fun w0 => absurd rfl w0, fun _ => ?_⟩)
  · have hG' := hy.resolve_left w
    obtain ⟨g1, g2, g3, g4, g5, g6⟩ := r_gth1 hG'
    -- weights put back
    have back : ∀ (iv3 gs3 gp3 fr3 fc3 gm3 gk3 gq3 gR3 gS3 gsv3 : Nat → Int32) (nv3 : Nat → px_NV) (gw3 : Nat → Int32), r_tat iv3 b L (t_e b L (t_e b L i)) → r_Eq iv iv3 → iv3 43 = 0 → r_V nv3 → r_G m p n r g (upd gth m 1) (upd ge m (nI n)) (upd gf m (nI p)) (upd gr m (nI r)) gk3 gq3 gR3 gS3 → (∀ e, e < 12 → gsv3 e = gw (12 * y + e)) → r_kf m gk gq gw gR gS gk3 gq3 gw3 gR3 gS3 → ∀ (u e : Nat) (gw4 : Nat → Int32), e + u = 12 → (∀ e', e' < e → gw4 (12 * m + e') = gw (12 * y + e')) → (∀ q, (q < 12 * m ∨ 12 * m + 12 ≤ q) → gw4 q = gw q) → w102_L354 post (u + 1) (nI m) (nI 7) (nI y) (nI e) iv3 gs3 gp3 fr3 fc3 gm3 (upd gth m 1) (upd ge m (nI n)) (upd gf m (nI p)) (upd gr m (nI r)) gk3 gq3 gw4 gR3 gS3 go gz b gl gsv3 nv3 := fun iv3 gs3 gp3 fr3 fc3 gm3 gk3 gq3 gR3 gS3 gsv3 nv3 gw3 t1 t2 t3 t4 t5 t6 t7 u => by
      induction u with
      | zero =>
        intro e gw4 he h1 h2
        have : e = 12 := by omega
        subst this
        unfold w102_L354 w102_L386
        exact ⟨fun _ => hG hG' iv3 gs3 gp3 fr3 fc3 gm3 gk3 gq3 gw4 gR3 gS3 gsv3 nv3 t1 t2 t3 t4 t5 h1 ⟨t7.1, t7.2.1, h2, t7.2.2.2.1, t7.2.2.2.2⟩, fun w => absurd (Int32.le_refl 12) w⟩
      | succ u ih =>
        intro e gw4 he h1 h2
        have ix : (12 : Int32) * nI m + nI e = nI (12 * m + e) := b_ix12
        unfold w102_L354
        rw [ix, nI_clamp (show 12 * m + e < 2 ^ 31 by omega), nI_clamp (show e < 2 ^ 31 by omega)]
        refine ⟨fun w => absurd w (show ¬ nI 12 ≤ nI e from nI_ge (by omega) (by omega)), fun _ => ⟨b_in (by omega) (by omega), fun z1 e1 => ⟨b_in (by omega) (by omega), fun z2 e2 => ?_⟩⟩⟩
        rw [e2, nI_1]
        refine ih (e + 1) _ (by omega) (fun e' q => ?_) (fun q hq => ?_)
        · by_cases z : e' = e
          · rw [z, pk_us, e1]; exact t6 e (by omega)
          · rw [pk_un (by omega)]; exact h1 e' (by omega)
        · rw [pk_un (by omega)]; exact h2 q hq
    have save : ∀ (u e : Nat) (gsv3 : Nat → Int32), e + u = 12 → (∀ e', e' < e → gsv3 e' = gw (12 * y + e')) → w102_L292 post (u + 1) (nI m) (nI 7) (nI y) (nI e) iv2 gs gp fr fc gm gth ge gf gr gk gq gw gR gS go gz b gl gsv3 nv := by
      intro u
      induction u with
      | zero =>
        intro e gsv3 he h1
        have : e = 12 := by omega
        subst this
        unfold w102_L292
        rw [nI_clamp (show y < 2 ^ 31 by omega), g3, g4]
        refine ⟨fun _ => ⟨b_in hy26 (by omega), b_in hy26 (by omega), ?_⟩, fun w => absurd (Int32.le_refl 12) w⟩
        obtain ⟨hg, piv, K, hLt, hpp⟩ := id hG'
        obtain ⟨l1, l2, l3, l4, l5, l6, l7, l8, l9, l10⟩ := hLt
        have hr : r ≤ 12 := by have := l7.1; omega
        have hp0 : p = 0 ∨ (1 < p ∧ p < 256) := by
          rcases l6 with q | q
          · exact Or.inl q
          · exact Or.inr ⟨q.1, g6⟩
        show w67_wp _ _ _ (va_up (va_up (va_up iv2 12 (nI p)) 11 (nI n)) 10 0) _ _ _ _ _ _
        have v12 : va_up (va_up (va_up iv2 12 (nI p)) 11 (nI n)) 10 0 12 = nI p := by rw [va_up_ne _ _ (by decide), va_up_ne _ _ (by decide), va_up_self]
        have v11 : va_up (va_up (va_up iv2 12 (nI p)) 11 (nI n)) 10 0 11 = nI n := by rw [va_up_ne _ _ (by decide), va_up_self]
        have v10 : va_up (va_up (va_up iv2 12 (nI p)) 11 (nI n)) 10 0 10 = nI 0 := va_up_self _ _ _
        have vq : ∀ q, q ≠ 10 → q ≠ 11 → q ≠ 12 → va_up (va_up (va_up iv2 12 (nI p)) 11 (nI n)) 10 0 q = iv2 q := fun q q1 q2 q3 => by rw [va_up_ne _ _ q1, va_up_ne _ _ q2, va_up_ne _ _ q3]
        generalize va_up (va_up (va_up iv2 12 (nI p)) 11 (nI n)) 10 0 = iv3 at *
        refine r_load (R := 0) (M := K) (c := 0) (n0 := n) (r0 := r) (n := n) hp0 l1 g5 g5 hr (by omega) (by omega) g3 l5 l8 v10 v11 v12 ⟨hV, fun i' hi' => absurd hi' (Nat.not_lt_zero i')⟩ (fun iv4 gs4 nv4 w1 w2 hX => ?_)
        rw [Nat.zero_add] at w1 hX
        have hX2 : r_X p n r gs4 nv4 K := r_Xc hX (fun i' hi' j' hj' => by
          unfold x_ld
          rw [if_neg (by omega), if_pos (by omega)]; rfl)
        refine r_becG (A := K) (R := r) (n := n) l6 hm (by rw [w2 12 (by decide)]; exact v12) (by rw [w2 11 (by decide)]; exact v11) w1 (by omega) hT hX2 l7.2.2.2.2.2.2.1 (fun p0 => by subst p0; exact x_cpl l7 hpp hg) (fun p0 i' hi' => (l7.2.2.2.2.2.2.2.2 p0 i' hi').1) hg (x_cpy hpp) (fun gs' gp' fr' fc' gm' gk' gq' gw' gR' gS' nv' a1 a2 a3 a4 => ⟨12 + 1, ?_⟩)
        refine back _ gs' gp' fr' fc' gm' gk' gq' gR' gS' gsv3 nv' gw' (r_tatU s3 (fun q hq => ?_)) (r_EqT u2 (fun q b1 b2 b3 _ _ _ _ => ?_)) ?_ a1 a2 h1 a4 12 0 gw' (by omega) (fun e' q => absurd q (Nat.not_lt_zero e')) a4.2.2.1
        · rw [va_up_ne _ _ (by omega), w2 q (by omega)]; exact vq q (by omega) (by omega) (by omega)
        · rw [va_up_ne _ _ b1, w2 q b1]; exact vq q b1 b2 b3
        · rw [va_up_ne _ _ (by decide), w2 43 (by decide), vq 43 (by decide) (by decide) (by decide)]; exact u3
      | succ u ih =>
        intro e gsv3 he h1
        have ix : (12 : Int32) * nI y + nI e = nI (12 * y + e) := b_ix12
        unfold w102_L292
        rw [ix, nI_clamp (show 12 * y + e < 2 ^ 31 by omega), nI_clamp (show e < 2 ^ 31 by omega)]
        refine ⟨fun w => absurd w (show ¬ nI 12 ≤ nI e from nI_ge (by omega) (by omega)), fun _ => ⟨b_in (by omega) (by omega), fun z1 e1 => ⟨b_in (by omega) (by omega), fun z2 e2 => ?_⟩⟩⟩
        rw [e2, nI_1]
        refine ih (e + 1) _ (by omega) (fun e' q => ?_)
        by_cases z : e' = e
        · rw [z, pk_us, e1]
        · rw [pk_un (by omega)]; exact h1 e' (by omega)
    exact ⟨12 + 1, save 12 0 gsv (by omega) (fun e' q => absurd q (Nat.not_lt_zero e'))⟩
  · exact hB w _ (r_tatU s3 (fun q hq => va_up_ne _ _ (by omega))) (r_EqT u2 (fun q _ _ _ _ _ _ a7 => va_up_ne _ _ a7)) (va_up_self _ _ _)
theorem r_mkSum {post : (Nat → Int32) → (Nat → Int32) → (Nat → Int32) → (Nat → Int32) → (Nat → Int32) → (Nat → Int32) → (Nat → Int32) → (Nat → Int32) → (Nat → Int32) → (Nat → Int32) → (Nat → Int32) → (Nat → Int32) → (Nat → Int32) → (Nat → Int32) → (Nat → Int32) → (Nat → Int32) → (Nat → Int32) → (Nat → Int32) → (Nat → Int32) → (Nat → Int32) → (Nat → px_NV) → Prop} {z p2 n2 r2 : Nat} {g2 : Nat → Int} (hL : L ≤ 16384) (hi : i ≤ L) (hm : m < 26) (hT : r_T go gz) (hV : r_V nv) (h43 : iv 43 = 0) (ht : r_tat iv b L i) (hv : t_vb b L i 0 8 = nI 6) (hjy : t_j b L (t_e b L i) < L) (hny : b (t_j b L (t_e b L i)) - 97 = nI y) (hy26 : y < 26) (hjz : t_j b L (t_e b L (t_e b L i)) < L) (hnz : b (t_j b L (t_e b L (t_e b L i))) - 97 = nI z) (hz26 : z < 26) (hy : gth y = 0 ∨ r_G y p n r g gth ge gf gr gk gq gR gS) (hz : gth z = 0 ∨ r_G z p2 n2 r2 g2 gth ge gf gr gk gq gR gS)
    (hB : ∀ (why : Int32) iv', ((why = 1 ∧ (gth y = 0 ∨ gth z = 0)) ∨ (r_G y p n r g gth ge gf gr gk gq gR gS ∧ r_G z p2 n2 r2 g2 gth ge gf gr gk gq gR gS ∧ ((why = 3 ∧ 12 < n + n2) ∨ (why = 4 ∧ n + n2 ≤ 12 ∧ ¬ p = p2)))) → r_tat iv' b L (t_e b L (t_e b L (t_e b L i))) → r_Eq iv iv' → iv' 43 = why → post iv' gs gp fr fc gm gth ge gf gr gk gq gw gR gS go gz b gl gsv nv)
    (hG : r_G y p n r g gth ge gf gr gk gq gR gS → r_G z p2 n2 r2 g2 gth ge gf gr gk gq gR gS → n + n2 ≤ 12 → p = p2 → ∀ iv' gs' gp' fr' fc' gm' gk' gq' gw' gR' gS' nv', r_tat iv' b L (t_e b L (t_e b L (t_e b L i))) → r_Eq iv iv' → iv' 43 = 0 → r_V nv' → r_G m p (n + n2) (r + r2) (x_fj n n2 g g2) (upd gth m 1) (upd ge m (nI (n + n2))) (upd gf m (nI p)) (upd gr m (nI (r + r2))) gk' gq' gR' gS' → (∀ e, e < 12 → gw' (12 * m + e) = 0) → r_kf m gk gq gw gR gS gk' gq' gw' gR' gS' → post iv' gs' gp' fr' fc' gm' (upd gth m 1) (upd ge m (nI (n + n2))) (upd gf m (nI p)) (upd gr m (nI (r + r2))) gk' gq' gw' gR' gS' go gz b gl gsv nv') : w102_wp post (nI m) iv gs gp fr fc gm gth ge gf gr gk gq gw gR gS go gz b gl gsv nv := by
  have hi1 := (t_el (b := b) hi).2.1
  have hi2 := (t_el (b := b) hi1).2.1
  refine r_wordOf t_so9 hL hi ht.2.1 ht.2.2.1 ht.2.2.2 ?_
  rw [hv]
  refine r_nxt hL hi ht (fun iv1 s1 s2 => ?_)
  refine ⟨fun _ => ⟨fun _ => ⟨fun _ => ?_, fun w => absurd w (by decide)⟩, fun w => absurd w (by decide)⟩, fun w => absurd w (by decide)⟩
  refine r_letter hL hi1 hjy s1 (fun iv2 s3 s4 => ?_)
  rw [hny]
  refine ⟨fun w => absurd rfl w, fun _ => ?_⟩
  refine r_letter hL hi2 hjz s3 (fun iv3 s5 s6 => ?_)
  rw [hnz]
  have u2 : r_Eq iv iv3 := fun q _ _ _ b4 b5 b6 _ => by rw [s6 q b4 b5 b6, s4 q b4 b5 b6, s2 q b4 b5 b6]
  have u3 : iv3 43 = 0 := by rw [s6 43 (by decide) (by decide) (by decide), s4 43 (by decide) (by decide) (by decide), s2 43 (by decide) (by decide) (by decide)]; exact h43
  have bad : ∀ why : Int32, ((why = 1 ∧ (gth y = 0 ∨ gth z = 0)) ∨ (r_G y p n r g gth ge gf gr gk gq gR gS ∧ r_G z p2 n2 r2 g2 gth ge gf gr gk gq gR gS ∧ ((why = 3 ∧ 12 < n + n2) ∨ (why = 4 ∧ n + n2 ≤ 12 ∧ ¬ p = p2)))) → post (va_up iv3 43 why) gs gp fr fc gm gth ge gf gr gk gq gw gR gS go gz b gl gsv nv := fun why hw => hB why _ hw (r_tatU s5 (fun q hq => va_up_ne _ _ (by omega))) (r_EqT u2 (fun q _ _ _ _ _ _ a7 => va_up_ne _ _ a7)) (va_up_self _ _ _)
  have iny : vp_in (nI y) 26 := b_in hy26 (by omega)
  have inz : vp_in (nI z) 26 := b_in hz26 (by omega)
  unfold w102_L115 w102_L144 w102_L202
  rw [nI_clamp (show y < 2 ^ 31 by omega), nI_clamp (show z < 2 ^ 31 by omega)]
  refine ⟨iny, r_may u3 (by decide) (fun w => ⟨fun w0 => t_10 w0, fun _ => ⟨inz, r_may u3 (by decide) (fun w' => ⟨fun w0 => t_10 w0, fun _ => ⟨iny, inz, ?_⟩⟩) (fun w' => ⟨fun _ => bad 1 (Or.inl ⟨rfl, Or.inr w'⟩), fun w0 => absurd rfl w0⟩)⟩⟩) (fun w => ⟨fun _ => bad 1 (Or.inl ⟨rfl, Or.inl w⟩), fun w0 => absurd rfl w0⟩)⟩
  have hGy := hy.resolve_left w
  have hGz := hz.resolve_left w'
  obtain ⟨g1, g2', g3, g4, g5, g6⟩ := r_gth1 hGy
  obtain ⟨k1, k2, k3, k4, k5, k6⟩ := r_gth1 hGz
  rw [g3, g4, k3, k4, nI_add]
  refine ⟨fun w2 => r_may u3 (by decide) (fun w3 => absurd rfl w3) (fun _ => ⟨fun _ => bad 3 (Or.inr ⟨hGy, hGz, Or.inl ⟨rfl, Classical.byContradiction (fun q => absurd (nI_le (show n + n2 ≤ 12 by omega) (by omega)) (Int32.not_le.2 w2))⟩⟩), fun w0 => absurd rfl w0⟩), fun w2 => r_may u3 (by decide) (fun _ => ⟨fun w0 => t_10 w0, fun _ => ⟨iny, inz, fun w3 => ?_, fun w3 => ?_⟩⟩) (fun w3 => t_10 w3)⟩
  · have hn12 : n + n2 ≤ 12 := Classical.byContradiction (fun q => w2 (show nI 12 < nI (n + n2) from nI_lt (by omega) (by omega)))
    exact r_may u3 (by decide) (fun w4 => absurd rfl w4) (fun _ => ⟨fun _ => bad 4 (Or.inr ⟨hGy, hGz, Or.inr ⟨rfl, hn12, fun q => w3 (by rw [q])⟩⟩), fun w0 => absurd rfl w0⟩)
  · have hn12 : n + n2 ≤ 12 := Classical.byContradiction (fun q => w2 (show nI 12 < nI (n + n2) from nI_lt (by omega) (by omega)))
    have hpp2 : p = p2 := (nI_eq (by omega) (by omega)).1 w3
    refine r_may u3 (by decide) (fun _ => ⟨fun w0 => t_10 w0, fun _ => ⟨iny, iny, inz, ?_⟩⟩) (fun w4 => t_10 w4)
    subst hpp2
    obtain ⟨hg, piv, K, hLt, hpp⟩ := id hGy
    obtain ⟨l1, l2, l3, l4, l5, l6, l7, l8, l9, l10⟩ := hLt
    obtain ⟨hg2, piv2, K2, hLt2, hpp2⟩ := id hGz
    obtain ⟨q1, q2, q3, q4, q5, q6, q7, q8, q9, q10⟩ := hLt2
    have hr : r ≤ 12 := by have := l7.1; omega
    have hr2 : r2 ≤ 12 := by have := q7.1; omega
    have hrr : r + r2 ≤ 12 := by have := l7.1; have := q7.1; omega
    have hp0 : p = 0 ∨ (1 < p ∧ p < 256) := by
      rcases l6 with q | q
      · exact Or.inl q
      · exact Or.inr ⟨q.1, g6⟩
    refine ⟨iny, fun z90 e90 => ?_⟩
    rw [e90]
    have v12 : va_up (va_up (va_up iv3 12 (nI p)) 11 (nI (n + n2))) 10 0 12 = nI p := by rw [va_up_ne _ _ (by decide), va_up_ne _ _ (by decide), va_up_self]
    have v11 : va_up (va_up (va_up iv3 12 (nI p)) 11 (nI (n + n2))) 10 0 11 = nI (n + n2) := by rw [va_up_ne _ _ (by decide), va_up_self]
    have v10 : va_up (va_up (va_up iv3 12 (nI p)) 11 (nI (n + n2))) 10 0 10 = nI 0 := va_up_self _ _ _
    have vq : ∀ q, q ≠ 10 → q ≠ 11 → q ≠ 12 → va_up (va_up (va_up iv3 12 (nI p)) 11 (nI (n + n2))) 10 0 q = iv3 q := fun q q1 q2 q3 => by rw [va_up_ne _ _ q1, va_up_ne _ _ q2, va_up_ne _ _ q3]
    generalize va_up (va_up (va_up iv3 12 (nI p)) 11 (nI (n + n2))) 10 0 = iv4 at *
    refine r_load (R := 0) (M := K) (c := 0) (n0 := n) (r0 := r) (n := n + n2) hp0 l1 hn12 g5 hr (by omega) (by omega) l3 l5 l8 v10 v11 v12 ⟨hV, fun i' hi' => absurd hi' (Nat.not_lt_zero i')⟩ (fun iv5 gs5 nv5 w1 w2' hX => ?_)
    rw [Nat.zero_add] at w1 hX
    refine r_load (R := r) (M := x_ld K K 0 0 n) (c := n) (n0 := n2) (r0 := r2) (n := n + n2) hp0 q1 hn12 k5 hr2 (by omega) (by omega) q3 q5 q8 w1 (by rw [w2' 11 (by decide)]; exact v11) (by rw [w2' 12 (by decide)]; exact v12) hX (fun iv6 gs6 nv6 w5 w6 hX6 => ?_)
    have hX7 : r_X p (n + n2) (r + r2) gs6 nv6 (x_smA n n2 r K K2) := r_Xc hX6 (fun i' hi' j' hj' => by
      unfold x_ld x_smA
      by_cases c1 : i' < r
      · rw [if_pos c1, if_pos c1, if_neg (by omega)]
        by_cases c2 : j' < n
        · rw [if_pos c2, if_pos (by omega)]; rfl
        · rw [if_neg c2, if_neg (by omega)]
      · rw [if_neg c1, if_neg c1])
    refine r_becG (A := x_smA n n2 r K K2) (R := r + r2) (n := n + n2) l6 hm (by rw [w6 12 (by decide), w2' 12 (by decide)]; exact v12) (by rw [w6 11 (by decide), w2' 11 (by decide)]; exact v11) w5 (by omega) hT hX7 (fun i' _ => x_smZ i') (fun p0 => by subst p0; exact x_smL hn12 hg hg2 l7 q7 hpp hpp2) (fun p0 => x_smR (by omega) l7 q7) (x_smG l6 hn12 hg hg2) (x_smO hn12 hg hg2 l7 q7 hpp hpp2) (fun gs' gp' fr' fc' gm' gk' gq' gw' gR' gS' nv' a1 a2 a3 a4 => hG hGy hGz hn12 rfl _ gs' gp' fr' fc' gm' gk' gq' gw' gR' gS' nv' (r_tatU s5 (fun q hq => ?_)) (r_EqT u2 (fun q b1 b2 b3 _ _ _ _ => ?_)) ?_ a1 a2 a3 a4)
    · rw [va_up_ne _ _ (by omega), w6 q (by omega), w2' q (by omega)]; exact vq q (by omega) (by omega) (by omega)
    · rw [va_up_ne _ _ b1, w6 q b1, w2' q b1]; exact vq q b1 b2 b3
    · rw [va_up_ne _ _ (by decide), w6 43 (by decide), w2' 43 (by decide), vq 43 (by decide) (by decide) (by decide)]; exact u3
end RMK2
