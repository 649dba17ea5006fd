/-! PURE, the reference: makeUniform, set -/
/-- the matrix of a uniform matroid -/
def x_unA (n k e : Nat) : Int := if e < n then (e : Int) ^ k else 0
theorem x_unb {n k e : Nat} (hn : n ≤ 12) (hk : k < 12) : 0 ≤ x_unA n k e ∧ x_unA n k e ≤ 11 ^ 11 := by
  unfold x_unA
  split
  · have h1 : e ^ k ≤ 11 ^ k := Nat.pow_le_pow_left (by omega) k
    have h2 : 11 ^ k ≤ 11 ^ 11 := Nat.pow_le_pow_right (by decide) (by omega)
    have h3 : ((e : Int)) ^ k = ((e ^ k : Nat) : Int) := by rw [Int.natCast_pow]
    have h4 : e ^ k ≤ 11 ^ 11 := Nat.le_trans h1 h2
    rw [h3]
    have h5 : ((11 : Int)) ^ 11 = ((11 ^ 11 : Nat) : Int) := by decide
    rw [h5]
    exact ⟨Int.natCast_nonneg _, Int.ofNat_le.2 h4⟩
  · exact ⟨Int.le_refl 0, by decide⟩
theorem b_iLmul (a b : Int) : iL a * iL b = iL (a * b) := (Int64.ofInt_mul a b).symm
section RUN
variable {L i m n r r0 : Nat} {g : Nat → Int} {b iv gs gp fr fc gm gth ge gf gr gk gq gw gR gS go gz : Nat → Int32} {nv : Nat → px_NV}
theorem r_uniform {post : (Nat → Int32) → (Nat → Int32) → (Nat → Int32) → (Nat → Int32) → (Nat → Int32) → (Nat → Int32) → (Nat → Int32) → (Nat → Int32) → (Nat → Int32) → (Nat → Int32) → (Nat → Int32) → (Nat → Int32) → (Nat → Int32) → (Nat → Int32) → (Nat → Int32) → (Nat → Int32) → (Nat → Int32) → (Nat → Int32) → (Nat → px_NV) → Prop} {hd nx : Int32} (hL : L ≤ 16384) (hi : i ≤ L) (hm : m < 26) (hT : r_T go gz) (hV : r_V nv) (h43 : iv 43 = 0) (ht : r_tat iv b L i) (hk1 : t_k b L i = 2) (ehd : hd = t_v b L i) (hk2 : t_k b L (t_e b L i) = 2) (enx : nx = t_v b L (t_e b L i))
    (hgd : t_bad 2 0 hd nx [] 0 0 0 = false → hd = nI r ∧ nx = nI n ∧ r ≤ n ∧ x_gh 0 n r0 g ∧ x_of2 0 r (x_unA n) g)
    (hB : t_bad 2 0 hd nx [] 0 0 0 = true → ∀ iv', r_tat iv' b L (t_e b L (t_e b L i)) → r_Eq iv iv' → iv' 43 = 2 → post iv' gs gp fr fc gm gth ge gf gr gk gq gw gR gS go gz b nv)
    (hG : t_bad 2 0 hd nx [] 0 0 0 = false → ∀ iv' gs' gp' fr' fc' gm' gk' gq' gw' gR' gS' nv', r_tat iv' b L (t_e b L (t_e b L i)) → r_Eq iv iv' → iv' 43 = 0 → r_V nv' → r_G m 0 n r0 g (upd gth m 1) (upd ge m (nI n)) (upd gf m (nI 0)) (upd gr m (nI r0)) gk' gq' gR' gS' → (∀ e, e < 12 → gw' (12 * m + e) = 0) → r_kf m gk gq gw gR gS gk' gq' gw' gR' gS' → post iv' gs' gp' fr' fc' gm' (upd gth m 1) (upd ge m (nI n)) (upd gf m (nI 0)) (upd gr m (nI r0)) gk' gq' gw' gR' gS' go gz b nv') : w100_wp post (nI m) iv gs gp fr fc gm gth ge gf gr gk gq gw gR gS go gz b nv := by
  have hib := (t_el (b := b) hi).2.1
  have fin : ∀ (y : Bool) (iv1 : Nat → Int32), t_bad 2 0 hd nx [] 0 0 0 = (!y) → r_tat iv1 b L (t_e b L (t_e b L i)) → r_Eq iv iv1 → iv1 43 = 0 → w100_L35 post (nI m) hd nx (if y = true then 1 else 0) iv1 gs gp fr fc gm gth ge gf gr gk gq gw gR gS go gz b nv := fun y iv1 hbad t1 t2 t3 => by
    unfold w100_L35
    refine r_may t3 (by decide) (fun w => ⟨fun _ => ?_, fun w0 => t_10 w0⟩) (fun w => ⟨fun w0 => absurd rfl w0, fun _ => ?_⟩)
    · have hy : y = true := Classical.byContradiction (fun q => w (if_neg q))
      rw [hy] at hbad
      obtain ⟨c1, c2, c3, c4, c5⟩ := hgd hbad
      have hn := c4.1
      have u12 : va_up (va_up (va_up iv1 12 0) 11 nx) 10 0 12 = nI 0 := by rw [va_up_ne _ _ (by decide), va_up_ne _ _ (by decide), va_up_self]; rfl
      have u11 : va_up (va_up (va_up iv1 12 0) 11 nx) 10 0 11 = nI n := by rw [va_up_ne _ _ (by decide), va_up_self, c2]
      have hup : ∀ q, q ≠ 10 → q ≠ 11 → q ≠ 12 → va_up (va_up (va_up iv1 12 0) 11 nx) 10 0 q = iv1 q := fun q q1 q2 q3 => by rw [va_up_ne _ _ q1, va_up_ne _ _ q2, va_up_ne _ _ q3]
      show ∃ j, w100_L52 post j (nI m) hd nx 0 (va_up (va_up (va_up iv1 12 0) 11 nx) 10 0) gs gp fr fc gm gth ge gf gr gk gq gw gR gS go gz b nv
      generalize va_up (va_up (va_up iv1 12 0) 11 nx) 10 0 = iv3 at *
      rw [c1, c2]
      have h11 : (11 : Int) ^ 11 < 2 ^ 61 := by decide
      have cols : ∀ (u e : Nat) (gs1 : Nat → Int32) (nv1 : Nat → px_NV), e + u = n → r_V nv1 → (∀ k' e', k' < r → e' < e → r_e 0 gs1 nv1 (12 * k' + e') (x_unA n k' e')) → w100_L52 post (u + 1) (nI m) (nI r) (nI n) (nI e) iv3 gs1 gp fr fc gm gth ge gf gr gk gq gw gR gS go gz b nv1 := by
        intro u
        induction u with
        | zero =>
          intro e gs1 nv1 he hV1 hC
          have : e = n := by omega
          subst this
          refine ⟨fun _ => ?_, fun w => absurd (nI_le (Nat.le_refl e) (by omega)) w⟩
          refine r_becG (A := x_unA e) (R := r) (n := e) (Or.inl rfl) hm (by rw [va_up_ne _ _ (by decide)]; exact u12) (by rw [va_up_ne _ _ (by decide)]; exact u11) (va_up_self _ _ _) (by omega) hT ⟨hV1, fun k' hk' e' he' => hC k' e' hk' he'⟩ (fun k' _ j hj => by unfold x_unA; rw [if_neg (by omega)]) (fun _ => Or.inl (fun k' hk' j _ => ?_)) (fun p0 => absurd rfl p0) c4 c5 (fun gs' gp' fr' fc' gm' gk' gq' gw' gR' gS' nv' a1 a2 a3 a4 => hG hbad _ gs' gp' fr' fc' gm' gk' gq' gw' gR' gS' nv' ?_ ?_ ?_ a1 a2 a3 a4)
          · have h1 := x_unb (n := e) (k := k') (e := j) hn (by omega)
            have h2 : ((11 : Int)) ^ 11 ≤ 2 ^ 39 := by decide
            have h3 : ((2 : Int)) ^ 39 = ((2 ^ 39 : Nat) : Int) := by decide
            omega
          · obtain ⟨e1, e2, e3, e4⟩ := t1
            exact ⟨by rw [va_up_ne _ _ (by decide), va_up_ne _ _ (by decide), hup 37 (by decide) (by decide) (by decide)]; exact e1, by rw [va_up_ne _ _ (by decide), va_up_ne _ _ (by decide), hup 38 (by decide) (by decide) (by decide)]; exact e2, by rw [va_up_ne _ _ (by decide), va_up_ne _ _ (by decide), hup 39 (by decide) (by decide) (by decide)]; exact e3, by rw [va_up_ne _ _ (by decide), va_up_ne _ _ (by decide), hup 40 (by decide) (by decide) (by decide)]; exact e4⟩
          · exact r_EqT t2 (fun q a1 a2 a3 _ _ _ _ => by rw [va_up_ne _ _ a1, va_up_ne _ _ a1]; exact hup q a1 a2 a3)
          · rw [va_up_ne _ _ (by decide), va_up_ne _ _ (by decide), hup 43 (by decide) (by decide) (by decide)]; exact t3
        | succ u ih =>
          intro e gs1 nv1 he hV1 hC
          refine ⟨fun w => absurd w (nI_ge (by omega) (by omega)), fun _ => ⟨r + 1, ?_⟩⟩
          have cells : ∀ (v k : Nat) (x : Int64) (gs2 : Nat → Int32) (nv2 : Nat → px_NV), k + v = r → x = iL ((e : Int) ^ k) → r_V nv2 → (∀ k' e', k' < r → e' < e → r_e 0 gs2 nv2 (12 * k' + e') (x_unA n k' e')) → (∀ k', k' < k → r_e 0 gs2 nv2 (12 * k' + e) (x_unA n k' e)) → w100_L64 (w100_L52 post (u + 1)) post (v + 1) (nI m) (nI r) (nI n) (nI e) x (nI k) iv3 gs2 gp fr fc gm gth ge gf gr gk gq gw gR gS go gz b nv2 := by
            intro v
            induction v with
            | zero =>
              intro k x gs2 nv2 hk ex hV2 hC2 hD
              have : k = r := by omega
              subst this
              refine ⟨fun _ z1 e1 => ?_, fun w => absurd (nI_le (Nat.le_refl k) (by omega)) w⟩
              rw [e1, nI_1]
              refine ih (e + 1) gs2 nv2 (by omega) hV2 (fun k' e' q1 q2 => ?_)
              by_cases q : e' = e
              · rw [q]; exact hD k' q1
              · exact hC2 k' e' q1 (by omega)
            | succ v ihv =>
              intro k x gs2 nv2 hk ex hV2 hC2 hD
              have hxe : x_unA n k e = (e : Int) ^ k := by unfold x_unA; rw [if_pos (by omega)]
              have hb := x_unb (n := n) (k := k) (e := e) hn (by omega)
              rw [hxe] at hb
              refine ⟨fun w => absurd w (nI_ge (by omega) (by omega)), fun _ => ?_⟩
              rw [ex]
              generalize hz : (e : Int) ^ k = z at *
              refine r_put (p := 0) (v := z) (Or.inl rfl) u12 (by omega) (by omega) (by omega) (by omega) (fun gs3 nv3 b1 b2 b3 b4 z6 e6 z7 e7 => ?_)
              rw [e7, nI_1]
              refine ihv (k + 1) z6 gs3 nv3 (by omega) ?_ (fun c hc => ?_) (fun k' e' q1 q2 => r_ek (d' := 0) (hC2 k' e' q1 q2) (b1 _ (by omega)) (b2 _ (by omega))) (fun k' q1 => ?_)
              · rw [e6, show (nI e).toInt64 = iL (e : Int) from (b_v64 e (by omega)).1, b_iLmul, Int.pow_succ, hz]
              · by_cases q : c = 12 * k + e
                · rw [q] at hc ⊢; exact b4 (hV2 _ hc)
                · rw [b2 c q]; exact hV2 c hc
              · by_cases q : k' = k
                · rw [q, hxe]
                  rw [if_pos rfl] at b3
                  exact b3
                · exact r_ek (d' := 0) (hD k' (by omega)) (b1 _ (by omega)) (b2 _ (by omega))
          exact cells r 0 1 gs1 nv1 (by omega) (by rw [Int.pow_zero]; exact b_iL1) hV1 hC (fun k' hk' => absurd hk' (Nat.not_lt_zero k'))
      exact ⟨n + 1, cols n 0 gs nv (by omega) hV (fun k' e' _ he' => absurd he' (Nat.not_lt_zero e'))⟩
    · have hy : y = false := Bool.eq_false_iff.2 (fun q => by rw [if_pos q] at w; exact t_10 w)
      rw [hy] at hbad
      refine hB hbad _ ?_ ?_ (va_up_self _ _ _)
      · obtain ⟨e1, e2, e3, e4⟩ := t1
        exact ⟨by rw [va_up_ne _ _ (by decide)]; exact e1, by rw [va_up_ne _ _ (by decide)]; exact e2, by rw [va_up_ne _ _ (by decide)]; exact e3, by rw [va_up_ne _ _ (by decide)]; exact e4⟩
      · exact r_EqT t2 (fun q _ _ _ _ _ _ a7 => va_up_ne _ _ a7)
  unfold w100_wp w100_L34
  refine r_told hL hi hk1 ht (fun iv1 s1 s2 => ?_)
  refine r_told hL hib hk2 s1 (fun iv2 s3 s4 => ?_)
  rw [← ehd, ← enx]
  have u2 : r_Eq iv iv2 := fun q _ _ _ b4 b5 b6 _ => by rw [s4 q b4 b5 b6, s2 q b4 b5 b6]
  have u3 : iv2 43 = 0 := by rw [s4 43 (by decide) (by decide) (by decide), s2 43 (by decide) (by decide) (by decide)]; exact h43
  have eb : t_bad 2 0 hd nx [] 0 0 0 = (decide (nx < 0) || decide (12 < nx) || decide (hd < 0) || !decide (hd ≤ nx)) := rfl
  refine ⟨fun w => fin false iv2 ?_ s3 u2 u3, fun w => ⟨fun w1 => fin false iv2 ?_ s3 u2 u3, fun w1 => ⟨fun w2 => fin false iv2 ?_ s3 u2 u3, fun w2 => ⟨fun w3 => fin false iv2 ?_ s3 u2 u3, fun w3 => fin true iv2 ?_ s3 u2 u3⟩⟩⟩⟩
  · rw [eb, decide_eq_true w]; simp
  · rw [eb, decide_eq_true w1]; simp
  · rw [eb, decide_eq_true w2]; simp
  · rw [eb, decide_eq_false (Int32.not_le.2 w3)]; simp
  · rw [eb, decide_eq_false w, decide_eq_false w1, decide_eq_false w2, decide_eq_true (Int32.not_lt.1 w3)]; rfl
end RUN
