/-! PURE, the reference: print -/
/-- what is printed behind U: V, or, if that is too long, nothing -/
def rp_F (iv sh : Nat → Int32) (U V : List Nat) : Prop := if (U ++ V).length ≤ 65536 then rp_I iv sh (U ++ V) else iv 43 = 7 ∧ iv 47 = nI U.length ∧ ∀ j x, U[j]? = some x → sh j = nI x
/-- the text of a statement that prints: k its number, y and z its letters -/
def x_PT (k : Nat) (p n r : Nat) (piv : Nat → Nat) (K : Nat → Nat → Int) (w : Nat → Int) (c : Nat → Nat → Nat) (p2 n2 r2 : Nat) (K2 : Nat → Nat → Int) (V : List Nat) : Prop :=
  (k = 1 ∧ V = x_dg r ++ [10]) ∨
  (2 ≤ k ∧ k ≤ 5 ∧ V = x_fa (x_fml (x_bm p r K) n r (k - 2)) 4096 0) ∨
  (k = 6 ∧ V = x_tuW c 169 true ++ [10]) ∨
  (k = 7 ∧ ∃ G, x_best (x_bm p r K) w G ∧ V = x_set G) ∨
  (k = 8 ∧ ∃ T, x_top n (x_cp (x_bm p r K) (x_bm p2 r2 K2)) T ∧ V = x_set T ++ x_set (x_cv (x_bm p r K) (x_bm p2 r2 K2) n (x_n T) (2 ^ n))) ∨
  (k = 9 ∧ V = x_fa (x_chl n r (x_sgn2 p n r (x_Fm p r K))) 4096 0 ++ [10]) ∨
  (k = 10 ∧ V = x_fa (x_sgl (x_bm p r K) n (x_sgn2 p n r (x_Fm p r K))) 4096 0) ∨
  (k = 11 ∧ ((∃ K' c' f, w_1st (x_bm p r K) (x_bm p2 r2 K2) n n2 K' c' f ∧ V = x_set c' ++ (x_set (x_co n (K' ||| c')) ++ (x_fa (x_img3 f) n2 0 ++ [10]))) ∨ ((¬ ∃ K' c' f, w_E (x_bm p r K) (x_bm p2 r2 K2) n n2 K' c' f) ∧ V = [110, 111, 10]))) ∨
  (k = 12 ∧ V = x_fa (x_shr p n piv K) r 0)
theorem x_cvl (b d : Nat → Bool) (n m : Nat) : ∀ k, x_cv b d n m k ≤ 2 ^ n - 1
  | 0 => Nat.le_refl _
  | k + 1 => by
    have ih := x_cvl b d n m k
    unfold x_cv
    split
    · exact Nat.le_trans Nat.and_le_left ih
    · exact ih
section RPW
variable {iv sh gd gth ge gf gr gk gq gw gR gS go gz gt gi gx : Nat → Int32} {gc gh : Nat → Int64} {U : List Nat} {nv : Nat → px_NV} {m m2 p n r p2 n2 r2 : Nat} {piv piv2 : Nat → Nat} {K K2 : Nat → Nat → Int} {w : Nat → Int} {c : Nat → Nat → Nat}
theorem rp_end {post : (Nat → Int32) → (Nat → Int32) → (Nat → Int32) → (Nat → Int32) → (Nat → Int32) → (Nat → Int32) → (Nat → Int32) → (Nat → Int32) → (Nat → Int32) → (Nat → Int32) → (Nat → Int32) → (Nat → Int64) → (Nat → Int64) → (Nat → Int32) → (Nat → Int32) → (Nat → Int32) → (Nat → Int32) → (Nat → Int32) → (Nat → px_NV) → Prop} {x1 x2 x3 : Int32} {iv1 : Nat → Int32} {V : List Nat} (hU : U.length ≤ 65536) (hI : rp_I iv1 sh (U ++ V)) (h : ∀ iv', rp_F iv' sh U V → (∀ q, q ≠ 47 → iv' q = iv1 q) → post iv' ge gf gr gk gq gw gR gS go gz gc gh gt gi gx sh gd nv) : w116_L161 post x1 x2 x3 (nI U.length) iv1 ge gf gr gk gq gw gR gS go gz gc gh gt gi gx sh gd nv := by
  obtain ⟨i1, i2, i3⟩ := id hI
  unfold w116_L161 w116_L178
  by_cases q : (U ++ V).length ≤ 65536
  · rw [i2, if_neg (by omega)]
    refine ⟨fun _ => h _ ?_ (fun q' hq => va_up_ne _ _ hq), fun w => absurd (Int32.le_refl 0) w⟩
    unfold rp_F
    rw [if_pos q]
    exact ⟨by rw [va_up_self]; exact i1, by rw [va_up_ne _ _ (by decide)]; exact i2, i3⟩
  · rw [i2, if_pos (by omega)]
    refine ⟨fun w => absurd w (by decide), fun _ => h _ ?_ (fun q' hq => va_up_ne _ _ hq)⟩
    unfold rp_F
    rw [if_neg q]
    refine ⟨by rw [va_up_ne _ _ (by decide), i2, if_pos (by omega)], va_up_self _ _ _, fun j x hx => ?_⟩
    have hj : j < U.length := by
      refine Classical.byContradiction (fun z => ?_)
      rw [List.getElem?_eq_none (by omega)] at hx
      exact absurd hx (by simp)
    exact i3 j x (by omega) (by rw [List.getElem?_append_left hj]; exact hx)
theorem r_print {post : (Nat → Int32) → (Nat → Int32) → (Nat → Int32) → (Nat → Int32) → (Nat → Int32) → (Nat → Int32) → (Nat → Int32) → (Nat → Int32) → (Nat → Int32) → (Nat → Int32) → (Nat → Int32) → (Nat → Int64) → (Nat → Int64) → (Nat → Int32) → (Nat → Int32) → (Nat → Int32) → (Nat → Int32) → (Nat → Int32) → (Nat → px_NV) → Prop} {k : Nat} (hk1 : 1 ≤ k) (hk2 : k ≤ 12) (hLt : r_L m p n r piv K gth ge gf gr gk gq gR gS) (hL2 : r_L m2 p2 n2 r2 piv2 K2 gth ge gf gr gk gq gR gS) (hT : r_T go gz) (hw : ∀ e, e < n → (gw (12 * m + e)).toInt = w e) (hwl : ∀ e, e < 12 → -999 ≤ w e ∧ w e ≤ 999) (hc : k = 6 → ∀ i j, i < 13 → j < 13 → x_T Int64 (x_bm p r K) n r i j = nL (c i j) ∧ c i j < 2 ^ 31) (hs : k = 10 → (∀ S, S < 2 ^ n → x_bm p r K S = true → x_sgn2 p n r (x_Fm p r K) S = 1 ∨ x_sgn2 p n r (x_Fm p r K) S = -1) ∧ ∀ C, C < 2 ^ n → x_ngk (x_sgn2 p n r (x_Fm p r K)) (x_cb (x_bm p r K) n C) C n < 2 ^ 31) (h8 : k = 8 → n = n2) (hU : U.length ≤ 65536) (hI : rp_I iv sh U)
    (h : ∀ V iv' gc' gh' gt' gi' gx' sh' gd' nv', x_PT k p n r piv K w c p2 n2 r2 K2 V → rp_F iv' sh' U V → (∀ q, q ≠ 43 → q ≠ 47 → q ≠ 32 → q ≠ 33 → iv' q = iv q) → (∀ q, q < 156 → nv' q = nv q) → post iv' ge gf gr gk gq gw gR gS go gz gc' gh' gt' gi' gx' sh' gd' nv') : w116_wp post (nI k) (nI m) (nI m2) iv ge gf gr gk gq gw gR gS go gz gc gh gt gi gx sh gd nv := by
  have hD := r_LD hLt
  have hD2 := r_LD hL2
  have hm := hD.1
  have hn := (r_Dn hD).1
  have hr := (r_Dn hD).2
  have hS := hLt.2.2.2.2.2.2.2.2.2
  have ne : ∀ a, a < 20 → k ≠ a → ¬ nI k = nI a := fun a ha q w => q ((nI_eq (by omega) (by omega)).1 w)
  have eq : ∀ a, a < 20 → nI k = nI a → k = a := fun a ha w => (nI_eq (by omega) (by omega)).1 w
  -- the end of each
  have fin : ∀ (V : List Nat) (iv1 : Nat → Int32) (gc1 gh1 : Nat → Int64) (gt1 gi1 gx1 sh1 gd1 : Nat → Int32) (nv1 : Nat → px_NV), x_PT k p n r piv K w c p2 n2 r2 K2 V → rp_I iv1 sh1 (U ++ V) → (∀ q, q ≠ 43 → q ≠ 47 → q ≠ 32 → q ≠ 33 → iv1 q = iv q) → (∀ q, q < 156 → nv1 q = nv q) → w116_L161 post (nI k) (nI m) (nI m2) (nI U.length) iv1 ge gf gr gk gq gw gR gS go gz gc1 gh1 gt1 gi1 gx1 sh1 gd1 nv1 := fun V iv1 gc1 gh1 gt1 gi1 gx1 sh1 gd1 nv1 hP hI1 hQ1 hn1 => rp_end hU hI1 (fun iv' hF hQ => h V iv' gc1 gh1 gt1 gi1 gx1 sh1 gd1 nv1 hP hF (fun q q1 q2 q3 q4 => by rw [hQ q q2]; exact hQ1 q q1 q2 q3 q4) hn1)
  have mid : (k < 2 ∨ 5 < k) → k ≠ 1 → w116_L52 post (nI k) (nI m) (nI m2) (nI U.length) iv ge gf gr gk gq gw gR gS go gz gc gh gt gi gx sh gd nv := fun hk hk' => by
    unfold w116_L52
    refine ⟨fun w6 => ⟨fun w7 => ⟨fun w8 => ⟨fun w9 => ⟨fun w10 => ⟨fun w11 => ?_, fun w11 => ?_⟩, fun w10 => ?_⟩, fun w9 => ?_⟩, fun w8 => ?_⟩, fun w7 => ?_⟩, fun w6 => ?_⟩
    · have e : k = 12 := by
        have a6 : k ≠ 6 := fun z => w6 (by rw [z]; rfl)
        have a7 : k ≠ 7 := fun z => w7 (by rw [z]; rfl)
        have a8 : k ≠ 8 := fun z => w8 (by rw [z]; rfl)
        have a9 : k ≠ 9 := fun z => w9 (by rw [z]; rfl)
        have a10 : k ≠ 10 := fun z => w10 (by rw [z]; rfl)
        have a11 : k ≠ 11 := fun z => w11 (by rw [z]; rfl)
        omega
      refine rp_show hLt hI (fun iv1 sh1 gd1 nv1 hI1 hQ1 hn1 => fin _ iv1 gc gh gt gi gx sh1 gd1 nv1 ?_ hI1 (fun q q1 q2 _ _ => hQ1 q q1 q2) hn1)
      exact Or.inr (Or.inr (Or.inr (Or.inr (Or.inr (Or.inr (Or.inr (Or.inr ⟨e, rfl⟩)))))))
    · have e : k = 11 := eq 11 (by decide) w11
      refine rp_minor hD hD2 hT hI (fun K' c' f iv1 gi1 gx1 sh1 hw1 hI1 hQ1 => fin _ iv1 gc gh gt gi1 gx1 sh1 gd nv ?_ hI1 hQ1 (fun _ _ => rfl)) (fun hno iv1 gi1 gx1 sh1 hI1 hQ1 => fin _ iv1 gc gh gt gi1 gx1 sh1 gd nv ?_ hI1 hQ1 (fun _ _ => rfl))
      · exact Or.inr (Or.inr (Or.inr (Or.inr (Or.inr (Or.inr (Or.inr (Or.inl ⟨e, Or.inl ⟨K', c', f, hw1, rfl⟩⟩)))))))
      · exact Or.inr (Or.inr (Or.inr (Or.inr (Or.inr (Or.inr (Or.inr (Or.inl ⟨e, Or.inr ⟨hno, rfl⟩⟩)))))))
    · have e : k = 10 := eq 10 (by decide) w10
      refine rp_signs hD hT hS (hs e).1 (hs e).2 hI (fun iv1 gt1 sh1 hI1 hQ1 => fin _ iv1 gc gh gt1 gi gx sh1 gd nv ?_ hI1 (fun q q1 q2 _ _ => hQ1 q q1 q2) (fun _ _ => rfl))
      exact Or.inr (Or.inr (Or.inr (Or.inr (Or.inr (Or.inr (Or.inl ⟨e, rfl⟩))))))
    · have e : k = 9 := eq 9 (by decide) w9
      refine rp_chiro hD hT hS hI (fun iv1 sh1 hI1 hQ1 => fin _ iv1 gc gh gt gi gx sh1 gd nv ?_ hI1 (fun q q1 q2 _ _ => hQ1 q q1 q2) (fun _ _ => rfl))
      exact Or.inr (Or.inr (Or.inr (Or.inr (Or.inr (Or.inl ⟨e, rfl⟩)))))
    · have e : k = 8 := eq 8 (by decide) w8
      have en := h8 e
      subst en
      have hp12 : 2 ^ n ≤ 4096 := by
        have : 2 ^ n ≤ 2 ^ 12 := Nat.pow_le_pow_right (by decide) hn
        exact this
      refine r_common hD hD2 hT (fun T hTop => ?_)
      have hT1 : T < 2 ^ n := hTop.1
      refine rp_set (by omega) hI (fun iv1 sh1 hI1 hQ1 => ?_)
      refine r_cover hD hD2 hT (fun T' hTop' => ?_)
      have hcv : x_cv (x_bm p r K) (x_bm p2 r2 K2) n (x_n T') (2 ^ n) < 2 ^ 31 := Nat.lt_of_le_of_lt (x_cvl _ _ _ _ _) (by omega)
      have hTT : x_n T' = x_n T := by rw [x_topu hn hTop' hTop]
      rw [hTT] at hcv ⊢
      refine rp_set hcv hI1 (fun iv2 sh2 hI2 hQ2 => fin (x_set T ++ x_set (x_cv (x_bm p r K) (x_bm p2 r2 K2) n (x_n T) (2 ^ n))) iv2 gc gh gt gi gx sh2 gd nv ?_ (by rw [← List.append_assoc]; exact hI2) (fun q q1 q2 _ _ => by rw [hQ2 q q1 q2, hQ1 q q1 q2]) (fun _ _ => rfl))
      exact Or.inr (Or.inr (Or.inr (Or.inr (Or.inl ⟨e, T, hTop, rfl⟩))))
    · have e : k = 7 := eq 7 (by decide) w7
      refine r_bestOf hD hT hw hwl (fun G hG => ?_)
      have hG1 : G < 2 ^ 31 := by
        have h1 := (hD.2.2.2.1.2.2.1 G hG.1).1
        have : 2 ^ n ≤ 2 ^ 12 := Nat.pow_le_pow_right (by decide) hn
        have : (2 : Nat) ^ 12 = 4096 := rfl
        omega
      refine rp_set hG1 hI (fun iv1 sh1 hI1 hQ1 => fin _ iv1 gc gh gt gi gx sh1 gd nv ?_ hI1 (fun q q1 q2 _ _ => hQ1 q q1 q2) (fun _ _ => rfl))
      exact Or.inr (Or.inr (Or.inr (Or.inl ⟨e, G, hG, rfl⟩)))
    · have e : k = 6 := eq 6 (by decide) w6
      refine rp_tutte hD hT (hc e) hI (fun iv1 gc1 gh1 sh1 hI1 hQ1 => fin _ iv1 gc1 gh1 gt gi gx sh1 gd nv ?_ hI1 (fun q q1 q2 _ _ => hQ1 q q1 q2) (fun _ _ => rfl))
      exact Or.inr (Or.inr (Or.inl ⟨e, rfl⟩))
  unfold w116_wp
  intro z77 e77
  have hb : z77 = nI U.length := by rw [e77, hI.1, show min 65536 U.length = U.length by omega]
  rw [hb]
  refine ⟨fun w1 => ⟨fun w2 => mid (Or.inl ?_) (fun q => w1 (by rw [q]; rfl)), fun w2 => ⟨fun w5 => mid (Or.inr ?_) (fun q => w1 (by rw [q]; rfl)), fun w5 => ?_⟩⟩, fun w1 => ?_⟩
  · exact Classical.byContradiction (fun q => absurd (nI_le (show 2 ≤ k by omega) (by omega)) (Int32.not_le.2 w2))
  · exact Classical.byContradiction (fun q => absurd (nI_le (show k ≤ 5 by omega) (by omega)) (Int32.not_le.2 w5))
  · have a2 : 2 ≤ k := Classical.byContradiction (fun q => w2 (show nI k < nI 2 from nI_lt (by omega) (by omega)))
    have a5 : k ≤ 5 := Classical.byContradiction (fun q => w5 (show nI 5 < nI k from nI_lt (by omega) (by omega)))
    have ek : nI k - 2 = nI (k - 2) := by rw [show (2 : Int32) = nI 2 from rfl, nI_subn a2]
    rw [ek]
    refine rp_family hD hT (show k - 2 < 4 by omega) hI (fun iv1 sh1 hI1 hQ1 => fin _ iv1 gc gh gt gi gx sh1 gd nv ?_ hI1 (fun q q1 q2 _ _ => hQ1 q q1 q2) (fun _ _ => rfl))
    exact Or.inr (Or.inl ⟨a2, a5, rfl⟩)
  · have e : k = 1 := eq 1 (by decide) w1
    refine ⟨b_in hm (by omega), ?_⟩
    rw [nI_clamp (show m < 2 ^ 31 by omega), hD.2.2.1, nL_of (show r < 2 ^ 31 by omega)]
    refine rp_long (by omega) hI (fun iv1 sh1 hI1 hQ1 => ?_)
    refine rp_put (c := 10) (by decide) hI1 (fun iv2 sh2 hI2 hQ2 => fin (x_dg r ++ [10]) iv2 gc gh gt gi gx sh2 gd nv ?_ (by rw [← List.append_assoc]; exact hI2) (fun q q1 q2 _ _ => by rw [hQ2 q q1 q2, hQ1 q q1 q2]) (fun _ _ => rfl))
    exact Or.inl ⟨e, rfl⟩
end RPW
