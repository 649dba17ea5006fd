/-! PURE, the reference: measure, whole -/
section RMG
variable {n r p : Nat} {b : Nat → Bool} {iv gs gp gS go gz : Nat → Int32} {nv : Nat → px_NV} {m : Nat} {F : Nat → Int32}
theorem x_fst3 (hF : ∀ S, c_s3 (F S)) : ∀ k, c_s3 (x_fst n r F k)
  | 0 => Or.inr (Or.inl rfl)
  | k + 1 => by
    have ih := x_fst3 hF k
    show c_s3 (if x_or 12 k < 2 ^ n then (if x_fst n r F k = 0 then (if x_n (x_or 12 k) = r then F (x_or 12 k) else 0) else x_fst n r F k) else x_fst n r F k)
    split
    · split
      · split
        · exact hF _
        · exact Or.inr (Or.inl rfl)
      · exact ih
    · exact ih
theorem x_fstF {k : Nat} (h1 : x_or 12 k < 2 ^ n) (h2 : x_n (x_or 12 k) = r) (h3 : ¬ F (x_or 12 k) = 0) : ¬ x_fst n r F (k + 1) = 0 := by
  show ¬ (if x_or 12 k < 2 ^ n then (if x_fst n r F k = 0 then (if x_n (x_or 12 k) = r then F (x_or 12 k) else 0) else x_fst n r F k) else x_fst n r F k) = 0
  rw [if_pos h1, if_pos h2]
  split
  · exact h3
  · assumption
theorem b_s3mul {x y : Int32} (hx : c_s3 x) (hy : c_s3 y) (h1 : ¬ x = 0) (h2 : ¬ y = 0) : ¬ x * y = 0 := by
  rcases hx with q | q | q <;> rcases hy with w | w | w <;> subst q <;> subst w <;> first | decide | exact absurd rfl h1 | exact absurd rfl h2
theorem r_measure {post : (Nat → Int32) → (Nat → Int32) → (Nat → Int32) → (Nat → Int32) → (Nat → Int32) → (Nat → Int32) → (Nat → Int32) → (Nat → Int32) → (Nat → Int32) → (Nat → Int32) → (Nat → px_NV) → Prop} {fr fc gm gR : Nat → Int32} (hp : p < 256) (hb : x_M n r b) (hm : m < 26) (hiv : iv 11 = nI n) (hiv0 : iv 10 = nI r) (hiv2 : iv 12 = nI p) (hT : r_T go gz) (hF : ∀ S, c_s3 (F S)) (hbF : ∀ S, S < 2 ^ n → (b S = true ↔ x_n S = r ∧ ¬ F S = 0))
    (hmin : ∀ S, S < 2 ^ n → x_n S = r → ∀ (fr fc gm : Nat → Int32) (nv1 : Nat → px_NV), (∀ d, d < 156 → nv1 d = nv d) → ∀ post : Int32 → (Nat → Int32) → (Nat → Int32) → (Nat → Int32) → (Nat → Int32) → (Nat → Int32) → (Nat → Int32) → (Nat → px_NV) → Prop, (∀ fr' fc' gm' nv', (∀ d, d < 156 → nv' d = nv d) → post (F S) iv gs gp fr' fc' gm' nv') → w57_wp post (nI S) iv gs gp fr fc gm nv1)
    (h : ∀ fr' fc' gm' gR' gS' nv', (∀ d, d < 156 → nv' d = nv d) → (∀ T, T < 2 ^ n → gR' (4096 * m + T) = nI (x_rk b T)) → (∀ q, (q < 4096 * m ∨ 4096 * m + 2 ^ n ≤ q) → gR' q = gR q) → (∀ T, T < 2 ^ n → gS' (4096 * m + T) = x_sgn2 p n r F T) → (∀ q, (q < 4096 * m ∨ 4096 * m + 2 ^ n ≤ q) → gS' q = gS q) → post iv gs gp fr' fc' gm' gR' gS' go gz nv') : w69_wp post (nI m) iv gs gp fr fc gm gR gS go gz nv := by
  have hn := hb.1
  have hp12 := b_p12 hn
  have hon : ∀ S, S < 2 ^ n → ∃ i, i < 4096 ∧ x_or 12 i = S := fun S hS => x_orx (n := 12) (Nat.le_refl 12) (Nat.lt_of_lt_of_le hS hp12)
  have hol : ∀ i, i < 4096 → x_or 12 i < 4096 := fun i hi => (x_orl (m := 12) (Nat.le_refl 12) hi).1
  have hrn : r ≤ 12 := by
    obtain ⟨B, hB⟩ := hb.2.1
    have := (hb.2.2.1 B hB).2
    have := x_nle B
    omega
  have main : ∀ (u k : Nat) (fr fc gm gS1 : Nat → Int32) (nv1 : Nat → px_NV), k + u = 4096 → (∀ d, d < 156 → nv1 d = nv d) → (∀ i, i < k → x_or 12 i < 2 ^ n → gS1 (4096 * m + x_or 12 i) = x_sgn2 p n r F (x_or 12 i)) → (∀ q, (q < 4096 * m ∨ 4096 * m + 2 ^ n ≤ q) → gS1 q = gS q) → w69_L12 post (u + 1) (nI m) (nI (2 ^ n)) (x_fst n r F k) (nI k) iv gs gp fr fc gm gR gS1 go gz nv1 := by
    intro u
    induction u with
    | zero =>
      intro k fr fc gm gS1 nv1 hk h1 h2 h3
      have : k = 4096 := by omega
      subst this
      have h4 : ∀ T, T < 2 ^ n → gS1 (4096 * m + T) = x_sgn2 p n r F T := fun T hT' => by
        obtain ⟨i, q1, q2⟩ := hon T hT'
        have := h2 i q1 (by rw [q2]; exact hT')
        rw [q2] at this; exact this
      refine ⟨fun _ z6 e6 => ⟨2 ^ n + 1, ?_⟩, fun w => absurd (Int32.le_refl 4096) w⟩
      rw [e6]
      refine r_m2 (gR0 := gR) hb hm hiv hiv0 hT (fun S hS => ?_) (fun gR' a1 a2 => h _ _ _ gR' gS1 nv1 h1 a1 a2 h4 h3) (2 ^ n) gR (Nat.le_refl _) (fun T q1 q2 => absurd q2 (by omega)) (fun _ _ => rfl)
      rw [hbF S hS, h4 S hS]
      unfold x_sgn2
      constructor
      · intro ⟨q1, q2⟩
        refine ⟨q1, ?_⟩
        rw [if_pos q1]
        by_cases hp0 : p = 0
        · rw [if_pos hp0]
          obtain ⟨i, w1, w2⟩ := hon S hS
          have hf := x_fstF (n := n) (r := r) (F := F) (k := i) (by rw [w2]; exact hS) (by rw [w2]; exact q1) (by rw [w2]; exact q2)
          have hf2 := x_fstk hf (4096 - (i + 1))
          rw [show i + 1 + (4096 - (i + 1)) = 4096 by omega] at hf2
          rw [hf2]
          exact b_s3mul (hF S) (x_fst3 hF _) q2 hf
        · rw [if_neg hp0]; exact q2
      · intro ⟨q1, q2⟩
        refine ⟨q1, fun z => q2 ?_⟩
        rw [if_pos q1, z]
        by_cases hp0 : p = 0
        · rw [if_pos hp0]; grind
        · rw [if_neg hp0]
    | succ u ih =>
      intro k fr fc gm gS1 nv1 hk h1 h2 h3
      have hl := hol k (by omega)
      have ef : x_fst n r F (k + 1) = (if x_or 12 k < 2 ^ n then (if x_fst n r F k = 0 then (if x_n (x_or 12 k) = r then F (x_or 12 k) else 0) else x_fst n r F k) else x_fst n r F k) := rfl
      have hS3 : c_s3 (x_fst n r F (k + 1)) := x_fst3 hF (k + 1)
      have hkeep : ¬ F (x_or 12 k) = 0 → x_or 12 k < 2 ^ n → x_n (x_or 12 k) = r → x_fst n r F 4096 = x_fst n r F (k + 1) := by
        intro q1 q2 q3
        have hf2 := x_fstk (x_fstF q2 q3 q1) (4096 - (k + 1))
        rw [show k + 1 + (4096 - (k + 1)) = 4096 by omega] at hf2
        exact hf2
      unfold w69_L12
      rw [nI_clamp (show k < 2 ^ 31 by omega), hT.1 k (by omega)]
      refine ⟨fun w => absurd w (show ¬ nI 4096 ≤ nI k from nI_ge (by omega) (by decide)), fun _ => ⟨b_in (by omega) (by omega), fun z7 e7 => ?_⟩⟩
      rw [e7]
      generalize hSk : x_or 12 k = S at *
      refine ⟨fun w => ?_, fun w z5 e5 => ?_⟩
      · have hSn : S < 2 ^ n := Classical.byContradiction (fun q => nI_nlt (by omega) (by omega) w)
        rw [if_pos hSn] at ef
        rw [nI_clamp (show S < 2 ^ 31 by omega), hT.2 S hl, hiv0]
        have hnl := x_nle S
        have write : ∀ (v : Int32) (x3 : Int32) (fr fc gm : Nat → Int32) (nv2 : Nat → px_NV), (∀ d, d < 156 → nv2 d = nv d) → v = (if x_n S = r then F S else 0) → w69_L74 (w69_L12 post (u + 1)) post (nI m) (nI (2 ^ n)) x3 (nI k) (nI S) v (x_fst n r F (k + 1)) iv gs gp fr fc gm gR gS1 go gz nv2 := by
          intro v x3 fr fc gm nv2 g1 ev
          have hv3 : c_s3 v := by
            rw [ev]; split
            · exact hF S
            · exact Or.inr (Or.inl rfl)
          have fin : ∀ y0 : Int32, c_s3 y0 → y0 = x_sgn2 p n r F S → w69_L103 (w69_L12 post (u + 1)) post (nI m) (nI (2 ^ n)) (x_fst n r F (k + 1)) (nI k) (nI S) v y0 (nI (4096 * m + S)) iv gs gp fr fc gm gR gS1 go gz nv2 := by
            intro y0 y3 ey
            refine ⟨b_in (by omega) (by omega), fun z5 e5 => ?_⟩
            rw [e5, nI_1, c_s3b y3, nI_clamp (show 4096 * m + S < 2 ^ 31 by omega)]
            refine ih (k + 1) fr fc gm _ nv2 (by omega) g1 (fun i q1 q2 => ?_) (fun q w => ?_)
            · by_cases z : x_or 12 i = S
              · rw [z, pk_us]; exact ey
              · rw [pk_un (by omega)]
                refine h2 i ?_ q2
                refine Classical.byContradiction (fun y => ?_)
                have : i = k := by omega
                exact z (by rw [this]; exact hSk)
            · rw [pk_un (by omega)]; exact h3 q w
          unfold w69_L74
          rw [b_i4, hiv2]
          refine ⟨fun w => fin _ (c_s3m hv3 hS3) ?_, fun w => fin _ hv3 ?_⟩
          · have hp0 : p = 0 := Classical.byContradiction (fun q => nI_nle (by omega) (by omega) w)
            unfold x_sgn2
            rw [ev]
            by_cases q : x_n S = r
            · rw [if_pos q, if_pos q, if_pos hp0]
              by_cases z : F S = 0
              · rw [z]; grind
              · rw [hkeep z hSn q]
            · rw [if_neg q, if_neg q]; grind
          · have hp0 : ¬ p = 0 := fun q => w (by rw [q]; exact Int32.le_refl 0)
            unfold x_sgn2
            rw [ev, if_neg hp0]
        refine ⟨b_in (by omega) (by omega), fun w' => ?_, fun w' => ?_⟩
        · have q : ¬ x_n S = r := fun q => w' (by rw [q])
          rw [if_neg q] at ef
          unfold w69_L62
          refine ⟨fun z => ?_, fun z => ?_⟩
          · have := write 0 (x_fst n r F k) fr fc gm nv1 h1 (by rw [if_neg q])
            rw [ef, if_neg z] at this; exact this
          · have := write 0 (x_fst n r F k) fr fc gm nv1 h1 (by rw [if_neg q])
            rw [ef, if_pos z] at this; exact this
        · have q : x_n S = r := (nI_eq (by omega) (by omega)).1 w'
          rw [if_pos q] at ef
          refine hmin S hSn q fr fc gm nv1 h1 _ (fun fr' fc' gm' nv' g1 => ?_)
          unfold w69_L62
          refine ⟨fun z => ?_, fun z => ?_⟩
          · have := write (F S) (x_fst n r F k) fr' fc' gm' nv' g1 (by rw [if_pos q])
            rw [ef, if_neg z] at this; exact this
          · have := write (F S) (x_fst n r F k) fr' fc' gm' nv' g1 (by rw [if_pos q])
            rw [ef, if_pos z] at this; exact this
      · have hSn : ¬ S < 2 ^ n := fun q => w (nI_lt q (by omega))
        rw [if_neg hSn] at ef
        rw [e5, nI_1]
        have := ih (k + 1) fr fc gm gS1 nv1 (by omega) h1 (fun i q1 q2 => ?_) h3
        · rw [ef] at this; exact this
        · refine h2 i (Classical.byContradiction (fun y => ?_)) q2
          have : i = k := by omega
          exact hSn (by rw [← hSk, ← this]; exact q2)
  unfold w69_wp
  intro z16 e16
  rw [e16, hiv, b_sh (by omega)]
  exact ⟨4097, main 4096 0 fr fc gm gS nv (by omega) (fun _ _ => rfl) (fun i q => absurd q (Nat.not_lt_zero i)) (fun _ _ => rfl)⟩
end RMG
