/-! PURE, the reference: become, after reduce: rows kept, weights cleared -/
section RKP
variable {p n r m : Nat} {K : Nat → Nat → Int} {iv gs gp fr fc gm gth ge gf gr gR gS go gz : Nat → Int32} {nv : Nat → px_NV}
theorem r_keep {post : (Nat → Int32) → (Nat → Int32) → (Nat → Int32) → (Nat → Int32) → (Nat → Int32) → (Nat → Int32) → (Nat → Int32) → (Nat → Int32) → (Nat → Int32) → (Nat → Int32) → (Nat → Int32) → (Nat → Int32) → (Nat → Int32) → (Nat → Int32) → (Nat → Int32) → (Nat → Int32) → (Nat → Int32) → (Nat → px_NV) → Prop} {gk gq gw : Nat → Int32} (hp : p < 256) (hm : m < 26) (hn : n ≤ 12) (hr : r ≤ 12) (hiv0 : iv 10 = nI r) (hiv1 : iv 11 = nI n) (hiv2 : iv 12 = nI p) (hX : r_X p n r gs nv K) (hb : p = 0 → ∀ i, i < r → ∀ j, j < n → (K i j).natAbs < 65536 ^ 23)
    (h : ∀ gk' gq' gw', (∀ i, i < r → ∀ j, j < n → r_ke p gk' gq' (144 * m + 12 * i + j) (K i j)) → (∀ q, (q < 3456 * m ∨ 3456 * m + 3456 ≤ q) → gk' q = gk q) → (∀ q, (q < 144 * m ∨ 144 * m + 144 ≤ q) → gq' q = gq q) → (∀ e, e < 12 → gw' (12 * m + e) = 0) → (∀ q, (q < 12 * m ∨ 12 * m + 12 ≤ q) → gw' q = gw q) → w69_wp (fun v1 v2 v3 v4 v5 v6 v7 v8 v9 v10 v11 => post v1 v2 v3 v4 v5 v6 gth ge gf gr gk' gq' gw' v7 v8 v9 v10 v11) (nI m) iv gs gp fr fc gm gR gS go gz nv) :
    ∃ t, w66_L43 post t (nI m) 0 iv gs gp fr fc gm gth ge gf gr gk gq gw gR gS go gz nv := by
  have clear : ∀ gk' gq' : Nat → Int32, (∀ i, i < r → ∀ j, j < n → r_ke p gk' gq' (144 * m + 12 * i + j) (K i j)) → (∀ q, (q < 3456 * m ∨ 3456 * m + 3456 ≤ q) → gk' q = gk q) → (∀ q, (q < 144 * m ∨ 144 * m + 144 ≤ q) → gq' q = gq q) → ∀ (u e : Nat) (gw1 : Nat → Int32), e + u = 12 → (∀ e', e' < e → gw1 (12 * m + e') = 0) → (∀ q, (q < 12 * m ∨ 12 * m + 12 ≤ q) → gw1 q = gw q) → w66_L129 post (u + 1) (nI m) (nI e) iv gs gp fr fc gm gth ge gf gr gk' gq' gw1 gR gS go gz nv := by
    intro gk' gq' a1 a2 a3 u
    induction u with
    | zero =>
      intro e gw1 he h1 h2
      have : e = 12 := by omega
      subst this
      exact ⟨fun _ => h gk' gq' gw1 a1 a2 a3 h1 h2, fun w => absurd (Int32.le_refl 12) w⟩
    | succ u ih =>
      intro e gw1 he h1 h2
      unfold w66_L129
      rw [b_ix12, nI_clamp (show 12 * m + e < 2 ^ 31 by omega)]
      refine ⟨fun w => absurd w (show ¬ nI 12 ≤ nI e from nI_ge (by omega) (by decide)), fun _ => ⟨b_in (by omega) (by omega), fun z ez => ?_⟩⟩
      rw [ez, nI_1]
      refine ih (e + 1) _ (by omega) (fun e' q => ?_) (fun q w => ?_)
      · by_cases z : e' = e
        · rw [z, pk_us]
        · rw [pk_un (by omega)]; exact h1 e' (by omega)
      · rw [pk_un (by omega)]; exact h2 q w
  have rows : ∀ (u i : Nat) (gk1 gq1 : Nat → Int32), i + u = r → (∀ i', i' < i → ∀ j, j < n → r_ke p gk1 gq1 (144 * m + 12 * i' + j) (K i' j)) → (∀ q, (q < 3456 * m ∨ 3456 * m + 3456 ≤ q) → gk1 q = gk q) → (∀ q, (q < 144 * m ∨ 144 * m + 144 ≤ q) → gq1 q = gq q) → w66_L43 post (u + 1) (nI m) (nI i) iv gs gp fr fc gm gth ge gf gr gk1 gq1 gw gR gS go gz nv := by
    intro u
    induction u with
    | zero =>
      intro i gk1 gq1 hi a1 a2 a3
      have : i = r := by omega
      subst this
      exact ⟨fun _ => ⟨13, clear gk1 gq1 a1 a2 a3 12 0 gw (by omega) (fun e' q => absurd q (Nat.not_lt_zero e')) (fun _ _ => rfl)⟩, fun w => absurd (by rw [hiv0]; exact nI_le (Nat.le_refl i) (by omega)) w⟩
    | succ u ih =>
      intro i gk1 gq1 hi a1 a2 a3
      refine ⟨fun w => absurd w (by rw [hiv0]; exact nI_ge (by omega) (by omega)), fun _ => ⟨n + 1, ?_⟩⟩
      have cols : ∀ (w j : Nat) (gk2 gq2 : Nat → Int32), j + w = n → (∀ i' j', i' < r → j' < n → (i' < i ∨ (i' = i ∧ j' < j)) → r_ke p gk2 gq2 (144 * m + 12 * i' + j') (K i' j')) → (∀ q, (q < 3456 * m ∨ 3456 * m + 3456 ≤ q) → gk2 q = gk q) → (∀ q, (q < 144 * m ∨ 144 * m + 144 ≤ q) → gq2 q = gq q) → w66_L53 (w66_L43 post (u + 1)) post (w + 1) (nI m) (nI i) (nI j) iv gs gp fr fc gm gth ge gf gr gk2 gq2 gw gR gS go gz nv := by
        intro w
        induction w with
        | zero =>
          intro j gk2 gq2 hj b1 b2 b3
          have : j = n := by omega
          subst this
          refine ⟨fun _ z ez => ?_, fun w => absurd (by rw [hiv1]; exact nI_le (Nat.le_refl j) (by omega)) w⟩
          rw [ez, nI_1]
          exact ih (i + 1) gk2 gq2 (by omega) (fun i' q j' hj' => b1 i' j' (by omega) hj' (by omega)) b2 b3
        | succ w ihw =>
          intro j gk2 gq2 hj b1 b2 b3
          have hat : 144 * m + 12 * i + j < 144 * m + 144 := by omega
          unfold w66_L53 w66_L115
          rw [b_ix12, nI_clamp (show 12 * i + j < 2 ^ 31 by omega)]
          refine ⟨fun w => absurd w (by rw [hiv1]; exact nI_ge (by omega) (by omega)), fun _ z16 e16 => ?_⟩
          have e16 : z16 = nI (144 * m + 12 * i + j) := by
            rw [e16, show (144 : Int32) = nI 144 from rfl, show (12 : Int32) = nI 12 from rfl, pk_mul, pk_mul, nI_add, nI_add]
          rw [e16, nI_clamp (show 144 * m + 12 * i + j < 2 ^ 31 by omega), hiv2]
          refine ⟨b_in (by omega) (by omega), fun z17 e17 => ⟨b_in (by omega) (by omega), fun w z ez => ?_, fun w => ?_⟩⟩
          · have hp0 : p ≠ 0 := fun q => w (by rw [q]; rfl)
            have hx := r_XP hX hp0 (show i < r by omega) (show j < n by omega)
            rw [ez, nI_1]
            refine ihw (j + 1) gk2 _ (by omega) (fun i' j' q1 q2 q3 => ?_) b2 (fun q w => by rw [pk_un (by omega)]; exact b3 q w)
            by_cases q : i' = i ∧ j' = j
            · rw [q.1, q.2]
              unfold r_ke
              rw [if_neg hp0, pk_us, e17]; exact hx
            · have := b1 i' j' q1 q2 (by omega)
              unfold r_ke at this ⊢
              rw [if_neg hp0] at this ⊢
              rw [pk_un (by omega)]; exact this
          · have hp0 : p = 0 := Classical.byContradiction (fun q => nI_ne0 (by omega) (by omega) w)
            have hb0 := hb hp0
            subst hp0
            have hx := r_XQ hX (show i < r by omega) (show j < n by omega)
            refine r_at (by omega) (by omega) ?_
            rw [show (24 : Int32) = nI 24 from rfl, pk_mul]
            refine r_store (z := K i j) (by omega) (by omega) hx (hb0 i (by omega) j (by omega)) (fun gk3 g1 g2 z ez => ?_)
            rw [ez, nI_1]
            refine ihw (j + 1) gk3 _ (by omega) (fun i' j' q1 q2 q3 => ?_) (fun q w => by rw [g1 q (by omega)]; exact b2 q w) (fun q w => by rw [pk_un (by omega)]; exact b3 q w)
            by_cases q : i' = i ∧ j' = j
            · rw [q.1, q.2]
              unfold r_ke
              rw [if_pos rfl]; exact g2
            · have := b1 i' j' q1 q2 (by omega)
              unfold r_ke at this ⊢
              rw [if_pos rfl] at this ⊢
              exact r_kNc this (fun q w1 w2 => g1 q (by omega))
      exact cols n 0 gk1 gq1 (by omega) (fun i' j' q1 q2 q3 => a1 i' (by omega) j' q2) a2 a3
  exact ⟨r + 1, rows r 0 gk gq (by omega) (fun i' q => absurd q (Nat.not_lt_zero i')) (fun _ _ => rfl) (fun _ _ => rfl)⟩
end RKP
