/-! PURE, the reference's matrix: rows changed, settle -/
theorem pn_Nu {x : px_NV} {a b : Int} (h1 : pn_N x a) (h2 : pn_N x b) : a = b := by
  obtain ⟨k, p1, p2, p3, p4, p5, p6⟩ := h1
  obtain ⟨l, q1, q2, q3, q4, q5, q6⟩ := h2
  have e : k = l := (nI_eq (by omega) (by omega)).1 (by rw [← p2, ← q2])
  subst e
  rw [p5] at q5
  rw [p6, b_ite2] at q6
  omega
def x_swr (M : Nat → Nat → Int) (i k i' : Nat) : Nat → Int := if i' = i then M k else if i' = k then M i else M i'
section RMB
variable {nv : Nat → px_NV} {iv gs : Nat → Int32} {p n R i k j : Nat} {M : Nat → Nat → Int}
theorem r_swapX {post : (Nat → Int32) → (Nat → Int32) → (Nat → px_NV) → Prop} (hX : r_X p n R gs nv M) (hiv : iv 11 = nI n) (hR : R ≤ 13) (hn : n ≤ 12) (hi : i < R) (hk : k < R) (h : ∀ gs' nv', r_X p n R gs' nv' (x_swr M i k) → post iv gs' nv') : w51_wp post (nI i) (nI k) iv gs nv := by
  by_cases hik : i = k
  · subst hik
    have e : x_swr M i i = M := by
      funext i'
      unfold x_swr
      by_cases q : i' = i
      · rw [if_pos q, q]
      · rw [if_neg q, if_neg q]
    rw [e] at h
    refine ⟨1, fun _ => h gs nv hX, fun _ => ⟨fun _ => h gs nv hX, fun w => absurd rfl w⟩⟩
  · let Z : Nat → Int := fun c => if hc : c < 156 then Classical.choose (hX.1 c hc) else 0
    have hZ : ∀ c, c < 156 → pn_N (nv c) (Z c) := by
      intro c hc
      have := Classical.choose_spec (hX.1 c hc)
      have e : Z c = Classical.choose (hX.1 c hc) := dif_pos hc
      rw [e]; exact this
    generalize Z = Z at hZ
    have sw : ∀ i' j, i' < 13 → j < n → x_swc i k n (12 * i' + j) = 12 * (if i' = i then k else if i' = k then i else i') + j := by
      intro i' j hi' hj
      have d1 : (12 * i' + j) / 12 = i' := by omega
      have d2 : (12 * i' + j) % 12 = j := by omega
      unfold x_swc
      rw [d1, d2]
      by_cases q : i' = i
      · rw [if_pos ⟨q, hj⟩, if_pos q]
      · rw [if_neg (fun z => q z.1), if_neg q]
        by_cases q' : i' = k
        · rw [if_pos ⟨q', hj⟩, if_pos q']
        · rw [if_neg (fun z => q' z.1), if_neg q']
    have swl : ∀ c, c < 156 → x_swc i k n c < 156 := by
      intro c hc
      unfold x_swc
      split
      · omega
      · split <;> omega
    have swm : ∀ i', x_swr M i k i' = M (if i' = i then k else if i' = k then i else i') := by
      intro i'
      unfold x_swr
      by_cases q : i' = i
      · rw [if_pos q, if_pos q]
      · rw [if_neg q, if_neg q]
        by_cases q' : i' = k
        · rw [if_pos q', if_pos q']
        · rw [if_neg q', if_neg q']
    refine r_swap hZ hiv hn (by omega) (by omega) hik (fun gs' nv' h1 h2 => h gs' nv' ⟨fun c hc => ⟨_, h2 c hc⟩, fun i' hi' j hj => ?_⟩)
    have hr : (if i' = i then k else if i' = k then i else i') < R := by
      split
      · exact hk
      · split
        · exact hi
        · exact hi'
    rw [swm]
    have e2 := h2 (12 * i' + j) (by omega)
    have e1 := h1 (12 * i' + j) (by omega)
    rw [sw i' j (by omega) hj] at e1 e2
    generalize (if i' = i then k else if i' = k then i else i') = r at *
    by_cases hp : p = 0
    · subst hp
      rw [if_pos rfl]
      have := r_XQ hX hr hj
      rw [pn_Nu this (hZ _ (by omega))]
      exact e2
    · rw [if_neg hp, e1]
      exact r_XP hX hp hr hj
/-- a row as it is settled -/
def x_stl2 (p n : Nat) (a : Nat → Int) (c : Nat) : Nat → Int := if p = 0 then (fun j => if x_sho n a c < 0 then - x_sho n a j else x_sho n a j) else fun j => (a j * x_inv p (a c).toNat) % (p : Int)
theorem pn_turnP {Q : (Nat → px_NV) → Prop} {a0 : Nat} {x : Int} (h0 : a0 < 200) (hx : pn_N (nv a0) x) (h : ∀ nv', (∀ c, c ≠ a0 → nv' c = nv c) → pn_N (nv' a0) (-x) → Q nv') : px_ix [a0] ∧ (nu_wp (fun v1 v2 v3 => ∀ nv' : Nat → px_NV, nv' = px_fold nv [(a0, ⟨v1, v2, v3⟩)] → Q nv') ((nv a0).1) ((nv a0).2.1) ((nv a0).2.2)) := by
  refine ⟨⟨by simp, fun c hc => by rw [List.mem_singleton.mp hc]; exact h0⟩, ?_⟩
  have hz := (pn_N0 hx).1
  obtain ⟨k, p1, p2, p3, p4, p5, p6⟩ := id hx
  have fin : ∀ y0 : Int32, (y0 = 0 ∨ y0 = 1) → y0 = (if -x < 0 then 1 else 0) → nu_L20 (fun v1 v2 v3 => ∀ nv' : Nat → px_NV, nv' = px_fold nv [(a0, ⟨v1, v2, v3⟩)] → Q nv') y0 ((nv a0).1) ((nv a0).2.1) ((nv a0).2.2) := by
    intro y0 hy ey
    refine ⟨pn_bool hy, fun nv' e => h nv' (fun c hc => ?_) ?_⟩
    · rw [e]; exact pn_un hc
    · rw [e]
      show pn_N (va_up nv a0 _ a0) _
      rw [va_up_self]
      exact ⟨k, p1, p2, p3, p4, by rw [Int.natAbs_neg]; exact p5, ey⟩
  unfold nu_wp nu_L19
  refine ⟨fun w => fin 0 (Or.inl rfl) ?_, fun w => ⟨fun w' => fin 0 (Or.inl rfl) ?_, fun w' => fin 1 (Or.inr rfl) ?_⟩⟩
  · rw [if_neg (by have := hz.1 w; omega)]
  · rw [p6] at w'
    have : x < 0 := Classical.byContradiction (fun q => w' (if_neg q))
    rw [if_neg (by omega)]
  · rw [p6] at w'
    have : ¬ x < 0 := fun q => by rw [if_pos q] at w'; exact t_10 w'
    have : ¬ x = 0 := fun q => w (hz.2 q)
    rw [if_pos (by omega)]
theorem r_settle {post : (Nat → Int32) → (Nat → Int32) → (Nat → Int32) → (Nat → px_NV) → Prop} {gp : Nat → Int32} {c : Nat} (hX : r_X p n R gs nv M) (hp : p = 0 ∨ (1 < p ∧ p < 256)) (hiv : iv 12 = nI p) (hiv1 : iv 11 = nI n) (hR : R ≤ 13) (hn : n ≤ 12) (hi : i < R) (hc : c < n) (hgp : gp i = nI c) (hb : p = 0 → ∀ j, j < n → (M i j).natAbs < 65536 ^ 159) (hex : p ≠ 0 → ∃ b, b < p ∧ (M i c).toNat * b % p = 1) (h : ∀ gs' nv', r_X p n R gs' nv' (x_setr M i (x_stl2 p n (M i) c)) → post iv gs' gp nv') : w56_wp post (nI i) iv gs gp nv := by
  unfold w56_wp w56_L121
  rw [hiv, nI_clamp (show i < 2 ^ 31 by omega), hgp]
  refine ⟨fun w => ?_, fun w => ?_⟩
  · have hp0 : p = 0 := Classical.byContradiction (fun q => nI_nle (by omega) (by omega) w)
    subst hp0
    refine r_shorten (v := M i) (by omega) hn hiv1 (fun j hj => r_XQ hX hi hj) (hb rfl) (fun nv1 c1 _ _ c2 => ⟨b_in (by omega) (by omega), r_at (by omega) (by omega) ⟨by omega, fun w => ?_, fun w => ⟨n + 1, ?_⟩⟩⟩)
    · have hs : ¬ x_sho n (M i) c < 0 := by
        obtain ⟨k, p1, p2, p3, p4, p5, p6⟩ := c2 c hc
        rw [p6] at w
        exact fun q => by rw [if_pos q] at w; exact t_10 w
      refine h gs nv1 ⟨fun d hd => ?_, fun i' hi' j' hj' => ?_⟩
      · by_cases q : ∃ j', j' < n ∧ d = 12 * i + j'
        · obtain ⟨j', q1, q2⟩ := q
          rw [q2]; exact ⟨_, c2 j' q1⟩
        · rw [c1 d (by omega) (fun j' w1 w2 => q ⟨j', w1, w2⟩)]
          exact hX.1 d hd
      · rw [if_pos rfl]
        unfold x_setr x_stl2
        by_cases q : i' = i
        · subst q
          rw [if_pos rfl, if_pos rfl]
          show pn_N _ (if x_sho n (M i') c < 0 then - x_sho n (M i') j' else x_sho n (M i') j')
          rw [if_neg hs]; exact c2 j' hj'
        · rw [if_neg q, c1 _ (by omega) (fun j'' w1 w2 => by omega)]
          exact r_XQ hX hi' hj'
    · have hs : x_sho n (M i) c < 0 := by
        obtain ⟨k, p1, p2, p3, p4, p5, p6⟩ := c2 c hc
        rw [p6] at w
        exact Classical.byContradiction (fun q => w (if_neg q))
      have main : ∀ (u j : Nat) (nv3 : Nat → px_NV), j + u = n → (∀ d, d < 156 → (∀ j, j < n → d ≠ 12 * i + j) → nv3 d = nv d) → (∀ j', j' < j → pn_N (nv3 (12 * i + j')) (- x_sho n (M i) j')) → (∀ j', j ≤ j' → j' < n → pn_N (nv3 (12 * i + j')) (x_sho n (M i) j')) → w56_L98 post (u + 1) (nI i) (nI j) iv gs gp nv3 := by
        intro u
        induction u with
        | zero =>
          intro j nv3 hj d1 d2 d3
          have : j = n := by omega
          subst this
          refine ⟨fun _ => h gs nv3 ⟨fun d hd => ?_, fun i' hi' j' hj' => ?_⟩, fun w => absurd (by rw [hiv1]; exact nI_le (Nat.le_refl j) (by omega)) w⟩
          · by_cases q : ∃ j', j' < j ∧ d = 12 * i + j'
            · obtain ⟨j', q1, q2⟩ := q
              rw [q2]; exact ⟨_, d2 j' q1⟩
            · rw [d1 d (by omega) (fun j' w1 w2 => q ⟨j', w1, w2⟩)]
              exact hX.1 d hd
          · rw [if_pos rfl]
            unfold x_setr x_stl2
            by_cases q : i' = i
            · subst q
              rw [if_pos rfl, if_pos rfl]
              show pn_N _ (if x_sho j (M i') c < 0 then - x_sho j (M i') j' else x_sho j (M i') j')
              rw [if_pos hs]; exact d2 j' hj'
            · rw [if_neg q, d1 _ (by omega) (fun j'' w1 w2 => by omega)]
              exact r_XQ hX hi' hj'
        | succ u ih =>
          intro j nv3 hj d1 d2 d3
          refine ⟨fun w => absurd w (by rw [hiv1]; exact nI_ge (by omega) (by omega)), fun _ => r_at (by omega) (by omega) ?_⟩
          refine pn_turnP (by omega) (d3 j (Nat.le_refl j) (by omega)) (fun nv4 k4 r4 z ez => ?_)
          rw [ez, nI_1]
          refine ih (j + 1) nv4 (by omega) (fun d e1 e2 => by rw [k4 d (e2 j (by omega))]; exact d1 d e1 e2) (fun j' hj' => ?_) (fun j' h1 h2 => by rw [k4 _ (by omega)]; exact d3 j' (by omega) h2)
          by_cases q : j' = j
          · subst q; exact r4
          · rw [k4 _ (by omega)]; exact d2 j' (by omega)
      exact main n 0 nv1 (by omega) (fun d e1 e2 => c1 d (by omega) e2) (fun j' hj' => absurd hj' (Nat.not_lt_zero j')) (fun j' _ hj' => c2 j' hj')
  · have hp0 : p ≠ 0 := fun q => w (by rw [q]; exact Int32.le_refl 0)
    obtain ⟨hp1, hp2⟩ := hp.resolve_left hp0
    obtain ⟨g1, g2, g3⟩ := r_XP hX hp0 hi hc
    rw [b_ix12, nI_clamp (show 12 * i + c < 2 ^ 31 by omega), g1]
    refine ⟨b_in (by omega) (by omega), b_in (by omega) (by omega), r_inverse hp1 hp2 (by omega) hiv (hex hp0) ⟨n + 1, ?_⟩⟩
    have hil := x_invl (p := p) (b := (M i c).toNat) (by omega)
    have main : ∀ (u j : Nat) (gs1 : Nat → Int32), j + u = n → (∀ d, d < 156 → (∀ j, j < n → d ≠ 12 * i + j) → gs1 d = gs d) → (∀ j', j' < j → gs1 (12 * i + j') = nI (x_stl2 p n (M i) c j').toNat) → (∀ j', j ≤ j' → j' < n → gs1 (12 * i + j') = gs (12 * i + j')) → w56_L30 post (u + 1) (nI i) (nI (x_inv p (M i c).toNat)) (nI j) iv gs1 gp nv := by
      intro u
      induction u with
      | zero =>
        intro j gs1 hj c1 c2 c3
        have : j = n := by omega
        subst this
        refine ⟨fun _ => h gs1 nv ⟨hX.1, fun i' hi' j' hj' => ?_⟩, fun w => absurd (by rw [hiv1]; exact nI_le (Nat.le_refl j) (by omega)) w⟩
        rw [if_neg hp0]
        unfold x_setr
        by_cases q : i' = i
        · subst q
          rw [if_pos rfl]
          refine ⟨c2 j' hj', ?_⟩
          unfold x_stl2
          rw [if_neg hp0]
          exact ⟨Int.emod_nonneg _ (by omega), Int.emod_lt_of_pos _ (by omega)⟩
        · rw [if_neg q, c1 _ (by omega) (fun j'' w1 w2 => by omega)]
          exact r_XP hX hp0 hi' hj'
      | succ u ih =>
        intro j gs1 hj c1 c2 c3
        obtain ⟨a1, a2, a3⟩ := r_XP hX hp0 hi (show j < n by omega)
        have hl : (M i j).toNat * x_inv p (M i c).toNat < 256 * 256 := Nat.mul_lt_mul_of_lt_of_lt (by omega) (by omega)
        refine ⟨fun w => absurd w (by rw [hiv1]; exact nI_ge (by omega) (by omega)), fun _ => ?_⟩
        rw [b_ix12, nI_clamp (show 12 * i + j < 2 ^ 31 by omega), c3 j (Nat.le_refl j) (by omega), a1, hiv, pk_mul, pk_rem (by omega) (by omega) (by omega)]
        refine ⟨b_in (by omega) (by omega), nI_ne0 (by omega) (by omega), fun z9 e9 => ⟨b_in (by omega) (by omega), fun z10 e10 => ?_⟩⟩
        rw [e10, nI_1]
        refine ih (j + 1) _ (by omega) (fun d d1 d2 => ?_) (fun j' hj' => ?_) (fun j' h1 h2 => ?_)
        · rw [pk_un (d2 j (by omega))]; exact c1 d d1 d2
        · by_cases q : j' = j
          · subst q
            rw [pk_us, e9]
            unfold x_stl2
            rw [if_neg hp0]
            show _ = nI ((M i j' * (x_inv p (M i c).toNat : Int)) % (p : Int)).toNat
            have : (M i j' * (x_inv p (M i c).toNat : Int)) % (p : Int) = (((M i j').toNat * x_inv p (M i c).toNat % p : Nat) : Int) := by
              rw [x_emodn, Int.natCast_mul, Int.toNat_of_nonneg a2]
            rw [this]; rfl
          · rw [pk_un (by omega)]; exact c2 j' (by omega)
        · rw [pk_un (by omega)]; exact c3 j' (by omega) h2
    exact main n 0 gs (by omega) (fun _ _ _ => rfl) (fun j' hj' => absurd hj' (Nat.not_lt_zero j')) (fun _ _ _ => rfl)
end RMB
