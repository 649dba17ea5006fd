/-! PURE, the class: Witness: sameDegrees, samePairs, sameRanks -/
/-- as many elements of each degree -/
def w_dg (gd hd : Nat → Nat) (g : Nat) : Bool := decide (∀ e, e < g → x_cn g (fun i => decide (gd i = gd e)) = x_cn g (fun m => decide (hd m = gd e)))
theorem b_sub0 {x y : Int32} (h : x - y = 0) : x = y := by grind
theorem x_cnN {P : Nat → Bool} (N : Nat) : x_cn N P ≤ N := by
  have := x_cnle (f := P) (g := fun _ => true) N (fun _ _ _ => rfl)
  rw [x_cnall] at this
  exact this
theorem w_npl {b : Nat → Bool} {g e f : Nat} (hg : g ≤ 12) : w_np b g e f < 2 ^ 31 := by
  have := x_cnN (P := fun B => b B && B.testBit e && B.testBit f) (2 ^ g)
  have := b_p12 hg
  unfold w_np
  omega
section CWK
variable {cm np ns : Nat} {pa sa : Nat → Nat} {pp : Nat → px_PR} {ss : Nat → px_SR} {v1 v2 v3 v4 v5 v6 v7 v8 v9 : Int32} {q_o l_o : Nat} {o_r : Int32} {g_o g_t : Nat → Int32} {mm : Nat → px_MR} {a0 a1 n R g r q : Nat} {ρ ρ' : Nat → Nat} {nk ng : Nat}
theorem c_sameD {post : Int32 → Option Nat → Option Nat → Int32 → Int32 → Int32 → Int32 → Int32 → Int32 → Int32 → Int32 → Int32 → (Nat → Int32) → (Nat → Int32) → (Nat → Int32) → (Nat → Int32) → Nat → Nat → Int32 → (Nat → Int32) → (Nat → Int32) → (Nat → px_MR) → Prop} {gp gq gk gg : Nat → Int32} {c : Nat} {k : Nat → Nat} {gn : Nat → Nat → Nat} (hM : w_M cm mm a0 a1 n R g r ρ ρ') (hgk : ∀ S, S < 2 ^ g → gk S = nI (x_sd g k S)) (hsd : ∀ T, x_sd g k T < 2 ^ n) (hc : c < 2 ^ n) (hnk : 2 ^ g ≤ nk) (hng : 0 < ng) (ho : o_Ok l_o o_r g_o g_t q) (hgq : g ≤ q) (hgp : ∀ e f, e < g → f < g → gp (12 * e + f) = nI (gn e f)) (hgl : ∀ e f, gn e f < 2 ^ 31)
    (h : ∀ gq', (∀ e f, e < g → f < g → gq' (12 * e + f) = nI (w_np (w_hb ρ g k c r) g e f)) → post (if w_dg (fun i => gn i i) (fun m => w_np (w_hb ρ g k c r) g m m) g = true then 1 else 0) (some a0) (some a1) v1 v2 v3 v4 v5 (nI (ρ c)) (nI c) v8 0 gp gq' gk (upd gg 0 (nI c)) q_o l_o o_r g_o g_t mm) : w304_wp nk ng cm np ns pa sa pp ss post (some a0) (some a1) v1 v2 v3 v4 v5 (nI (ρ c)) (nI c) v8 v9 gp gq gk gg q_o l_o o_r g_o g_t mm := by
  have hM' := hM
  obtain ⟨m1, m2, m3, m4, m5, m6, m7, m8, m9, m10, m11, m12, m13, m14, m15, m16, m17, m18⟩ := hM
  have hp := b_p12 m3
  have hp2 := b_p12 m4
  have hst := x_stl (m := g) (j := r + 1) m4
  have hst0 := x_stm (n := g) (j := r) (k := r + 1) (Nat.le_succ r)
  have hPn : ∀ e f T, (w_hb ρ g k c r T && T.testBit e && T.testBit f) = true → x_n T = r := by
    intro e f T hT
    rw [Bool.and_eq_true, Bool.and_eq_true] at hT
    have hT := hT.1.1
    unfold w_hb at hT
    rw [Bool.and_eq_true] at hT
    exact of_decide_eq_true hT.1
  -- the degrees compared
  have degs : ∀ (x1 : Int32) (gq : Nat → Int32), (∀ e f, e < g → f < g → gq (12 * e + f) = nI (w_np (w_hb ρ g k c r) g e f)) → w304_L121 nk ng cm np ns pa sa pp ss post (g + 1) x1 13 0 0 (some a0) (some a1) v1 v2 v3 v4 v5 (nI (ρ c)) (nI c) v8 0 gp gq gk (upd gg 0 (nI c)) q_o l_o o_r g_o g_t mm := by
    intro x1 gq hgq'
    have h := h gq hgq'
    generalize hhd : (fun m => w_np (w_hb ρ g k c r) g m m) = hd at h
    have hhd' : ∀ m, m < g → gq (12 * m + m) = nI (hd m) ∧ hd m < 2 ^ 31 := by
      intro m hm
      rw [hgq' m m hm hm, ← hhd]
      exact ⟨rfl, w_npl m4⟩
    generalize hgd : (fun i => gn i i) = gd at h
    have hgd' : ∀ m, m < g → gp (12 * m + m) = nI (gd m) ∧ gd m < 2 ^ 31 := by
      intro m hm
      rw [hgp m m hm hm, ← hgd]
      exact ⟨rfl, hgl m m⟩
    have e13 : ∀ e : Nat, nI e * 13 = nI (12 * e + e) := by
      intro e
      rw [show (13 : Int32) = nI 13 from rfl, pk_mul]
      congr 1
      omega
    have main : ∀ (u e : Nat), e + u = g → (∀ e', e' < e → x_cn g (fun i => decide (gd i = gd e')) = x_cn g (fun m => decide (hd m = gd e'))) → w304_L121 nk ng cm np ns pa sa pp ss post (u + 1) x1 13 0 (nI e) (some a0) (some a1) v1 v2 v3 v4 v5 (nI (ρ c)) (nI c) v8 0 gp gq gk (upd gg 0 (nI c)) q_o l_o o_r g_o g_t mm := by
      intro u
      induction u with
      | zero =>
        intro e he hall
        refine ⟨fun k => by simp at k, fun a k => ?_⟩
        cases k
        refine ⟨m2, fun _ => ⟨fun k => absurd rfl k, fun _ => ⟨rfl, ?_⟩⟩, fun w => ?_⟩
        · have : w_dg gd hd g = true := decide_eq_true (fun e' he' => hall e' (by omega))
          rw [this] at h
          exact h
        · rw [m7] at w; exact absurd (nI_le (by omega) (by omega)) w
      | succ u ih =>
        intro e he hall
        refine ⟨fun k => by simp at k, fun a k => ?_⟩
        cases k
        refine ⟨m2, fun w => ?_, fun _ => ⟨fun k => absurd rfl k, fun _ => ⟨g + 1, ?_⟩⟩⟩
        · rw [m7] at w; exact absurd w (nI_ge (by omega) (by omega))
        · have inner : ∀ (v f : Nat), f + v = g → w304_L140 (w304_L121 nk ng cm np ns pa sa pp ss post (u + 1)) nk ng cm np ns pa sa pp ss post (v + 1) x1 13 (nI (x_cn f (fun i => decide (gd i = gd e))) - nI (x_cn f (fun m => decide (hd m = gd e)))) (nI e) (nI f) (some a0) (some a1) v1 v2 v3 v4 v5 (nI (ρ c)) (nI c) v8 0 gp gq gk (upd gg 0 (nI c)) q_o l_o o_r g_o g_t mm := by
            intro v
            induction v with
            | zero =>
              intro f hf
              refine ⟨fun k => by simp at k, fun a k => ?_⟩
              cases k
              refine ⟨m2, fun _ z e1 => ?_, fun w => ?_⟩
              · rw [e1, nI_1, show f = g by omega]
                have l1 := x_cnN (P := fun i => decide (gd i = gd e)) g
                have l2 := x_cnN (P := fun m => decide (hd m = gd e)) g
                by_cases w : x_cn g (fun i => decide (gd i = gd e)) = x_cn g (fun m => decide (hd m = gd e))
                · rw [w, Int32.sub_self]
                  refine ih (e + 1) (by omega) (fun e' he' => ?_)
                  by_cases q2 : e' = e
                  · rw [q2]; exact w
                  · exact hall e' (by omega)
                · have hne : ¬ nI (x_cn g (fun i => decide (gd i = gd e))) - nI (x_cn g (fun m => decide (hd m = gd e))) = 0 := by
                    intro q2
                    have := b_sub0 q2
                    exact w ((nI_eq (by omega) (by omega)).1 this)
                  have hf : w_dg gd hd g = false := decide_eq_false (fun hh => w (hh e (by omega)))
                  rw [hf] at h
                  have stop : w304_L222 nk ng cm np ns pa sa pp ss post x1 13 (nI (x_cn g (fun i => decide (gd i = gd e))) - nI (x_cn g (fun m => decide (hd m = gd e)))) (nI (e + 1)) (some a0) (some a1) v1 v2 v3 v4 v5 (nI (ρ c)) (nI c) v8 0 gp gq gk (upd gg 0 (nI c)) q_o l_o o_r g_o g_t mm := ⟨fun _ => ⟨rfl, h⟩, fun k => absurd k hne⟩
                  refine ⟨fun k => by simp at k, fun a k => ?_⟩
                  cases k
                  exact ⟨m2, fun _ => stop, fun _ => ⟨fun _ => stop, fun k => absurd k hne⟩⟩
              · rw [m7] at w; exact absurd (nI_le (by omega) (by omega)) w
            | succ v ihv =>
              intro f hf
              have ihv := ihv (f + 1) (by omega)
              have ec1 : x_cn (f + 1) (fun i => decide (gd i = gd e)) = x_cn f (fun i => decide (gd i = gd e)) + (if decide (gd f = gd e) = true then 1 else 0) := rfl
              have ec2 : x_cn (f + 1) (fun m => decide (hd m = gd e)) = x_cn f (fun m => decide (hd m = gd e)) + (if decide (hd f = gd e) = true then 1 else 0) := rfl
              rw [ec1, ec2] at ihv
              generalize x_cn f (fun i => decide (gd i = gd e)) = A at *
              generalize x_cn f (fun m => decide (hd m = gd e)) = C at *
              obtain ⟨g1, g2⟩ := hgd' f (by omega)
              obtain ⟨g3, g4⟩ := hgd' e (by omega)
              obtain ⟨g5, g6⟩ := hhd' f (by omega)
              have l179 : ∀ y : Int32, y = (if decide (gd f = gd e) = true then 1 else 0) → w304_L179 (w304_L121 nk ng cm np ns pa sa pp ss post (u + 1)) (w304_L140 (w304_L121 nk ng cm np ns pa sa pp ss post (u + 1)) nk ng cm np ns pa sa pp ss post (v + 1)) nk ng cm np ns pa sa pp ss post x1 13 (nI A - nI C) (nI e) (nI f) y (nI A - nI C) (some a0) (some a1) v1 v2 v3 v4 v5 (nI (ρ c)) (nI c) v8 0 gp gq gk (upd gg 0 (nI c)) q_o l_o o_r g_o g_t mm := by
                intro y ey z3 ez3
                rw [e13, e13, nI_clamp (by omega), nI_clamp (by omega), g5, g3]
                have l208 : ∀ y2 : Int32, y2 = (if decide (hd f = gd e) = true then 1 else 0) → w304_L208 (w304_L121 nk ng cm np ns pa sa pp ss post (u + 1)) (w304_L140 (w304_L121 nk ng cm np ns pa sa pp ss post (u + 1)) nk ng cm np ns pa sa pp ss post (v + 1)) nk ng cm np ns pa sa pp ss post x1 13 z3 (nI e) (nI f) y2 z3 (some a0) (some a1) v1 v2 v3 v4 v5 (nI (ρ c)) (nI c) v8 0 gp gq gk (upd gg 0 (nI c)) q_o l_o o_r g_o g_t mm := by
                  intro y2 ey2 z1 ez1 z2 ez2
                  have ez : z1 = nI (A + (if decide (gd f = gd e) = true then 1 else 0)) - nI (C + (if decide (hd f = gd e) = true then 1 else 0)) := by
                    rw [ez1, ez3, ey, ey2, ← nI_add, ← nI_add]
                    have n1 : nI 1 = (1 : Int32) := rfl
                    have n0 : nI 0 = (0 : Int32) := rfl
                    cases decide (gd f = gd e) <;> cases decide (hd f = gd e) <;> simp only [if_true, if_false, n1, n0, Bool.false_eq_true] <;> grind
                  rw [ez, ez2, nI_1]
                  exact ihv
                refine ⟨b_in (by omega) (by omega), b_in (by omega) (by omega), fun w => l208 0 ?_, fun w => l208 1 ?_⟩
                · rw [decide_eq_false (fun k => w (by rw [k]))]; rfl
                · rw [decide_eq_true ((nI_eq g6 g4).1 w)]; rfl
              refine ⟨fun k => by simp at k, fun a k => ?_⟩
              cases k
              refine ⟨m2, fun w => ?_, fun _ => ?_⟩
              · rw [m7] at w; exact absurd w (nI_ge (by omega) (by omega))
              · rw [e13, e13, nI_clamp (by omega), nI_clamp (by omega), g1, g3]
                refine ⟨b_in (by omega) (by omega), b_in (by omega) (by omega), fun w => l179 0 ?_, fun w => l179 1 ?_⟩
                · rw [decide_eq_false (fun k => w (by rw [k]))]; rfl
                · rw [decide_eq_true ((nI_eq g2 g4).1 w)]; rfl
          have := inner g 0 (by omega)
          rw [show x_cn 0 (fun i => decide (gd i = gd e)) = 0 from rfl, show x_cn 0 (fun m => decide (hd m = gd e)) = 0 from rfl, Int32.sub_self] at this
          exact this
    exact main g 0 (by omega) (fun e he => absurd he (Nat.not_lt_zero e))
  -- the pairs counted
  have pairs : ∀ (u i : Nat) (gq : Nat → Int32), i + u = x_st g (r + 1) → x_st g r ≤ i → (∀ e f, e < g → f < g → gq (12 * e + f) = nI (x_cn i (fun j => w_hb ρ g k c r (x_or g j) && (x_or g j).testBit e && (x_or g j).testBit f))) → w304_L69 nk ng cm np ns pa sa pp ss post (u + 1) (nI (x_st g (r + 1))) (nI i) (some a0) (some a1) v1 v2 v3 v4 v5 (nI (ρ c)) (nI c) v8 0 gp gq gk (upd gg 0 (nI c)) q_o l_o o_r g_o g_t mm := by
    intro u
    induction u with
    | zero =>
      intro i gq hi hi0 hx
      refine ⟨fun _ => ⟨g + 1, degs _ gq (fun e f he hf => ?_)⟩, fun w => absurd (nI_le (by omega) (by omega)) w⟩
      rw [hx e f he hf, show i = x_st g (r + 1) by omega]
      congr 1
      exact w_ord1 (P := fun T => w_hb ρ g k c r T && T.testBit e && T.testBit f) m4 (hPn e f)
    | succ u ih =>
      intro i gq hi hi0 hx
      refine ⟨fun w => absurd w (nI_ge (by omega) (by omega)), fun _ => ⟨fun k => by simp at k, fun a k => ?_⟩⟩
      cases k
      rw [m7]
      have horl := (x_orl m4 (show i < 2 ^ g by omega)).1
      have hxn : x_n (x_or g i) = r := (x_sti (m := r) m4 (show i < 2 ^ g by omega)).1 ⟨hi0, by omega⟩
      have ehb : w_hb ρ g k c r (x_or g i) = decide (ρ (x_sd g k (x_or g i) ||| c) = r + ρ c) := by
        unfold w_hb
        rw [decide_eq_true hxn, Bool.true_and]
      have ecn : ∀ e f, x_cn (i + 1) (fun j => w_hb ρ g k c r (x_or g j) && (x_or g j).testBit e && (x_or g j).testBit f) = x_cn i (fun j => w_hb ρ g k c r (x_or g j) && (x_or g j).testBit e && (x_or g j).testBit f) + (if (w_hb ρ g k c r (x_or g i) && (x_or g i).testBit e && (x_or g i).testBit f) = true then 1 else 0) := fun _ _ => rfl
      refine ⟨m2, c_oset ho hgq (by omega) (c_isHB hM' horl hgk (hsd _) hc hnk ⟨fun w z e => ?_, fun w => ?_⟩)⟩
      · have hf : w_hb ρ g k c r (x_or g i) = false := by
          rw [ehb]
          cases hh : decide (ρ (x_sd g k (x_or g i) ||| c) = r + ρ c)
          · rfl
          · rw [hh] at w; exact t_10 w
        rw [e, nI_1]
        refine ih (i + 1) gq (by omega) (by omega) (fun e f he hf' => ?_)
        rw [ecn, hf, hx e f he hf']
        rfl
      · have ht : w_hb ρ g k c r (x_or g i) = true := by
          rw [ehb]
          cases hh : decide (ρ (x_sd g k (x_or g i) ||| c) = r + ρ c)
          · rw [hh] at w; exact absurd rfl w
          · rfl
        refine c_cpairs (N := fun e f => x_cn i (fun j => w_hb ρ g k c r (x_or g j) && (x_or g j).testBit e && (x_or g j).testBit f)) m2 m4 m7 (by omega) hx (fun gq' hx' z e => ?_)
        rw [e, nI_1]
        refine ih (i + 1) gq' (by omega) (by omega) (fun e f he hf' => ?_)
        rw [ecn, ht, hx' e f he hf', Bool.true_and]
        rfl
  refine ⟨b_in (n := 0) hng (by omega), b_fillI (by omega) (fun gq0 hq0 _ => ⟨fun k => by simp at k, fun a k => ?_⟩)⟩
  cases k
  rw [m7, m8, nI_1]
  refine ⟨m2, m2, c_ostart ho hgq (by omega) ⟨m2, m2, c_ostart ho hgq (by omega) ⟨x_st g (r + 1) - x_st g r + 1, ?_⟩⟩⟩
  refine pairs (x_st g (r + 1) - x_st g r) (x_st g r) gq0 (by omega) (Nat.le_refl _) (fun e f he hf => ?_)
  rw [hq0 _ (by omega)]
  have := w_ord0 (P := fun T => w_hb ρ g k c r T && T.testBit e && T.testBit f) (g := g) m4 (hPn e f)
  rw [this]
  rfl
end CWK
