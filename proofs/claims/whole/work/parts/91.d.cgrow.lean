/-! PURE, the class: raisers, firstBasis, circuits, flats, lists -/
section CGR
variable {a cm np ns : Nat} {pa sa : Nat → Nat} {pp : Nat → px_PR} {ss : Nat → px_SR} {mc ms : Nat} {q_o l_o : Nat} {o_r : Int32} {g_o g_t : Nat → Int32} {mm : Nat → px_MR} {kc ks : Nat} {n r : Nat} {b : Nat → Bool}
theorem b_one (set k : Nat) (hk : k < 31) (hs : set < 2 ^ 31) : nI set &&& ((1 : Int32) <<< (nI k &&& 31)) = nI (if set.testBit k = true then 2 ^ k else 0) := by
  rw [b_sh hk, b_and]
  congr 1
  apply Nat.eq_of_testBit_eq
  intro i
  rw [Nat.testBit_and, Nat.testBit_two_pow]
  by_cases z : k = i
  · rw [← z]
    by_cases q : set.testBit k = true
    · rw [q, if_pos rfl, Nat.testBit_two_pow]; rfl
    · rw [if_neg q, Nat.zero_testBit]
      cases hh : set.testBit k
      · rfl
      · exact absurd hh q
  · rw [decide_eq_false z, Bool.and_false]
    by_cases q : set.testBit k = true
    · rw [if_pos q, Nat.testBit_two_pow, decide_eq_false z]
    · rw [if_neg q, Nat.zero_testBit]
theorem c_raise5 {post : Int32 → Nat → Nat → Int32 → (Nat → Int32) → (Nat → Int32) → (Nat → px_MR) → Prop} {set th : Nat} {x1 : Int32} (ha : a < cm) (hn : n ≤ 12) (hs : set < 2 ^ n) (hth : th < 2 ^ n) (hset : ∀ i, set.testBit i = true → i < n) :
    ∀ (t k : Nat) (M1 : px_MR) (kc ks : Nat), k + t = n → c_B M1 n r b → c_K M1 n b → (k = 0 ∨ c_R M1 n b) → kc + c_rc M1 n ≤ mc → ks + c_rs M1 n ≤ ms → (∀ M', c_Q M1 M' n b → post (nI (x_ra b set n th &&& set)) q_o l_o o_r g_o g_t (va_up mm a M')) → w261_L5 a cm np ns pa sa pp ss mc ms post (t + 1) x1 (nI set) (nI (x_ra b set k th)) (nI k) q_o l_o o_r g_o g_t (va_up mm a M1) kc ks := by
  have hp := b_p12 hn
  intro t
  induction t with
  | zero =>
    intro k M1 kc ks hk hB hK hR hmc hms h
    have hkn : k = n := by omega
    subst hkn
    unfold w261_L5
    rw [va_up_self, hB.1]
    refine ⟨ha, fun _ => ?_, fun q => absurd (nI_le (Nat.le_refl k) (by omega)) q⟩
    rw [b_and]
    exact h M1 (c_Qr hB hR.symm)
  | succ t ih =>
    intro k M1 kc ks hk hB hK hR hmc hms h
    unfold w261_L5 w261_L43
    rw [va_up_self, hB.1]
    refine ⟨ha, fun q => absurd q (nI_ge (by omega) (by omega)), fun _ z2 e2 => ⟨c_rc M1 n, c_rs M1 n, hmc, hms, ha, ?_⟩⟩
    rw [b_one set k (by omega) (by omega)] at e2
    have hg : x_ra b set k th < 2 ^ 12 := x_ral (Nat.le_refl 12) (by have := Nat.pow_le_pow_right (n := 2) (by decide) hn; omega) k (by omega)
    have hgn : x_ra b set k th < 2 ^ n := x_lo hn (fun i hi hni => by
      cases hh : (x_ra b set k th).testBit i
      · rfl
      · rcases x_rab k i hh with h1 | h1
        · rw [x_hi hth hni] at h1; exact Bool.noConfusion h1
        · have := hset i h1.2; omega) hg
    generalize hG : x_ra b set k th = G at hg hgn
    have hG1 : x_ra b set (k + 1) th = if set.testBit k = true ∧ G.testBit k = false ∧ x_rk b G < x_rk b (x_t G k) then x_t G k else G := by
      show (if set.testBit k = true ∧ (x_ra b set k th).testBit k = false ∧ x_rk b (x_ra b set k th) < x_rk b (x_t (x_ra b set k th) k) then x_t (x_ra b set k th) k else x_ra b set k th) = _
      rw [hG]
    have hor : G ||| (if set.testBit k = true then 2 ^ k else 0) < 2 ^ n := Nat.or_lt_two_pow hgn (by
      split
      · exact Nat.pow_lt_pow_right (by decide) (by omega)
      · exact Nat.two_pow_pos n)
    rw [e2, b_or]
    refine c_rankOf (mm := va_up mm a M1) ha (by rw [va_up_self]; exact hB) (by rw [va_up_self]; exact hK) hor (by rw [va_up_self]; exact Nat.le_refl _) (by rw [va_up_self]; exact Nat.le_refl _) (fun M2 hQ2 hR2 => ?_)
    rw [va_up_self] at hQ2
    rw [b_upup]
    have hB2 := c_QB hB hQ2
    have hz := c_Qc hB hQ2
    refine ⟨0, 0, by omega, by omega, ha, c_rankOf (mm := va_up mm a M2) ha (by rw [va_up_self]; exact hB2) (by rw [va_up_self]; exact Or.inr hR2) hgn (by rw [va_up_self]; omega) (by rw [va_up_self]; omega) (fun M3 hQ3 hR3 => ?_)⟩
    rw [va_up_self] at hQ3
    rw [b_upup]
    have hB3 := c_QB hB2 hQ3
    have hz3 := c_Qc hB2 hQ3
    have hQ13 := c_Qt hB hQ2 hQ3
    have r1 := x_rkr hB.2.2.1 (G ||| (if set.testBit k = true then 2 ^ k else 0))
    have r2 := x_rkr hB.2.2.1 G
    have r3 : r ≤ 12 := by
      obtain ⟨B, hb⟩ := hB.2.2.1.2.1
      have := (hB.2.2.1.2.2.1 B hb).2
      have := x_nle B
      omega
    have next : ∀ kc' ks', kc' = kc + c_rc M1 n → ks' = ks + c_rs M1 n → ∀ z : Int32, z = nI k + 1 → w261_L5 a cm np ns pa sa pp ss mc ms post (t + 1) x1 (nI set) (nI (x_ra b set (k + 1) th)) z q_o l_o o_r g_o g_t (va_up mm a M3) kc' ks' := by
      intro kc' ks' e1 e2 z ez
      rw [ez, nI_1]
      exact ih (k + 1) M3 kc' ks' (by omega) hB3 (Or.inr hR3) (Or.inr hR3) (by rw [hz3.1]; omega) (by rw [hz3.2.1]; omega) (fun M' hQ' => h M' (c_Qt hB hQ13 hQ'))
    refine ⟨fun q => ?_, fun q z19 e19 => ?_⟩
    · rw [nI_leI (by omega) (by omega)] at q
      have : x_ra b set (k + 1) th = G := by
        rw [hG1, if_neg]
        rintro ⟨c1, c2, c3⟩
        rw [if_pos c1, b_ortf c2] at q
        omega
      rw [← this]
      exact next _ _ (by omega) (by omega)
    · rw [nI_leI (by omega) (by omega)] at q
      have c1 : set.testBit k = true := Classical.byContradiction (fun z => by
        rw [if_neg z, Nat.or_zero] at q; exact q (Nat.le_refl _))
      rw [if_pos c1] at q
      have c2 : G.testBit k = false := by
        cases hh : G.testBit k
        · rfl
        · rw [b_ortt hh] at q; exact absurd (Nat.le_refl _) q
      rw [b_ortf c2] at q
      have : x_ra b set (k + 1) th = x_t G k := by rw [hG1, if_pos ⟨c1, c2, by omega⟩]
      rw [e19, if_pos c1, b_ortf c2, ← this]
      exact next _ _ (by omega) (by omega)
/-- raisers -/
theorem c_raisers {post : Int32 → Nat → Nat → Int32 → (Nat → Int32) → (Nat → Int32) → (Nat → px_MR) → Prop} {set th : Nat} (ha : a < cm) (hB : c_B (mm a) n r b) (hK : c_K (mm a) n b) (hs : set < 2 ^ n) (hth : th < 2 ^ n) (hmc : c_rc (mm a) n ≤ mc) (hms : c_rs (mm a) n ≤ ms)
    (h : ∀ M', c_Q (mm a) M' n b → post (nI (x_ra b set n th &&& set)) q_o l_o o_r g_o g_t (va_up mm a M')) : w261_wp a cm np ns pa sa pp ss mc ms post (nI th) (nI set) q_o l_o o_r g_o g_t mm := by
  unfold w261_wp
  refine ⟨n + 1, ?_⟩
  have := c_raise5 (np := np) (ns := ns) (pa := pa) (sa := sa) (pp := pp) (ss := ss) (mc := mc) (ms := ms) (mm := mm) (r := r) (b := b) (q_o := q_o) (l_o := l_o) (o_r := o_r) (g_o := g_o) (g_t := g_t) (post := post) (x1 := nI th) ha hB.2.2.1.1 hs hth (fun i hi => by
    refine Classical.byContradiction (fun q => ?_)
    rw [x_hi hs (show n ≤ i by omega)] at hi; exact Bool.noConfusion hi) n 0 (mm a) 0 0 (by omega) hB hK (Or.inl rfl) (by omega) (by omega) h
  rw [b_upself, nI_0] at this
  exact this
theorem c_all {post : Int32 → Nat → Nat → Int32 → (Nat → Int32) → (Nat → Int32) → (Nat → px_MR) → Prop} (ha : a < cm) (hn : n ≤ 12) (hs : (mm a).2.1 13 = nI n) (h : post (nI (2 ^ n - 1)) q_o l_o o_r g_o g_t mm) : w249_wp a cm np ns pa sa pp ss post q_o l_o o_r g_o g_t mm := by
  unfold w249_wp
  rw [hs, b_sh (show n < 31 by omega)]
  have e : nI (2 ^ n) - 1 = nI (2 ^ n - 1) := by
    have := nI_pred (2 ^ n - 1)
    rw [show 2 ^ n - 1 + 1 = 2 ^ n from Nat.sub_add_cancel (Nat.two_pow_pos n)] at this
    exact this
  rw [e]
  exact ⟨ha, h⟩
theorem c_first {post : Int32 → Nat → Nat → Int32 → (Nat → Int32) → (Nat → Int32) → (Nat → px_MR) → Prop} (ha : a < cm) (hB : c_B (mm a) n r b) (hK : c_K (mm a) n b) (hmc : c_rc (mm a) n ≤ mc) (hms : c_rs (mm a) n ≤ ms)
    (h : ∀ M', c_Q (mm a) M' n b → post (nI (x_ra b (2 ^ n - 1) n 0)) q_o l_o o_r g_o g_t (va_up mm a M')) : w311_wp a cm np ns pa sa pp ss mc ms post q_o l_o o_r g_o g_t mm := by
  have hn := hB.2.2.1.1
  unfold w311_wp
  refine ⟨ha, c_all ha hn hB.1 ⟨mc, ms, by omega, by omega, ha, ?_⟩⟩
  have := c_raisers (np := np) (ns := ns) (pa := pa) (sa := sa) (pp := pp) (ss := ss) (mc := mc) (ms := ms) (mm := mm) (r := r) (b := b) (q_o := q_o) (l_o := l_o) (o_r := o_r) (g_o := g_o) (g_t := g_t) (post := post) (set := 2 ^ n - 1) (th := 0) ha hB hK (Nat.sub_lt (Nat.two_pow_pos n) (by decide)) (Nat.two_pow_pos n) hmc hms (fun M' hM => by
    have e : x_ra b (2 ^ n - 1) n 0 &&& (2 ^ n - 1) = x_ra b (2 ^ n - 1) n 0 := by
      rw [Nat.and_two_pow_sub_one_eq_mod]
      refine Nat.mod_eq_of_lt (x_lo hn (fun i hi hni => ?_) (x_ral (Nat.le_refl 12) (by decide) n hn))
      cases hh : (x_ra b (2 ^ n - 1) n 0).testBit i
      · rfl
      · rcases x_rab n i hh with h1 | h1
        · rw [Nat.zero_testBit] at h1; exact Bool.noConfusion h1
        · omega
    rw [e]
    exact h M' hM)
  exact this
/-- whether a set is a circuit; a flat -/
def x_ci (b : Nat → Bool) (n S : Nat) : Bool := decide (x_rk b S + 1 = x_n S) && (List.range n).all (fun e => !S.testBit e || decide (x_rk b (x_t S e) + 1 = x_n S))
def x_fl (b : Nat → Bool) (n S : Nat) : Bool := (List.range n).all (fun e => S.testBit e || decide (x_rk b S < x_rk b (x_t S e)))
theorem b_bz : narrow .boolean (.int 0) = .int 0 := rfl
theorem b_bo : narrow .boolean (.int 1) = .int 1 := rfl
theorem b_bb (x : Bool) : narrow .boolean (.int (if x = true then 1 else 0)) = .int (if x = true then 1 else 0) := by cases x <;> rfl
theorem b_allr {n : Nat} {p : Nat → Bool} : (List.range (n + 1)).all p = ((List.range n).all p && p n) := by
  rw [List.range_succ, List.all_append]; simp
theorem b_b10 {x : Bool} (h : ¬ (if x = true then (1 : Int32) else 0) = 0) : x = true := by cases x <;> simp_all
theorem b_b00 {x : Bool} (h : (if x = true then (1 : Int32) else 0) = 0) : x = false := by cases x <;> simp_all
theorem b_ball0 {p : Nat → Bool} {k n : Nat} (hk : k ≤ n) (h : (List.range k).all p = false) : (List.range n).all p = false := by
  cases hh : (List.range n).all p
  · rfl
  · rw [List.all_eq_true] at hh
    have : (List.range k).all p = true := List.all_eq_true.mpr (fun x hx => hh x (List.mem_range.mpr (by have := List.mem_range.mp hx; omega)))
    rw [this] at h; exact Bool.noConfusion h
theorem c_isFlat {post : Int32 → Nat → Nat → Int32 → (Nat → Int32) → (Nat → Int32) → (Nat → px_MR) → Prop} {S : Nat} (ha : a < cm) (hB : c_B (mm a) n r b) (hR : c_R (mm a) n b) (hS : S < 2 ^ n) (h : post (if x_fl b n S = true then 1 else 0) q_o l_o o_r g_o g_t mm) : w276_wp a cm np ns pa sa pp ss post (nI S) q_o l_o o_r g_o g_t mm := by
  have hn := hB.2.2.1.1
  have hp := b_p12 hn
  have hl := hR.2.1
  have fin : ∀ x3 : Int32, w276_L55 a cm np ns pa sa pp ss post (nI S) (if x_fl b n S = true then 1 else 0) x3 q_o l_o o_r g_o g_t mm := fun x3 => ⟨b_bb _, h⟩
  have main : ∀ (t k : Nat), k + t = n → w276_L4 a cm np ns pa sa pp ss post (t + 1) (nI S) (if (List.range k).all (fun e => S.testBit e || decide (x_rk b S < x_rk b (x_t S e))) = true then 1 else 0) (nI k) q_o l_o o_r g_o g_t mm := by
    intro t
    induction t with
    | zero =>
      intro k hk
      have hkn : k = n := by omega
      subst hkn
      unfold w276_L4
      rw [hB.1]
      exact ⟨ha, fun _ => fin _, fun q => absurd (nI_le (Nat.le_refl k) (by omega)) q⟩
    | succ t ih =>
      intro k hk
      unfold w276_L4 w276_L43 w276_L48
      rw [hB.1]
      refine ⟨ha, fun q => absurd q (nI_ge (by omega) (by omega)), fun _ => ⟨fun q => ?_, fun q => ?_⟩⟩
      · have := b_ball0 (n := n) (by omega) (b_b00 q)
        have e : x_fl b n S = false := this
        have := fin (nI k)
        rw [e] at this
        rw [b_b00 q]
        exact this
      · have q := b_b10 q
        have ih := ih (k + 1) (by omega)
        rw [b_allr, q, Bool.true_and] at ih
        refine ⟨fun c => ?_, fun c => ?_⟩
        · intro z ez
          have c : S.testBit k = true := by
            cases hh : S.testBit k
            · exact absurd ((b_bit0 (show S < 2 ^ 31 by omega) (show k < 32 by omega)).mpr hh) c
            · rfl
          rw [ez, nI_1]
          rw [c] at ih
          exact ih
        · have c := (b_bit0 (show S < 2 ^ 31 by omega) (show k < 32 by omega)).mp c
          have hol : x_t S k < 2 ^ n := x_tl hS (by omega)
          rw [b_sh (show k < 31 by omega), b_or, b_ortf c, nI_clamp (show x_t S k < 2 ^ 31 by omega), nI_clamp (show S < 2 ^ 31 by omega), hR.2.2 _ hol, hR.2.2 _ hS]
          have r1 := x_rkr hB.2.2.1 (x_t S k)
          have r2 := x_rkr hB.2.2.1 S
          have r3 : r ≤ 12 := by
            obtain ⟨B, hb⟩ := hB.2.2.1.2.1
            have := (hB.2.2.1.2.2.1 B hb).2
            have := x_nle B
            omega
          rw [c, Bool.false_or] at ih
          refine ⟨ha, ha, b_in (by omega) (by omega), ha, ha, b_in (by omega) (by omega), fun d z ez => ?_, fun d z ez => ?_⟩
          · rw [nI_leI (by omega) (by omega)] at d
            rw [ez, nI_1]
            rw [decide_eq_false (show ¬ x_rk b S < x_rk b (x_t S k) by omega)] at ih
            exact ih
          · rw [nI_leI (by omega) (by omega)] at d
            rw [ez, nI_1]
            rw [decide_eq_true (show x_rk b S < x_rk b (x_t S k) by omega)] at ih
            exact ih
  unfold w276_wp
  refine ⟨n + 1, ?_⟩
  have := main n 0 (by omega)
  rw [nI_0] at this
  exact this
end CGR
