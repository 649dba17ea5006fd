/-! PURE, the reference: set -/
def t_rsg (sz : Int32) : List Int32 → Int32 → Bool
  | [], _ => true
  | x :: l, la => (decide (la < x) && decide (x < sz)) && t_rsg sz l x
theorem t_rsgE {sz : Int32} : ∀ (l : List Int32) (la : Int32), t_rsg sz l la = true ↔ (∀ j, j < l.length → l.getD j 0 < sz) ∧ ∀ j, j < l.length → (if j = 0 then la else l.getD (j - 1) 0) < l.getD j 0
  | [], la => by
    constructor
    · intro _; exact ⟨fun j hj => absurd hj (Nat.not_lt_zero j), fun j hj => absurd hj (Nat.not_lt_zero j)⟩
    · intro _; rfl
  | x :: l, la => by
    have ih := t_rsgE (sz := sz) l x
    show ((decide (la < x) && decide (x < sz)) && t_rsg sz l x) = true ↔ _
    rw [Bool.and_eq_true, Bool.and_eq_true, decide_eq_true_eq, decide_eq_true_eq, ih]
    constructor
    · intro ⟨⟨h1, h2⟩, h3, h4⟩
      refine ⟨fun j hj => ?_, fun j hj => ?_⟩
      · cases j with
        | zero => exact h2
        | succ j => exact h3 j (by have : j + 1 < l.length + 1 := hj; omega)
      · cases j with
        | zero => exact h1
        | succ j =>
          have h5 := h4 j (by have : j + 1 < l.length + 1 := hj; omega)
          rw [if_neg (by omega)]
          show (x :: l).getD (j + 1 - 1) 0 < l.getD j 0
          cases j with
          | zero => exact h5
          | succ j => exact h5
    · intro ⟨h1, h2⟩
      refine ⟨⟨h2 0 (Nat.succ_pos _), h1 0 (Nat.succ_pos _)⟩, fun j hj => h1 (j + 1) (by show j + 1 < l.length + 1; omega), fun j hj => ?_⟩
      have h5 := h2 (j + 1) (by show j + 1 < l.length + 1; omega)
      rw [if_neg (by omega)] at h5
      have h5 : (x :: l).getD j 0 < l.getD j 0 := h5
      cases j with
      | zero => exact h5
      | succ j => exact h5
theorem t_rsgB {n : Nat} {vs : List Int32} (hn : n ≤ 12) (hl : vs.length < 2 ^ 31) : (decide (nI n < nI vs.length) || !t_wi vs (nI n) || !t_ri vs) = !t_rsg (nI n) vs (-1) := by
  have hE := t_rsgE (sz := nI n) vs (-1)
  have key : t_rsg (nI n) vs (-1) = true ↔ t_wi vs (nI n) = true ∧ t_ri vs = true := by
    rw [hE]
    unfold t_wi t_ri
    rw [decide_eq_true_eq, decide_eq_true_eq]
    constructor
    · intro ⟨h1, h2⟩
      have h3 : ∀ j, j < vs.length → ¬ vs.getD j 0 < 0 := fun j => by
        induction j with
        | zero =>
          intro hj q
          have h4 : (-1 : Int32) < vs.getD 0 0 := h2 0 hj
          rw [Int32.lt_iff_toInt_lt] at h4 q
          have e1 : (-1 : Int32).toInt = -1 := by decide
          have e0 : (0 : Int32).toInt = 0 := by decide
          omega
        | succ j ih =>
          intro hj q
          have h4 := h2 (j + 1) hj
          rw [if_neg (by omega), Nat.add_sub_cancel] at h4
          exact ih (by omega) (Int32.lt_trans h4 q)
      refine ⟨fun j hj => ⟨h3 j hj, h1 j hj⟩, fun j hj => ?_⟩
      have h4 := h2 (j + 1) (by omega)
      rw [if_neg (by omega), Nat.add_sub_cancel] at h4
      exact h4
    · intro ⟨h1, h2⟩
      refine ⟨fun j hj => (h1 j hj).2, fun j hj => ?_⟩
      cases j with
      | zero =>
        have h4 := (h1 0 hj).1
        show (-1 : Int32) < vs.getD 0 0
        rw [Int32.lt_iff_toInt_lt] at h4 ⊢
        have e1 : (-1 : Int32).toInt = -1 := by decide
        have e0 : (0 : Int32).toInt = 0 := by decide
        omega
      | succ j =>
        rw [if_neg (by omega), Nat.add_sub_cancel]
        exact h2 j (by omega)
  by_cases q : t_rsg (nI n) vs (-1) = true
  · obtain ⟨k1, k2⟩ := key.1 q
    rw [q, k1, k2]
    -- not too long
    have hw := k1
    have hr := k2
    unfold t_wi at hw
    unfold t_ri at hr
    have hw := of_decide_eq_true hw
    have hr := of_decide_eq_true hr
    have hj : ∀ j, j < vs.length → ∃ a, j ≤ a ∧ a < n ∧ vs.getD j 0 = nI a := fun j => by
      have get : ∀ j, j < vs.length → ∃ a, a < n ∧ vs.getD j 0 = nI a := fun j hj => by
        obtain ⟨a, ha, ea⟩ := nI_of (x := vs.getD j 0) (hw j hj).1
        refine ⟨a, Classical.byContradiction (fun z => ?_), ea⟩
        have h5 := (hw j hj).2
        rw [ea] at h5
        exact absurd (nI_le (show n ≤ a by omega) ha) (Int32.not_le.2 h5)
      induction j with
      | zero =>
        intro hj
        obtain ⟨a, h1, h2⟩ := get 0 hj
        exact ⟨a, Nat.zero_le a, h1, h2⟩
      | succ j ih =>
        intro hj
        obtain ⟨a, h1, h2, h3⟩ := ih (by omega)
        obtain ⟨a', h4, h5⟩ := get (j + 1) hj
        have h6 := hr j (by omega)
        rw [h3, h5] at h6
        exact ⟨a', Classical.byContradiction (fun z => absurd (nI_le (show a' ≤ a by omega) (by omega)) (Int32.not_le.2 h6)), h4, h5⟩
    have hlen : vs.length ≤ n := by
      by_cases z : vs.length = 0
      · omega
      · obtain ⟨a, h1, h2, h3⟩ := hj (vs.length - 1) (by omega)
        omega
    rw [decide_eq_false (fun z => absurd (nI_le hlen (by omega)) (Int32.not_le.2 z))]; rfl
  · rw [Bool.eq_false_iff.2 q]
    by_cases q1 : t_wi vs (nI n) = true
    · by_cases q2 : t_ri vs = true
      · exact absurd (key.2 ⟨q1, q2⟩) q
      · rw [Bool.eq_false_iff.2 q2]; simp
    · rw [Bool.eq_false_iff.2 q1]; simp
section RST
variable {L i y n : Nat} {b iv ge : Nat → Int32}
theorem t_itn {b : Nat → Int32} {L : Nat} {cm : Bool} : ∀ (u i : Nat), (t_it b L cm u i).length ≤ u
  | 0, _ => Nat.le_refl 0
  | u + 1, i => by
    unfold t_it
    split
    · exact Nat.succ_le_succ (t_itn u _)
    · split
      · exact Nat.succ_le_succ (t_itn u _)
      · exact Nat.zero_le _
theorem t_vln : ∀ l : List (Option Int32), (t_vl l).length ≤ l.length
  | [] => Nat.le_refl 0
  | some x :: l => Nat.succ_le_succ (t_vln l)
  | none :: l => Nat.le_trans (t_vln l) (Nat.le_succ _)
theorem r_set {post : Int32 → (Nat → Int32) → (Nat → Int32) → (Nat → Int32) → Prop} {vs : List Int32} {ie : Nat} (hL : L ≤ 16384) (hi : i ≤ L) (hy : y < 26) (hn : n ≤ 12) (hge : ge y = nI n) (h43 : iv 43 = 0) (ht : r_tat iv b L i) (evs : vs = t_vl (t_it b L false L (t_e b L i))) (eie : ie = t_lp b L false L (t_e b L i)) (hk3 : t_k b L ie = 125)
    (hB : t_rsg (nI n) vs (-1) = false → ∀ (x : Int32) iv', r_tat iv' b L (t_e b L ie) → r_Eq iv iv' → iv' 43 = 2 → post x iv' ge b)
    (hG : t_rsg (nI n) vs (-1) = true → ∀ iv', r_tat iv' b L (t_e b L ie) → r_Eq iv iv' → iv' 43 = 0 → post (nI (t_sts vs vs.length)) iv' ge b) : w101_wp post (nI y) iv ge b := by
  have hid := (t_el (b := b) hi).2.1
  have hie : ie ≤ L := by rw [eie]; exact t_lpl L _ hid
  have done : ∀ (gd : Bool) (x la : Int32) (iv1 : Nat → Int32) (k : Nat), gd = t_rsg (nI n) vs (-1) → (gd = true → x = nI (t_sts vs vs.length)) → r_tat iv1 b L ie → r_Eq iv iv1 → iv1 43 = 0 → w101_L11 post (k + 1) (nI y) x la (if gd = true then 1 else 0) iv1 ge b := fun gd x la iv1 k hgd hx t1 t2 t3 => by
    unfold w101_L11
    rw [t1.2.1, hk3]
    refine ⟨fun _ => ?_, fun w => absurd rfl w⟩
    refine r_nxt hL hie t1 (fun iv2 s1 s2 => ?_)
    have u2 : r_Eq iv iv2 := r_EqT t2 (fun q _ _ _ b4 b5 b6 _ => s2 q b4 b5 b6)
    have u3 : iv2 43 = 0 := by rw [s2 43 (by decide) (by decide) (by decide)]; exact t3
    refine r_may u3 (by decide) (fun w => ?_) (fun w => ?_)
    · have hg : gd = true := Classical.byContradiction (fun q => w (if_neg q))
      rw [hx hg]
      exact hG (by rw [← hgd, hg]) iv2 s1 u2 u3
    · have hg : gd = false := Bool.eq_false_iff.2 (fun q => by rw [if_pos q] at w; exact t_10 w)
      refine hB (by rw [← hgd, hg]) x _ ?_ (r_EqT u2 (fun q _ _ _ _ _ _ a7 => va_up_ne _ _ a7)) (va_up_self _ _ _)
      obtain ⟨e1, e2, e3, e4⟩ := s1
      exact ⟨by rw [va_up_ne _ _ (by decide)]; exact e1, by rw [va_up_ne _ _ (by decide)]; exact e2, by rw [va_up_ne _ _ (by decide)]; exact e3, by rw [va_up_ne _ _ (by decide)]; exact e4⟩
  have loop : ∀ (u j : Nat) (gd : Bool) (c : Nat) (pre : List Int32) (x la : Int32) (iv1 : Nat → Int32), j ≤ L → ie = t_lp b L false u j → vs = pre ++ t_vl (t_it b L false u j) → pre.length = c → t_rsg (nI n) vs (-1) = (gd && t_rsg (nI n) (t_vl (t_it b L false u j)) la) → (gd = true → x = nI (t_sts vs c)) → (gd = true → ¬ la < -1) → r_tat iv1 b L j → r_Eq iv iv1 → iv1 43 = 0 → w101_L11 post (u + 1) (nI y) x la (if gd = true then 1 else 0) iv1 ge b := by
    intro u
    induction u with
    | zero =>
      intro j gd c pre x la iv1 a1 a2 a3 a4 a5 a6 a6' a7 a8 a9
      have a2 : ie = j := a2
      rw [← a2] at a7
      have hz : t_vl (t_it b L false 0 j) = [] := rfl
      rw [hz, List.append_nil] at a3
      rw [hz] at a5
      exact done gd x la iv1 0 (by rw [a5]; show gd = (gd && true); rw [Bool.and_true]) (fun hg => by rw [a6 hg, a3, a4]) a7 a8 a9
    | succ u ih =>
      intro j gd c pre x la iv1 a1 a2 a3 a4 a5 a6 a6' a7 a8 a9
      have hlp : t_lp b L false (u + 1) j = if (t_is b L 2 j || (false && t_is b L 44 j)) = true then t_lp b L false u (t_e b L j) else j := rfl
      have hit : t_it b L false (u + 1) j = if t_is b L 2 j = true then some (t_v b L j) :: t_it b L false u (t_e b L j) else if (false && t_is b L 44 j) = true then none :: t_it b L false u (t_e b L j) else [] := rfl
      by_cases q : t_is b L 2 j = true
      · have hk : t_k b L j = 2 := of_decide_eq_true q
        have hadv := t_isj a1 (by decide) q
        rw [hlp, if_pos (by rw [q]; rfl)] at a2
        rw [hit, if_pos q] at a3 a5
        have a5 : t_rsg (nI n) vs (-1) = (gd && ((decide (la < t_v b L j) && decide (t_v b L j < nI n)) && t_rsg (nI n) (t_vl (t_it b L false u (t_e b L j))) (t_v b L j))) := a5
        have a3' : vs = (pre ++ [t_v b L j]) ++ t_vl (t_it b L false u (t_e b L j)) := by rw [a3, List.append_assoc]; rfl
        have hval : vs.getD c 0 = t_v b L j := by
          rw [a3, List.getD_eq_getElem?_getD, List.getElem?_append_right (by omega), a4, Nat.sub_self]; rfl
        have go : ∀ (y0 : Bool) (iv2 : Nat → Int32), y0 = (gd && (decide (la < t_v b L j) && decide (t_v b L j < nI n))) → r_tat iv2 b L (t_e b L j) → r_Eq iv iv2 → iv2 43 = 0 → w101_L53 (w101_L11 post (u + 1)) post (nI y) x la (if gd = true then 1 else 0) (t_v b L j) (if y0 = true then 1 else 0) iv2 ge b := fun y0 iv2 ey t1 t2 t3 => by
          have a5' : t_rsg (nI n) vs (-1) = (y0 && t_rsg (nI n) (t_vl (t_it b L false u (t_e b L j))) (t_v b L j)) := by rw [a5, ey]; simp only [Bool.and_assoc]
          unfold w101_L53 w101_L73
          refine ⟨fun w => ?_, fun w => ?_⟩
          · have hg : y0 = false := Bool.eq_false_iff.2 (fun z => by rw [if_pos z] at w; exact t_10 w)
            exact ih (t_e b L j) y0 (c + 1) (pre ++ [t_v b L j]) x (t_v b L j) iv2 hadv.2 a2 a3' (by rw [List.length_append, a4]; rfl) a5' (fun z => by rw [hg] at z; exact Bool.noConfusion z) (fun z => by rw [hg] at z; exact Bool.noConfusion z) t1 t2 t3
          · have hg : y0 = true := Classical.byContradiction (fun z => w (if_neg z))
            have ey2 := ey
            rw [hg] at ey2
            have ey2 := ey2.symm
            rw [Bool.and_eq_true, Bool.and_eq_true] at ey2
            have h1 := of_decide_eq_true ey2.2.1
            have h2 := of_decide_eq_true ey2.2.2
            have h0 : ¬ t_v b L j < 0 := fun z => by
              have h3 := a6' ey2.1
              rw [Int32.lt_iff_toInt_lt] at h1 h3 z
              have e1 : (-1 : Int32).toInt = -1 := by decide
              have e0 : (0 : Int32).toInt = 0 := by decide
              omega
            obtain ⟨a, ha, ea⟩ := nI_of (x := t_v b L j) h0
            have han : a < n := Classical.byContradiction (fun z => by
              rw [ea] at h2
              exact absurd (nI_le (show n ≤ a by omega) ha) (Int32.not_le.2 h2))
            refine ih (t_e b L j) y0 (c + 1) (pre ++ [t_v b L j]) _ (t_v b L j) iv2 hadv.2 a2 a3' (by rw [List.length_append, a4]; rfl) a5' (fun _ => ?_) (fun _ z => h0 (Int32.lt_trans z (by decide))) t1 t2 t3
            show _ = nI (t_sts vs c ||| 2 ^ (vs.getD c 0).toNatClampNeg)
            rw [a6 ey2.1, hval, ea, b_sh (by omega), b_or, nI_clamp ha]
        unfold w101_L11 w101_L52
        rw [a7.2.1, hk]
        refine ⟨fun w => absurd w (by decide), fun _ => ?_⟩
        refine r_told hL a1 hk a7 (fun iv2 s1 s2 => ?_)
        have u2 : r_Eq iv iv2 := r_EqT a8 (fun q _ _ _ b4 b5 b6 _ => s2 q b4 b5 b6)
        have u3 : iv2 43 = 0 := by rw [s2 43 (by decide) (by decide) (by decide)]; exact a9
        rw [nI_clamp (show y < 2 ^ 31 by omega), hge]
        refine ⟨fun w => go false iv2 ?_ s1 u2 u3, fun w => ⟨fun w1 => go false iv2 ?_ s1 u2 u3, fun w1 => ⟨b_in hy (by omega), fun w2 => go false iv2 ?_ s1 u2 u3, fun w2 => go true iv2 ?_ s1 u2 u3⟩⟩⟩
        · have hg : gd = false := Bool.eq_false_iff.2 (fun z => by rw [if_pos z] at w; exact t_10 w)
          rw [hg]; rfl
        · rw [decide_eq_false (Int32.not_lt.2 w1), Bool.false_and, Bool.and_false]
        · rw [decide_eq_false (Int32.not_lt.2 w2), Bool.and_false, Bool.and_false]
        · have hg : gd = true := Classical.byContradiction (fun z => w (if_neg z))
          rw [hg, decide_eq_true (Int32.not_le.1 w1), decide_eq_true (Int32.not_le.1 w2)]; rfl
      · have qf := Bool.eq_false_iff.2 q
        rw [hlp, if_neg (by rw [qf]; exact Bool.noConfusion)] at a2
        rw [hit, if_neg q, if_neg (by exact Bool.noConfusion)] at a3 a5
        have hz : t_vl [] = [] := rfl
        rw [hz, List.append_nil] at a3
        rw [hz] at a5
        rw [← a2] at a7
        exact done gd x la iv1 (u + 1) (by rw [a5]; show gd = (gd && true); rw [Bool.and_true]) (fun hg => by rw [a6 hg, a3, a4]) a7 a8 a9
  unfold w101_wp
  refine r_nxt hL hi ht (fun iv1 s1 s2 => ⟨L + 1, ?_⟩)
  have := loop L (t_e b L i) true 0 [] 0 (-1) iv1 hid eie evs rfl (by rw [Bool.true_and, ← evs]) (fun _ => rfl) (fun _ => by decide) s1 (fun q _ _ _ b4 b5 b6 _ => s2 q b4 b5 b6) (by rw [s2 43 (by decide) (by decide) (by decide)]; exact h43)
  exact this
end RST
