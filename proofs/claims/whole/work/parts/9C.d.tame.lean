/-! PURE: tame forms (what a form leaves over at a set is small, up to a factor) -/
section TAM
variable {n m n0 B : Nat} {v u w : Nat → Int} {F G : Nat → Int}
/-- two rows are proportional -/
def x_pn (n : Nat) (v u : Nat → Int) : Prop := ∃ a b : Int, (¬ a = 0) ∧ (¬ b = 0) ∧ ∀ j, j < n → a * v j = b * u j
theorem x_pns (h : x_pn n v u) : x_pn n u v := by
  obtain ⟨a, b, ha, hb, he⟩ := h
  exact ⟨b, a, hb, ha, fun j hj => (he j hj).symm⟩
theorem x_pnr : x_pn n v v := ⟨1, 1, by decide, by decide, fun _ _ => rfl⟩
theorem x_pnt (h : x_pn n v u) (h' : x_pn n u w) : x_pn n v w := by
  obtain ⟨a, b, ha, hb, he⟩ := h
  obtain ⟨c, d, hc, hd, hf⟩ := h'
  refine ⟨c * a, b * d, fun q => ?_, fun q => ?_, fun j hj => ?_⟩
  · rcases Int.mul_eq_zero.1 q with y | y
    · exact hc y
    · exact ha y
  · rcases Int.mul_eq_zero.1 q with y | y
    · exact hb y
    · exact hd y
  · have h1 := he j hj
    have h2 := hf j hj
    rw [Int.mul_assoc, h1, ← Int.mul_assoc, Int.mul_comm c b, Int.mul_assoc, h2, Int.mul_assoc]
theorem x_pnz (h : x_pn n v u) {j : Nat} (hj : j < n) : v j = 0 ↔ u j = 0 := by
  obtain ⟨a, b, ha, hb, he⟩ := h
  have h1 := he j hj
  constructor
  · intro q
    rw [q, Int.mul_zero] at h1
    exact (Int.mul_eq_zero.1 h1.symm).resolve_left hb
  · intro q
    rw [q, Int.mul_zero] at h1
    exact (Int.mul_eq_zero.1 h1).resolve_left ha
theorem x_gca {v w : Nat → Int} : ∀ m, (∀ j, j < m → (v j).natAbs = (w j).natAbs) → x_gc v m = x_gc w m
  | 0, _ => rfl
  | m + 1, h => by
    show Nat.gcd (x_gc v m) (v m).natAbs = Nat.gcd (x_gc w m) (w m).natAbs
    rw [x_gca m (fun j hj => h j (by omega)), h m (by omega)]
/-- a primitive row is not greater than one that it is proportional to -/
theorem x_pnb {u : Nat → Nat} {a b : Nat} (ha : 0 < a) (hb : 0 < b) (he : ∀ j, j < n → a * (v j).natAbs = b * u j) (hg : x_gc v n = 1) : ∀ j, j < n → (v j).natAbs ≤ u j := by
  have h1 : x_gc (fun j => (a : Int) * v j) n = a * x_gc v n := x_gcm n (fun j _ => rfl)
  have h2 : x_gc (fun j => (b : Int) * (u j : Int)) n = b * x_gc (fun j => (u j : Int)) n := x_gcm n (fun j _ => rfl)
  have h3 : x_gc (fun j => (a : Int) * v j) n = x_gc (fun j => (b : Int) * (u j : Int)) n := x_gca n (fun j hj => by
    rw [Int.natAbs_mul, Int.natAbs_mul, Int.natAbs_natCast, Int.natAbs_natCast, Int.natAbs_natCast]
    exact he j hj)
  rw [h1, h2, hg, Nat.mul_one] at h3
  generalize x_gc (fun j => (u j : Int)) n = g at h3
  intro j hj
  have h4 := he j hj
  rw [h3, Nat.mul_assoc] at h4
  have h5 : g * (v j).natAbs = u j := Nat.eq_of_mul_eq_mul_left hb h4
  have hg0 : 0 < g := Nat.pos_of_ne_zero (fun z => by rw [z, Nat.mul_zero] at h3; omega)
  rw [← h5]
  exact Nat.le_mul_of_pos_left _ hg0
/-- a tame form -/
def x_ta (B n : Nat) (F : Nat → Int) : Prop := ∀ (T : Nat) (t : Bool), ∃ (u : Nat → Nat) (a b : Nat), 0 < a ∧ 0 < b ∧ ∀ e, e < n → T.testBit e = t → u e ≤ B ∧ a * u e = b * (F (x_t T e)).natAbs
theorem x_ta0 (h : ∀ S, (F S).natAbs ≤ B) : x_ta B n F := fun T _ => ⟨fun e => (F (x_t T e)).natAbs, 1, 1, by decide, by decide, fun e _ _ => ⟨h _, rfl⟩⟩
theorem x_tap {F' : Nat → Int} {a b : Int} (ha : ¬ a = 0) (hb : ¬ b = 0) (he : ∀ S, a * F' S = b * F S) (h : x_ta B n F) : x_ta B n F' := fun T t => by
  obtain ⟨u, c, d, hc, hd, hu⟩ := h T t
  refine ⟨u, c * b.natAbs, d * a.natAbs, Nat.mul_pos hc (by omega), Nat.mul_pos hd (by omega), fun e h1 h2 => ⟨(hu e h1 h2).1, ?_⟩⟩
  have h3 := (hu e h1 h2).2
  have h4 : a.natAbs * (F' (x_t T e)).natAbs = b.natAbs * (F (x_t T e)).natAbs := by rw [← Int.natAbs_mul, ← Int.natAbs_mul, he]
  generalize (F' (x_t T e)).natAbs = x at *
  generalize (F (x_t T e)).natAbs = y at *
  generalize a.natAbs = A at *
  generalize b.natAbs = C at *
  grind
theorem x_taz {T : Nat} {t : Bool} (h : ∀ e, e < n → F (x_t T e) = 0) : ∃ (u : Nat → Nat) (a b : Nat), 0 < a ∧ 0 < b ∧ ∀ e, e < n → T.testBit e = t → u e ≤ B ∧ a * u e = b * (F (x_t T e)).natAbs := ⟨fun _ => 0, 1, 1, by decide, by decide, fun e he _ => ⟨Nat.zero_le _, by rw [h e he]; rfl⟩⟩
theorem x_tad (hn : n ≤ 12) (h : x_ta B n F) : x_ta B n (x_fd n F) := fun T t => by
  by_cases hT : T < 2 ^ n
  · obtain ⟨u, c, d, hc, hd, hu⟩ := h (x_co n T) (!t)
    refine ⟨u, c, d, hc, hd, fun e h1 h2 => ?_⟩
    have h3 := hu e h1 (by rw [x_cob h1, h2])
    have h4 : x_fd n F (x_t T e) = x_s Int (x_oe (x_t T e)) * F (x_t (x_co n T) e) := by
      unfold x_fd
      rw [if_pos (x_tl hT h1), x_cot]
    rw [h4, Int.natAbs_mul, x_sabs, Nat.one_mul]
    exact h3
  · refine x_taz (fun e he => ?_)
    unfold x_fd
    rw [if_neg (fun q => hT (by have := x_tl q he; rw [x_tt] at this; exact this))]
theorem x_tar {k : Nat → Nat} {U : Nat} (hn : n ≤ 12) (hk : x_up n k) (hk0 : ∀ j, j < n → k j < n0) (hU : ∀ j, j < n → U.testBit (k j) = false) (h : x_ta B n0 F) : x_ta B n (x_fr n k U F) := fun T t => by
  by_cases hT : T < 2 ^ n
  · obtain ⟨u, c, d, hc, hd, hu⟩ := h (x_sd n k T ||| U) t
    refine ⟨fun j => u (k j), c, d, hc, hd, fun j h1 h2 => ?_⟩
    have h3 := hu (k j) (hk0 j h1) (by rw [Nat.testBit_or, x_sdb n hk j h1, hU j h1, Bool.or_false, h2])
    have h4 : x_fr n k U F (x_t T j) = x_s Int (x_il (x_sd n k (x_t T j)) U) * F (x_t (x_sd n k T ||| U) (k j)) := by
      unfold x_fr
      rw [if_pos (x_tl hT h1), x_sdt hk h1, x_ort (hU j h1)]
    rw [h4, Int.natAbs_mul, x_sabs, Nat.one_mul]
    exact h3
  · refine x_taz (fun e he => ?_)
    unfold x_fr
    rw [if_neg (fun q => hT (by have := x_tl q he; rw [x_tt] at this; exact this))]
theorem x_taj {r : Nat} (hn : n + m ≤ 12) (hF : ∀ S, ¬ F S = 0 → x_n S = r) (h : x_ta B n F) (h' : x_ta B m G) : x_ta B (n + m) (x_fj n m F G) := fun T t => by
  by_cases hT : T < 2 ^ (n + m)
  · have e1 : ∀ e, e < n + m → x_fj n m F G (x_t T e) = if e < n then F (x_t (T % 2 ^ n) e) * G (T / 2 ^ n) else F (T % 2 ^ n) * G (x_t (T / 2 ^ n) (e - n)) := fun e he => by
      unfold x_fj
      rw [if_pos (x_tl hT he)]
      by_cases q : e < n
      · rw [if_pos q, x_mt q, x_dt q]
      · rw [if_neg q, x_mt' (by omega), x_dt' (by omega)]
    by_cases hz : F (T % 2 ^ n) = 0
    · by_cases hg : G (T / 2 ^ n) = 0
      · refine x_taz (fun e he => ?_)
        rw [e1 e he, hz, hg]
        split
        · exact Int.mul_zero _
        · exact Int.zero_mul _
      · obtain ⟨u, c, d, hc, hd, hu⟩ := h (T % 2 ^ n) t
        refine ⟨fun e => if e < n then u e else 0, (G (T / 2 ^ n)).natAbs * c, d, Nat.mul_pos (by omega) hc, hd, fun e h1 h2 => ?_⟩
        show (if e < n then u e else 0) ≤ B ∧ _ * (if e < n then u e else 0) = _
        rw [e1 e h1]
        by_cases q : e < n
        · rw [if_pos q, if_pos q]
          have h3 := hu e q (by rw [x_mb, h2, decide_eq_true q, Bool.true_and])
          refine ⟨h3.1, ?_⟩
          rw [Int.natAbs_mul, Nat.mul_assoc, h3.2, Nat.mul_comm, Nat.mul_assoc]
        · rw [if_neg q, if_neg q, hz, Int.zero_mul]
          exact ⟨Nat.zero_le _, by rw [Nat.mul_zero]; rfl⟩
    · obtain ⟨u, c, d, hc, hd, hu⟩ := h' (T / 2 ^ n) t
      refine ⟨fun e => if e < n then 0 else u (e - n), (F (T % 2 ^ n)).natAbs * c, d, Nat.mul_pos (by omega) hc, hd, fun e h1 h2 => ?_⟩
      show (if e < n then 0 else u (e - n)) ≤ B ∧ _ * (if e < n then 0 else u (e - n)) = _
      rw [e1 e h1]
      by_cases q : e < n
      · rw [if_pos q, if_pos q]
        have h3 : F (x_t (T % 2 ^ n) e) = 0 := Classical.byContradiction (fun w => by
          have a1 := hF _ hz
          have a2 := hF _ w
          cases hb : (T % 2 ^ n).testBit e with
          | true => have := x_nt1 (S := T % 2 ^ n) (e := e) (by omega) hb; omega
          | false => have := x_nt0 (S := T % 2 ^ n) (e := e) (by omega) hb; omega)
        rw [h3, Int.zero_mul]
        exact ⟨Nat.zero_le _, by rw [Nat.mul_zero]; rfl⟩
      · rw [if_neg q, if_neg q]
        have h3 := hu (e - n) (by omega) (by rw [x_db, show n + (e - n) = e by omega]; exact h2)
        refine ⟨h3.1, ?_⟩
        rw [Int.natAbs_mul, Nat.mul_assoc, h3.2]
        generalize (F (T % 2 ^ n)).natAbs = x
        generalize (G (x_t (T / 2 ^ n) (e - n))).natAbs = y
        grind
  · refine x_taz (fun e he => ?_)
    unfold x_fj
    rw [if_neg (fun q => hT (by have := x_tl q he; rw [x_tt] at this; exact this))]
/-- a row of the space of f that is 0 on T, is proportional to what f leaves over at T -/
theorem x_pnu {T z : Nat} (hv : x_Z F v) (hz : z < 12) (hT : T.testBit z = false) (hvz : ¬ v z = 0) (h0 : ∀ g, g < 12 → T.testBit g = true → v g = 0) (hF : ¬ F (x_t T z) = 0) : x_pn 12 v (x_u F T) := by
  have hu : ¬ x_u F T z = 0 := by
    unfold x_u
    rw [if_neg (by rw [hT]; exact Bool.noConfusion)]
    exact x_sne' hF
  exact ⟨x_u F T z, v z, hu, hvz, fun e he => x_prp hz hT he h0 hv⟩
/-- and is not greater than a tame form allows, if it is primitive -/
theorem x_tab {M : Nat → Int} {k : Nat → Nat} {T : Nat} (hn0 : n0 ≤ 12) (ht : x_ta B n0 F) (hk : ∀ j, j < n → k j < n0) (hv : x_pn 12 v (x_u F T)) (hp : x_pn n M (fun j => v (k j))) (hg : x_gc M n = 1 ∨ ∀ j, j < n → M j = 0) : ∀ j, j < n → (M j).natAbs ≤ B := by
  rcases hg with hg | hg
  · obtain ⟨u, a, b, ha, hb, hu⟩ := ht T false
    obtain ⟨c, d, hc, hd, h1⟩ := hv
    obtain ⟨c', d', hc', hd', h2⟩ := hp
    have key := x_pnb (v := M) (n := n) (u := fun j => if T.testBit (k j) = true then 0 else u (k j)) (a := c'.natAbs * (c.natAbs * b)) (b := d'.natAbs * (d.natAbs * a)) (Nat.mul_pos (by omega) (Nat.mul_pos (by omega) hb)) (Nat.mul_pos (by omega) (Nat.mul_pos (by omega) ha)) (fun j hj => ?_) hg
    · intro j hj
      refine Nat.le_trans (key j hj) ?_
      show (if T.testBit (k j) = true then 0 else u (k j)) ≤ B
      by_cases q : T.testBit (k j) = true
      · rw [if_pos q]; exact Nat.zero_le _
      · rw [if_neg q]
        exact (hu (k j) (hk j hj) (Bool.eq_false_iff.2 q)).1
    · have hk12 : k j < 12 := by have := hk j hj; omega
      have e1 : c.natAbs * (v (k j)).natAbs = d.natAbs * (x_u F T (k j)).natAbs := by rw [← Int.natAbs_mul, ← Int.natAbs_mul, h1 _ hk12]
      have e2 : c'.natAbs * (M j).natAbs = d'.natAbs * (v (k j)).natAbs := by rw [← Int.natAbs_mul, ← Int.natAbs_mul]; exact congrArg Int.natAbs (h2 j hj)
      have e3 : b * (x_u F T (k j)).natAbs = a * (if T.testBit (k j) = true then 0 else u (k j)) := by
        unfold x_u
        by_cases q : T.testBit (k j) = true
        · rw [if_pos q, if_pos q, Nat.mul_zero]; rfl
        · rw [if_neg q, if_neg q, Int.natAbs_mul, x_sabs, Nat.one_mul]
          exact (hu (k j) (hk j hj) (Bool.eq_false_iff.2 q)).2.symm
      show c'.natAbs * (c.natAbs * b) * (M j).natAbs = d'.natAbs * (d.natAbs * a) * (if T.testBit (k j) = true then 0 else u (k j))
      generalize (if T.testBit (k j) = true then 0 else u (k j)) = U at *
      generalize (x_u F T (k j)).natAbs = X at *
      generalize (v (k j)).natAbs = V at *
      generalize (M j).natAbs = Y at *
      generalize c.natAbs = C at *
      generalize c'.natAbs = C' at *
      generalize d.natAbs = D at *
      generalize d'.natAbs = D' at *
      calc C' * (C * b) * Y = (C' * Y) * (C * b) := by grind
        _ = D' * (C * V) * b := by rw [e2]; grind
        _ = D' * D * (b * X) := by rw [e1]; grind
        _ = D' * (D * a) * U := by rw [e3]; grind
  · intro j hj
    rw [hg j hj]; exact Nat.zero_le _
end TAM
