/-! PURE, the reference's numbers: shorten -/
/-- the greatest common divisor of a row's first n -/
def x_gc (v : Nat → Int) : Nat → Nat
  | 0 => 0
  | n + 1 => Nat.gcd (x_gc v n) (v n).natAbs
def x_sho (n : Nat) (v : Nat → Int) (j : Nat) : Int := if x_gc v n = 0 then v j else (v j).tdiv (x_gc v n : Int)
theorem x_gcd {v : Nat → Int} : ∀ n j, j < n → (x_gc v n : Int) ∣ v j
  | 0, j, h => absurd h (Nat.not_lt_zero j)
  | n + 1, j, h => by
    show ((Nat.gcd (x_gc v n) (v n).natAbs : Nat) : Int) ∣ v j
    by_cases q : j = n
    · subst q
      exact Int.dvd_natAbs.mp (Int.natCast_dvd_natCast.mpr (Nat.gcd_dvd_right _ _))
    · exact Int.dvd_trans (Int.natCast_dvd_natCast.mpr (Nat.gcd_dvd_left _ _)) (x_gcd n j (by omega))
theorem x_gcb {v : Nat → Int} {B : Nat} (hB : 0 < B) : ∀ n, (∀ j, j < n → (v j).natAbs < B) → x_gc v n < B
  | 0, _ => hB
  | n + 1, h => by
    have ih := x_gcb hB n (fun j hj => h j (by omega))
    show Nat.gcd (x_gc v n) (v n).natAbs < B
    by_cases q : x_gc v n = 0
    · rw [q, Nat.gcd_zero_left]; exact h n (by omega)
    · exact Nat.lt_of_le_of_lt (Nat.gcd_le_left _ (by omega)) ih
theorem x_gcc {v w : Nat → Int} : ∀ n, (∀ j, j < n → v j = w j) → x_gc v n = x_gc w n
  | 0, _ => rfl
  | n + 1, h => by
    show Nat.gcd (x_gc v n) (v n).natAbs = Nat.gcd (x_gc w n) (w n).natAbs
    rw [x_gcc n (fun j hj => h j (by omega)), h n (by omega)]
section RSH
variable {nv : Nat → px_NV} {iv : Nat → Int32} {i n : Nat} {v : Nat → Int}
theorem pn_isOne {post : Int32 → Int32 → Int32 → (Nat → Int32) → Prop} {x : px_NV} {g : Nat} (hx : pn_N x (g : Int)) (h : post (if g = 1 then 1 else 0) x.1 x.2.1 x.2.2) : no_wp post x.1 x.2.1 x.2.2 := by
  obtain ⟨k, p1, p2, p3, p4, p5, p6⟩ := hx
  rw [Int.natAbs_natCast] at p5
  have hm : x.2.1 = 0 := by rw [p6, if_neg (by omega)]
  unfold no_wp no_L29 no_L30
  refine ⟨fun w => ⟨rfl, ?_⟩, fun w => ⟨b_in (n := 0) (by decide) (by decide), fun w' => ⟨rfl, ?_⟩, fun w' => ⟨fun w'' => ⟨rfl, ?_⟩, fun w'' => ?_⟩⟩⟩
  · have : ¬ g = 1 := by
      intro q
      subst q
      apply w
      rw [p2]
      have hk0 : k ≠ 0 := fun z => by subst z; exact absurd (show (0 : Nat) = 1 from p5) (by decide)
      have := pn_v_ge (f := x.2.2) (k := k - 1) (by rw [show k - 1 + 1 = k by omega]; exact p3) (p4.resolve_left hk0)
      rw [show k - 1 + 1 = k by omega, p5] at this
      have hk1 : k - 1 = 0 := by
        refine Classical.byContradiction (fun z => ?_)
        have : 65536 ^ 1 ≤ 65536 ^ (k - 1) := Nat.pow_le_pow_right (by decide) (by omega)
        omega
      rw [show k = 1 by omega]; rfl
    rw [if_neg this] at h; exact h
  all_goals (
    have hk : k = 1 := (nI_eq (by omega) (by decide)).1 (show nI k = nI 1 by rw [← p2, w]; rfl)
    subst hk
    obtain ⟨d, q1, q2⟩ := p3 0 (by decide)
    have hg : d = g := by
      have e : 0 + (x.2.2 0).toNatClampNeg * 65536 ^ 0 = g := p5
      rw [q2, nI_clamp (by omega)] at e; omega)
  · rw [if_neg (fun q => w' (by show x.2.2 0 = 1; rw [q2, hg, q]; rfl))] at h; exact h
  · exact absurd hm w''
  · rw [if_pos (by rw [← hg]; exact (nI_eq (by omega) (by decide)).1 (show nI d = nI 1 by rw [← q2]; exact w'))] at h; exact ⟨rfl, h⟩
theorem r_at {post : Nat → (Nat → Int32) → Prop} {j : Nat} (hi : i < 13) (hj : j < 12) (h : post (12 * i + j) iv) : w47_wp post (nI i) (nI j) iv := by
  unfold w47_wp
  rw [show (12 : Int32) = nI 12 from rfl, pk_mul, nI_add, nI_clamp (by omega)]
  exact ⟨b_in (by omega) (by omega), h⟩
/-- shorten -/
theorem r_shorten {post : (Nat → Int32) → (Nat → px_NV) → Prop} (hi : i < 13) (hn : n ≤ 12) (hiv : iv 11 = nI n) (hv : ∀ j, j < n → pn_N (nv (12 * i + j)) (v j)) (hb : ∀ j, j < n → (v j).natAbs < 65536 ^ 159) (h : ∀ nv', (∀ c, c < 192 → (∀ j, j < n → c ≠ 12 * i + j) → nv' c = nv c) → nv' 197 = nv 197 → nv' 198 = nv 198 → (∀ j, j < n → pn_N (nv' (12 * i + j)) (x_sho n v j)) → post iv nv') : w54_wp post (nI i) iv nv := by
  have hG : ∀ m, m ≤ n → x_gc v m < 65536 ^ 159 := fun m hm => x_gcb (Nat.pow_pos (by decide)) m (fun j hj => hb j (by omega))
  -- the second loop
  have second : ∀ (u j : Nat) (nv1 : Nat → px_NV), j + u = n → (∀ c, c < 192 → (∀ j, j < n → c ≠ 12 * i + j) → nv1 c = nv c) → nv1 197 = nv 197 → nv1 198 = nv 198 → pn_N (nv1 199) (x_gc v n : Int) → (∀ j', j' < j → pn_N (nv1 (12 * i + j')) (x_sho n v j')) → (∀ j', j ≤ j' → j' < n → pn_N (nv1 (12 * i + j')) (v j')) → w54_L50 post (u + 1) (nI i) (nI j) iv nv1 := by
    intro u
    induction u with
    | zero =>
      intro j nv1 hj k1 k7 k8 g1 d1 d2
      refine ⟨fun _ => h nv1 k1 k7 k8 (fun j' hj' => d1 j' (by omega)), fun w => absurd (by rw [hiv]; exact nI_le (by omega) (by omega)) w⟩
    | succ u ih =>
      intro j nv1 hj k1 k7 k8 g1 d1 d2
      unfold w54_L50 w54_L118
      refine ⟨fun w => absurd w (by rw [hiv]; exact nI_ge (by omega) (by omega)), fun _ => ⟨fun w => ?_, fun w => ⟨⟨by simp, fun c hc => by rw [List.mem_singleton.mp hc]; decide⟩, ?_⟩⟩⟩
      · have q : x_gc v n = 0 := by have := (pn_N0 g1).1.1 w; omega
        refine h nv1 k1 k7 k8 (fun j' hj' => ?_)
        by_cases z : j' < j
        · exact d1 j' z
        · have := d2 j' (by omega) hj'
          unfold x_sho; rw [if_pos q]; exact this
      · have q0 : x_gc v n ≠ 0 := fun q => w ((pn_N0 g1).1.2 (by rw [q]; rfl))
        refine pn_isOne g1 (fun nv5 e5 => ?_)
        have e5 : nv5 = nv1 := by
          rw [e5]
          show va_up nv1 199 (nv1 199) = nv1
          funext c
          by_cases s : c = 199
          · subst s; rw [va_up_self]
          · rw [pn_un s]
        rw [e5]
        refine ⟨fun w1 => ?_, fun w1 => ?_⟩
        · have q1 : x_gc v n = 1 := Classical.byContradiction (fun q => w1 (if_neg q))
          refine h nv1 k1 k7 k8 (fun j' hj' => ?_)
          by_cases z : j' < j
          · exact d1 j' z
          · have := d2 j' (by omega) hj'
            unfold x_sho; rw [if_neg q0, q1]
            show pn_N _ ((v j').tdiv 1)
            rw [Int.tdiv_one]; exact this
        · refine r_at hi (by omega) ?_
          refine pn_quP (x := v j) (y := (x_gc v n : Int)) (by decide) (by omega) (by decide) (by decide) (by omega) (by decide) (by decide) (by omega) (by omega) (by decide) (d2 j (Nat.le_refl j) (by omega)) g1 (by rw [Int.natAbs_natCast]; exact hG n (Nat.le_refl n)) (by omega) (fun nv2 k2 r2 _ => ?_)
          refine r_at hi (by omega) ?_
          refine pn_cpP (x := (v j).tdiv (x_gc v n : Int)) (by omega) (by decide) (by omega) r2 (fun nv3 k3 r3 z32 e32 => ?_)
          rw [e32, nI_1]
          refine ih (j + 1) nv3 (by omega) (fun c c1 c2 => ?_) ?_ ?_ ?_ (fun j' hj' => ?_) (fun j' h1 h2 => ?_)
          · rw [k3 c (c2 j (by omega)), k2 c (by omega) (by omega)]; exact k1 c c1 c2
          · rw [k3 197 (by omega), k2 197 (by decide) (by decide)]; exact k7
          · rw [k3 198 (by omega), k2 198 (by decide) (by decide)]; exact k8
          · rw [k3 199 (by omega), k2 199 (by decide) (by decide)]; exact g1
          · by_cases s : j' = j
            · subst s
              unfold x_sho; rw [if_neg q0]; exact r3
            · rw [k3 _ (by omega), k2 _ (by omega) (by omega)]; exact d1 j' (by omega)
          · rw [k3 _ (by omega), k2 _ (by omega) (by omega)]; exact d2 j' (by omega) h2
  have first : ∀ (u j : Nat) (nv1 : Nat → px_NV), j + u = n → (∀ c, c < 192 → nv1 c = nv c) → nv1 197 = nv 197 → nv1 198 = nv 198 → pn_N (nv1 199) (x_gc v j : Int) → w54_L9 post (u + 1) (nI i) (nI j) iv nv1 := by
    intro u
    induction u with
    | zero =>
      intro j nv1 hj k1 k7 k8 g1
      have : j = n := by omega
      subst this
      refine ⟨fun _ => ⟨j + 1, ?_⟩, fun w => absurd (by rw [hiv]; exact nI_le (Nat.le_refl j) (by omega)) w⟩
      exact second j 0 nv1 (by omega) (fun c c1 _ => k1 c c1) k7 k8 g1 (fun j' hj' => absurd hj' (Nat.not_lt_zero j')) (fun j' _ hj' => by rw [k1 _ (by omega)]; exact hv j' hj')
    | succ u ih =>
      intro j nv1 hj k1 k7 k8 g1
      refine ⟨fun w => absurd w (by rw [hiv]; exact nI_ge (by omega) (by omega)), fun _ => r_at hi (by omega) ?_⟩
      refine r_divisor (x := (x_gc v j : Int)) (y := v j) (by decide) (by omega) (by decide) (by omega) (by omega) g1 (by rw [k1 _ (by omega)]; exact hv j (by omega)) (hb j (by omega)) (fun nv2 k2 r2 => ?_)
      rw [Int.natAbs_natCast] at r2
      refine pn_cpP (by decide) (by decide) (by decide) r2 (fun nv3 k3 r3 z e => ?_)
      rw [e, nI_1]
      refine ih (j + 1) nv3 (by omega) (fun c hc => ?_) ?_ ?_ r3
      · rw [k3 c (by omega), k2 c (by omega) (by omega) (by omega) (by omega)]; exact k1 c hc
      · rw [k3 197 (by decide), k2 197 (by decide) (by decide) (by decide) (by decide)]; exact k7
      · rw [k3 198 (by decide), k2 198 (by decide) (by decide) (by decide) (by decide)]; exact k8
  unfold w54_wp nz_wp
  refine ⟨⟨by simp, fun c hc => by rw [List.mem_singleton.mp hc]; decide⟩, fun nv1 e1 => ⟨n + 1, ?_⟩⟩
  have e1 : nv1 = va_up nv 199 ⟨0, 0, (nv 199).2.2⟩ := e1
  exact first n 0 nv1 (by omega) (fun c hc => by rw [e1, pn_un (by omega)]) (by rw [e1, pn_un (by decide)]) (by rw [e1, pn_un (by decide)]) (by rw [e1, va_up_self]; exact ⟨0, by decide, rfl, fun i hi => absurd hi (Nat.not_lt_zero i), Or.inl rfl, rfl, rfl⟩)
end RSH
