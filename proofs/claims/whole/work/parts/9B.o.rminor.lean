/-! PURE, the reference: minorOf, down to the rows and columns without pivots -/
/-- rows ro and columns co are left when rows below i are dealt with -/
def r_Fr {R : Type} [Lean.Grind.CommRing R] (M : Nat → Nat → R) (G : R → Prop) (n r S : Nat) (piv : Nat → Nat) (i m : Nat) (ro co : Nat → Nat) (sg : Bool) : Prop := m ≤ r ∧ (∀ a, a < m → ro a < r) ∧ (∀ a a', a < a' → a' < m → ro a < ro a') ∧ (∀ i', i' < r → i ≤ i' → ∃ a, a < m ∧ ro a = i') ∧ (∀ b, b < m → co b < n ∧ S.testBit (co b) = true) ∧ (∀ b b', b < b' → b' < m → co b < co b') ∧ (∀ e, e < n → S.testBit e = true → (∀ i', i' < i → piv i' ≠ e) → ∃ b, b < m ∧ co b = e) ∧ (∀ b, b < m → ∀ i', i' < i → piv i' ≠ co b) ∧ ∃ Pi, G Pi ∧ x_W M r S = x_s R sg * Pi * x_d (fun a b => M (ro a) (co b)) m
theorem x_skpn {a0 a : Nat} : x_skp a0 a ≠ a0 := by unfold x_skp; split <;> omega
theorem x_skpl {a0 a m : Nat} (h : a < m) : x_skp a0 a < m + 1 := by unfold x_skp; split <;> omega
theorem x_skpm {a0 a a' : Nat} (h : a < a') : x_skp a0 a < x_skp a0 a' := by unfold x_skp; split <;> split <;> omega
theorem x_skpe {a0 a m : Nat} (h : a < m + 1) (h0 : a0 < m + 1) (hn : a ≠ a0) : ∃ b, b < m ∧ x_skp a0 b = a := by
  by_cases w : a < a0
  · exact ⟨a, by omega, if_pos w⟩
  · exact ⟨a - 1, by omega, by unfold x_skp; rw [if_neg (by omega)]; omega⟩
theorem r_FrI {R : Type} [Lean.Grind.CommRing R] {M : Nat → Nat → R} {G : R → Prop} {n r S i m a0 b0 : Nat} {piv ro co : Nat → Nat} {sg : Bool} (hn : n ≤ 12) (hrn : r ≤ n) (hi : i < r) (hG : ∀ P, G P → G (P * M i (piv i))) (hz : ∀ i', i' < r → i' ≠ i → M i' (piv i) = 0) (h : r_Fr M G n r S piv i (m + 1) ro co sg) (ha : a0 < m + 1) (hb : b0 < m + 1) (ea : ro a0 = i) (eb : co b0 = piv i) : r_Fr M G n r S piv (i + 1) m (fun a => ro (x_skp a0 a)) (fun b => co (x_skp b0 b)) (sg ^^ decide ((a0 + b0) % 2 = 1)) := by
  obtain ⟨h1, h2, h3, h4, h5, h6, h7, h8, Pi, h9, h10⟩ := h
  have inj : ∀ a a', a < m + 1 → a' < m + 1 → ro a = ro a' → a = a' := fun a a' q1 q2 e => by
    rcases Nat.lt_trichotomy a a' with w | w | w
    · have := h3 a a' w q2; omega
    · exact w
    · have := h3 a' a w q1; omega
  have injc : ∀ a a', a < m + 1 → a' < m + 1 → co a = co a' → a = a' := fun a a' q1 q2 e => by
    rcases Nat.lt_trichotomy a a' with w | w | w
    · have := h6 a a' w q2; omega
    · exact w
    · have := h6 a' a w q1; omega
  refine ⟨by omega, fun a q => h2 _ (x_skpl q), fun a a' q1 q2 => h3 _ _ (x_skpm q1) (x_skpl q2), fun i' q1 q2 => ?_, fun b q => h5 _ (x_skpl q), fun b b' q1 q2 => h6 _ _ (x_skpm q1) (x_skpl q2), fun e q1 q2 q3 => ?_, fun b q i' q1 => ?_, Pi * M i (piv i), hG Pi h9, ?_⟩
  · obtain ⟨a, w1, w2⟩ := h4 i' q1 (by omega)
    obtain ⟨b, w3, w4⟩ := x_skpe (a0 := a0) w1 ha (fun z => by rw [z, ea] at w2; omega)
    exact ⟨b, w3, by show ro (x_skp a0 b) = i'; rw [w4, w2]⟩
  · obtain ⟨b, w1, w2⟩ := h7 e q1 q2 (fun i' w => q3 i' (by omega))
    obtain ⟨c, w3, w4⟩ := x_skpe (a0 := b0) w1 hb (fun z => by rw [z, eb] at w2; exact q3 i (by omega) w2)
    exact ⟨c, w3, by show co (x_skp b0 c) = e; rw [w4, w2]⟩
  · show piv i' ≠ co (x_skp b0 b)
    by_cases w : i' = i
    · subst w
      intro z
      rw [← eb] at z
      exact x_skpn (injc _ _ hb (x_skpl q) z).symm
    · exact h8 _ (x_skpl q) i' (by omega)
  · have hd := x_dsk (q := fun a b => M (ro a) (co b)) (m := m) (a0 := a0) (b0 := b0) (by omega) (by omega) (by omega) (fun a q1 q2 => by
      show M (ro a) (co b0) = 0
      rw [eb]
      exact hz _ (h2 a q1) (fun z => q2 (inj a a0 q1 ha (by rw [z, ea]))))
    rw [h10, hd, x_sx]
    show x_s R sg * Pi * (x_s R (decide ((a0 + b0) % 2 = 1)) * M (ro a0) (co b0) * x_d (fun a b => M (ro (x_skp a0 a)) (co (x_skp b0 b))) m) = x_s R sg * x_s R (decide ((a0 + b0) % 2 = 1)) * (Pi * M i (piv i)) * x_d (fun a b => M (ro (x_skp a0 a)) (co (x_skp b0 b))) m
    rw [ea, eb]
    generalize x_d (fun a b => M (ro (x_skp a0 a)) (co (x_skp b0 b))) m = D
    grind
theorem r_FrS {R : Type} [Lean.Grind.CommRing R] {M : Nat → Nat → R} {G : R → Prop} {n r S i m : Nat} {piv ro co : Nat → Nat} {sg : Bool} (hp : S.testBit (piv i) = false) (h : r_Fr M G n r S piv i m ro co sg) : r_Fr M G n r S piv (i + 1) m ro co sg := by
  obtain ⟨h1, h2, h3, h4, h5, h6, h7, h8, h9⟩ := h
  refine ⟨h1, h2, h3, fun i' q1 q2 => h4 i' q1 (by omega), h5, h6, fun e q1 q2 q3 => h7 e q1 q2 (fun i' w => q3 i' (by omega)), fun b q i' q1 => ?_, h9⟩
  by_cases w : i' = i
  · subst w
    intro z
    rw [z, (h5 b q).2] at hp
    exact Bool.noConfusion hp
  · exact h8 b q i' (by omega)
theorem r_Fr6 {R : Type} [Lean.Grind.CommRing R] {M : Nat → Nat → R} {G : R → Prop} {n r S m : Nat} {piv ro co : Nat → Nat} {sg : Bool} (hn : n ≤ 12) (hpv : ∀ i, i < r → piv i < n) (hinj : ∀ i i', i < r → i' < r → piv i = piv i' → i = i') (h : r_Fr M G n r S piv r m ro co sg) : m ≤ 6 := by
  obtain ⟨h1, h2, h3, h4, h5, h6, h7, h8, h9⟩ := h
  have injc : ∀ a a', a < m → a' < m → co a = co a' → a = a' := fun a a' q1 q2 e => by
    rcases Nat.lt_trichotomy a a' with w | w | w
    · have := h6 a a' w q2; omega
    · exact w
    · have := h6 a' a w q1; omega
  have c1 : x_cn r (fun _ => true) ≤ x_cn n (fun e => decide (∃ i, i < r ∧ piv i = e)) := x_cnij (Q := fun _ => true) (F := piv) r _ (fun i hi _ => ⟨hpv i hi, decide_eq_true ⟨i, hi, rfl⟩⟩) (fun i j hi hj _ _ e => hinj i j hi hj e)
  have c2 : x_cn m (fun _ => true) ≤ x_cn n (fun e => !decide (∃ i, i < r ∧ piv i = e)) := x_cnij (Q := fun _ => true) (F := co) m _ (fun b hb _ => ⟨(h5 b hb).1, by
    rw [decide_eq_false (fun ⟨i, q1, q2⟩ => h8 b hb i q1 q2)]; rfl⟩) (fun i j hi hj _ _ e => injc i j hi hj e)
  have c3 := x_cnnot (P := fun e => decide (∃ i, i < r ∧ piv i = e)) n
  rw [x_cnall] at c1 c2
  omega
section RMI
variable {iv gs gp gm : Nat → Int32} {nv : Nat → px_NV} {n r S : Nat} {piv : Nat → Nat}
theorem r_minorF {R : Type} [Lean.Grind.CommRing R] {M : Nat → Nat → R} {G : R → Prop} {post : Int32 → (Nat → Int32) → (Nat → Int32) → (Nat → Int32) → (Nat → Int32) → (Nat → Int32) → (Nat → Int32) → (Nat → px_NV) → Prop} {fr fc : Nat → Int32} (hn : n ≤ 12) (hrn : r ≤ n) (hiv0 : iv 10 = nI r) (hiv1 : iv 11 = nI n) (hS : S < 2 ^ n) (hSr : x_n S = r) (hpv : ∀ i, i < r → piv i < n ∧ gp i = nI (piv i)) (hinj : ∀ i i', i < r → i' < r → piv i = piv i' → i = i') (hG1 : G 1) (hG : ∀ i, i < r → ∀ P, G P → G (P * M i (piv i))) (hz : ∀ i i', i < r → i' < r → i' ≠ i → M i' (piv i) = 0)
    (h : ∀ t m ro co sg fr' fc', r_Fr M G n r S piv r m ro co sg → (∀ a, a < m → fr' a = nI (ro a)) → (∀ b, b < m → fc' b = nI (co b)) → w57_L65 post (t + 1) (nI S) (nI m) (if sg = true then -1 else 1) (nI r) iv gs gp fr' fc' gm nv) : w57_wp post (nI S) iv gs gp fr fc gm nv := by
  have hp12 := b_p12 hn
  obtain ⟨ka, hka⟩ := x_kpE S
  rw [hSr] at hka
  have hcn : x_cn n (fun i => S.testBit i) = r := by
    have := x_cnmore (P := fun i => S.testBit i) (a := n) (12 - n) (fun i h1 h2 => x_hi hS h1)
    rw [show n + (12 - n) = 12 by omega] at this
    rw [← this]; exact hSr
  have third : ∀ (u i m : Nat) (ro co : Nat → Nat) (sg : Bool) (fr fc : Nat → Int32), i + u = r → r_Fr M G n r S piv i m ro co sg → (∀ a, a < m → fr a = nI (ro a)) → (∀ b, b < m → fc b = nI (co b)) → w57_L65 post (u + 1) (nI S) (nI m) (if sg = true then -1 else 1) (nI i) iv gs gp fr fc gm nv := by
    intro u
    induction u with
    | zero =>
      intro i m ro co sg fr fc hi hF hfr hfc
      have : i = r := by omega
      subst this
      exact h 0 m ro co sg fr fc hF hfr hfc
    | succ u ih =>
      intro i m ro co sg fr fc hi hF hfr hfc
      obtain ⟨p1, p2⟩ := hpv i (by omega)
      unfold w57_L65 w57_L158
      rw [nI_clamp (show i < 2 ^ 31 by omega), p2, b_bit1 (show S < 2 ^ 31 by omega) (show piv i < 32 by omega), hiv0]
      refine ⟨fun w => absurd w (nI_ge (by omega) (by omega)), fun _ => ⟨b_in (by omega) (by omega), fun w z ez => ?_, fun w => ?_⟩⟩
      · have hp : S.testBit (piv i) = false := by cases hh : S.testBit (piv i) with | false => rfl | true => exact absurd hh w
        rw [ez, nI_1]
        exact ih (i + 1) m ro co sg fr fc (by omega) (r_FrS hp hF) hfr hfc
      · obtain ⟨f1, f2, f3, f4, f5, f6, f7, f8, f9⟩ := id hF
        obtain ⟨a0, a1, a2⟩ := f4 i (by omega) (Nat.le_refl i)
        obtain ⟨b0, b1, b2⟩ := f7 (piv i) p1 w (fun i' q z => by have := hinj i' i (by omega) (by omega) z; omega)
        obtain ⟨m', rfl⟩ : ∃ m', m = m' + 1 := ⟨m - 1, by omega⟩
        refine r_placeOf (v := i) (a0 := a0) (ro := ro) (by omega) (fun a q => ⟨hfr a q, by have := f2 a q; omega⟩) (by omega) a1 a2 (fun a q z => by have := f3 a a0 q a1; omega) ?_
        refine ⟨b_in (by omega) (by omega), r_placeOf (v := piv i) (a0 := b0) (ro := co) (by omega) (fun b q => ⟨hfc b q, by have := (f5 b q).1; omega⟩) (by omega) b1 b2 (fun b q z => by have := f6 b b0 q b1; omega) ?_⟩
        have fin : ∀ y0 : Int32, y0 = (if (sg ^^ decide ((a0 + b0) % 2 = 1)) = true then -1 else 1) → w57_L134 (w57_L65 post (u + 1)) post (nI S) (nI (m' + 1)) (if sg = true then -1 else 1) (nI i) (nI a0) (nI b0) y0 iv gs gp fr fc gm nv := by
          intro y0 ey
          unfold w57_L134 w57_L158
          refine r_remove (by omega) (by omega) (fun fr2 e2 => r_remove (by omega) (by omega) (fun fc2 e3 z6 e6 z1 e1 => ?_))
          have e6 : z6 = nI m' := by rw [e6, ← nI_pred m']; grind
          rw [e1, nI_1, e6, ey]
          exact ih (i + 1) m' _ _ _ fr2 fc2 (by omega) (r_FrI hn hrn (by omega) (hG i (by omega)) (fun i' q1 q2 => hz i i' (by omega) q1 q2) hF a1 b1 a2 b2) (fun a q => by rw [e2 a q]; exact hfr _ (x_skpl q)) (fun b q => by rw [e3 b q]; exact hfc _ (x_skpl q))
        rw [nI_add, b_ev _ (by omega)]
        refine ⟨fun w => fin _ ?_, fun w => fin _ ?_⟩
        · have w : (a0 + b0) % 2 = 1 := Classical.not_not.mp w
          rw [decide_eq_true w]; cases sg <;> rfl
        · rw [decide_eq_false w, Bool.xor_false]
  have second : ∀ (u i : Nat) (fr fc : Nat → Int32), i + u = r → (∀ a, a < i → fr a = nI a) → (∀ b, b < r → fc b = nI (ka b)) → w57_L39 post (u + 1) (nI S) (nI r) (nI i) iv gs gp fr fc gm nv := by
    intro u
    induction u with
    | zero =>
      intro i fr fc hi h1 h2
      have : i = r := by omega
      subst this
      unfold w57_L39
      rw [hiv0]
      refine ⟨fun _ => ⟨i + 1, ?_⟩, fun w => absurd (nI_le (Nat.le_refl i) (by omega)) w⟩
      refine third i 0 i (fun a => a) ka false fr fc (by omega) ⟨Nat.le_refl i, fun a q => q, fun a a' q _ => q, fun i' q _ => ⟨i', q, rfl⟩, fun b q => ⟨?_, hka.2.1 b q⟩, fun b b' q1 q2 => hka.1.1 b b' q1 q2, fun e q1 q2 _ => ?_, fun b q i' q1 => absurd q1 (Nat.not_lt_zero i'), 1, hG1, ?_⟩ h1 h2
      · refine Classical.byContradiction (fun w => ?_)
        have := hka.2.1 b q
        rw [x_hi hS (show n ≤ ka b by omega)] at this
        exact Bool.noConfusion this
      · exact ⟨_, (hka.2.2 e (by omega) q2).1, (hka.2.2 e (by omega) q2).2⟩
      · have hfull : x_sd i ka (2 ^ i - 1) = S := by
          refine x_ext (x_sdl i hka.1) (by omega) (fun e he => ?_)
          cases hh : S.testBit e
          · refine x_sdo i (fun j hj z => ?_)
            have := hka.2.1 j hj
            rw [z, hh] at this; exact Bool.noConfusion this
          · obtain ⟨q1, q2⟩ := hka.2.2 e he hh
            rw [← q2, x_sdb i hka.1 _ q1, x_Tb, decide_eq_true q1]
        have := x_Wk (p := M) (k := ka) (n := i) (by omega) hka.1 i (2 ^ i - 1) (by have := Nat.two_pow_pos i; omega)
        rw [hfull] at this
        rw [this]
        show x_d (fun a b => M a (ka b)) i = (1 : R) * 1 * _
        grind
    | succ u ih =>
      intro i fr fc hi h1 h2
      unfold w57_L39
      rw [hiv0, nI_clamp (show i < 2 ^ 31 by omega)]
      refine ⟨fun w => absurd w (nI_ge (by omega) (by omega)), fun _ => ⟨b_in (by omega) (by omega), fun z ez => ?_⟩⟩
      rw [ez, nI_1]
      refine ih (i + 1) _ fc (by omega) (fun a q => ?_) h2
      by_cases w : a = i
      · subst w; rw [pk_us]
      · rw [pk_un w]; exact h1 a (by omega)
  have first : ∀ (u e : Nat) (fc : Nat → Int32), e + u = n → (∀ b, b < x_cn e (fun i => S.testBit i) → fc b = nI (ka b)) → w57_L4 post (u + 1) (nI S) (nI (x_cn e (fun i => S.testBit i))) (nI e) iv gs gp fr fc gm nv := by
    intro u
    induction u with
    | zero =>
      intro e fc he h1
      have : e = n := by omega
      subst this
      unfold w57_L4
      rw [hiv1]
      refine ⟨fun _ => ⟨r + 1, ?_⟩, fun w => absurd (nI_le (Nat.le_refl e) (by omega)) w⟩
      rw [hcn] at h1 ⊢
      exact second r 0 fr fc (by omega) (fun a q => absurd q (Nat.not_lt_zero a)) h1
    | succ u ih =>
      intro e fc he h1
      have ec : x_cn (e + 1) (fun i => S.testBit i) = x_cn e (fun i => S.testBit i) + (if S.testBit e = true then 1 else 0) := rfl
      have ih := fun fc => ih (e + 1) fc (by omega)
      rw [ec] at ih
      have hle := x_cnlt hka (show e ≤ 12 by omega)
      unfold w57_L4 w57_L31
      rw [hiv1, b_bit1 (show S < 2 ^ 31 by omega) (show e < 32 by omega), nI_clamp (show x_cn e (fun i => S.testBit i) < 2 ^ 31 by omega)]
      refine ⟨fun w => absurd w (nI_ge (by omega) (by omega)), fun _ => ⟨fun w z ez => ?_, fun w => ?_⟩⟩
      · have hp : S.testBit e = false := by cases hh : S.testBit e with | false => rfl | true => exact absurd hh w
        have := ih fc
        rw [hp, if_neg (by decide), Nat.add_zero] at this
        rw [ez, nI_1]
        exact this h1
      · obtain ⟨q1, q2⟩ := hka.2.2 e (by omega) w
        have := ih (upd fc (x_cn e (fun i => S.testBit i)) (nI e))
        rw [w, if_pos rfl] at this
        refine ⟨b_in (by omega) (by omega), fun z24 e24 z23 e23 => ?_⟩
        rw [e24, e23, nI_1, nI_1]
        refine this (fun b q => ?_)
        by_cases w' : b = x_cn e (fun i => S.testBit i)
        · subst w'; rw [pk_us, q2]
        · rw [pk_un w']; exact h1 b (by omega)
  exact ⟨n + 1, first n 0 fc (by omega) (fun b q => absurd q (Nat.not_lt_zero b))⟩
end RMI
