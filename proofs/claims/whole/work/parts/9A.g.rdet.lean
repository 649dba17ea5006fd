/-! PURE, the reference: isEven, determinantOf -/
/-- whether the first k numbers have an odd number of pairs that fall -/
def x_iv (s : Nat → Nat) (k : Nat) : Bool := x_xs k (fun i => x_xs i (fun j => decide (s i < s j)))
theorem x_ivc {s t : Nat → Nat} {k : Nat} (h : ∀ i, i < k → s i = t i) : x_iv s k = x_iv t k :=
  x_xsc k (fun i hi => x_xsc i (fun j hj => by rw [h i hi, h j (by omega)]))
theorem b_ev : ∀ N, N < 512 → (nI N - nI N / 2 * 2 = 0 ↔ ¬ N % 2 = 1) := by decide +kernel
theorem x_parx {N : Nat} {p q : Bool} (h : N % 2 = 1 ↔ p = true) : (N + (if q = true then 1 else 0)) % 2 = 1 ↔ (p ^^ q) = true := by
  cases p <;> cases q
  · have : ¬ N % 2 = 1 := fun z => Bool.noConfusion (h.mp z)
    simp; omega
  · have : ¬ N % 2 = 1 := fun z => Bool.noConfusion (h.mp z)
    simp; omega
  · have := h.mpr rfl
    simp; omega
  · have := h.mpr rfl
    simp; omega
section RDE
variable {ge gr gR go gs gS iv gt : Nat → Int32} {m n r : Nat} {b : Nat → Bool}
theorem r_isEven {post : Int32 → (Nat → Int32) → Prop} {s : Nat → Nat} {K : Nat} (hK : K ≤ 13) (hg : ∀ i, i < K → gt i = nI (s i) ∧ s i < 12) (h : post (if x_iv s K = true then 0 else 1) gt) : w83_wp 13 post (nI K) gt := by
  have outer : ∀ (u i N : Nat), i + u = K → N ≤ 13 * i → (N % 2 = 1 ↔ x_iv s i = true) → w83_L4 13 post (u + 1) (nI K) (nI N) (nI i) gt := by
    intro u
    induction u with
    | zero =>
      intro i N hi hN hp
      have : i = K := by omega
      subst this
      unfold w83_L4 w83_L59
      refine ⟨fun _ => ⟨fun q => ⟨rfl, ?_⟩, fun q => ⟨rfl, ?_⟩⟩, fun w => absurd (nI_le (Nat.le_refl i) (by omega)) w⟩
      · rw [b_ev N (by omega), hp] at q
        rw [if_pos (Classical.not_not.mp q)] at h; exact h
      · rw [b_ev N (by omega), hp] at q
        rw [if_neg q] at h; exact h
    | succ u ih =>
      intro i N hi hN hp
      unfold w83_L4
      refine ⟨fun w => absurd w (nI_ge (by omega) (by omega)), fun _ => ⟨i + 1, ?_⟩⟩
      have inner : ∀ (v j N' : Nat), j + v = i → N' ≤ N + j → (N' % 2 = 1 ↔ (x_iv s i ^^ x_xs j (fun j => decide (s i < s j))) = true) → w83_L12 (w83_L4 13 post (u + 1)) 13 post (v + 1) (nI K) (nI N') (nI i) (nI j) gt := by
        intro v
        induction v with
        | zero =>
          intro j N' hj hN' hp'
          have : j = i := by omega
          subst this
          unfold w83_L12
          refine ⟨fun _ z ez => ?_, fun w => absurd (nI_le (Nat.le_refl j) (by omega)) w⟩
          rw [ez, nI_1]
          exact ih (j + 1) N' (by omega) (by omega) hp'
        | succ v ihv =>
          intro j N' hj hN' hp'
          unfold w83_L12 w83_L35
          have hgi := hg i (by omega)
          have hgj := hg j (by omega)
          rw [nI_clamp (show i < 2 ^ 31 by omega), nI_clamp (show j < 2 ^ 31 by omega), hgi.1, hgj.1]
          have st := x_parx (q := decide (s i < s j)) hp'
          have e : (x_iv s i ^^ x_xs (j + 1) (fun j => decide (s i < s j))) = ((x_iv s i ^^ x_xs j (fun j => decide (s i < s j))) ^^ decide (s i < s j)) := (Bool.xor_assoc _ _ _).symm
          rw [← e] at st
          refine ⟨fun w => absurd w (nI_ge (by omega) (by omega)), fun _ => ⟨b_in (by omega) (by omega), b_in (by omega) (by omega), fun w z ez => ?_, fun w z ez => ?_⟩⟩
          · have q : ¬ s i < s j := fun q => nI_ge q (by omega) w
            rw [decide_eq_false q] at st
            rw [ez, nI_1]
            exact ihv (j + 1) N' (by omega) (by omega) st
          · have q : s i < s j := Classical.byContradiction (fun q => w (nI_le (by omega) (by omega)))
            rw [decide_eq_true q] at st
            rw [ez, nI_1, nI_1]
            exact ihv (j + 1) (N' + 1) (by omega) (by omega) st
      have := inner i 0 N (by omega) (by omega) (by rw [hp]; show _ ↔ (x_iv s i ^^ false) = true; rw [Bool.xor_false])
      exact this
  exact ⟨K + 1, outer K 0 0 (by omega) (by omega) ⟨fun z => by omega, fun z => Bool.noConfusion z⟩⟩
theorem r_sortP {K6 : Int32 → Int32 → Int32 → Int32 → Int32 → (Nat → Int32) → (Nat → Int32) → (Nat → Int32) → (Nat → Int32) → Prop} {post : Int32 → (Nat → Int32) → (Nat → Int32) → (Nat → Int32) → (Nat → Int32) → Prop} {F M S k0 : Nat} {p : Nat} {A : Nat → Bool} {I0 : Bool} (hm : m < 26) (hn : n ≤ 12) (hge : ge m = nI n) (hF : F < 4096) (hM : M < 4096) (hp2 : p < 2) (hS : S = if p = 0 then F else M) (hk0 : k0 + x_cn n (fun i => S.testBit i) ≤ 12)
    (h : ∀ (gt' : Nat → Int32) (s' : Nat → Nat), (∀ i, i < k0 + x_cn n (fun i => S.testBit i) → gt' i = nI (s' i) ∧ s' i < 12) → (∀ u, x_xs (k0 + x_cn n (fun i => S.testBit i)) (fun j => decide (u < s' j)) = (A u ^^ x_xs n (fun i => decide (u < i) && S.testBit i))) → x_iv s' (k0 + x_cn n (fun i => S.testBit i)) = (I0 ^^ x_xs n (fun u => S.testBit u && A u)) → K6 (nI m) (nI F) (nI M) (nI (k0 + x_cn n (fun i => S.testBit i))) (nI p + 1) iv ge gS gt') :
    ∀ (u e : Nat) (s : Nat → Nat) (gt : Nat → Int32), e + u = n → (∀ i, i < k0 + x_cn e (fun i => S.testBit i) → gt i = nI (s i) ∧ s i < 12) → (∀ u, x_xs (k0 + x_cn e (fun i => S.testBit i)) (fun j => decide (u < s j)) = (A u ^^ x_xs e (fun i => decide (u < i) && S.testBit i))) → x_iv s (k0 + x_cn e (fun i => S.testBit i)) = (I0 ^^ x_xs e (fun u => S.testBit u && A u)) → w85_L15 K6 post (u + 1) (nI m) (nI F) (nI M) (nI (k0 + x_cn e (fun i => S.testBit i))) (nI p) (nI e) iv ge gS gt := by
  intro u
  induction u with
  | zero =>
    intro e s gt he h1 h2 h3
    have : e = n := by omega
    subst this
    unfold w85_L15
    rw [nI_clamp (show m < 2 ^ 31 by omega), hge]
    refine ⟨b_in hm (by omega), fun _ z ez => ?_, fun w => absurd (nI_le (Nat.le_refl e) (by omega)) w⟩
    rw [ez]
    exact h gt s h1 h2 h3
  | succ u ih =>
    intro e s gt he h1 h2 h3
    have hS4 : S < 4096 := by rw [hS]; split <;> assumption
    unfold w85_L15
    rw [nI_clamp (show m < 2 ^ 31 by omega), hge]
    have fin : w85_L36 K6 (w85_L15 K6 post (u + 1)) post (nI m) (nI F) (nI M) (nI (k0 + x_cn e (fun i => S.testBit i))) (nI p) (nI e) (nI S) iv ge gS gt := by
      unfold w85_L36 w85_L57
      rw [b_bit1 (show S < 2 ^ 31 by omega) (show e < 32 by omega)]
      have ec : x_cn (e + 1) (fun i => S.testBit i) = x_cn e (fun i => S.testBit i) + (if S.testBit e = true then 1 else 0) := rfl
      have e2 : ∀ u, x_xs (e + 1) (fun i => decide (u < i) && S.testBit i) = (x_xs e (fun i => decide (u < i) && S.testBit i) ^^ (decide (u < e) && S.testBit e)) := fun u => rfl
      have e3 : x_xs (e + 1) (fun u => S.testBit u && A u) = (x_xs e (fun u => S.testBit u && A u) ^^ (S.testBit e && A e)) := rfl
      refine ⟨fun w z ez => ?_, fun w => ?_⟩
      · have w : S.testBit e = false := by cases hh : S.testBit e with | false => rfl | true => exact absurd hh w
        have := ih (e + 1) s gt (by omega)
        rw [ec, e3, if_neg (by rw [w]; exact Bool.noConfusion), Nat.add_zero, w, Bool.false_and, Bool.xor_false] at this
        rw [ez, nI_1]
        refine this h1 (fun u => ?_) h3
        rw [e2, w, Bool.and_false, Bool.xor_false]
        exact h2 u
      · have hle : x_cn e (fun i => S.testBit i) + 1 ≤ x_cn n (fun i => S.testBit i) := by
          have := x_cnmono (P := fun i => S.testBit i) (a := e + 1) u
          rw [ec, if_pos w, show e + 1 + u = n by omega] at this
          exact this
        generalize hk : k0 + x_cn e (fun i => S.testBit i) = k at *
        have := ih (e + 1) (fun j => if j = k then e else s j) (upd gt k (nI e)) (by omega)
        rw [ec, e3, if_pos w, ← Nat.add_assoc, hk, w, Bool.true_and] at this
        have hlt : ∀ j, j < k → (fun j => if j = k then e else s j) j = s j := fun j hj => if_neg (by omega)
        have hx : ∀ u, x_xs (k + 1) (fun j => decide (u < (fun j => if j = k then e else s j) j)) = (x_xs k (fun j => decide (u < s j)) ^^ decide (u < e)) := by
          intro u
          show (x_xs k (fun j => decide (u < (if j = k then e else s j))) ^^ decide (u < (if k = k then e else s k))) = _
          rw [if_pos rfl, x_xsc (g := fun j => decide (u < s j)) k (fun j hj => by rw [if_neg (show ¬ j = k by omega)])]
        refine ⟨b_in (by omega) (by omega), fun z2 ez2 z1 ez1 => ?_⟩
        rw [ez2, ez1, nI_1, nI_1, nI_clamp (show k < 2 ^ 31 by omega)]
        refine this (fun i hi => ?_) (fun u => ?_) ?_
        · by_cases q : i = k
          · subst q; rw [if_pos rfl]; exact ⟨if_pos rfl, by omega⟩
          · rw [if_neg q, show upd gt k (nI e) i = gt i from if_neg q]; exact h1 i (by omega)
        · rw [hx u, h2 u, e2, w, Bool.and_true, Bool.xor_assoc]
        · show (x_iv (fun j => if j = k then e else s j) k ^^ x_xs k (fun j => decide ((if k = k then e else s k) < (if j = k then e else s j)))) = _
          rw [if_pos rfl, x_xsc (g := fun j => decide (e < s j)) k (fun j hj => by rw [if_neg (show ¬ j = k by omega)]), x_ivc hlt, h3, h2 e, x_xs0 (f := fun i => decide (e < i) && S.testBit i) e (fun i hi => by rw [decide_eq_false (show ¬ e < i by omega)]; rfl), Bool.xor_false, Bool.xor_assoc]
    refine ⟨b_in hm (by omega), fun w => absurd w (nI_ge (by omega) (by omega)), fun _ => ⟨fun w => ?_, fun w => ?_⟩⟩
    · rw [if_neg (fun q => w (by rw [q]; rfl))] at hS
      rw [hS] at fin; rw [hS]; exact fin
    · rw [if_pos (Classical.byContradiction (fun q => nI_ne0 (show 0 < p by omega) (show p < 2 ^ 31 by omega) w))] at hS
      rw [hS] at fin; rw [hS]; exact fin
theorem r_det {post : Int32 → (Nat → Int32) → (Nat → Int32) → (Nat → Int32) → (Nat → Int32) → Prop} {F M : Nat} (hm : m < 26) (hn : n ≤ 12) (hge : ge m = nI n) (hF : F < 2 ^ n) (hM : M < 2 ^ n) (hc : x_n F + x_n M ≤ 12) (h : ∀ gt', post (if x_il F M = true then - gS (4096 * m + (F ||| M)) else gS (4096 * m + (F ||| M))) iv ge gS gt') : w85_wp post (nI m) (nI F) (nI M) iv ge gS gt := by
  have hp := b_p12 hn
  have nn : ∀ S, S < 2 ^ n → x_cn n (fun i => S.testBit i) = x_n S := by
    intro S hS
    have := x_cnmore (P := fun i => S.testBit i) (a := n) (12 - n) (fun i h1 h2 => x_hi hS h1)
    rw [show n + (12 - n) = 12 by omega] at this
    exact this.symm
  have xx : ∀ f : Nat → Bool, (∀ i, n ≤ i → f i = false) → x_xs n f = x_xs 12 f := by
    intro f hf
    have := x_xsm (f := f) (n := n) (12 - n) (fun i h1 h2 => hf i h1)
    rw [show n + (12 - n) = 12 by omega] at this
    exact this.symm
  have hFM : F ||| M < 2 ^ n := Nat.or_lt_two_pow hF hM
  refine ⟨3, ?_⟩
  unfold w85_L6
  refine ⟨fun w => absurd w (by decide), fun _ => ⟨n + 1, ?_⟩⟩
  have p1 := r_sortP (iv := iv) (ge := ge) (gS := gS) (m := m) (n := n) (K6 := w85_L6 post 2) (post := post) (F := F) (M := M) (S := F) (k0 := 0) (p := 0) (A := fun _ => false) (I0 := false) hm hn hge (by omega) (by omega) (by decide) rfl (by rw [nn F hF]; omega) (fun gt1 s1 a1 a2 a3 => ?_) n 0 (fun _ => 0) gt (by omega) (fun i hi => absurd hi (Nat.not_lt_zero i)) (fun u => rfl) rfl
  · exact p1
  unfold w85_L6
  refine ⟨fun w => absurd w (by decide), fun _ => ⟨n + 1, ?_⟩⟩
  rw [Nat.zero_add] at a1 a2 a3 ⊢
  have a3 : x_iv s1 (x_cn n (fun i => F.testBit i)) = false := by
    rw [a3, x_xs0 n (fun i _ => Bool.and_false _)]; rfl
  have p2 := r_sortP (iv := iv) (ge := ge) (gS := gS) (m := m) (n := n) (K6 := w85_L6 post 1) (post := post) (F := F) (M := M) (S := M) (k0 := x_cn n (fun i => F.testBit i)) (p := 1) (A := fun u => x_xs n (fun i => decide (u < i) && F.testBit i)) (I0 := false) hm hn hge (by omega) (by omega) (by decide) rfl (by rw [nn F hF, nn M hM]; omega) (fun gt2 s2 b1 b2 b3 => ?_) n 0 s1 gt1 (by omega) a1 (fun u => by rw [show x_cn 0 (fun i => M.testBit i) = 0 from rfl, Nat.add_zero, a2 u]; show (false ^^ _) = (_ ^^ false); rw [Bool.false_xor, Bool.xor_false]) a3
  · exact p2
  unfold w85_L6 w85_L105
  have hl : 4096 * m + (F ||| M) < 2 ^ 31 := by omega
  rw [show (4096 : Int32) = nI 4096 from rfl, pk_mul, b_or, nI_add, nI_clamp hl]
  refine ⟨fun _ => ⟨b_in (by omega) (by omega), fun z4 e4 => r_isEven (s := s2) (by rw [nn F hF, nn M hM]; omega) b1 ?_⟩, fun w => absurd (show (2 : Int32) ≤ nI 1 + 1 by decide) w⟩
  have hil : x_iv s2 (x_cn n (fun i => F.testBit i) + x_cn n (fun i => M.testBit i)) = x_il F M := by
    rw [b3, Bool.false_xor, xx _ (fun i hi => by rw [x_hi hM hi]; rfl)]
    refine x_xsc 12 (fun u hu => ?_)
    rw [xx _ (fun i hi => by rw [x_hi hF hi, Bool.and_false])]
    rfl
  rw [hil, e4]
  refine ⟨fun w => ?_, fun w => ?_⟩
  · have := h gt2
    rw [if_pos (Classical.byContradiction (fun q => by rw [if_neg q] at w; exact t_10 w))] at this
    exact this
  · have := h gt2
    rw [if_neg (fun q => by rw [if_pos q] at w; exact w rfl)] at this
    exact this
end RDE
