/-! PURE, the reference: fits, maps -/
section RMI
variable {ge gr gR go gs gi iv : Nat → Int32} {m m2 n R g r : Nat} {b b' : Nat → Bool} {K c : Nat} {k : Nat → Nat}
theorem nI_sube {a c d : Nat} (ha : a < 1000) (hc : c < 1000) (hd : d < 1000) : nI a - nI c = nI d ↔ a = d + c := by
  constructor
  · intro h
    have : nI a = nI (d + c) := by
      rw [← nI_add, ← h]
      grind
    exact (nI_eq (by omega) (by omega)).1 this
  · intro h
    rw [h, ← nI_add]
    grind
/-- the ranks of the sets with a new element -/
def w_ft (b b' : Nat → Bool) (c : Nat) (f : Nat → Nat) (e : Nat) : Bool := decide (∀ S, S < 2 ^ e → x_rk b (x_im (e + 1) f (S ||| 2 ^ e) ||| c) = x_rk b' (S ||| 2 ^ e) + x_rk b c)
theorem r_fits {post : Int32 → (Nat → Int32) → (Nat → Int32) → (Nat → Int32) → Prop} {f : Nat → Nat} {e : Nat} (hD : r_D ge gr gR m n R b) (hD2 : r_D ge gr gR m2 g r b') (hc : c < 2 ^ n) (he : e < g) (hf : ∀ i, i ≤ e → gi i = nI (f i) ∧ f i < n) (h : post (if w_ft b b' c f e = true then 1 else 0) iv gR gi) : w89_wp post (nI m) (nI m2) (nI c) (nI e) iv gR gi := by
  have hn := (r_Dn hD).1
  have hg := (r_Dn hD2).1
  have hp := b_p12 hn
  have hpg := b_p12 hg
  have hpe : 2 ^ (e + 1) ≤ 2 ^ g := Nat.pow_le_pow_right (by decide) (by omega)
  have hpe2 : 2 ^ (e + 1) = 2 * 2 ^ e := by rw [Nat.pow_succ, Nat.mul_comm]
  have e2 : (2 : Int32) <<< (nI e &&& 31) = nI (2 ^ (e + 1)) := by
    have := pk_shlN (n := 2) (nI e &&& 31) e (b_sl e (by omega)) (by omega)
    rw [show (2 : Int32) = nI 2 from rfl, this, hpe2]
  have rl : ∀ (b : Nat → Bool) S, x_rk b S < 1000 := fun b S => by
    have h1 := x_rkn (b := b) S
    have h2 := x_nle S
    omega
  have hor : ∀ S, S < 2 ^ e → S ||| 2 ^ e = S + 2 ^ e := by
    intro S hS
    have a1 := Nat.two_pow_add_eq_or_of_lt hS 1
    rw [Nat.mul_one, Nat.or_comm] at a1
    omega
  have fin : ∀ (x6 : Int32) (y : Int32), (y = 0 ∨ y = 1) → y = (if w_ft b b' c f e = true then 1 else 0) → w89_L111 post (nI m) (nI m2) (nI c) (nI e) y x6 iv gR gi := by
    intro x6 y hy ey
    refine ⟨by rcases hy with q | q <;> rw [q] <;> rfl, ?_⟩
    rw [ey]; exact h
  have stop : ∀ (j : Nat) (x6 : Int32), w_ft b b' c f e = false → w89_L9 post (j + 1) (nI m) (nI m2) (nI c) (nI e) 0 x6 iv gR gi := by
    intro j x6 hf'
    exact ⟨fun _ => fin _ 0 (Or.inl rfl) (by rw [hf']; rfl), fun _ => ⟨fun _ => fin _ 0 (Or.inl rfl) (by rw [hf']; rfl), fun k => absurd rfl k⟩⟩
  have main : ∀ (u i : Nat), i + u = 2 ^ e → (∀ S, S < i → x_rk b (x_im (e + 1) f (S ||| 2 ^ e) ||| c) = x_rk b' (S ||| 2 ^ e) + x_rk b c) → w89_L9 post (u + 2) (nI m) (nI m2) (nI c) (nI e) 1 (nI (i + 2 ^ e)) iv gR gi := by
    intro u
    induction u with
    | zero =>
      intro i hi hall
      refine ⟨fun _ => fin _ 1 (Or.inr rfl) ?_, fun w => ?_⟩
      · have : w_ft b b' c f e = true := decide_eq_true (fun S hS => hall S (by omega))
        rw [this]; rfl
      · rw [e2] at w
        exact absurd (nI_le (by omega) (by omega)) w
    | succ u ih =>
      intro i hi hall
      have hil : i < 2 ^ e := by omega
      refine ⟨fun w => ?_, fun _ => ⟨fun k => t_10 k, fun _ => ⟨e + 2, ?_⟩⟩⟩
      · rw [e2] at w
        exact absurd w (nI_ge (by omega) (by omega))
      · have inner : ∀ (v j : Nat), j + v = e + 1 → w89_L29 (w89_L9 post (u + 2)) post (v + 1) (nI m) (nI m2) (nI c) (nI e) 1 (nI (i + 2 ^ e)) (nI (x_im j f (i ||| 2 ^ e))) (nI j) iv gR gi := by
          intro v
          induction v with
          | zero =>
            intro j hj
            have him : x_im (e + 1) f (i ||| 2 ^ e) < 2 ^ n := x_iml (e + 1) (fun i hi => (hf i (by omega)).2)
            refine ⟨fun _ => ?_, fun w => absurd (nI_lt (by omega) (by omega)) w⟩
            rw [show j = e + 1 by omega, b_or]
            refine r_rank hD (Nat.or_lt_two_pow him hc) (r_rank hD hc (r_rank hD2 (by omega) ⟨fun w z ez => ?_, fun w z ez => ?_⟩))
            · rw [nI_sube (rl _ _) (rl _ _) (rl _ _), ← hor i hil] at w
              exact stop (u + 1) z (decide_eq_false (fun hh => w (hh i hil)))
            · rw [nI_sube (rl _ _) (rl _ _) (rl _ _), ← hor i hil] at w
              rw [ez, nI_1, show i + 2 ^ e + 1 = (i + 1) + 2 ^ e by omega]
              refine ih (i + 1) (by omega) (fun S hS => ?_)
              by_cases q : S = i
              · rw [q]; exact w
              · exact hall S (by omega)
          | succ v ihv =>
            intro j hj
            have ihv := ihv (j + 1) (by omega)
            have e3 : x_im (j + 1) f (i ||| 2 ^ e) = if (i ||| 2 ^ e).testBit j = true then x_im j f (i ||| 2 ^ e) ||| 2 ^ f j else x_im j f (i ||| 2 ^ e) := rfl
            rw [e3] at ihv
            refine ⟨fun w => absurd w (nI_nlt (by omega) (by omega)), fun _ => ⟨fun w z ez => ?_, fun w => ?_⟩⟩
            · rw [b_bit1 (by omega) (by omega), ← hor i hil] at w
              rw [if_neg w] at ihv
              rw [ez, nI_1]; exact ihv
            · rw [b_bit1 (by omega) (by omega), ← hor i hil] at w
              obtain ⟨f1, f2⟩ := hf j (by omega)
              rw [if_pos w] at ihv
              rw [nI_clamp (by omega), f1, b_sh (by omega), b_or]
              refine ⟨b_in (by omega) (by omega), fun z ez => ?_⟩
              rw [ez, nI_1]; exact ihv
        exact inner (e + 1) 0 (by omega)
  intro z9 e9
  rw [b_sh (by omega)] at e9
  rw [e9]
  have := main (2 ^ e) 0 (by omega) (fun S hS => absurd hS (Nat.not_lt_zero S))
  rw [Nat.zero_add] at this
  exact ⟨2 ^ e + 2, this⟩
theorem r_maps (hD : r_D ge gr gR m n R b) (hD2 : r_D ge gr gR m2 g r b') (hk : x_kp K g k) (hK : K < 2 ^ n) (hc : c < 2 ^ n) :
    ∀ (d e : Nat) (φ : Nat → Nat) (gi : Nat → Int32) (post : Int32 → (Nat → Int32) → (Nat → Int32) → (Nat → Int32) → (Nat → Int32) → Prop), e ≤ g → g < e + d → (∀ i, i < e → gi i = nI (k (φ i))) → w_P (x_rk b) (x_rk b') g k c e φ →
    (∀ φ' gi', w_L (x_rk b) (x_rk b') g k c e φ φ' → (∀ i, i < g → gi' i = nI (k (φ' i))) → post 1 iv ge gR gi') →
    ((¬ ∃ ψ, w_P (x_rk b) (x_rk b') g k c g ψ ∧ ∀ i, i < e → ψ i = φ i) → ∀ gi', (∀ i, i < e → gi' i = gi i) → post 0 iv ge gR gi') →
    w88_wp d post (nI m) (nI m2) (nI K) (nI c) (nI e) iv ge gR gi := by
  have hn := (r_Dn hD).1
  have hg := (r_Dn hD2).1
  have hp := b_p12 hn
  have hm := hD.1
  have hm2 := hD2.1
  have hkn : ∀ i, i < g → k i < n := by
    intro i hi
    by_cases w : k i < n
    · exact w
    · have := hk.2.1 i hi
      rw [Nat.testBit_lt_two_pow (Nat.lt_of_lt_of_le hK (Nat.pow_le_pow_right (by decide) (by omega)))] at this
      exact absurd this (by decide)
  intro d
  induction d with
  | zero => intro e φ gi post he hd; omega
  | succ d ihd =>
    intro e φ gi post he hd hgi hP h1 h0
    refine ⟨b_in (by omega) (by omega), fun w => ⟨n + 1, ?_⟩, fun w => ⟨rfl, ?_⟩⟩
    · have heg : e < g := by
        rw [nI_clamp (by omega), hD2.2.1] at w
        have : ¬ e = g := fun q => w (by rw [q])
        omega
      have main : ∀ (u x : Nat) (gi : Nat → Int32), x + u = n → (∀ i, i < e → gi i = nI (k (φ i))) → (∀ y, y < g → k y < x → ¬ ∃ h, w_P (x_rk b) (x_rk b') g k c g h ∧ (∀ i, i < e → h i = φ i) ∧ h e = y) → ((¬ ∃ ψ, w_P (x_rk b) (x_rk b') g k c g ψ ∧ ∀ i, i < e → ψ i = φ i) → ∀ gi', (∀ i, i < e → gi' i = gi i) → post 0 iv ge gR gi') → w88_L16 (w88_wp d) post (u + 1) (nI m) (nI m2) (nI K) (nI c) (nI e) (nI x) iv ge gR gi := by
        intro u
        induction u with
        | zero =>
          intro x gi hx hgi hno h0
          refine ⟨b_in (by omega) (by omega), fun _ => ⟨rfl, h0 ?_ gi (fun _ _ => rfl)⟩, fun w => ?_⟩
          · intro ⟨ψ, hψ, hag⟩
            have := hψ.1 e heg
            exact hno (ψ e) this (by have := hkn _ this; omega) ⟨ψ, hψ, hag, rfl⟩
          · rw [nI_clamp (by omega), hD.2.1] at w
            exact absurd (nI_le (by omega) (by omega)) w
        | succ u ih =>
          intro x gi hx hgi hno h0
          have skip : ∀ (gi' : Nat → Int32) (x7 x8 : Int32), (∀ i, i < e → gi' i = gi i) → (∀ y, y < g → k y = x → ¬ ∃ h, w_P (x_rk b) (x_rk b') g k c g h ∧ (∀ i, i < e → h i = φ i) ∧ h e = y) → w88_L129 (w88_L16 (w88_wp d) post (u + 1)) (w88_wp d) post (nI m) (nI m2) (nI K) (nI c) (nI e) (nI x) x7 x8 iv ge gR gi' := by
            intro gi' x7 x8 hgi' hx' z ez
            rw [ez, nI_1]
            refine ih (x + 1) gi' (by omega) (fun i hi => by rw [hgi' i hi]; exact hgi i hi) (fun y hy hky => ?_) (fun hn' gi2 a => h0 hn' gi2 (fun i hi => by rw [a i hi, hgi' i hi]))
            by_cases q : k y = x
            · exact hx' y hy q
            · exact hno y hy (by omega)
          -- is it free?
          have scan : ∀ (fr : Bool), (fr = false → ∀ y, y < g → k y = x → ¬ ∃ h, w_P (x_rk b) (x_rk b') g k c g h ∧ (∀ i, i < e → h i = φ i) ∧ h e = y) → (fr = true → K.testBit x = true) → ∀ (v j : Nat) (fr' : Bool), j + v = e → (fr' = false → ∀ y, y < g → k y = x → ¬ ∃ h, w_P (x_rk b) (x_rk b') g k c g h ∧ (∀ i, i < e → h i = φ i) ∧ h e = y) → (fr' = true → K.testBit x = true ∧ ∀ i, i < j → k (φ i) ≠ x) → w88_L47 (w88_L16 (w88_wp d) post (u + 1)) (w88_wp d) post (v + 1) (nI m) (nI m2) (nI K) (nI c) (nI e) (nI x) (if fr' = true then 1 else 0) (nI j) iv ge gR gi := by
            intro fr _ _ v
            induction v with
            | zero =>
              intro j fr' hj hfF hfT
              refine ⟨fun _ => ⟨b_in (by omega) (by omega), fun w3 => ?_, fun w3 => ?_⟩, fun w3 => absurd (nI_le (by omega) (by omega)) w3⟩
              · have : fr' = false := by
                  cases fr'
                  · rfl
                  · exact t_10 w3
                rw [nI_clamp (by omega)]
                exact skip _ _ _ (fun i hi => by rw [pk_un (by omega)]) (hfF this)
              · have hft : fr' = true := by
                  cases fr'
                  · exact absurd rfl w3
                  · rfl
                obtain ⟨hKx, hnx⟩ := hfT hft
                obtain ⟨y1, y2⟩ := hk.2.2 x (by omega) hKx
                generalize hy : x_cn x (fun i => K.testBit i) = y at *
                rw [nI_clamp (by omega)]
                have fe : va_up φ e y e = y := va_up_self _ _ _
                have fi : ∀ i, i < e → va_up φ e y i = φ i := fun i hi => va_up_ne _ _ (by omega)
                have hgi2 : ∀ i, i < e + 1 → (upd gi e (nI x)) i = nI (k (va_up φ e y i)) := by
                  intro i hi
                  by_cases q : i = e
                  · rw [q, pk_us, fe, y2]
                  · rw [pk_un q, fi i (by omega)]; exact hgi i (by omega)
                have hnφ : ∀ i, i < e → φ i ≠ y := fun i hi q => hnx i (by omega) (by rw [q, y2])
                have eim : ∀ S, x_im e (fun i => k (va_up φ e y i)) S = x_im e (fun i => k (φ i)) S := fun S => x_imc (fun i hi => by rw [fi i hi])
                have conv : ∀ S, S < 2 ^ e → x_im (e + 1) (fun i => k (va_up φ e y i)) (S ||| 2 ^ e) ||| c = x_im e (fun i => k (φ i)) S ||| c ||| 2 ^ k y := by
                  intro S hS
                  rw [x_imw hS, eim, fe, Nat.or_assoc, Nat.or_comm (2 ^ k y) c, ← Nat.or_assoc]
                refine r_fits (f := fun i => k (va_up φ e y i)) hD hD2 hc heg (fun i hi => ⟨hgi2 i (by omega), ?_⟩) ⟨fun w4 => ?_, fun w4 => ?_⟩
                · by_cases q : i = e
                  · rw [q, fe]; exact hkn y y1
                  · rw [fi i (by omega)]; exact hkn _ (hP.1 i (by omega))
                · refine skip _ _ _ (fun i hi => by rw [pk_un (by omega)]) (fun y' hy' hky' => ?_)
                  have ey : y' = y := x_upi hk.1 hy' y1 (by rw [hky', y2])
                  rw [ey]
                  intro ⟨ψ, p1, p2, p3⟩
                  have : w_ft b b' c (fun i => k (va_up φ e y i)) e = true := by
                    refine decide_eq_true (fun S hS => ?_)
                    have h2 := w_Pr (w_Pm (show e + 1 ≤ g by omega) p1) hS
                    rw [p3] at h2
                    rw [conv S hS, show x_im e (fun i => k (φ i)) S = x_im e (fun i => k (ψ i)) S from x_imc (fun i hi => by rw [p2 i hi])]
                    exact h2
                  rw [this] at w4
                  exact t_10 w4
                · have hft2 : w_ft b b' c (fun i => k (va_up φ e y i)) e = true := by
                    cases hh : w_ft b b' c (fun i => k (va_up φ e y i)) e
                    · rw [hh] at w4; exact absurd rfl w4
                    · rfl
                  have hft3 := of_decide_eq_true hft2
                  have hP2 : w_P (x_rk b) (x_rk b') g k c (e + 1) (va_up φ e y) := by
                    refine w_Ps (w_Pc (fun i hi => (fi i hi).symm) hP) (by rw [fe]; exact y1) (fun i hi => by rw [fi i hi, fe]; exact hnφ i hi) (fun S hS => ?_)
                    rw [eim, fe, ← conv S hS]
                    exact hft3 S hS
                  rw [nI_1]
                  refine ihd (e + 1) (va_up φ e y) _ _ (by omega) (by omega) hgi2 hP2 (fun φ' gi' hL hgi' => ⟨fun k => t_10 k, fun _ => ⟨rfl, ?_⟩⟩) (fun hn2 gi' a2 => ⟨fun _ => ?_, fun k => absurd rfl k⟩)
                  · refine h1 φ' gi' (w_Ls heg (fun y' hy' => ?_) hL) hgi'
                    by_cases q : y' < g
                    · exact hno y' q (by have := hk.1.1 y' y hy' y1; omega)
                    · omega
                  · refine skip gi' _ _ (fun i hi => by rw [a2 i (by omega), pk_un (by omega)]) (fun y' hy' hky' => ?_)
                    have ey : y' = y := x_upi hk.1 hy' y1 (by rw [hky', y2])
                    rw [ey]
                    intro ⟨ψ, p1, p2, p3⟩
                    refine hn2 ⟨ψ, p1, fun i hi => ?_⟩
                    by_cases q : i = e
                    · rw [q, fe]; exact p3
                    · rw [fi i (by omega)]; exact p2 i (by omega)
            | succ v ihv =>
              intro j fr' hj hfF hfT
              have hgj := hgi j (by omega)
              have hφj := hP.1 j (by omega)
              refine ⟨fun w3 => absurd w3 (nI_ge (by omega) (by omega)), fun _ => ⟨fun w3 z ez => ?_, fun w3 => ?_⟩⟩
              · have : fr' = false := by
                  cases fr'
                  · rfl
                  · exact t_10 w3
                rw [ez, nI_1]
                have := ihv (j + 1) false (by omega) (fun _ => hfF this) (fun k => absurd k (by decide))
                exact this
              · have hft : fr' = true := by
                  cases fr'
                  · exact absurd rfl w3
                  · rfl
                obtain ⟨hKx, hnx⟩ := hfT hft
                rw [nI_clamp (by omega), hgj]
                have hkj := hkn _ hφj
                refine ⟨b_in (by omega) (by omega), fun w4 z ez => ?_, fun w4 z ez => ?_⟩
                · have hkx : k (φ j) = x := (nI_eq (by omega) (by omega)).1 w4
                  rw [ez, nI_1]
                  have := ihv (j + 1) false (by omega) (fun _ y hy hky => ?_) (fun k => absurd k (by decide))
                  · exact this
                  · intro ⟨ψ, p1, p2, p3⟩
                    have ey : y = φ j := x_upi hk.1 hy hφj (by rw [hky, hkx])
                    have := p1.2.1 j e (by omega) heg (by rw [p2 j (by omega), p3, ey])
                    omega
                · rw [ez, nI_1]
                  have := ihv (j + 1) true (by omega) (fun k => absurd k (by decide)) (fun _ => ⟨hKx, fun i hi => ?_⟩)
                  · exact this
                  · by_cases q : i = j
                    · rw [q]; exact fun q2 => w4 (by rw [q2])
                    · exact hnx i (by omega)
          refine ⟨b_in (by omega) (by omega), fun w3 => ?_, fun _ => ⟨fun w3 => ⟨e + 1, ?_⟩, fun w3 => ⟨e + 1, ?_⟩⟩⟩
          · rw [nI_clamp (by omega), hD.2.1] at w3
            exact absurd w3 (nI_ge (by omega) (by omega))
          · rw [b_bit1 (by omega) (by omega)] at w3
            have hF : ∀ y, y < g → k y = x → ¬ ∃ h, w_P (x_rk b) (x_rk b') g k c g h ∧ (∀ i, i < e → h i = φ i) ∧ h e = y := fun y hy hky => absurd (by rw [← hky]; exact hk.2.1 y hy) w3
            exact scan false (fun _ => hF) (fun k => absurd k (by decide)) e 0 false (by omega) (fun _ => hF) (fun k => absurd k (by decide))
          · rw [b_bit1 (by omega) (by omega)] at w3
            exact scan true (fun k => absurd k (by decide)) (fun _ => w3) e 0 true (by omega) (fun k => absurd k (by decide)) (fun _ => ⟨w3, fun i hi => absurd hi (Nat.not_lt_zero i)⟩)
      exact main n 0 gi (by omega) hgi (fun y _ hky => absurd hky (Nat.not_lt_zero _)) h0
    · rw [nI_clamp (by omega), hD2.2.1] at w
      have heg : e = g := (nI_eq (by omega) (by omega)).1 w
      subst heg
      exact h1 φ gi ⟨hP, fun _ _ => rfl, fun h hh hag => Or.inl hag⟩ hgi
end RMI
