/-! PURE, the reference: what is asked of one matroid -/
/-- ints that an ask leaves alone -/
def r_I0 (iv iv' : Nat → Int32) : Prop := iv' 49 = 0 ∧ ∀ q, q ≠ 49 → q ≠ 32 → q ≠ 33 → iv' q = iv q
section RAK
variable {iv gth ge gf gr gk gq gw gR gS go gz gt gi gx : Nat → Int32} {gc gh : Nat → Int64} {lt : Nat → Option x_LR} {m : Int32}
theorem r_GD {x p n r : Nat} {g : Nat → Int} (h : r_G x p n r g gth ge gf gr gk gq gR gS) : r_D ge gr gR x n r (x_bg p g) ∧ (∀ S, S < 2 ^ n → gS (4096 * x + S) = x_sgn2 p n r (x_Fg p g) S) := by
  obtain ⟨h0, piv, K, hL, hp⟩ := h
  have hD := r_LD hL
  have hpm := hL.2.2.2.2.2.1
  rw [x_ppb hpm hp] at hD
  exact ⟨hD, fun S hS => by rw [hL.2.2.2.2.2.2.2.2.2 S hS, x_sgK hpm hp S]⟩
theorem r_I49 : r_I0 iv (va_up iv 49 0) := ⟨va_up_self _ _ _, fun q q1 _ _ => va_up_ne _ _ q1⟩
theorem r_isq {post : Int32 → (Nat → Int32) → (Nat → Int32) → Prop} (hLT : r_LT lt gth ge gf gr gk gq gw gR gS) (h0 : x_lt lt m = none → post 0 (va_up iv 49 0) gth)
    (h1 : ∀ f A, f < 26 → m = nI f → x_lt lt m = some A → r_G f A.1 A.2.1 A.2.2.1 A.2.2.2.1 gth ge gf gr gk gq gR gS → (∀ e, e < A.2.1 → gw (12 * f + e) = A.2.2.2.2 e) → (∀ e, -999 ≤ (A.2.2.2.2 e).toInt ∧ (A.2.2.2.2 e).toInt ≤ 999) → post 1 (va_up iv 49 0) gth) : w118_wp post m iv gth := by
  unfold w118_wp w118_L28 w118_L29
  refine ⟨fun q => ⟨rfl, h0 ?_⟩, fun q => ⟨fun q2 => ⟨rfl, h0 ?_⟩, fun q2 => ?_⟩⟩
  · unfold x_lt
    rw [if_pos q]
  · unfold x_lt
    rw [if_neg q, if_neg (Int32.not_lt.2 q2)]
  · obtain ⟨f, hf, ef⟩ := nI_of q
    have hf26 : f < 26 := by
      rw [ef] at q2
      exact Classical.byContradiction (fun w => q2 (nI_le (a := 26) (by omega) hf))
    rw [ef, nI_clamp hf]
    rcases r_LTo hLT hf26 ef with ⟨z1, z2⟩ | ⟨A, z1, z2, z3, z4, z5, z6⟩
    · exact ⟨b_in hf26 hf, fun _ => ⟨rfl, h0 z2⟩, fun w => absurd z1 w⟩
    · exact ⟨b_in hf26 hf, fun w => (by rw [z1] at w; exact t_10 w), fun _ => ⟨rfl, h1 f A hf26 ef z2 z4 z5 z6⟩⟩
theorem r_qN {post : Int32 → (Nat → Int32) → (Nat → Int32) → (Nat → Int32) → Prop} (hLT : r_LT lt gth ge gf gr gk gq gw gR gS) (h : ∀ iv', r_I0 iv iv' → post (match x_lt lt m with | none => -1 | some A => nI A.2.1) iv' gth ge) : w119_wp post m iv gth ge := by
  unfold w119_wp w119_L18
  refine r_isq hLT (fun z => ?_) (fun f A hf ef z hG _ _ => ?_)
  · have := h _ r_I49
    rw [z] at this
    exact ⟨fun _ => this, fun w => absurd rfl w⟩
  · have := h _ r_I49
    rw [z] at this
    rw [ef, nI_clamp (by omega), (r_gth1 hG).2.2.1]
    exact ⟨fun w => t_10 w, fun _ => ⟨b_in hf (by omega), this⟩⟩
theorem r_qF {post : Int32 → (Nat → Int32) → (Nat → Int32) → (Nat → Int32) → Prop} (hLT : r_LT lt gth ge gf gr gk gq gw gR gS) (h : ∀ iv', r_I0 iv iv' → post (match x_lt lt m with | none => -1 | some A => nI A.1) iv' gth gf) : w120_wp post m iv gth gf := by
  unfold w120_wp w120_L18
  refine r_isq hLT (fun z => ?_) (fun f A hf ef z hG _ _ => ?_)
  · have := h _ r_I49
    rw [z] at this
    exact ⟨fun _ => this, fun w => absurd rfl w⟩
  · have := h _ r_I49
    rw [z] at this
    rw [ef, nI_clamp (by omega), (r_gth1 hG).2.2.2.1]
    exact ⟨fun w => t_10 w, fun _ => ⟨b_in hf (by omega), this⟩⟩
theorem x_hsO {n S : Nat} (hn : n ≤ 12) (hS : S < 2 ^ 31) (h : nI (2 ^ n - 1) < nI S) : x_hs n (nI S) = none := by
  have hp := b_p12 hn
  have hp0 := Nat.two_pow_pos n
  have := (nI_ltI (by omega) hS).1 h
  unfold x_hs
  rw [if_neg (nI_pos hS), nI_clamp hS, if_neg (by omega)]
theorem x_hsT {n S : Nat} (hn : n ≤ 12) (hS : S < 2 ^ 31) (h : ¬ nI (2 ^ n - 1) < nI S) : S < 2 ^ n ∧ x_hs n (nI S) = some S := by
  have hp := b_p12 hn
  have hp0 := Nat.two_pow_pos n
  have hlt : S < 2 ^ n := Classical.byContradiction (fun w => h (nI_lt (by omega) hS))
  refine ⟨hlt, ?_⟩
  unfold x_hs
  rw [if_neg (nI_pos hS), nI_clamp hS, if_pos hlt]
theorem r_qR {post : Int32 → (Nat → Int32) → (Nat → Int32) → (Nat → Int32) → (Nat → Int32) → Prop} {s : Int32} (hLT : r_LT lt gth ge gf gr gk gq gw gR gS)
    (h0 : (∀ A, x_lt lt m = some A → x_hs A.2.1 s = none) → ∀ iv', r_I0 iv iv' → post (-1) iv' gth ge gR)
    (h1 : ∀ A S, x_lt lt m = some A → x_hs A.2.1 s = some S → ∀ iv', r_I0 iv iv' → post (nI (x_rk (x_bg A.1 A.2.2.2.1) S)) iv' gth ge gR) : w121_wp post m s iv gth ge gR := by
  unfold w121_wp w121_L30 w121_L31
  refine r_isq hLT (fun z => ⟨fun _ => h0 (fun A e => by rw [z] at e; cases e) _ r_I49, fun w => absurd rfl w⟩) (fun f A hf ef z hG _ _ => ⟨fun w => t_10 w, fun _ => ⟨fun q => h0 (fun A' e => ?_) _ r_I49, fun q => ?_⟩⟩)
  · unfold x_hs; rw [if_pos q]
  · obtain ⟨hD, _⟩ := r_GD hG
    obtain ⟨S, hS, eS⟩ := nI_of q
    have hn := (r_Dn hD).1
    subst ef eS
    refine r_whole hD ⟨fun w => h0 (fun A' e => ?_) _ r_I49, fun w => ?_⟩
    · rw [z] at e; cases e
      exact x_hsO hn hS w
    · obtain ⟨k1, k2⟩ := x_hsT hn hS w
      exact r_rank hD k1 (h1 A S z k2 _ r_I49)
theorem x_kdO {k : Nat} (hk : k < 2 ^ 31) (h : (3 : Int32) < nI k) : x_kd (nI k) = none := by
  have := (nI_ltI (a := 3) (by decide) hk).1 h
  unfold x_kd
  rw [if_neg (nI_pos hk), nI_clamp hk, if_neg (by omega)]
theorem x_kdT {k : Nat} (hk : k < 2 ^ 31) (h : ¬ (3 : Int32) < nI k) : k < 4 ∧ x_kd (nI k) = some k := by
  have hlt : k < 4 := Classical.byContradiction (fun w => h (nI_lt (a := 3) (by omega) hk))
  refine ⟨hlt, ?_⟩
  unfold x_kd
  rw [if_neg (nI_pos hk), nI_clamp hk, if_pos hlt]
theorem r_qC {post : Int32 → (Nat → Int32) → (Nat → Int32) → (Nat → Int32) → (Nat → Int32) → (Nat → Int32) → (Nat → Int32) → Prop} {s : Int32} (hT : r_T go gz) (hLT : r_LT lt gth ge gf gr gk gq gw gR gS)
    (h0 : (x_lt lt m = none ∨ x_kd s = none) → ∀ iv', r_I0 iv iv' → post (-1) iv' gth ge gr gR gz)
    (h1 : ∀ A k, x_lt lt m = some A → x_kd s = some k → ∀ iv', r_I0 iv iv' → post (nI (x_fam (x_bg A.1 A.2.2.2.1) A.2.1 A.2.2.1 k).length) iv' gth ge gr gR gz) : w122_wp post m s iv gth ge gr gR gz := by
  unfold w122_wp w122_L26 w122_L27
  refine r_isq hLT (fun z => ⟨fun _ => h0 (Or.inl z) _ r_I49, fun w => absurd rfl w⟩) (fun f A hf ef z hG _ _ => ⟨fun w => t_10 w, fun _ => ⟨fun q => h0 (Or.inr ?_) _ r_I49, fun q => ?_⟩⟩)
  · unfold x_kd; rw [if_pos q]
  · obtain ⟨hD, _⟩ := r_GD hG
    obtain ⟨k, hk, ek⟩ := nI_of q
    subst ef ek
    refine ⟨fun w => h0 (Or.inr (x_kdO hk w)) _ r_I49, fun w => ?_⟩
    obtain ⟨k1, k2⟩ := x_kdT hk w
    exact r_howMany hD hT k1 (h1 A k z k2 _ r_I49)
theorem x_optx (l : List Nat) {i : Int32} (h : ¬ i < 0) : x_opt l[i.toNatClampNeg]? = match x_ix l i with | none => -1 | some S => nI S := by
  unfold x_ix
  rw [if_neg h]
  unfold x_opt
  cases l[i.toNatClampNeg]? <;> rfl
theorem r_qM {post : Int32 → (Nat → Int32) → (Nat → Int32) → (Nat → Int32) → (Nat → Int32) → (Nat → Int32) → (Nat → Int32) → (Nat → Int32) → Prop} {s i : Int32} (hT : r_T go gz) (hLT : r_LT lt gth ge gf gr gk gq gw gR gS)
    (h0 : (x_lt lt m = none ∨ x_kd s = none ∨ i < 0) → ∀ iv', r_I0 iv iv' → post (-1) iv' gth ge gr gR go gz)
    (h1 : ∀ A k, x_lt lt m = some A → x_kd s = some k → ¬ i < 0 → ∀ iv', r_I0 iv iv' → post (match x_ix (x_fam (x_bg A.1 A.2.2.2.1) A.2.1 A.2.2.1 k) i with | none => -1 | some S => nI S) iv' gth ge gr gR go gz) : w123_wp post m s i iv gth ge gr gR go gz := by
  unfold w123_wp w123_L27 w123_L28
  refine r_isq hLT (fun z => ⟨fun _ => h0 (Or.inl z) _ r_I49, fun w => absurd rfl w⟩) (fun f A hf ef z hG _ _ => ⟨fun w => t_10 w, fun _ => ⟨fun q => h0 (Or.inr (Or.inl ?_)) _ r_I49, fun q => ?_⟩⟩)
  · unfold x_kd; rw [if_pos q]
  · obtain ⟨hD, _⟩ := r_GD hG
    obtain ⟨k, hk, ek⟩ := nI_of q
    subst ef ek
    refine ⟨fun w => h0 (Or.inr (Or.inl (x_kdO hk w))) _ r_I49, fun w => ?_⟩
    obtain ⟨k1, k2⟩ := x_kdT hk w
    refine r_theOne hD hT k1 ?_
    by_cases q2 : i < 0
    · rw [if_pos q2]; exact h0 (Or.inr (Or.inr q2)) _ r_I49
    · rw [if_neg q2, x_optx _ q2]; exact h1 A k z k2 q2 _ r_I49
theorem x_T00 {n r : Nat} {b : Nat → Bool} (h : x_M n r b) {i j : Nat} (hij : r < i ∨ n - r < j) : x_T Int64 b n r i j = 0 := by
  rw [← x_Tpc h i j]
  refine x_sm0 _ (fun bb hbb => ?_)
  rcases hij with q | q
  · have e : x_sm (r + 1) (fun aa => x_pc b r (2 ^ n) (13 * aa + bb) * x_c Int64 aa i) = 0 := x_sm0 _ (fun aa haa => by rw [x_cz aa i (by omega)]; grind)
    rw [e]; grind
  · rw [x_cz bb j (by omega)]; grind
theorem r_qT {post : Int64 → (Nat → Int32) → (Nat → Int32) → (Nat → Int32) → (Nat → Int32) → (Nat → Int32) → (Nat → Int32) → (Nat → Int64) → (Nat → Int64) → Prop} {i j : Int32} (hT : r_T go gz) (hLT : r_LT lt gth ge gf gr gk gq gw gR gS)
    (h0 : (∀ A, x_lt lt m = some A → x_ij A.2.1 A.2.2.1 i j = none) → ∀ iv' gc' gh', r_I0 iv iv' → post 0 iv' gth ge gr gR gz gc' gh')
    (h1 : ∀ A x, x_lt lt m = some A → x_ij A.2.1 A.2.2.1 i j = some x → ∀ iv' gc' gh', r_I0 iv iv' → post (x_T Int64 (x_bg A.1 A.2.2.2.1) A.2.1 A.2.2.1 x.1 x.2) iv' gth ge gr gR gz gc' gh') : w124_wp post m i j iv gth ge gr gR gz gc gh := by
  unfold w124_wp w124_L28
  have neg : (i < 0 ∨ j < 0) → ∀ n r, x_ij n r i j = none := fun q n r => by unfold x_ij; rw [if_pos q]
  refine r_isq hLT (fun z => ⟨fun _ => h0 (fun A e => by rw [z] at e; cases e) _ _ _ r_I49, fun w => absurd rfl w⟩) (fun f A hf ef z hG _ _ => ⟨fun w => t_10 w, fun _ => ⟨fun q => h0 (fun A' _ => neg (Or.inl q) _ _) _ _ _ r_I49, fun q => ⟨fun q2 => h0 (fun A' _ => neg (Or.inr q2) _ _) _ _ _ r_I49, fun q2 => ?_⟩⟩⟩)
  obtain ⟨hD, _⟩ := r_GD hG
  have hn := (r_Dn hD).1
  have hr := (r_Dn hD).2
  have hM := hD.2.2.2.1
  obtain ⟨a, ha, ea⟩ := nI_of q
  obtain ⟨c, hc, ec⟩ := nI_of q2
  subst ef ea ec
  have eij : x_ij A.2.1 A.2.2.1 (nI a) (nI c) = if a ≤ A.2.2.1 ∧ c ≤ A.2.1 - A.2.2.1 then some (a, c) else none := by
    unfold x_ij
    rw [if_neg (fun w => w.elim q q2), nI_clamp ha, nI_clamp hc]
  have big : (12 < a ∨ 12 < c) → ∀ A', x_lt lt (nI f) = some A' → x_ij A'.2.1 A'.2.2.1 (nI a) (nI c) = none := fun w A' e => by
    rw [z] at e; cases e
    rw [eij, if_neg (by omega)]
  refine ⟨fun w => h0 (big (Or.inl ((nI_ltI (a := 12) (by decide) ha).1 w))) _ _ _ r_I49, fun w => ⟨fun w2 => ?_, fun w2 => h0 (big (Or.inr (Classical.byContradiction (fun w3 => w2 (nI_le (b := 12) (by omega) (by decide)))))) _ _ _ r_I49⟩⟩
  have ha12 : a ≤ 12 := Classical.byContradiction (fun w3 => w (nI_lt (a := 12) (by omega) ha))
  have hc12 : c ≤ 12 := (nI_leI (b := 12) hc (by decide)).1 w2
  refine r_poly hD hT (fun gc' gh' hg => ?_)
  have ix : (13 : Int32) * nI a + nI c = nI (13 * a + c) := by
    rw [show (13 : Int32) = nI 13 from rfl, pk_mul, nI_add]
  rw [ix, nI_clamp (show 13 * a + c < 2 ^ 31 by omega), hg a c (by omega) (by omega)]
  refine ⟨b_in (by omega) (by omega), ?_⟩
  by_cases q3 : a ≤ A.2.2.1 ∧ c ≤ A.2.1 - A.2.2.1
  · exact h1 A (a, c) z (by rw [eij, if_pos q3]) _ _ _ r_I49
  · rw [x_T00 hM (by omega)]
    exact h0 (fun A' e => by rw [z] at e; cases e; rw [eij, if_neg q3]) _ _ _ r_I49
theorem r_qW {post : Int32 → (Nat → Int32) → (Nat → Int32) → (Nat → Int32) → (Nat → Int32) → Prop} {s : Int32} (hLT : r_LT lt gth ge gf gr gk gq gw gR gS)
    (h : ∀ iv', r_I0 iv iv' → post (match x_lt lt m with | none => 0 | some A => if s < 0 then 0 else if s.toNatClampNeg < A.2.1 then A.2.2.2.2 s.toNatClampNeg else 0) iv' gth ge gw) : w125_wp post m s iv gth ge gw := by
  unfold w125_wp w125_L36 w125_L37
  refine r_isq hLT (fun z => ?_) (fun f A hf ef z hG hw _ => ?_)
  · have := h _ r_I49
    rw [z] at this
    exact ⟨fun _ => this, fun w => absurd rfl w⟩
  · have hh : post (if s < 0 then 0 else if s.toNatClampNeg < A.2.1 then A.2.2.2.2 s.toNatClampNeg else 0) (va_up iv 49 0) gth ge gw := by
      have := h _ r_I49
      rw [z] at this
      exact this
    clear h
    have hn : A.2.1 ≤ 12 := hG.1.1
    refine ⟨fun w => t_10 w, fun _ => ⟨fun q => ?_, fun q => ?_⟩⟩
    · rw [if_pos q] at hh
      exact hh
    · obtain ⟨e, he, ee⟩ := nI_of q
      subst ef ee
      rw [if_neg q, nI_clamp he] at hh
      rw [nI_clamp (show f < 2 ^ 31 by omega), (r_gth1 hG).2.2.1]
      refine ⟨b_in hf (by omega), fun w => ?_, fun w => ?_⟩
      · have := (nI_leI (by omega) he).1 w
        rw [if_neg (by omega)] at hh
        exact hh
      · have hlt : e < A.2.1 := Classical.byContradiction (fun w2 => w (nI_le (by omega) he))
        rw [if_pos hlt, ← hw e hlt] at hh
        have ix : (12 : Int32) * nI f + nI e = nI (12 * f + e) := b_ix12
        rw [ix, nI_clamp (show 12 * f + e < 2 ^ 31 by omega)]
        exact ⟨b_in (by omega) (by omega), hh⟩
theorem r_qB {post : Int32 → (Nat → Int32) → (Nat → Int32) → (Nat → Int32) → (Nat → Int32) → (Nat → Int32) → (Nat → Int32) → (Nat → Int32) → (Nat → Int32) → Prop} (hT : r_T go gz) (hLT : r_LT lt gth ge gf gr gk gq gw gR gS)
    (h0 : x_lt lt m = none → ∀ iv', r_I0 iv iv' → post (-1) iv' gth ge gr gw gR go gz)
    (h1 : ∀ A S, x_lt lt m = some A → x_best (x_bg A.1 A.2.2.2.1) (fun e => (A.2.2.2.2 e).toInt) S → ∀ iv', r_I0 iv iv' → post (nI S) iv' gth ge gr gw gR go gz) : w126_wp post m iv gth ge gr gw gR go gz := by
  unfold w126_wp w126_L17
  refine r_isq hLT (fun z => ⟨fun _ => h0 z _ r_I49, fun w => absurd rfl w⟩) (fun f A hf ef z hG hw hw9 => ⟨fun w => t_10 w, fun _ => ?_⟩)
  obtain ⟨hD, _⟩ := r_GD hG
  subst ef
  exact r_bestOf (w := fun e => (A.2.2.2.2 e).toInt) hD hT (fun e he => by rw [hw e he]) (fun e _ => hw9 e) (fun S hS => h1 A S z hS _ r_I49)
theorem r_qS {post : Int32 → (Nat → Int32) → (Nat → Int32) → (Nat → Int32) → (Nat → Int32) → (Nat → Int32) → (Nat → Int32) → (Nat → Int32) → Prop} {s : Int32} (hT : r_T go gz) (hLT : r_LT lt gth ge gf gr gk gq gw gR gS)
    (h : ∀ iv', r_I0 iv iv' → post (match x_lt lt m with | none => 2 | some A => if A.1 = 0 then (match x_hs A.2.1 s with | none => 2 | some S => if x_n S = A.2.2.1 then x_sgn2 A.1 A.2.1 A.2.2.1 (x_Fg A.1 A.2.2.2.1) S else 2) else 2) iv' gth ge gf gr gS gz) : w129_wp post m s iv gth ge gf gr gS gz := by
  unfold w129_wp
  refine r_isq hLT (fun z => ?_) (fun f A hf ef z hG hw _ => ?_)
  · have h1 := h _ r_I49
    rw [z] at h1
    exact ⟨fun _ => ⟨fun _ => h1, fun w => absurd rfl w⟩, fun w => absurd rfl w⟩
  · have h1 := h _ r_I49
    rw [z] at h1
    clear h
    obtain ⟨hD, hS⟩ := r_GD hG
    obtain ⟨g1, g2, g3, g4, g5, g6⟩ := r_gth1 hG
    have no : post 2 (va_up iv 49 0) gth ge gf gr gS gz → w129_L49 post m s (va_up iv 49 0) gth ge gf gr gS gz := fun w => ⟨fun _ => w, fun w => absurd rfl w⟩
    have h : post (if A.1 = 0 then (match x_hs A.2.1 s with | none => 2 | some S => if x_n S = A.2.2.1 then x_sgn2 A.1 A.2.1 A.2.2.1 (x_Fg A.1 A.2.2.2.1) S else 2) else 2) (va_up iv 49 0) gth ge gf gr gS gz := h1
    clear h1
    subst ef
    refine ⟨fun w => t_10 w, fun _ => ⟨b_in hf (by omega), ?_⟩⟩
    rw [nI_clamp (show f < 2 ^ 31 by omega), g4]
    refine ⟨fun w => no ?_, fun w => ?_⟩
    · rw [if_neg (fun q => w (by rw [q]; rfl))] at h; exact h
    · have e0 : A.1 = 0 := (nI_eq (b := 0) (by omega) (by decide)).1 w
      rw [if_pos e0] at h
      refine ⟨fun q => no ?_, fun q => ?_⟩
      · rw [show x_hs A.2.1 s = none from if_pos q] at h; exact h
      · obtain ⟨S, hS31, eS⟩ := nI_of q
        subst eS
        refine r_whole hD ⟨fun q2 => no ?_, fun q2 => ?_⟩
        · rw [x_hsO g5 hS31 q2] at h; exact h
        · obtain ⟨k1, k2⟩ := x_hsT g5 hS31 q2
          rw [k2] at h
          have hp := b_p12 g5
          have h : post (if x_n S = A.2.2.1 then x_sgn2 A.1 A.2.1 A.2.2.1 (x_Fg A.1 A.2.2.2.1) S else 2) (va_up iv 49 0) gth ge gf gr gS gz := h
          have hnS := x_nle S
          have hr12 := (r_Dn hD).2
          rw [nI_clamp hS31, hT.2 S (by omega), hD.2.2.1]
          refine ⟨b_in (by omega) hS31, b_in hf (by omega), fun q3 => no ?_, fun q3 => ⟨fun q4 => t_10 q4, fun _ => ?_⟩⟩
          · rw [if_neg (fun q4 => q3 (by rw [q4]))] at h; exact h
          · rw [if_pos ((nI_eq (by omega) (by omega)).1 q3), ← hS S k1] at h
            have ix : (4096 : Int32) * nI f + nI S = nI (4096 * f + S) := by
              rw [show (4096 : Int32) = nI 4096 from rfl, pk_mul, nI_add]
            rw [ix, nI_clamp (show 4096 * f + S < 2 ^ 31 by omega)]
            exact ⟨b_in (by omega) (by omega), h⟩
theorem r_qU {post : Int32 → (Nat → Int32) → (Nat → Int32) → (Nat → Int32) → (Nat → Int32) → (Nat → Int32) → (Nat → Int32) → (Nat → Int32) → (Nat → Int32) → (Nat → Int32) → (Nat → Int32) → Prop} {i : Int32} (hT : r_T go gz) (hLT : r_LT lt gth ge gf gr gk gq gw gR gS)
    (h0 : (∀ A, x_lt lt m = some A → A.1 = 0 → i < 0) → ∀ iv' gt', r_I0 iv iv' → post (-1) iv' gth ge gf gr gR gS go gz gt')
    (h1 : ∀ A, x_lt lt m = some A → A.1 = 0 → ¬ i < 0 → x_ix (x_fam (x_bg A.1 A.2.2.2.1) A.2.1 A.2.2.1 1) i = none → ∀ iv' gt', r_I0 iv iv' → post (-1) iv' gth ge gf gr gR gS go gz gt')
    (h2 : ∀ A C, x_lt lt m = some A → A.1 = 0 → ¬ i < 0 → x_ix (x_fam (x_bg A.1 A.2.2.2.1) A.2.1 A.2.2.1 1) i = some C → ∀ iv' gt', r_I0 iv iv' → post (nI (x_ngk (x_sgn2 A.1 A.2.1 A.2.2.1 (x_Fg A.1 A.2.2.2.1)) (x_cb (x_bg A.1 A.2.2.2.1) A.2.1 C) C A.2.1)) iv' gth ge gf gr gR gS go gz gt') : w130_wp post m i iv gth ge gf gr gR gS go gz gt := by
  unfold w130_wp w130_L27
  have no : post (-1) (va_up iv 49 0) gth ge gf gr gR gS go gz gt → w130_L28 post m i (-1) (va_up iv 49 0) gth ge gf gr gR gS go gz gt := fun w => ⟨fun q => absurd q (by decide), fun _ => w⟩
  refine r_isq hLT (fun z => ⟨fun _ => no (h0 (fun A e => by rw [z] at e; cases e) _ _ r_I49), fun w => absurd rfl w⟩) (fun f A hf ef z hG hw _ => ?_)
  obtain ⟨hD, hS⟩ := r_GD hG
  obtain ⟨g1, g2, g3, g4, g5, g6⟩ := r_gth1 hG
  subst ef
  refine ⟨fun w => t_10 w, fun _ => ⟨b_in hf (by omega), ?_⟩⟩
  rw [nI_clamp (show f < 2 ^ 31 by omega), g4]
  refine ⟨fun w => no (h0 (fun A' e w2 => ?_) _ _ r_I49), fun w => ?_⟩
  · rw [z] at e; cases e
    exact absurd (by rw [w2]; rfl) w
  · have e0 : A.1 = 0 := (nI_eq (b := 0) (by omega) (by decide)).1 w
    refine r_theOne (kind := 1) hD hT (by decide) ?_
    by_cases q : i < 0
    · rw [if_pos q]
      exact no (h0 (fun _ _ _ => q) _ _ r_I49)
    · rw [if_neg q, x_optx _ q]
      cases hx : x_ix (x_fam (x_bg A.1 A.2.2.2.1) A.2.1 A.2.2.1 1) i with
      | none => exact no (h1 A z e0 q hx _ _ r_I49)
      | some C =>
        have hx' : (x_fam (x_bg A.1 A.2.2.2.1) A.2.1 A.2.2.1 1)[i.toNatClampNeg]? = some C := by
          unfold x_ix at hx
          rw [if_neg q] at hx; exact hx
        have hmem := List.mem_filter.1 (List.mem_of_getElem? hx')
        have hC := (x_Lnm g5 C).1 hmem.1
        have hci : x_ci (x_bg A.1 A.2.2.2.1) A.2.1 C = true := hmem.2
        have hp := b_p12 g5
        show w130_L28 post (nI f) i (nI C) (va_up iv 49 0) gth ge gf gr gR gS go gz gt
        refine ⟨fun _ => ?_, fun w2 => absurd (nI_pos' (by omega)) w2⟩
        refine r_below hD (x_ciT g5 hC hci) hS (fun S hS2 hb => ?_) (fun gt' => h2 A C z e0 q hx _ _ r_I49)
        have hM := hD.2.2.2.1
        rw [e0] at hM hb ⊢
        exact x_sgpm hM hb
end RAK
