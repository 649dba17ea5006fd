/-! PURE, the class: Witness: spread, numberImages, isHostBasis, sameBases -/
theorem x_cn0 {P : Nat → Bool} : ∀ N, (∀ i, i < N → P i = false) → x_cn N P = 0
  | 0, _ => rfl
  | N + 1, h => by
    show x_cn N P + (if P N = true then 1 else 0) = 0
    rw [x_cn0 N (fun i hi => h i (by omega)), h N (by omega)]
    rfl
theorem x_cnmore {P : Nat → Bool} {a : Nat} : ∀ u, (∀ i, a ≤ i → i < a + u → P i = false) → x_cn (a + u) P = x_cn a P
  | 0, _ => rfl
  | u + 1, h => by
    show x_cn (a + u) P + (if P (a + u) = true then 1 else 0) = _
    rw [x_cnmore u (fun i h1 h2 => h i h1 (by omega)), h (a + u) (by omega) (by omega)]
    rfl
theorem x_cnmono {P : Nat → Bool} {a : Nat} : ∀ u, x_cn a P ≤ x_cn (a + u) P
  | 0 => Nat.le_refl _
  | u + 1 => Nat.le_trans (x_cnmono u) (Nat.le_add_right _ _)
theorem w_ord0 {P : Nat → Bool} {g r : Nat} (hg : g ≤ 12) (hP : ∀ T, P T = true → x_n T = r) : x_cn (x_st g r) (fun j => P (x_or g j)) = 0 := by
  refine x_cn0 _ (fun i hi => ?_)
  cases q : P (x_or g i) with
  | false => rfl
  | true =>
    have := x_stl (m := g) (j := r) hg
    have := (x_sti (m := r) hg (show i < 2 ^ g by omega)).2 (hP _ q)
    omega
theorem w_ord1 {P : Nat → Bool} {g r : Nat} (hg : g ≤ 12) (hP : ∀ T, P T = true → x_n T = r) : x_cn (x_st g (r + 1)) (fun j => P (x_or g j)) = x_cn (2 ^ g) P := by
  have hst := x_stl (m := g) (j := r + 1) hg
  have e : x_cn (2 ^ g) (fun j => P (x_or g j)) = x_cn (2 ^ g) P := by
    refine x_cnbij (F := x_or g) (fun i hi => (x_orl hg hi).1) (fun i j hi hj e => ?_) (fun i hi => rfl)
    rcases Nat.lt_trichotomy i j with q | q | q
    · have := x_orp hg q hj
      rw [e] at this
      omega
    · exact q
    · have := x_orp hg q hi
      rw [e] at this
      omega
  rw [← e]
  have := x_cnmore (P := fun j => P (x_or g j)) (a := x_st g (r + 1)) (2 ^ g - x_st g (r + 1)) (fun i h1 h2 => by
    cases q : P (x_or g i) with
    | false => rfl
    | true =>
      have := (x_sti (m := r) hg (show i < 2 ^ g by omega)).2 (hP _ q)
      omega)
  rw [show x_st g (r + 1) + (2 ^ g - x_st g (r + 1)) = 2 ^ g by omega] at this
  exact this.symm
theorem x_sdlow {k : Nat → Nat} {S T : Nat} : ∀ c, (∀ i, i < c → S.testBit i = T.testBit i) → x_sd c k S = x_sd c k T
  | 0, _ => rfl
  | c + 1, h => by
    show (if S.testBit c = true then x_t (x_sd c k S) (k c) else x_sd c k S) = (if T.testBit c = true then x_t (x_sd c k T) (k c) else x_sd c k T)
    rw [x_sdlow c (fun i hi => h i (by omega)), h c (by omega)]
theorem x_sdor {k : Nat → Nat} {S c : Nat} (hk : x_up (c + 1) k) (hS : S < 2 ^ c) : x_sd (c + 1) k (S ||| 2 ^ c) = x_sd c k S ||| 2 ^ k c := by
  have hb : ∀ i, (S ||| 2 ^ c).testBit i = (S.testBit i || decide (c = i)) := fun i => by rw [Nat.testBit_or, Nat.testBit_two_pow]
  show (if (S ||| 2 ^ c).testBit c = true then x_t (x_sd c k (S ||| 2 ^ c)) (k c) else x_sd c k (S ||| 2 ^ c)) = _
  rw [if_pos (by rw [hb, decide_eq_true rfl, Bool.or_true]), x_sdlow (T := S) c (fun i hi => by rw [hb, decide_eq_false (by omega), Bool.or_false]), b_ortf]
  exact x_sdo c (fun j hj e => by have := hk.1 j c hj (by omega); omega)
theorem x_sdst {k : Nat → Nat} {S c m : Nat} (hcm : c ≤ m) (hS : S < 2 ^ c) : x_sd m k S = x_sd c k S := by
  have : ∀ u, x_sd (c + u) k S = x_sd c k S := by
    intro u
    induction u with
    | zero => rfl
    | succ u ih =>
      show (if S.testBit (c + u) = true then x_t (x_sd (c + u) k S) (k (c + u)) else x_sd (c + u) k S) = _
      rw [if_neg (by rw [Nat.testBit_lt_two_pow (Nat.lt_of_lt_of_le hS (Nat.pow_le_pow_right (by decide) (by omega)))]; decide), ih]
  have := this (m - c)
  rw [show c + (m - c) = m by omega] at this
  exact this
theorem x_cnlt {K m e : Nat} {k : Nat → Nat} (h : x_kp K m k) (he : e ≤ 12) : x_cn e (fun i => K.testBit i) ≤ m := by
  by_cases q : x_cn e (fun i => K.testBit i) = 0
  · omega
  · have : ∀ e, e ≤ 12 → 0 < x_cn e (fun i => K.testBit i) → x_cn e (fun i => K.testBit i) ≤ m := by
      intro e
      induction e with
      | zero => intro _ h0; exact absurd h0 (Nat.lt_irrefl _)
      | succ e ih =>
        intro he h0
        have e1 : x_cn (e + 1) (fun i => K.testBit i) = x_cn e (fun i => K.testBit i) + (if K.testBit e = true then 1 else 0) := rfl
        rw [e1] at h0 ⊢
        by_cases w : K.testBit e = true
        · rw [if_pos w]
          exact (h.2.2 e (by omega) w).1
        · rw [if_neg w] at h0 ⊢
          exact ih (by omega) h0
    exact this e he (by omega)
theorem x_n1 : ∀ j, j < 12 → x_n (2 ^ j - 1) = j := by decide
section CWJ
variable {cm np ns : Nat} {pa sa : Nat → Nat} {pp : Nat → px_PR} {ss : Nat → px_SR} {v1 v2 v3 v4 v5 v6 v7 v8 v9 : Int32} {q_o l_o : Nat} {o_r : Int32} {g_o g_t : Nat → Int32} {mm : Nat → px_MR} {a0 a1 n R g r q : Nat} {ρ ρ' : Nat → Nat} {vg : Option Nat} {nk : Nat}
theorem c_spread {post : Option Nat → Option Nat → Int32 → Int32 → Int32 → Int32 → Int32 → Int32 → Int32 → Int32 → Int32 → Nat → Nat → Int32 → (Nat → Int32) → (Nat → Int32) → (Nat → Int32) → (Nat → px_MR) → Prop} {gx : Nat → Int32} {K m : Nat} {k : Nat → Nat} (ha0 : a0 < cm) (hn : n ≤ 12) (hz : (mm a0).2.1 13 = nI n) (hK : K < 2 ^ n) (hk : x_kp K m k) (hmn : m ≤ n) (hnk : 2 ^ n ≤ nk) (hnk2 : nk < 2 ^ 31)
    (h : ∀ gx', (∀ S, S < 2 ^ m → gx' S = nI (x_sd m k S)) → post (some a0) vg v1 v2 v3 v4 v5 v6 v7 v8 v9 q_o l_o o_r g_o g_t gx' mm) : w301_wp nk cm np ns pa sa pp ss post (nI K) (some a0) vg v1 v2 v3 v4 v5 v6 v7 v8 v9 q_o l_o o_r g_o g_t gx mm := by
  have hp := b_p12 hn
  have hp0 := Nat.two_pow_pos n
  have hcn : x_cn n (fun i => K.testBit i) = m := by
    have h1 := x_cnlt hk hn
    by_cases w : m = 0
    · omega
    · have h2 := x_kpc hk (show m - 1 < m by omega)
      have h3 : k (m - 1) < n := by
        by_cases q : k (m - 1) < n
        · exact q
        · have := hk.2.1 (m - 1) (by omega)
          rw [Nat.testBit_lt_two_pow (Nat.lt_of_lt_of_le hK (Nat.pow_le_pow_right (by decide) (by omega)))] at this
          exact absurd this (by decide)
      have h4 : x_cn (k (m - 1) + 1) (fun i => K.testBit i) = m := by
        show x_cn (k (m - 1)) (fun i => K.testBit i) + (if K.testBit (k (m - 1)) = true then 1 else 0) = m
        rw [h2, if_pos (hk.2.1 (m - 1) (by omega))]
        omega
      have h5 := x_cnmono (P := fun i => K.testBit i) (a := k (m - 1) + 1) (n - (k (m - 1) + 1))
      rw [h4, show k (m - 1) + 1 + (n - (k (m - 1) + 1)) = n by omega] at h5
      omega
  unfold w301_wp
  have main : ∀ (u e : Nat) (gx : Nat → Int32), e + u = n → (∀ S, S < 2 ^ x_cn e (fun i => K.testBit i) → gx S = nI (x_sd (x_cn e (fun i => K.testBit i)) k S)) → w301_L9 nk cm np ns pa sa pp ss post (u + 1) (nI K) (nI (x_cn e (fun i => K.testBit i))) (nI e) (some a0) vg v1 v2 v3 v4 v5 v6 v7 v8 v9 q_o l_o o_r g_o g_t gx mm := by
    intro u
    induction u with
    | zero =>
      intro e gx he hx
      refine ⟨fun q => by simp at q, fun a q => ?_⟩
      cases q
      refine ⟨ha0, fun _ => ?_, fun q => ?_⟩
      · rw [show e = n by omega, hcn] at hx
        exact h gx hx
      · rw [hz] at q; exact absurd (nI_le (by omega) (by omega)) q
    | succ u ih =>
      intro e gx he hx
      have ecn : x_cn (e + 1) (fun i => K.testBit i) = x_cn e (fun i => K.testBit i) + (if K.testBit e = true then 1 else 0) := rfl
      refine ⟨fun q => by simp at q, fun a q => ?_⟩
      cases q
      refine ⟨ha0, fun q => ?_, fun _ => ⟨fun w z e1 => ?_, fun w => ?_⟩⟩
      · rw [hz] at q; exact absurd q (nI_ge (by omega) (by omega))
      · rw [b_bit0 (by omega) (by omega)] at w
        have ecn' : x_cn (e + 1) (fun i => K.testBit i) = x_cn e (fun i => K.testBit i) := by rw [ecn, w]; rfl
        rw [e1, nI_1, ← ecn']
        exact ih (e + 1) gx (by omega) (by rw [ecn']; exact hx)
      · have hb : K.testBit e = true := by
          cases hh : K.testBit e with
          | true => rfl
          | false => exact absurd ((b_bit0 (by omega) (by omega)).2 hh) w
        rw [hb, if_pos rfl] at ecn
        obtain ⟨hc1, hc2⟩ := hk.2.2 e (by omega) hb
        generalize hcc : x_cn e (fun i => K.testBit i) = c at *
        have hpc : 2 ^ (c + 1) ≤ 2 ^ n := Nat.pow_le_pow_right (by decide) (by omega)
        have hpc2 : 2 ^ (c + 1) = 2 * 2 ^ c := by rw [Nat.pow_succ, Nat.mul_comm]
        have hup : x_up (c + 1) k := x_upm hk.1 (by omega)
        refine ⟨2 ^ c + 1, ?_⟩
        have inner : ∀ (v i : Nat) (gx : Nat → Int32), i + v = 2 ^ c → (∀ S, S < 2 ^ c → gx S = nI (x_sd c k S)) → (∀ S, S < i → gx (S ||| 2 ^ c) = nI (x_sd (c + 1) k (S ||| 2 ^ c))) → w301_L33 (w301_L9 nk cm np ns pa sa pp ss post (u + 1)) nk cm np ns pa sa pp ss post (v + 1) (nI K) (nI c) (nI e) (nI i) (some a0) vg v1 v2 v3 v4 v5 v6 v7 v8 v9 q_o l_o o_r g_o g_t gx mm := by
          intro v
          induction v with
          | zero =>
            intro i gx hi h1 h2
            rw [show w301_L33 (w301_L9 nk cm np ns pa sa pp ss post (u + 1)) nk cm np ns pa sa pp ss post (0 + 1) = w301_L33 (w301_L9 nk cm np ns pa sa pp ss post (u + 1)) nk cm np ns pa sa pp ss post (Nat.succ 0) from rfl]
            refine ⟨fun _ z2 e2 z1 e1 => ?_, fun q => ?_⟩
            · rw [e2, nI_1, e1, nI_1, ← ecn]
              refine ih (e + 1) gx (by omega) (fun S hS => ?_)
              rw [ecn] at hS ⊢
              rcases x_lt2 hS with q | ⟨T, hT, eT⟩
              · rw [h1 S q, x_sdst (Nat.le_succ c) q]
              · rw [eT]; exact h2 T (by omega)
            · rw [b_sh (by omega)] at q
              exact absurd (nI_le (by omega) (by omega)) q
          | succ v ihv =>
            intro i gx hi h1 h2
            have hor : i ||| 2 ^ c < 2 ^ (c + 1) := Nat.or_lt_two_pow (by omega) (Nat.pow_lt_pow_right (by decide) (by omega))
            refine ⟨fun q => ?_, fun _ => ⟨b_in (by omega) (by omega), fun z3 e3 => ?_⟩⟩
            · rw [b_sh (by omega)] at q
              exact absurd q (nI_ge (by omega) (by omega))
            · rw [nI_clamp (by omega), h1 i (by omega), b_sh (by omega), b_or] at e3
              rw [b_sh (by omega), b_or, nI_clamp (by omega)]
              refine ⟨b_in (by omega) (by omega), fun z4 e4 => ?_⟩
              rw [e4, nI_1]
              have hne : ∀ S, S < 2 ^ c → S ≠ i ||| 2 ^ c := by
                intro S hS q
                have : (i ||| 2 ^ c).testBit c = true := by rw [Nat.testBit_or, Nat.testBit_two_pow, decide_eq_true rfl, Bool.or_true]
                rw [← q, Nat.testBit_lt_two_pow hS] at this
                exact absurd this (by decide)
              refine ihv (i + 1) _ (by omega) (fun S hS => ?_) (fun S hS => ?_)
              · rw [pk_un (hne S hS)]; exact h1 S hS
              · by_cases w : S = i
                · rw [w, pk_us, e3, x_sdor hup (by omega), hc2]
                · have hne2 : S ||| 2 ^ c ≠ i ||| 2 ^ c := by
                    intro q
                    have a1 := Nat.two_pow_add_eq_or_of_lt (show S < 2 ^ c by omega) 1
                    have a2 := Nat.two_pow_add_eq_or_of_lt (show i < 2 ^ c by omega) 1
                    rw [Nat.mul_one, Nat.or_comm] at a1 a2
                    omega
                  rw [pk_un hne2]
                  exact h2 S (by omega)
        exact inner (2 ^ c) 0 gx (by omega) hx (fun S hS => absurd hS (Nat.not_lt_zero S))
  refine ⟨b_in (n := 0) (by omega) (by omega), n + 1, ?_⟩
  refine main n 0 _ (by omega) (fun S hS => ?_)
  have : S = 0 := by
    have e : x_cn 0 (fun i => K.testBit i) = 0 := rfl
    rw [e, Nat.pow_zero] at hS
    omega
  rw [this]
  exact pk_us
theorem c_numI {post : Option Nat → Option Nat → Int32 → Int32 → Int32 → Int32 → Int32 → Int32 → Int32 → Int32 → Int32 → (Nat → Int32) → (Nat → Int32) → Nat → Nat → Int32 → (Nat → Int32) → (Nat → Int32) → (Nat → px_MR) → Prop} {gi gk : Nat → Int32} {K : Nat} {k f : Nat → Nat} {vh : Option Nat} (ha1 : a1 < cm) (hg : g ≤ 12) (hz : (mm a1).2.1 13 = nI g) (hk : x_kp K g k) (hgk : ∀ S, S < 2 ^ g → gk S = nI (x_sd g k S)) (hf : ∀ e, e < g → gi e = nI (f e) ∧ f e < g) (hnk : 2 ^ g ≤ nk)
    (h : ∀ gi', (∀ e, e < g → gi' e = nI (k (f e))) → post vh (some a1) v1 v2 v3 v4 v5 v6 v7 v8 v9 gi' gk q_o l_o o_r g_o g_t mm) : w308_wp nk cm np ns pa sa pp ss post vh (some a1) v1 v2 v3 v4 v5 v6 v7 v8 v9 gi gk q_o l_o o_r g_o g_t mm := by
  have hp := b_p12 hg
  unfold w308_wp
  have main : ∀ (u e : Nat) (gi : Nat → Int32), e + u = g → (∀ i, e ≤ i → i < g → gi i = nI (f i)) → (∀ i, i < e → gi i = nI (k (f i))) → w308_L2 nk cm np ns pa sa pp ss post (u + 1) (nI e) vh (some a1) v1 v2 v3 v4 v5 v6 v7 v8 v9 gi gk q_o l_o o_r g_o g_t mm := by
    intro u
    induction u with
    | zero =>
      intro e gi he h1 h2
      refine ⟨fun q => by simp at q, fun a q => ?_⟩
      cases q
      refine ⟨ha1, fun _ => h gi (fun i hi => h2 i (by omega)), fun q => ?_⟩
      rw [hz] at q; exact absurd (nI_le (by omega) (by omega)) q
    | succ u ih =>
      intro e gi he h1 h2
      refine ⟨fun q => by simp at q, fun a q => ?_⟩
      cases q
      have hfe := (hf e (by omega)).2
      have hpf : 2 ^ f e < 2 ^ g := Nat.pow_lt_pow_right (by decide) hfe
      have hkf : k (f e) < 12 := hk.1.2 _ hfe
      have esd : x_sd g k (2 ^ f e) = 2 ^ k (f e) := by
        have := x_sdt (S := 0) (j := f e) hk.1 hfe
        rw [x_sd0 hk.1] at this
        unfold x_t at this
        rw [Nat.zero_xor, Nat.zero_xor] at this
        exact this
      refine ⟨ha1, fun q => ?_, fun _ => ?_⟩
      · rw [hz] at q; exact absurd q (nI_ge (by omega) (by omega))
      · rw [nI_clamp (by omega), h1 e (Nat.le_refl _) (by omega), b_sh (by omega), nI_clamp (by omega), hgk _ hpf, esd]
        have hpk := Nat.two_pow_pos (k (f e))
        have hpk2 : 2 ^ k (f e) < 2 ^ 12 := Nat.pow_lt_pow_right (by decide) hkf
        have esub : nI (2 ^ k (f e)) - 1 = nI (2 ^ k (f e) - 1) := by
          have := nI_subn (a := 2 ^ k (f e)) (b := 1) (by omega)
          exact this
        rw [esub]
        refine ⟨b_in (by omega) (by omega), b_in (by omega) (by omega), b_bc (by omega) ⟨b_in (by omega) (by omega), fun z e2 => ?_⟩⟩
        rw [e2, nI_1, x_n1 _ hkf]
        refine ih (e + 1) _ (by omega) (fun i h3 h4 => ?_) (fun i h3 => ?_)
        · rw [pk_un (by omega)]; exact h1 i (by omega) h4
        · by_cases w : i = e
          · rw [w, pk_us]
          · rw [pk_un w]; exact h2 i (by omega)
  exact ⟨_, main g 0 gi (by omega) (fun i _ hi => (hf i hi).1) (fun i hi => absurd hi (Nat.not_lt_zero i))⟩
theorem c_isHB {post : Int32 → Option Nat → Option Nat → Int32 → Int32 → Int32 → Int32 → Int32 → Int32 → Int32 → Int32 → Int32 → (Nat → Int32) → Nat → Nat → Int32 → (Nat → Int32) → (Nat → Int32) → (Nat → px_MR) → Prop} {gk : Nat → Int32} {T c : Nat} {k : Nat → Nat} (hM : w_M cm mm a0 a1 n R g r ρ ρ') (hT : T < 2 ^ g) (hgk : ∀ S, S < 2 ^ g → gk S = nI (x_sd g k S)) (hsd : x_sd g k T < 2 ^ n) (hc : c < 2 ^ n) (hnk : 2 ^ g ≤ nk)
    (h : post (if decide (ρ (x_sd g k T ||| c) = r + ρ c) = true then 1 else 0) (some a0) (some a1) v1 v2 v3 v4 v5 (nI (ρ c)) (nI c) v8 v9 gk q_o l_o o_r g_o g_t mm) : w303_wp nk cm np ns pa sa pp ss post (nI T) (some a0) (some a1) v1 v2 v3 v4 v5 (nI (ρ c)) (nI c) v8 v9 gk q_o l_o o_r g_o g_t mm := by
  obtain ⟨m1, m2, m3, m4, m5, m6, m7, m8, m9, m10, m11, m12, m13, m14, m15, m16, m17, m18⟩ := hM
  have hp := b_p12 m3
  have hp2 := b_p12 m4
  have hor : x_sd g k T ||| c < 2 ^ n := Nat.or_lt_two_pow hsd hc
  have hr1 := m15 (x_sd g k T ||| c)
  have hr2 := m15 c
  refine ⟨fun q => by simp at q, fun a q => ?_⟩
  cases q
  rw [nI_clamp (by omega), hgk T hT, b_or]
  refine ⟨m1, b_in (by omega) (by omega), m1, b_in (by omega) (by omega), fun q => by simp at q, fun a q => ?_⟩
  cases q
  rw [nI_clamp (by omega), m12 _ hor, m8, nI_add]
  refine ⟨m2, fun w => ⟨rfl, ?_⟩, fun w => ⟨rfl, ?_⟩⟩
  · rw [decide_eq_false (fun e => w (by rw [e]))] at h
    exact h
  · rw [decide_eq_true ((nI_eq (by omega) (by omega)).1 w)] at h
    exact h
theorem c_sameB {post : Int32 → Option Nat → Option Nat → Int32 → Int32 → Int32 → Int32 → Int32 → Int32 → Int32 → Int32 → Int32 → (Nat → Int32) → Nat → Nat → Int32 → (Nat → Int32) → (Nat → Int32) → (Nat → px_MR) → Prop} {gk : Nat → Int32} {c gbn : Nat} {k : Nat → Nat} (hM : w_M cm mm a0 a1 n R g r ρ ρ') (hgk : ∀ S, S < 2 ^ g → gk S = nI (x_sd g k S)) (hsd : ∀ T, x_sd g k T < 2 ^ n) (hc : c < 2 ^ n) (hnk : 2 ^ g ≤ nk) (ho : o_Ok l_o o_r g_o g_t q) (hgq : g ≤ q) (hgb : gbn < 2 ^ 31)
    (h : post (if decide (w_nb (w_hb ρ g k c r) g = gbn) = true then 1 else 0) (some a0) (some a1) v1 v2 (nI gbn) v4 v5 (nI (ρ c)) (nI c) v8 v9 gk q_o l_o o_r g_o g_t mm) : w302_wp nk cm np ns pa sa pp ss post (some a0) (some a1) v1 v2 (nI gbn) v4 v5 (nI (ρ c)) (nI c) v8 v9 gk q_o l_o o_r g_o g_t mm := by
  have hM' := hM
  obtain ⟨m1, m2, m3, m4, m5, m6, m7, m8, m9, m10, m11, m12, m13, m14, m15, m16, m17, m18⟩ := hM
  have hp := b_p12 m3
  have hp2 := b_p12 m4
  have hst := x_stl (m := g) (j := r + 1) m4
  have hst0 := x_stm (n := g) (j := r) (k := r + 1) (Nat.le_succ r)
  have hPn : ∀ T, w_hb ρ g k c r T = true → x_n T = r := by
    intro T hT
    unfold w_hb at hT
    rw [Bool.and_eq_true] at hT
    exact of_decide_eq_true hT.1
  have hle : ∀ i, x_cn i (fun j => w_hb ρ g k c r (x_or g j)) ≤ i := by
    intro i
    have := x_cnle (f := fun j => w_hb ρ g k c r (x_or g j)) (g := fun _ => true) i (fun _ _ _ => rfl)
    rw [x_cnall] at this
    exact this
  have fin : ∀ (i : Nat) (x1 : Int32), i ≤ x_st g (r + 1) → (i = x_st g (r + 1) ∨ gbn < x_cn i (fun j => w_hb ρ g k c r (x_or g j))) → w302_L97 nk cm np ns pa sa pp ss post x1 (nI (x_cn i (fun j => w_hb ρ g k c r (x_or g j)))) (nI i) (some a0) (some a1) v1 v2 (nI gbn) v4 v5 (nI (ρ c)) (nI c) v8 v9 gk q_o l_o o_r g_o g_t mm := by
    intro i x1 hi hor
    have hil := hle i
    have tot := w_ord1 (g := g) m4 hPn
    have hmono := x_cnmono (P := fun j => w_hb ρ g k c r (x_or g j)) (a := i) (x_st g (r + 1) - i)
    rw [show i + (x_st g (r + 1) - i) = x_st g (r + 1) by omega, tot] at hmono
    unfold w_nb at h
    refine ⟨fun w => ⟨rfl, ?_⟩, fun w => ⟨rfl, ?_⟩⟩
    · have hne : ¬ x_cn i (fun j => w_hb ρ g k c r (x_or g j)) = gbn := fun e => w (by rw [e])
      have : ¬ x_cn (2 ^ g) (w_hb ρ g k c r) = gbn := by
        rcases hor with e | e
        · rw [e, tot] at hne; exact hne
        · omega
      rw [decide_eq_false this] at h
      exact h
    · have heq : x_cn i (fun j => w_hb ρ g k c r (x_or g j)) = gbn := (nI_eq (by omega) hgb).1 w
      have : x_cn (2 ^ g) (w_hb ρ g k c r) = gbn := by
        rcases hor with e | e
        · rw [e, tot] at heq; exact heq
        · omega
      rw [decide_eq_true this] at h
      exact h
  have main : ∀ (u i : Nat), i + u = x_st g (r + 1) → x_st g r ≤ i → w302_L48 nk cm np ns pa sa pp ss post (u + 1) (nI (x_st g (r + 1))) (nI (x_cn i (fun j => w_hb ρ g k c r (x_or g j)))) (nI i) (some a0) (some a1) v1 v2 (nI gbn) v4 v5 (nI (ρ c)) (nI c) v8 v9 gk q_o l_o o_r g_o g_t mm := by
    intro u
    induction u with
    | zero =>
      intro i hi hi0
      refine ⟨fun _ => fin i _ (by omega) (Or.inl (by omega)), fun w => absurd (nI_le (by omega) (by omega)) w⟩
    | succ u ih =>
      intro i hi hi0
      have hil := hle i
      refine ⟨fun w => absurd w (nI_ge (by omega) (by omega)), fun _ => ⟨fun w => fin i _ (by omega) (Or.inr ((nI_ltI hgb (by omega)).1 w)), fun w => ⟨fun k => by simp at k, fun a k => ?_⟩⟩⟩
      cases k
      rw [m7]
      have ihh := ih (i + 1) (by omega) (by omega)
      have ecn : x_cn (i + 1) (fun j => w_hb ρ g k c r (x_or g j)) = x_cn i (fun j => w_hb ρ g k c r (x_or g j)) + (if w_hb ρ g k c r (x_or g i) = true then 1 else 0) := rfl
      rw [ecn] at ihh
      have horl := (x_orl m4 (show i < 2 ^ g by omega)).1
      have hxn : x_n (x_or g i) = r := (x_sti (m := r) m4 (show i < 2 ^ g by omega)).1 ⟨hi0, by omega⟩
      have ehb : w_hb ρ g k c r (x_or g i) = decide (ρ (x_sd g k (x_or g i) ||| c) = r + ρ c) := by
        unfold w_hb
        rw [decide_eq_true hxn, Bool.true_and]
      rw [ehb] at ihh
      refine ⟨m2, c_oset ho hgq (by omega) (c_isHB hM' horl hgk (hsd _) hc hnk ⟨fun w => ?_, fun w => ?_⟩)⟩
      · intro z1 e1 z2 e2
        have : ¬ decide (ρ (x_sd g k (x_or g i) ||| c) = r + ρ c) = true := fun k => by rw [if_pos k] at w; exact t_10 w
        rw [if_neg this, Nat.add_zero] at ihh
        rw [e1, e2, nI_1, Int32.add_zero]
        exact ihh
      · intro z1 e1 z2 e2
        have : decide (ρ (x_sd g k (x_or g i) ||| c) = r + ρ c) = true := by
          cases hh : decide (ρ (x_sd g k (x_or g i) ||| c) = r + ρ c)
          · rw [hh] at w; exact absurd rfl w
          · rfl
        rw [if_pos this] at ihh
        rw [e1, e2, nI_1, nI_1]
        exact ihh
  refine ⟨fun k => by simp at k, fun a k => ?_⟩
  cases k
  rw [m7, m8, nI_1]
  refine ⟨m2, m2, c_ostart ho hgq (by omega) ⟨m2, m2, c_ostart ho hgq (by omega) ⟨x_st g (r + 1) - x_st g r + 1, ?_⟩⟩⟩
  have := main (x_st g (r + 1) - x_st g r) (x_st g r) (by omega) (Nat.le_refl _)
  rw [w_ord0 m4 hPn] at this
  exact this
end CWJ
