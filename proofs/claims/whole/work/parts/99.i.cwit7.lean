/-! PURE, the class: Witness: findsOn -/
def x_pb : Nat → (Nat → Bool) → Nat
  | 0, _ => 0
  | m + 1, p => x_pb m p ||| (if p m = true then 2 ^ m else 0)
theorem x_pbb {p : Nat → Bool} {i : Nat} : ∀ m, (x_pb m p).testBit i = (decide (i < m) && p i)
  | 0 => by rw [show x_pb 0 p = 0 from rfl, Nat.zero_testBit]; simp
  | m + 1 => by
    show (x_pb m p ||| (if p m = true then 2 ^ m else 0)).testBit i = _
    rw [Nat.testBit_or, x_pbb m]
    by_cases q : p m = true
    · rw [if_pos q, Nat.testBit_two_pow]
      by_cases w : m = i
      · rw [← w, q]; simp
      · rw [decide_eq_false w, Bool.or_false]
        congr 1
        have : (i < m) = (i < m + 1) := propext ⟨fun k => by omega, fun k => by omega⟩
        simp only [this]
    · rw [if_neg q, Nat.zero_testBit, Bool.or_false]
      by_cases w : m = i
      · rw [← w]
        cases hh : p m
        · simp
        · exact absurd hh q
      · congr 1
        have : (i < m) = (i < m + 1) := propext ⟨fun k => by omega, fun k => by omega⟩
        simp only [this]
theorem x_pbl {p : Nat → Bool} (m : Nat) : x_pb m p < 2 ^ m := by
  refine Nat.lt_pow_two_of_testBit _ (fun i hi => ?_)
  rw [x_pbb, decide_eq_false (by omega)]
  rfl
theorem x_sdonto {K m : Nat} {k : Nat → Nat} (hk : x_kp K m k) (hK : K < 2 ^ 12) {c : Nat} (hc : ∀ i, c.testBit i = true → K.testBit i = true) : ∃ S, S < 2 ^ m ∧ x_sd m k S = c := by
  refine ⟨x_pb m (fun i => c.testBit (k i)), x_pbl m, ?_⟩
  apply Nat.eq_of_testBit_eq
  intro j
  by_cases w : K.testBit j = true
  · have hj : j < 12 := by
      by_cases q : j < 12
      · exact q
      · rw [Nat.testBit_lt_two_pow (Nat.lt_of_lt_of_le hK (Nat.pow_le_pow_right (by decide) (by omega)))] at w
        exact absurd w (by decide)
    obtain ⟨h1, h2⟩ := hk.2.2 j hj w
    have := x_sdb (S := x_pb m (fun i => c.testBit (k i))) m hk.1 _ h1
    rw [h2] at this
    rw [this, x_pbb, decide_eq_true h1, h2, Bool.true_and]
  · rw [x_sdo m (fun i hi e => w (by rw [← e]; exact hk.2.1 i hi))]
    cases q : c.testBit j
    · rfl
    · exact absurd (hc j q) w
theorem w_gbb {g r : Nat} {b' : Nat → Bool} (h : x_M g r b') {S : Nat} (hS : S < 2 ^ g) : w_gb (x_rk b') r S = b' S := by
  apply x_bool
  unfold w_gb
  rw [Bool.and_eq_true]
  constructor
  · intro ⟨h1, h2⟩
    have h1 := of_decide_eq_true h1
    have h2 := of_decide_eq_true h2
    obtain ⟨B, hB, hsub⟩ := x_ind h (S := S) (by omega)
    have hB2 := h.2.2.1 B hB
    have hS12 : S < 2 ^ 12 := Nat.lt_of_lt_of_le hS (Nat.pow_le_pow_right (by decide) h.1)
    have hB12 : B < 2 ^ 12 := Nat.lt_of_lt_of_le hB2.1 (Nat.pow_le_pow_right (by decide) h.1)
    have e : S = B := x_ext hS12 hB12 (x_cneq 12 hsub (show x_n S = x_n B by omega))
    rw [e]; exact hB
  · intro hB
    have h1 := (h.2.2.1 S hB).2
    have h2 := x_indr h hB (S := S) (fun _ _ hi => hi)
    exact ⟨decide_eq_true h1, decide_eq_true (by omega)⟩
theorem x_rk00 {b : Nat → Bool} : x_rk b 0 = 0 := by
  have h1 := x_rkn (b := b) 0
  have h2 : x_n 0 = 0 := by decide
  rw [h2] at h1
  exact Nat.le_zero.1 h1
theorem b_negs : ∀ a, a < 13 → ∀ r, r < 13 → a < r → ¬ (0 : Int32) < nI a - nI r := by decide +kernel
theorem w_del {n K c : Nat} (hK : K < 2 ^ n) (hc : c < 2 ^ n) : x_co n K ^^^ (x_co n K &&& c) = x_co n (K ||| c) := by
  apply Nat.eq_of_testBit_eq
  intro j
  rw [Nat.testBit_xor, Nat.testBit_and]
  apply x_bool
  rw [x_cobS (Nat.or_lt_two_pow hK hc), Nat.testBit_or]
  have hKb := x_cobS (e := j) hK
  cases hx : (x_co n K).testBit j
  · rw [hx] at hKb
    constructor
    · intro h; exact absurd h (by simp)
    · intro ⟨h1, h2⟩
      rw [Bool.or_eq_false_iff] at h2
      exact absurd (hKb.2 ⟨h1, h2.1⟩) (by decide)
  · rw [hx] at hKb
    obtain ⟨hj, hKj⟩ := hKb.1 rfl
    rw [hKj]
    cases c.testBit j <;> simp [hj]
/-- c works -/
def w_C (b b' : Nat → Bool) (g n K : Nat) (k : Nat → Nat) (c : Nat) : Prop := c < 2 ^ n ∧ (∀ j, c.testBit j = true → K.testBit j = false) ∧ ∃ f, w_P (x_rk b) (x_rk b') g k c g f
section CFO
variable {n R g r : Nat} {b b' : Nat → Bool} {K : Nat} {k k' : Nat → Nat}
theorem w_idx (hb : x_M n R b) (hb' : x_M g r b') (hgn : g ≤ n) (hK : K < 2 ^ n) (hk : x_kp K g k) (hk' : x_kp (x_co n K) (n - g) k') {c : Nat} (h : w_C b b' g n K k c) : ∃ i, x_st (n - g) (x_rk b K - r) ≤ i ∧ i < x_st (n - g) (min (n - g) (R - r) + 1) ∧ i < 2 ^ (n - g) ∧ x_rk b (x_sd (n - g) k' (x_or (n - g) i)) = x_n (x_sd (n - g) k' (x_or (n - g) i)) ∧ w_C b b' g n K k (x_sd (n - g) k' (x_or (n - g) i)) ∧ x_key (x_sd (n - g) k' (x_or (n - g) i)) ≤ x_key c := by
  obtain ⟨c1, c2, f, hf⟩ := h
  have hn := hb.1
  have hp : 2 ^ n ≤ 2 ^ 12 := Nat.pow_le_pow_right (by decide) hn
  obtain ⟨c', s1, s2, s3, s4⟩ := w_ind hb (c := c) (by omega)
  have hc'n : c' < 2 ^ n := by
    refine Nat.lt_pow_two_of_testBit _ (fun i hi => ?_)
    cases q : c'.testBit i with
    | false => rfl
    | true =>
      have := s1 i q
      rw [Nat.testBit_lt_two_pow (Nat.lt_of_lt_of_le c1 (Nat.pow_le_pow_right (by decide) hi))] at this
      exact absurd this (by decide)
  have hc'K : ∀ j, c'.testBit j = true → K.testBit j = false := fun j hj => c2 j (s1 j hj)
  have hcl : x_co n K < 2 ^ n := x_col hK
  obtain ⟨S, hS, eS⟩ := x_sdonto (c := c') hk' (by omega) (fun i hi => by
    rw [x_cobS hK]
    refine ⟨?_, hc'K i hi⟩
    by_cases q : i < n
    · exact q
    · rw [Nat.testBit_lt_two_pow (Nat.lt_of_lt_of_le hc'n (Nat.pow_le_pow_right (by decide) (by omega)))] at hi
      exact absurd hi (by decide))
  obtain ⟨i, hi, ei⟩ := x_orx (show n - g ≤ 12 by omega) hS
  have hf' := w_indP s4 hf
  have hall := w_all (by omega) hk hf'
  rw [x_rkall hb' (S := 2 ^ g - 1) (fun i hi => by rw [Nat.testBit_two_pow_sub_one]; exact decide_eq_true hi), s3] at hall
  have hnS : x_n c' = x_n S := by rw [← eS]; exact x_sdcn (by omega) hk'.1 hS
  have u1 := x_rkr hb (K ||| c')
  have u2 := x_rkm hb (S := K) (T := K ||| c') (fun i _ hi => by rw [Nat.testBit_or, hi]; rfl)
  have u3 := x_nlen (n := n - g) (by omega) hS
  have hxi := x_stb (show n - g ≤ 12 by omega) hi
  rw [ei] at hxi
  refine ⟨i, ?_, ?_, hi, ?_, ?_, ?_⟩
  · exact Nat.le_trans (x_stm (by omega)) hxi.1
  · exact Nat.lt_of_lt_of_le hxi.2 (x_stm (by omega))
  · rw [ei, eS]; exact s3
  · rw [ei, eS]; exact ⟨hc'n, hc'K, f, hf'⟩
  · rw [ei, eS]
    obtain ⟨n1, n2⟩ := x_nsub s2 (show c < 2 ^ 12 by omega) s1
    by_cases q : x_n c' = x_n c
    · rw [n2 q]; exact Nat.le_refl _
    · exact Nat.le_of_lt (x_keyd (by omega))
variable {cm np ns : Nat} {pa sa : Nat → Nat} {pp : Nat → px_PR} {ss : Nat → px_SR} {v1 v2 v3 v4 v5 v6 v7 v8 v9 : Int32} {q_o l_o : Nat} {o_r : Int32} {g_o g_t : Nat → Int32} {mm : Nat → px_MR} {a0 a1 q : Nat} {nk nr ng : Nat}
theorem c_findsOn {post : Int32 → Option Nat → Option Nat → Int32 → Int32 → Int32 → Int32 → Int32 → Int32 → Int32 → Int32 → Int32 → (Nat → Int32) → (Nat → Int32) → (Nat → Int32) → (Nat → Int32) → (Nat → Int32) → (Nat → Int32) → Nat → Nat → Int32 → (Nat → Int32) → (Nat → Int32) → (Nat → px_MR) → Prop} {gi gp gq gk gr gg : Nat → Int32} {φ0 : Nat → Nat} (hM : w_M cm mm a0 a1 n R g r (x_rk b) (x_rk b')) (hb : x_M n R b) (hb' : x_M g r b') (hgn : g ≤ n) (hrR : r ≤ R) (hcr : R - r ≤ n - g) (hK : K < 2 ^ n) (hKg : x_n K = g) (hk : x_kp K g k) (hnk : 2 ^ n ≤ nk) (hnr : 2 ^ n ≤ nr) (hng : 2 ^ n ≤ ng) (hnk2 : nk < 2 ^ 31) (hnr2 : nr < 2 ^ 31) (ho : o_Ok l_o o_r g_o g_t q) (hnq : n ≤ q) (hgp : ∀ e f, e < g → f < g → gp (12 * e + f) = nI (w_np (w_gb (x_rk b') r) g e f))
    (h1 : ∀ c φ' t' gi' gq' gk' gr' gg', w_C b b' g n K k c → (∀ c2, w_C b b' g n K k c2 → x_key c ≤ x_key c2) → w_L (x_rk b) (x_rk b') g k c 0 φ0 φ' → (∀ i, i < g → gi' i = nI (φ' i)) → (∀ S, S < 2 ^ g → gk' S = nI (x_sd g k S)) → post 1 (some a0) (some a1) v1 v2 (nI (w_nb (w_gb (x_rk b') r) g)) v4 (nI K) (nI (x_rk b c)) (nI c) (nI (x_co n (K ||| c))) t' gi' gp gq' gk' gr' gg' q_o l_o o_r g_o g_t mm)
    (h0 : (¬ ∃ c, w_C b b' g n K k c) → ∀ l' c' t' gi' gq' gk' gr' gg', post 0 (some a0) (some a1) v1 v2 (nI (w_nb (w_gb (x_rk b') r) g)) v4 (nI K) l' c' v8 t' gi' gp gq' gk' gr' gg' q_o l_o o_r g_o g_t mm) :
    w300_wp nk nr ng cm np ns pa sa pp ss post (nI K) (some a0) (some a1) v1 v2 (nI (w_nb (w_gb (x_rk b') r) g)) v4 v5 v6 v7 v8 v9 gi gp gq gk gr gg q_o l_o o_r g_o g_t mm := by
  have hM' := hM
  obtain ⟨m1, m2, m3, m4, m5, m6, m7, m8, m9, m10, m11, m12, m13, m14, m15, m16, m17, m18⟩ := hM
  have hp := b_p12 m3
  have hp0 := Nat.two_pow_pos n
  have hpg : 2 ^ g ≤ 2 ^ n := Nat.pow_le_pow_right (by decide) hgn
  have hpo : 2 ^ (n - g) ≤ 2 ^ n := Nat.pow_le_pow_right (by decide) (by omega)
  have hcl : x_co n K < 2 ^ n := x_col hK
  obtain ⟨k', hk'0⟩ := x_kpE (x_co n K)
  have hcon : x_n (x_co n K) = n - g := by
    have e1 : x_cn n (fun i => (x_co n K).testBit i) = x_cn n (fun i => !K.testBit i) := x_cnc n (fun i hi => x_cob hi)
    have e2 := x_cnnot (P := fun i => K.testBit i) n
    have e3 := x_ncn m3 hcl
    have e4 := x_ncn m3 hK
    omega
  rw [hcon] at hk'0
  have hk' := hk'0
  have hidx := fun c hc => w_idx (c := c) hb hb' hgn hK hk hk' hc
  have hKr := x_rkr hb K
  have hsdK : ∀ T, x_sd g k T < 2 ^ n := fun T => x_sdKl hK hk T
  have hsdC : ∀ S, x_sd (n - g) k' S < 2 ^ n := fun S => x_sdKl hcl hk' S
  have hdis : ∀ S j, (x_sd (n - g) k' S).testBit j = true → K.testBit j = false := fun S j hj => ((x_cobS hK).1 (x_sdK hk' hj)).2
  have hgbn : w_nb (w_gb (x_rk b') r) g < 2 ^ 31 := by
    have := x_cnN (P := w_gb (x_rk b') r) (2 ^ g)
    unfold w_nb
    omega
  have hst := x_stl (m := n - g) (j := min (n - g) (R - r) + 1) (by omega)
  -- the loop
  have main : ∀ (gk' gr' : Nat → Int32), (∀ S, S < 2 ^ g → gk' S = nI (x_sd g k S)) → (∀ S, S < 2 ^ (n - g) → gr' S = nI (x_sd (n - g) k' S)) → ∀ (u i : Nat) (l' c' t' : Int32) (gi' gq' gg' : Nat → Int32) (x3 x4 : Int32), i + u = x_st (n - g) (min (n - g) (R - r) + 1) → x_st (n - g) (x_rk b K - r) ≤ i → (∀ j, x_st (n - g) (x_rk b K - r) ≤ j → j < i → ¬ (x_rk b (x_sd (n - g) k' (x_or (n - g) j)) = x_n (x_sd (n - g) k' (x_or (n - g) j)) ∧ w_C b b' g n K k (x_sd (n - g) k' (x_or (n - g) j)))) → w300_L117 nk nr ng cm np ns pa sa pp ss post (u + 1) (nI K) (nI (n - g)) x3 x4 (nI (x_st (n - g) (min (n - g) (R - r) + 1))) (nI i) (some a0) (some a1) v1 v2 (nI (w_nb (w_gb (x_rk b') r) g)) v4 (nI K) l' c' v8 t' gi' gp gq' gk' gr' gg' q_o l_o o_r g_o g_t mm := by
    intro gk' gr' hgk' hgr' u
    induction u with
    | zero =>
      intro i l' c' t' gi' gq' gg' x3 x4 hi hi0 hno
      refine ⟨fun _ => ⟨rfl, h0 ?_ l' c' t' gi' gq' gk' gr' gg'⟩, fun w => absurd (nI_le (by omega) (by omega)) w⟩
      intro ⟨c, hc⟩
      obtain ⟨j, j1, j2, j3, j4, j5, _⟩ := hidx c hc
      exact hno j j1 (by omega) ⟨j4, j5⟩
    | succ u ih =>
      intro i l' c' t' gi' gq' gg' x3 x4 hi hi0 hno
      have hil : i < 2 ^ (n - g) := by omega
      have horl := (x_orl (show n - g ≤ 12 by omega) hil).1
      generalize hS : x_or (n - g) i = S at *
      have hcn := hsdC S
      have hdS := hdis S
      generalize hcc : x_sd (n - g) k' S = c at *
      have hnext : (¬ (x_rk b c = x_n c ∧ w_C b b' g n K k c)) → ∀ j, x_st (n - g) (x_rk b K - r) ≤ j → j < i + 1 → ¬ (x_rk b (x_sd (n - g) k' (x_or (n - g) j)) = x_n (x_sd (n - g) k' (x_or (n - g) j)) ∧ w_C b b' g n K k (x_sd (n - g) k' (x_or (n - g) j))) := by
        intro hnot j j1 j2
        by_cases w : j = i
        · rw [w, hS, hcc]; exact hnot
        · exact hno j j1 (by omega)
      have next : ∀ (x7 x8 l' t' : Int32) (gi' gq' gg' : Nat → Int32), (¬ (x_rk b c = x_n c ∧ w_C b b' g n K k c)) → w300_L272 (w300_L117 nk nr ng cm np ns pa sa pp ss post (u + 1)) nk nr ng cm np ns pa sa pp ss post (nI K) (nI (n - g)) x3 x4 (nI (x_st (n - g) (min (n - g) (R - r) + 1))) (nI i) x7 x8 (some a0) (some a1) v1 v2 (nI (w_nb (w_gb (x_rk b') r) g)) v4 (nI K) l' (nI c) v8 t' gi' gp gq' gk' gr' gg' q_o l_o o_r g_o g_t mm := by
        intro x7 x8 l' t' gi' gq' gg' hnot z ez
        rw [ez, nI_1]
        exact ih (i + 1) l' (nI c) t' gi' gq' gg' x3 x4 (by omega) (by omega) (hnext hnot)
      have hcr12 := m15 c
      have hor : K ||| c < 2 ^ n := Nat.or_lt_two_pow hK hcn
      have hkr := m15 (K ||| c)
      have hnle := x_nle c
      refine ⟨fun w => absurd w (nI_ge (by omega) (by omega)), fun _ => c_oset ho (show n - g ≤ q by omega) hil ?_⟩
      rw [hS, nI_clamp (by omega), hgr' S horl, hcc]
      refine ⟨b_in (by omega) (by omega), fun z83 e83 => ?_⟩
      rw [e83]
      refine b_bc (by omega) ⟨fun k => by simp at k, fun a k => ?_⟩
      cases k
      rw [nI_clamp (by omega), m12 c hcn]
      refine ⟨m1, m1, b_in (by omega) (by omega), fun w => ?_, fun w => ?_⟩
      · have hnot : ¬ (x_rk b c = x_n c ∧ w_C b b' g n K k c) := fun hh => w (by rw [hh.1])
        exact ⟨fun _ => ⟨fun _ => next _ _ _ _ _ _ _ hnot, fun k => absurd rfl k⟩, fun k => absurd rfl k⟩
      · have hind : x_rk b c = x_n c := (nI_eq (by omega) (by omega)).1 w
        rw [← hind]
        refine ⟨fun k => t_10 k, fun _ => ⟨fun k => by simp at k, fun a k => ?_⟩⟩
        cases k
        rw [b_or, nI_clamp (by omega), m12 _ hor]
        refine ⟨m1, m1, b_in (by omega) (by omega), fun k => by simp at k, fun a k => ?_⟩
        cases k
        rw [m8, nI_add]
        refine ⟨m2, fun w2 => ?_, fun w2 => ⟨fun k => t_10 k, fun _ => ?_⟩⟩
        · have hnot : ¬ (x_rk b c = x_n c ∧ w_C b b' g n K k c) := by
            intro hh
            obtain ⟨_, _, f, hf⟩ := hh.2
            have hall := w_all (by omega) hk hf
            rw [x_rkall hb' (S := 2 ^ g - 1) (fun i hi => by rw [Nat.testBit_two_pow_sub_one]; exact decide_eq_true hi)] at hall
            exact w2 (by rw [hall])
          exact ⟨fun _ => next _ _ _ _ _ _ _ hnot, fun k => absurd rfl k⟩
        · refine c_sameB hM' hgk' hsdK hcn (by omega) ho (by omega) hgbn ⟨fun w3 => next _ _ _ _ _ _ _ ?_, fun w3 => ?_⟩
          · intro hh
            obtain ⟨_, _, f, hf⟩ := hh.2
            rw [decide_eq_true (w_bases (r := r) m4 hk hf).symm] at w3
            exact t_10 w3
          · refine c_sameD (gn := w_np (w_gb (x_rk b') r) g) hM' hgk' hsdK hcn (by omega) (by omega) ho (by omega) hgp (fun _ _ => w_npl m4) (fun gq2 hgq2 => ⟨fun w4 => next _ _ _ _ _ _ _ ?_, fun w4 => ?_⟩)
            · intro hh
              obtain ⟨_, _, f, hf⟩ := hh.2
              have : w_dg (fun i => w_np (w_gb (x_rk b') r) g i i) (fun m => w_np (w_hb (x_rk b) g k c r) g m m) g = true := decide_eq_true (fun e he => w_degs (r := r) m4 hk hf _)
              rw [this] at w4
              exact t_10 w4
            · refine c_assigns hM' hgk' hk hK hcn hdS hgn hnk hng hgp hgq2 14 0 0 φ0 gi' _ _ (Nat.zero_le _) (by omega) (fun i hi => absurd hi (Nat.not_lt_zero i)) (w_P0 x_rk00) (fun S hS => ?_) (by decide) (fun x hx => ?_) (fun φ' gi2 gg2 t2 hL hgi2 => ⟨fun k => t_10 k, fun _ => ⟨fun k => by simp at k, fun a k => ?_⟩⟩) (fun hn2 gi2 gg2 _ _ => ⟨fun _ => next _ _ _ _ _ _ _ (fun hh => ?_), fun k => absurd rfl k⟩)
              · have : S = 0 := by rw [Nat.pow_zero] at hS; omega
                rw [this, show x_im 0 (fun i => k (φ0 i)) 0 = 0 from rfl, Nat.zero_or]
                exact pk_us
              · rw [Nat.zero_testBit]
                exact ⟨fun k => absurd k (by decide), fun ⟨i, hi, _⟩ => absurd hi (Nat.not_lt_zero i)⟩
              · cases k
                refine ⟨m1, c_all m1 m3 m5 (fun z74 e74 => ⟨rfl, ?_⟩)⟩
                have ez : z74 = nI (x_co n (K ||| c)) := by
                  rw [e74, b_coS m3 hK, b_nand (by omega) (by omega), w_del hK hcn]
                rw [ez]
                refine h1 c φ' t2 gi2 gq2 gk' gr' gg2 ⟨hcn, hdS, φ', hL.1⟩ (fun c2 hc2 => ?_) hL hgi2 hgk'
                obtain ⟨j, j1, j2, j3, j4, j5, j6⟩ := hidx c2 hc2
                by_cases q2 : j < i
                · exact absurd ⟨j4, j5⟩ (hno j j1 q2)
                · refine Nat.le_trans ?_ j6
                  by_cases q3 : j = i
                  · rw [q3, hS, hcc]; exact Nat.le_refl _
                  · have hkey := x_orp (show n - g ≤ 12 by omega) (show i < j by omega) j3
                    have := x_sdkey (show n - g ≤ 12 by omega) hk'.1 (by rw [hS]; exact horl) (x_orl (show n - g ≤ 12 by omega) j3).1 hkey
                    rw [hS, hcc] at this
                    exact Nat.le_of_lt this
              · obtain ⟨_, _, f, hf⟩ := hh.2
                exact hn2 ⟨f, hf, fun i hi => absurd hi (Nat.not_lt_zero i)⟩
  refine ⟨fun k => by simp at k, fun a k => ?_⟩
  cases k
  refine ⟨m1, fun k => by simp at k, fun a k => ?_⟩
  cases k
  refine ⟨m2, fun z88 e88 => ?_⟩
  rw [m5, m7, nI_subn hgn] at e88
  rw [e88]
  refine c_spread m1 m3 m5 hK hk hgn hnk hnk2 (fun gk' hgk' => ⟨fun k => by simp at k, fun a k => ?_⟩)
  cases k
  refine ⟨m1, c_all m1 m3 m5 ?_⟩
  rw [b_coS m3 hK]
  refine c_spread m1 m3 m5 hcl hk' (by omega) hnr hnr2 (fun gr' hgr' => ⟨fun k => by simp at k, fun a k => ?_⟩)
  cases k
  refine ⟨m1, m1, b_in (by omega) (by omega), fun k => by simp at k, fun a k => ?_⟩
  cases k
  rw [nI_clamp (by omega), m12 K hK, m8, m6, nI_subn hrR]
  have hKr12 := m15 K
  have least : ∀ P : Int32 → Prop, P (nI (x_rk b K - r)) → w185_wp P 0 (nI (x_rk b K) - nI r) := by
    intro P hP
    by_cases q2 : r ≤ x_rk b K
    · rw [nI_subn q2]
      refine c_max (x := 0) (by omega) (by omega) ?_
      rw [Nat.max_eq_right (Nat.zero_le _)]
      exact hP
    · have e0 : x_rk b K - r = 0 := by omega
      rw [e0] at hP
      refine ⟨fun w => ?_, fun _ => hP⟩
      exact absurd w (b_negs _ (by omega) _ (by omega) (by omega))
  refine ⟨m2, least _ ⟨m1, m2, b_min (by omega) (by omega) ?_⟩⟩
  rw [nI_1]
  refine c_ostart ho (show n - g ≤ q by omega) (by omega) (c_ostart ho (show n - g ≤ q by omega) (by omega) ⟨x_st (n - g) (min (n - g) (R - r) + 1) - x_st (n - g) (x_rk b K - r) + 1, ?_⟩)
  exact main gk' gr' hgk' hgr' (x_st (n - g) (min (n - g) (R - r) + 1) - x_st (n - g) (x_rk b K - r)) (x_st (n - g) (x_rk b K - r)) _ _ _ gi gq gg _ _ (by have := x_stm (n := n - g) (j := x_rk b K - r) (k := min (n - g) (R - r) + 1) (by omega); omega) (Nat.le_refl _) (fun j j1 j2 => by omega)
end CFO
