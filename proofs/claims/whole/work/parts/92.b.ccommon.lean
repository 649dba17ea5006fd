/-! PURE, the class: commonSet, coverSet -/
/-- two matroids of the pool (or one, twice): ranks asked for, or not yet -/
def c_Z (M M' : px_MR) (n : Nat) (b : Nat → Bool) : Prop := M' = M ∨ c_Q M M' n b
def c_J (mm mm' : Nat → px_MR) (a c n : Nat) (b d : Nat → Bool) : Prop := (∀ i, i ≠ a → i ≠ c → mm' i = mm i) ∧ c_Z (mm a) (mm' a) n b ∧ c_Z (mm c) (mm' c) n d
def c_remc (mm : Nat → px_MR) (a c n : Nat) : Nat := c_rc (mm a) n + (if c = a then 0 else c_rc (mm c) n)
def c_rems (mm : Nat → px_MR) (a c n : Nat) : Nat := c_rs (mm a) n + (if c = a then 0 else c_rs (mm c) n)
section CCM
variable {a c cm np ns : Nat} {pa sa : Nat → Nat} {pp : Nat → px_PR} {ss : Nat → px_SR} {mc ms : Nat} {q_o l_o : Nat} {o_r : Int32} {g_o g_t : Nat → Int32} {mm mm' : Nat → px_MR} {n r s q : Nat} {b d : Nat → Bool}
theorem c_ZB {M M' : px_MR} (hB : c_B M n r b) (h : c_Z M M' n b) : c_B M' n r b := by
  rcases h with h | h
  · rw [h]; exact hB
  · exact c_QB hB h
theorem c_ZK {M M' : px_MR} (hK : c_K M n b) (h : c_Z M M' n b) : c_K M' n b := by
  rcases h with h | h
  · rw [h]; exact hK
  · exact c_QK hK h
theorem c_Zt {M M' M'' : px_MR} (hB : c_B M n r b) (h : c_Z M M' n b) (h' : c_Q M' M'' n b) : c_Q M M'' n b := by
  rcases h with h | h
  · rw [h] at h'; exact h'
  · exact c_Qt hB h h'
/-- a call of rankOf for the first -/
theorem c_rkA {post : Int32 → Nat → Nat → Int32 → (Nat → Int32) → (Nat → Int32) → (Nat → px_MR) → Prop} {S : Nat} (ha : a < cm) (hB : c_B (mm a) n r b) (hK : c_K (mm a) n b) (hcd : c = a → d = b) (hJ : c_J mm mm' a c n b d) (hS : S < 2 ^ n)
    (h : ∀ mm'', c_J mm mm'' a c n b d → c_R (mm'' a) n b → (c_R (mm' c) n d → c_R (mm'' c) n d) → c_remc mm'' a c n + c_rc (mm' a) n = c_remc mm' a c n → c_rems mm'' a c n + c_rs (mm' a) n = c_rems mm' a c n → post (nI (x_rk b S)) q_o l_o o_r g_o g_t mm'') : w262_wp a cm np ns pa sa pp ss (c_rc (mm' a) n) (c_rs (mm' a) n) post (nI S) q_o l_o o_r g_o g_t mm' := by
  have hB' := c_ZB hB hJ.2.1
  refine c_rankOf ha hB' (c_ZK hK hJ.2.1) hS (Nat.le_refl _) (Nat.le_refl _) (fun M' hQ hR => ?_)
  have hz := c_Qc hB' hQ
  have e1 : va_up mm' a M' a = M' := va_up_self _ _ _
  refine h _ ⟨fun i h1 h2 => by rw [va_up_ne _ _ h1]; exact hJ.1 i h1 h2, by rw [e1]; exact Or.inr (c_Zt hB hJ.2.1 hQ), ?_⟩ (by rw [e1]; exact hR) ?_ ?_ ?_
  · by_cases z : c = a
    · subst z; rw [e1, hcd rfl]; exact Or.inr (c_Zt hB hJ.2.1 hQ)
    · rw [va_up_ne _ _ z]; exact hJ.2.2
  · intro h1
    by_cases z : c = a
    · subst z; rw [e1, hcd rfl]; exact hR
    · rw [va_up_ne _ _ z]; exact h1
  · unfold c_remc
    rw [e1, hz.1]
    by_cases z : c = a
    · rw [if_pos z, if_pos z]; omega
    · rw [if_neg z, if_neg z, va_up_ne _ _ z]; omega
  · unfold c_rems
    rw [e1, hz.2.1]
    by_cases z : c = a
    · rw [if_pos z, if_pos z]; omega
    · rw [if_neg z, if_neg z, va_up_ne _ _ z]; omega
/-- and for the second -/
theorem c_rkC {post : Int32 → Nat → Nat → Int32 → (Nat → Int32) → (Nat → Int32) → (Nat → px_MR) → Prop} {S : Nat} (hc : c < cm) (hD : c_B (mm c) n s d) (hK : c_K (mm c) n d) (hcd : c = a → d = b) (hJ : c_J mm mm' a c n b d) (hS : S < 2 ^ n)
    (h : ∀ mm'', c_J mm mm'' a c n b d → (c_R (mm' a) n b → c_R (mm'' a) n b) → c_R (mm'' c) n d → c_remc mm'' a c n + c_rc (mm' c) n = c_remc mm' a c n → c_rems mm'' a c n + c_rs (mm' c) n = c_rems mm' a c n → post (nI (x_rk d S)) q_o l_o o_r g_o g_t mm'') : w262_wp c cm np ns pa sa pp ss (c_rc (mm' c) n) (c_rs (mm' c) n) post (nI S) q_o l_o o_r g_o g_t mm' := by
  have hD' := c_ZB hD hJ.2.2
  refine c_rankOf hc hD' (c_ZK hK hJ.2.2) hS (Nat.le_refl _) (Nat.le_refl _) (fun M' hQ hR => ?_)
  have hz := c_Qc hD' hQ
  have e1 : va_up mm' c M' c = M' := va_up_self _ _ _
  refine h _ ⟨fun i h1 h2 => by rw [va_up_ne _ _ h2]; exact hJ.1 i h1 h2, ?_, by rw [e1]; exact Or.inr (c_Zt hD hJ.2.2 hQ)⟩ ?_ (by rw [e1]; exact hR) ?_ ?_
  · by_cases z : a = c
    · subst z; rw [e1, ← hcd rfl]; exact Or.inr (c_Zt hD hJ.2.2 hQ)
    · rw [va_up_ne _ _ z]; exact hJ.2.1
  · intro h1
    by_cases z : a = c
    · subst z; rw [e1, ← hcd rfl]; exact hR
    · rw [va_up_ne _ _ z]; exact h1
  · unfold c_remc
    by_cases z : c = a
    · subst z; rw [if_pos rfl, if_pos rfl, e1, hz.1]; omega
    · rw [if_neg z, if_neg z, va_up_ne _ _ (fun q => z q.symm), e1, hz.1]; omega
  · unfold c_rems
    by_cases z : c = a
    · subst z; rw [if_pos rfl, if_pos rfl, e1, hz.2.1]; omega
    · rw [if_neg z, if_neg z, va_up_ne _ _ (fun q => z q.symm), e1, hz.2.1]; omega
theorem c_remle : c_rc (mm c) n ≤ c_remc mm a c n ∧ c_rs (mm c) n ≤ c_rems mm a c n ∧ c_rc (mm a) n ≤ c_remc mm a c n ∧ c_rs (mm a) n ≤ c_rems mm a c n := by
  unfold c_remc c_rems
  by_cases z : c = a
  · subst z; rw [if_pos rfl, if_pos rfl]; omega
  · rw [if_neg z, if_neg z]; omega
/-- independent in both -/
def x_cp (b d : Nat → Bool) (S : Nat) : Bool := decide (x_rk b S = x_n S) && decide (x_rk d S = x_n S)
/-- both ranks are known: or nothing was asked, for one has rank 0 -/
def c_JJ (mm mm' : Nat → px_MR) (a c n r s : Nat) (b d : Nat → Bool) : Prop := c_J mm mm' a c n b d ∧ ((0 < min r s ∧ c_R (mm' a) n b ∧ c_R (mm' c) n d) ∨ (min r s = 0 ∧ mm' = mm))
theorem c_cs45 {post : Int32 → Nat → Nat → Int32 → (Nat → Int32) → (Nat → Int32) → (Nat → px_MR) → Prop} {K12 : Int32 → Nat → Nat → Int32 → (Nat → Int32) → (Nat → Int32) → (Nat → px_MR) → Nat → Nat → Prop} {m : Nat} (ha : a < cm) (hc : c < cm) (hB : c_B (mm a) n r b) (hD : c_B (mm c) n s d) (hKb : c_K (mm a) n b) (hKd : c_K (mm c) n d) (hcd : c = a → d = b) (ho : o_Ok l_o o_r g_o g_t q) (hnq : n ≤ q) (hm0 : 0 < m) (hm : m ≤ r) (hm2 : m ≤ s)
    (hpost : ∀ mm' S, c_JJ mm mm' a c n r s b d → S < 2 ^ n → x_n S = m → x_cp b d S = true → (∀ i, x_st n m ≤ i → i < 2 ^ n → x_key (x_or n i) < x_key S → x_cp b d (x_or n i) = false) → post (nI S) q_o l_o o_r g_o g_t mm')
    (hK : ∀ mm' kc ks, c_JJ mm mm' a c n r s b d → (∀ S, S < 2 ^ n → x_n S = m → x_cp b d S = false) → kc + c_remc mm' a c n ≤ mc → ks + c_rems mm' a c n ≤ ms → K12 (nI (m - 1)) q_o l_o o_r g_o g_t mm' kc ks) :
    ∀ (u i : Nat) (mm' : Nat → px_MR) (kc ks : Nat), i + u = x_st n (m + 1) → x_st n m ≤ i → c_J mm mm' a c n b d → (i = x_st n m ∨ c_R (mm' a) n b) → (c_R (mm' c) n d ∨ ∀ j, x_st n m ≤ j → j < i → ¬ x_rk b (x_or n j) = m) → (∀ j, x_st n m ≤ j → j < i → x_cp b d (x_or n j) = false) → kc + c_remc mm' a c n ≤ mc → ks + c_rems mm' a c n ≤ ms → w288_L45 K12 a cm np ns pa sa pp ss c mc ms post (u + 1) (nI m) (nI (x_st n (m + 1))) (nI i) q_o l_o o_r g_o g_t mm' kc ks := by
  have hn := hB.2.2.1.1
  have hp := b_p12 hn
  have r3 := x_rle hB.2.2.1
  have hst := x_stl (m := n) (j := m + 1) hn
  intro u
  induction u with
  | zero =>
    intro i mm' kc ks hi hi0 hJ hRa hRc hno hmc hms
    unfold w288_L45
    refine ⟨fun _ z e => ?_, fun z => absurd (nI_le (show x_st n (m + 1) ≤ i by omega) (by omega)) z⟩
    rw [e]
    have e2 : nI m + -1 = nI (m - 1) := by
      obtain ⟨k, rfl⟩ : ∃ k, m = k + 1 := ⟨m - 1, by omega⟩
      exact pk_m1 k
    rw [e2]
    -- some set of m elements is independent in the first
    obtain ⟨B, hb⟩ := hB.2.2.1.2.1
    have hbn := hB.2.2.1.2.2.1 B hb
    have hex : ∃ S, S < 2 ^ n ∧ x_n S = m ∧ x_rk b S = m := by
      have key : ∀ (k : Nat) (S : Nat), S < 2 ^ n → x_n S = m + k → (∀ i, i < 12 → S.testBit i = true → B.testBit i = true) → ∃ S, S < 2 ^ n ∧ x_n S = m ∧ x_rk b S = m := by
        intro k
        induction k with
        | zero =>
          intro S hS hSn hSB
          exact ⟨S, hS, by omega, by rw [x_indr hB.2.2.1 hb hSB]; omega⟩
        | succ k ih =>
          intro S hS hSn hSB
          have : ∃ e, e < 12 ∧ S.testBit e = true := by
            refine Classical.byContradiction (fun hno2 => ?_)
            have : x_n S = x_cn 12 (fun _ => false) := x_cnc 12 (fun e he => by
              cases hh : S.testBit e
              · rfl
              · exact absurd ⟨e, he, hh⟩ hno2)
            have h0 : x_cn 12 (fun _ => false) = 0 := rfl
            omega
          obtain ⟨e, he, be⟩ := this
          have hen : e < n := by
            refine Classical.byContradiction (fun z => ?_)
            rw [x_hi hS (show n ≤ e by omega)] at be; exact Bool.noConfusion be
          refine ih (x_t S e) (x_tl hS hen) (by have := x_nt1 he be; omega) (fun i hi hbi => ?_)
          by_cases z : i = e
          · rw [z, x_tbs, be] at hbi; exact Bool.noConfusion hbi
          · rw [x_tbn z] at hbi; exact hSB i hi hbi
      exact key (r - m) B hbn.1 (by omega) (fun _ _ h => h)
    obtain ⟨S0, hS0, hn0, hr0⟩ := hex
    obtain ⟨i0, hi0', ei0⟩ := x_orx hn hS0
    have hst0 := (x_sti (m := m) hn hi0').mpr (by rw [ei0]; exact hn0)
    have hRc' : c_R (mm' c) n d := hRc.resolve_right (fun z => z i0 hst0.1 (by omega) (by rw [ei0]; exact hr0))
    have hRa' : c_R (mm' a) n b := hRa.resolve_left (fun z => by omega)
    refine hK mm' kc ks ⟨hJ, Or.inl ⟨by omega, hRa', hRc'⟩⟩ (fun S hS hSm => ?_) hmc hms
    obtain ⟨j, hj, ej⟩ := x_orx hn hS
    have hstj := (x_sti (m := m) hn hj).mpr (by rw [ej]; exact hSm)
    rw [← ej]
    exact hno j hstj.1 (by omega)
  | succ u ih =>
    intro i mm' kc ks hi hi0 hJ hRa hRc hno hmc hms
    have hil : i < 2 ^ n := by omega
    obtain ⟨ho1, ho2⟩ := x_orl hn hil
    have hsz : x_n (x_or n i) = m := (x_sti hn hil).mp ⟨hi0, by omega⟩
    unfold w288_L45 w288_L89
    refine ⟨fun z => absurd z (nI_ge (by omega) (by omega)), fun _ => ⟨ha, ha, ?_⟩⟩
    rw [(c_ZB hB hJ.2.1).1]
    refine c_oset ho hnq hil ⟨c_rc (mm' a) n, c_rs (mm' a) n, by have := c_remle (mm := mm') (a := a) (c := c) (n := n); omega, by have := c_remle (mm := mm') (a := a) (c := c) (n := n); omega, ha, c_rkA ha hB hKb hcd hJ ho1 (fun m1 hJ1 hR1 hRc1 hc1 hs1 => ?_)⟩
    have r1 := x_rkr hB.2.2.1 (x_or n i)
    have r2 := x_rkr hD.2.2.1 (x_or n i)
    have s3 := x_rle hD.2.2.1
    have step : ∀ (m2 : Nat → px_MR) (kc' ks' : Nat), c_J mm m2 a c n b d → c_R (m2 a) n b → (c_R (m2 c) n d ∨ ∀ j, x_st n m ≤ j → j < i + 1 → ¬ x_rk b (x_or n j) = m) → x_cp b d (x_or n i) = false → kc' + c_remc m2 a c n ≤ mc → ks' + c_rems m2 a c n ≤ ms → ∀ z1 : Int32, z1 = nI i + 1 → w288_L45 K12 a cm np ns pa sa pp ss c mc ms post (u + 1) (nI m) (nI (x_st n (m + 1))) z1 q_o l_o o_r g_o g_t m2 kc' ks' := by
      intro m2 kc' ks' g1 g2 g3 g4 g5 g6 z1 e1
      rw [e1, nI_1]
      refine ih (i + 1) m2 kc' ks' (by omega) (by omega) g1 (Or.inr g2) g3 (fun j hj1 hj2 => ?_) g5 g6
      by_cases z : j = i
      · rw [z]; exact g4
      · exact hno j hj1 (by omega)
    refine ⟨fun q1 => step m1 _ _ hJ1 hR1 ?_ ?_ (by omega) (by omega), fun q1 => ⟨c_rc (m1 c) n, c_rs (m1 c) n, by have := c_remle (mm := m1) (a := a) (c := c) (n := n); omega, by have := c_remle (mm := m1) (a := a) (c := c) (n := n); omega, hc, c_rkC hc hD hKd hcd hJ1 ho1 (fun m2 hJ2 hRa2 hR2 hc2 hs2 => ⟨fun q2 => step m2 _ _ hJ2 (hRa2 hR1) (Or.inl hR2) ?_ (by omega) (by omega), fun q2 => ?_⟩)⟩⟩
    · rw [nI_eq (by omega) (by omega)] at q1
      rcases hRc with h1 | h1
      · exact Or.inl (hRc1 h1)
      · refine Or.inr (fun j hj1 hj2 => ?_)
        by_cases z : j = i
        · rw [z]; exact q1
        · exact h1 j hj1 (by omega)
    · rw [nI_eq (by omega) (by omega)] at q1
      unfold x_cp
      rw [hsz, decide_eq_false q1]; rfl
    · rw [nI_eq (by omega) (by omega)] at q2
      unfold x_cp
      rw [hsz, decide_eq_false q2, Bool.and_false]
    · rw [nI_eq (by omega) (by omega)] at q1 q2
      refine hpost m2 (x_or n i) ⟨hJ2, Or.inl ⟨by omega, hRa2 hR1, hR2⟩⟩ ho1 hsz (by unfold x_cp; rw [hsz, decide_eq_true q1, decide_eq_true q2]; rfl) (fun j hj1 hj2 hkey => ?_)
      have : j < i := by
        refine Classical.byContradiction (fun z => ?_)
        by_cases z2 : j = i
        · rw [z2] at hkey; omega
        · have := x_orp hn (show i < j by omega) hj2; omega
      exact hno j hj1 this
/-- commonSet -/
theorem c_common {post : Int32 → Nat → Nat → Int32 → (Nat → Int32) → (Nat → Int32) → (Nat → px_MR) → Prop} (ha : a < cm) (hc : c < cm) (hB : c_B (mm a) n r b) (hD : c_B (mm c) n s d) (hKb : c_K (mm a) n b) (hKd : c_K (mm c) n d) (hcd : c = a → d = b) (ho : o_Ok l_o o_r g_o g_t q) (hnq : n ≤ q) (hmc : 0 < min r s → c_remc mm a c n ≤ mc) (hms : 0 < min r s → c_rems mm a c n ≤ ms)
    (h : ∀ mm' T, c_JJ mm mm' a c n r s b d → x_top n (x_cp b d) T → post (nI T) q_o l_o o_r g_o g_t mm') : w288_wp a cm np ns pa sa pp ss c mc ms post q_o l_o o_r g_o g_t mm := by
  have hn := hB.2.2.1.1
  have hp := b_p12 hn
  have r3 := x_rle hB.2.2.1
  have s3 := x_rle hD.2.2.1
  have hst2 := fun j => x_stl (m := n) (j := j) hn
  have small : ∀ S, x_cp b d S = true → x_n S ≤ min r s := by
    intro S hS
    unfold x_cp at hS
    rw [Bool.and_eq_true] at hS
    have h1 : x_rk b S = x_n S := by simpa using hS.1
    have h2 : x_rk d S = x_n S := by simpa using hS.2
    have := x_rkr hB.2.2.1 S
    have := x_rkr hD.2.2.1 S
    omega
  have hz0 : x_n 0 = 0 := by decide
  have main : ∀ (m : Nat) (mm' : Nat → px_MR) (kc ks : Nat), m ≤ min r s → c_J mm mm' a c n b d → ((0 < min r s ∧ c_R (mm' a) n b ∧ c_R (mm' c) n d) ∨ (m = min r s ∧ mm' = mm)) → (∀ S, S < 2 ^ n → x_cp b d S = true → x_n S ≤ m) → (0 < m → kc + c_remc mm' a c n ≤ mc) → (0 < m → ks + c_rems mm' a c n ≤ ms) → w288_L12 a cm np ns pa sa pp ss c mc ms post (m + 1) (nI m) q_o l_o o_r g_o g_t mm' kc ks := by
    intro m
    induction m with
    | zero =>
      intro mm' kc ks hm hJ hR hS hmc hms
      unfold w288_L12
      refine ⟨fun _ => ?_, fun z => absurd (by rw [nI_0]; exact Int32.le_refl 0) z⟩
      have := h mm' 0 ⟨hJ, hR.imp id (fun z => ⟨z.1.symm, z.2⟩)⟩ ⟨Nat.two_pow_pos n, ?_, fun S hS' hp' => ?_⟩
      · rw [nI_0] at this; exact this
      · unfold x_cp
        have e1 : x_rk b 0 = 0 := by have := x_rkn (b := b) 0; omega
        have e2 : x_rk d 0 = 0 := by have := x_rkn (b := d) 0; omega
        rw [e1, e2, hz0]; rfl
      · have h0 := hS S hS' hp'
        have hS0 : S = 0 := by
          refine Classical.byContradiction (fun z => ?_)
          obtain ⟨i, hi⟩ := Nat.exists_testBit_of_ne_zero z
          have hin : i < 12 := by
            refine Classical.byContradiction (fun q2 => ?_)
            rw [x_hi (n := 12) (by omega) (show 12 ≤ i by omega)] at hi; exact Bool.noConfusion hi
          have := x_nt1 hin hi
          omega
        rw [hS0]
        exact Or.inr ⟨rfl, Nat.le_refl _⟩
    | succ m ih =>
      intro mm' kc ks hm hJ hR hS hmc hms
      unfold w288_L12
      refine ⟨fun z => absurd z (nI_nle (by omega) (by omega)), fun _ => ⟨ha, ha, ?_⟩⟩
      rw [(c_ZB hB hJ.2.1).1, nI_1]
      have hmn : m + 1 ≤ n := by
        have : r ≤ n := by
          obtain ⟨B, hb⟩ := hB.2.2.1.2.1
          have h1 := hB.2.2.1.2.2.1 B hb
          have h2 := x_nco hn h1.1
          omega
        omega
      refine c_ostart ho hnq (by omega) ⟨ha, ha, c_ostart ho hnq (by omega) ⟨x_st n (m + 1 + 1) - x_st n (m + 1) + 1, ?_⟩⟩
      have hsub : m + 1 - 1 = m := by omega
      have hle := x_stm (n := n) (show m + 1 ≤ m + 1 + 1 by omega)
      have key := c_cs45 (K12 := w288_L12 a cm np ns pa sa pp ss c mc ms post (m + 1)) (np := np) (ns := ns) (pa := pa) (sa := sa) (pp := pp) (ss := ss) (mc := mc) (ms := ms) (q_o := q_o) (l_o := l_o) (o_r := o_r) (g_o := g_o) (g_t := g_t) (mm := mm) (m := m + 1) (post := post) ha hc hB hD hKb hKd hcd ho hnq (by omega) (by omega) (by omega) (fun m1 S hJJ hS1 hS2 hS3 hS4 => h m1 S hJJ ⟨hS1, hS3, fun T hT hpT => ?_⟩) (fun m1 kc' ks' hJJ hno hmc' hms' => by
        rw [hsub]
        refine ih m1 kc' ks' (by omega) hJJ.1 ?_ (fun S hS1 hS2 => ?_) (fun _ => hmc') (fun _ => hms')
        · rcases hJJ.2 with z | z
          · exact Or.inl z
          · omega
        · have h1 := hS S hS1 hS2
          by_cases z : x_n S = m + 1
          · have := hno S hS1 z
            rw [hS2] at this; exact Bool.noConfusion this
          · omega)
      · exact key (x_st n (m + 1 + 1) - x_st n (m + 1)) (x_st n (m + 1)) mm' kc ks (by omega) (Nat.le_refl _) hJ (Or.inl rfl) (Or.inr (fun j h1 h2 => by omega)) (fun j h1 h2 => by omega) (hmc (by omega)) (hms (by omega))
      · have h1 := hS T hT hpT
        by_cases z : x_n T = m + 1
        · refine Or.inr ⟨by omega, Nat.not_lt.mp (fun hk => ?_)⟩
          obtain ⟨j, hj, ej⟩ := x_orx hn hT
          have h2 := (x_sti (m := m + 1) hn hj).mpr (by rw [ej]; exact z)
          have := hS4 j h2.1 hj (by rw [ej]; exact hk)
          rw [ej, hpT] at this; exact Bool.noConfusion this
        · exact Or.inl (by omega)
  unfold w288_wp
  rw [hB.2.1, hD.2.1]
  refine ⟨ha, hc, b_min (by omega) (by omega) ⟨min r s + 1, main (min r s) mm 0 0 (Nat.le_refl _) ⟨fun _ _ _ => rfl, Or.inl rfl, Or.inl rfl⟩ (Or.inr ⟨rfl, rfl⟩) (fun S _ hS => small S hS) (fun z => by have := hmc z; omega) (fun z => by have := hms z; omega)⟩⟩
/-- the cover: what all sets have together that make as much -/
def x_cv (b d : Nat → Bool) (n m : Nat) : Nat → Nat
  | 0 => 2 ^ n - 1
  | k + 1 => if x_rk b k + x_rk d (x_co n k) = m then x_cv b d n m k &&& k else x_cv b d n m k
theorem c_RR0 (h1 : c_R (mm a) n b) (h2 : c_R (mm c) n d) : c_remc mm a c n = 0 ∧ c_rems mm a c n = 0 := by
  have g1 : ¬ (mm a).2.1 9 = 0 := by rw [h1.1]; decide
  have g2 : ¬ (mm c).2.1 9 = 0 := by rw [h2.1]; decide
  have e1 : c_rc (mm a) n = 0 := if_neg (fun z => g1 z.1)
  have e2 : c_rs (mm a) n = 0 := if_neg (fun z => g1 z.1)
  have e3 : c_rc (mm c) n = 0 := if_neg (fun z => g2 z.1)
  have e4 : c_rs (mm c) n = 0 := if_neg (fun z => g2 z.1)
  unfold c_remc c_rems
  rw [e1, e2, e3, e4]
  by_cases z : c = a
  · rw [if_pos z]; exact ⟨rfl, rfl⟩
  · rw [if_neg z]; exact ⟨rfl, rfl⟩
theorem c_cov17 {post : Int32 → Nat → Nat → Int32 → (Nat → Int32) → (Nat → Int32) → (Nat → px_MR) → Prop} {m : Nat} (ha : a < cm) (hc : c < cm) (hB : c_B (mm a) n r b) (hD : c_B (mm c) n s d) (hKb : c_K (mm a) n b) (hKd : c_K (mm c) n d) (hcd : c = a → d = b) (hm : m ≤ 12)
    (h : ∀ mm', c_J mm mm' a c n b d → c_R (mm' a) n b → c_R (mm' c) n d → post (nI (x_cv b d n m (2 ^ n))) q_o l_o o_r g_o g_t mm') :
    ∀ (u k : Nat) (mm' : Nat → px_MR) (kc ks : Nat), k + u = 2 ^ n → c_J mm mm' a c n b d → (k = 0 ∨ (c_R (mm' a) n b ∧ c_R (mm' c) n d)) → kc + c_remc mm' a c n ≤ mc → ks + c_rems mm' a c n ≤ ms → w289_L17 a cm np ns pa sa pp ss c mc ms post (u + 1) (nI m) (nI (x_cv b d n m k)) (nI k) q_o l_o o_r g_o g_t mm' kc ks := by
  have hn := hB.2.2.1.1
  have hp := b_p12 hn
  have hp0 := Nat.two_pow_pos n
  have r3 := x_rle hB.2.2.1
  have s3 := x_rle hD.2.2.1
  intro u
  induction u with
  | zero =>
    intro k mm' kc ks hk hJ hR hmc hms
    unfold w289_L17
    refine ⟨ha, c_all ha hn (c_ZB hB hJ.2.1).1 ⟨fun _ => ?_, fun z => absurd (nI_lt (show 2 ^ n - 1 < k by omega) (by omega)) z⟩⟩
    have hRR := hR.resolve_left (by omega)
    rw [show k = 2 ^ n by omega]
    exact h mm' hJ hRR.1 hRR.2
  | succ u ih =>
    intro k mm' kc ks hk hJ hR hmc hms
    have hkl : k < 2 ^ n := by omega
    have hco := x_col hkl
    unfold w289_L17 w289_L53
    have rl := c_remle (mm := mm') (a := a) (c := c) (n := n)
    refine ⟨ha, c_all ha hn (c_ZB hB hJ.2.1).1 ⟨fun z => absurd z (nI_nlt (by omega) (by omega)), fun _ => ⟨c_rc (mm' a) n, c_rs (mm' a) n, by omega, by omega, ha, c_rkA ha hB hKb hcd hJ hkl (fun m1 hJ1 hR1 hRc1 hc1 hs1 => ⟨ha, c_all ha hn (c_ZB hB hJ1.2.1).1 ?_⟩)⟩⟩⟩
    have rl1 := c_remle (mm := m1) (a := a) (c := c) (n := n)
    rw [b_xor, show (2 ^ n - 1) ^^^ k = x_co n k from rfl]
    refine ⟨c_rc (m1 c) n, c_rs (m1 c) n, by omega, by omega, hc, c_rkC hc hD hKd hcd hJ1 hco (fun m2 hJ2 hRa2 hR2 hc2 hs2 => ?_)⟩
    have r1 := x_rkr hB.2.2.1 k
    have r2 := x_rkr hD.2.2.1 (x_co n k)
    rw [nI_add]
    have step : ∀ z1 : Int32, z1 = nI k + 1 → w289_L17 a cm np ns pa sa pp ss c mc ms post (u + 1) (nI m) (nI (x_cv b d n m (k + 1))) z1 q_o l_o o_r g_o g_t m2 (kc + c_rc (mm' a) n + c_rc (m1 c) n) (ks + c_rs (mm' a) n + c_rs (m1 c) n) := by
      intro z1 e1
      rw [e1, nI_1]
      exact ih (k + 1) m2 _ _ (by omega) hJ2 (Or.inr ⟨hRa2 hR1, hR2⟩) (by omega) (by omega)
    refine ⟨fun q1 => ?_, fun q1 z32 e32 => ?_⟩
    · rw [nI_eq (by omega) (by omega)] at q1
      have : x_cv b d n m (k + 1) = x_cv b d n m k := by
        show (if x_rk b k + x_rk d (x_co n k) = m then x_cv b d n m k &&& k else x_cv b d n m k) = _
        rw [if_neg q1]
      rw [← this]
      exact step
    · rw [nI_eq (by omega) (by omega)] at q1
      have : x_cv b d n m (k + 1) = x_cv b d n m k &&& k := by
        show (if x_rk b k + x_rk d (x_co n k) = m then x_cv b d n m k &&& k else x_cv b d n m k) = _
        rw [if_pos q1]
      rw [e32, b_and, ← this]
      exact step
/-- coverSet -/
theorem c_cover {post : Int32 → Nat → Nat → Int32 → (Nat → Int32) → (Nat → Int32) → (Nat → px_MR) → Prop} (ha : a < cm) (hc : c < cm) (hB : c_B (mm a) n r b) (hD : c_B (mm c) n s d) (hKb : c_K (mm a) n b) (hKd : c_K (mm c) n d) (hcd : c = a → d = b) (ho : o_Ok l_o o_r g_o g_t q) (hnq : n ≤ q) (hmc : c_remc mm a c n ≤ mc) (hms : c_rems mm a c n ≤ ms)
    (h : ∀ mm' T, c_J mm mm' a c n b d → c_R (mm' a) n b → c_R (mm' c) n d → x_top n (x_cp b d) T → post (nI (x_cv b d n (x_n T) (2 ^ n))) q_o l_o o_r g_o g_t mm') : w289_wp a cm np ns pa sa pp ss c mc ms post q_o l_o o_r g_o g_t mm := by
  have hn := hB.2.2.1.1
  have hp := b_p12 hn
  have go : ∀ mx sx, (0 < min r s → c_remc mm a c n = mx ∧ c_rems mm a c n = sx) → (min r s = 0 → mx = 0 ∧ sx = 0) → ∃ m2_39 s2_39 : Nat, 0 + m2_39 ≤ mc ∧ 0 + s2_39 ≤ ms ∧ a < cm ∧ (w288_wp a cm np ns pa sa pp ss c m2_39 s2_39 (fun r2 v33 v34 v35 v36 v37 v38 => (w250_wp (fun r5  => a < cm ∧ (w249_wp a cm np ns pa sa pp ss (fun r10 v42 v43 v44 v45 v46 v47 => ∃ j17, w289_L17 a cm np ns pa sa pp ss c mc ms post j17 r5 r10 0 v42 v43 v44 v45 v46 v47 (0 + m2_39) (0 + s2_39)) v33 v34 v35 v36 v37 v38)) r2)) q_o l_o o_r g_o g_t mm) := by
    intro mx sx h1 h2
    refine ⟨mx, sx, ?_, ?_, ha, c_common ha hc hB hD hKb hKd hcd ho hnq (fun z => by have := (h1 z).1; omega) (fun z => by have := (h1 z).2; omega) (fun m1 T hJJ hT => ?_)⟩
    · by_cases z : 0 < min r s
      · have := (h1 z).1; omega
      · have := (h2 (by omega)).1; omega
    · by_cases z : 0 < min r s
      · have := (h1 z).2; omega
      · have := (h2 (by omega)).2; omega
    · have hT1 := hT.1
      have hTn := x_nle T
      refine b_bc (by omega) ⟨ha, c_all ha hn (c_ZB hB hJJ.1.2.1).1 ⟨2 ^ n + 1, ?_⟩⟩
      have := c_cov17 (np := np) (ns := ns) (pa := pa) (sa := sa) (pp := pp) (ss := ss) (mc := mc) (ms := ms) (q_o := q_o) (l_o := l_o) (o_r := o_r) (g_o := g_o) (g_t := g_t) (mm := mm) (post := post) (m := x_n T) ha hc hB hD hKb hKd hcd hTn (fun m2 g1 g2 g3 => h m2 T g1 g2 g3 hT) (2 ^ n) 0 m1 (0 + mx) (0 + sx) (by omega) hJJ.1 (Or.inl rfl) ?_ ?_
      · rw [nI_0] at this; exact this
      · rcases hJJ.2 with ⟨_, z⟩ | z
        · have := (c_RR0 z.1 z.2).1
          by_cases z2 : 0 < min r s
          · have := (h1 z2).1; omega
          · have := (h2 (by omega)).1; omega
        · have := (h2 z.1).1
          rw [z.2]; omega
      · rcases hJJ.2 with ⟨_, z⟩ | z
        · have := (c_RR0 z.1 z.2).2
          by_cases z2 : 0 < min r s
          · have := (h1 z2).2; omega
          · have := (h2 (by omega)).2; omega
        · have := (h2 z.1).2
          rw [z.2]; omega
  unfold w289_wp
  by_cases z : 0 < min r s
  · exact go _ _ (fun _ => ⟨rfl, rfl⟩) (fun z2 => by omega)
  · exact go 0 0 (fun z2 => absurd z2 z) (fun _ => ⟨rfl, rfl⟩)
end CCM
