/-! PURE, the reference: howMany, theOne, commonOf, coverOf -/
theorem x_flen {P : Nat → Bool} : ∀ l : List Nat, (l.filter P).length = x_cn l.length (fun i => P (l.getD i 0))
  | [] => rfl
  | a :: l => by
    have ih := x_flen (P := P) l
    rw [List.length_cons, x_cns]
    show ((a :: l).filter P).length = (if P a = true then 1 else 0) + x_cn l.length (fun i => P (l.getD i 0))
    rw [← ih]
    by_cases q : P a = true
    · rw [List.filter_cons_of_pos q, if_pos q, List.length_cons, Nat.add_comm]
    · rw [List.filter_cons_of_neg q, if_neg q, Nat.zero_add]
theorem x_fget {P : Nat → Bool} : ∀ (l : List Nat) (k : Nat), k < l.length → P (l.getD k 0) = true → (l.filter P)[x_cn k (fun i => P (l.getD i 0))]? = some (l.getD k 0)
  | [], k, h, _ => absurd h (Nat.not_lt_zero k)
  | a :: l, 0, _, hp => by
    have hp : P a = true := hp
    rw [List.filter_cons_of_pos hp]
    rfl
  | a :: l, k + 1, h, hp => by
    have hp : P (l.getD k 0) = true := hp
    have ih := x_fget l k (Nat.lt_of_succ_lt_succ h) hp
    rw [x_cns]
    show ((a :: l).filter P)[(if P a = true then 1 else 0) + x_cn k (fun i => P (l.getD i 0))]? = some (l.getD k 0)
    by_cases q : P a = true
    · rw [List.filter_cons_of_pos q, if_pos q, Nat.add_comm, List.getElem?_cons_succ]
      exact ih
    · rw [List.filter_cons_of_neg q, if_neg q, Nat.zero_add]
      exact ih
theorem x_famN {b : Nat → Bool} {n r kind : Nat} (hn : n ≤ 12) : (x_fam b n r kind).length = x_cn (2 ^ n) (x_of b n r kind) := by
  unfold x_fam
  rw [x_flen, x_Lnl n (by omega)]
  exact x_cnbij (F := x_or n) (fun i hi => (x_orl hn hi).1) (fun i j hi hj e => by
    rcases Nat.lt_trichotomy i j with q | q | q
    · have := x_orp hn q hj
      rw [e] at this; omega
    · exact q
    · have := x_orp hn q hi
      rw [e] at this; omega) (fun i hi => rfl)
/-- the family as the reference finds it, among all sets -/
theorem x_fam12 {b : Nat → Bool} {n r kind : Nat} (hn : n ≤ 12) : x_fam b n r kind = (x_Ln 12).filter (fun S => decide (S < 2 ^ n) && x_of b n r kind S) := by
  unfold x_fam x_Ln
  rw [List.filter_filter, List.filter_filter]
  refine List.filter_congr (fun S hS => ?_)
  have h12 : S < 4096 := (x_Lm S).1 hS
  rw [decide_eq_true (show S < 2 ^ 12 from h12), Bool.and_true, Bool.and_comm]
section RAT
variable {ge gr gR go gs iv : Nat → Int32} {m n r : Nat} {b : Nat → Bool}
theorem r_howMany {post : Int32 → (Nat → Int32) → (Nat → Int32) → (Nat → Int32) → (Nat → Int32) → (Nat → Int32) → Prop} (hD : r_D ge gr gR m n r b) (hT : r_T go gs) {kind : Nat} (hk : kind < 4) (h : post (nI (x_fam b n r kind).length) iv ge gr gR gs) : w77_wp post (nI m) (nI kind) iv ge gr gR gs := by
  have hn := (r_Dn hD).1
  have hp := b_p12 hn
  have hp0 := Nat.two_pow_pos n
  rw [x_famN hn] at h
  have main : ∀ (u k : Nat), k + u = 2 ^ n → w77_L5 post (u + 1) (nI m) (nI kind) (nI (x_cn k (x_of b n r kind))) (nI k) iv ge gr gR gs := by
    intro u
    induction u with
    | zero =>
      intro k hk'
      unfold w77_L5
      refine r_whole hD ⟨fun _ => ?_, fun w => absurd (nI_lt (show 2 ^ n - 1 < k by omega) (by omega)) w⟩
      rw [show k = 2 ^ n by omega]; exact h
    | succ u ih =>
      intro k hk'
      have ih := ih (k + 1) (by omega)
      have e : x_cn (k + 1) (x_of b n r kind) = x_cn k (x_of b n r kind) + (if x_of b n r kind k = true then 1 else 0) := rfl
      rw [e] at ih
      unfold w77_L5
      refine r_whole hD ⟨fun w => absurd w (nI_nlt (by omega) (by omega)), fun _ => r_isOf hD hT hk (by omega) ⟨fun w z ez => ?_, fun w z ez => ?_⟩⟩
      · have : ¬ x_of b n r kind k = true := fun q => by rw [if_pos q] at w; exact t_10 w
        rw [if_neg this] at ih
        rw [ez, nI_1]; exact ih
      · have : x_of b n r kind k = true := by
          cases hh : x_of b n r kind k
          · rw [hh] at w; exact absurd rfl w
          · rfl
        rw [if_pos this] at ih
        rw [ez, nI_1, nI_1]; exact ih
  exact ⟨_, main (2 ^ n) 0 (by omega)⟩
def x_opt (o : Option Nat) : Int32 := match o with | some S => nI S | none => -1
theorem r_theOne {post : Int32 → (Nat → Int32) → (Nat → Int32) → (Nat → Int32) → (Nat → Int32) → (Nat → Int32) → (Nat → Int32) → Prop} (hD : r_D ge gr gR m n r b) (hT : r_T go gs) {kind : Nat} {i : Int32} (hk : kind < 4) (h : post (if i < 0 then -1 else x_opt ((x_fam b n r kind)[i.toNatClampNeg]?)) iv ge gr gR go gs) : w78_wp post (nI m) (nI kind) i iv ge gr gR go gs := by
  have hn := (r_Dn hD).1
  have hp := b_p12 hn
  have hp0 := Nat.two_pow_pos n
  by_cases hi : i < 0
  · rw [if_pos hi] at h
    exact ⟨1, fun _ => h, fun _ => ⟨fun _ => h, fun w => absurd hi w⟩⟩
  · rw [if_neg hi] at h
    obtain ⟨j, hj, ej⟩ := nI_of hi
    rw [ej, nI_clamp hj] at h
    subst ej
    have hl12 : (x_Ln 12).length = 4096 := x_Lnl 12 (by omega)
    rw [x_fam12 hn] at h
    generalize hP : (fun S => decide (S < 2 ^ n) && x_of b n r kind S) = P at *
    have hPS : ∀ S, P S = (decide (S < 2 ^ n) && x_of b n r kind S) := fun S => by rw [← hP]
    have hle : ∀ k, x_cn k (fun i => P ((x_Ln 12).getD i 0)) ≤ k := fun k => x_cnN k
    have main : ∀ (u k : Nat), k + u = 4096 → x_cn k (fun i => P ((x_Ln 12).getD i 0)) ≤ j → w78_L6 post (u + 1) (nI m) (nI kind) (nI j) (nI (x_cn k (fun i => P ((x_Ln 12).getD i 0)))) (nI k) iv ge gr gR go gs := by
      intro u
      induction u with
      | zero =>
        intro k hk' hle'
        refine ⟨fun _ => ?_, fun w => absurd (nI_le (a := 4096) (b := k) (by omega) (by omega)) w⟩
        have e : ((x_Ln 12).filter P)[j]? = none := by
          rw [List.getElem?_eq_none_iff, x_flen, hl12]
          rw [show k = 4096 by omega] at hle'
          exact hle'
        rw [e] at h
        exact h
      | succ u ih =>
        intro k hk' hle'
        have horl := (x_orl (m := 12) (Nat.le_refl _) (show k < 2 ^ 12 by omega)).1
        have eor : (x_Ln 12).getD k 0 = x_or 12 k := rfl
        have ecn : x_cn (k + 1) (fun i => P ((x_Ln 12).getD i 0)) = x_cn k (fun i => P ((x_Ln 12).getD i 0)) + (if P (x_or 12 k) = true then 1 else 0) := rfl
        have hk1 := hle k
        have next : P (x_or 12 k) = false → w78_L66 (w78_L6 post (u + 1)) post (nI m) (nI kind) (nI j) (nI (x_cn k (fun i => P ((x_Ln 12).getD i 0)))) (nI k) iv ge gr gR go gs := by
          intro hf z ez
          rw [ez, nI_1]
          have := ih (k + 1) (by omega) (by rw [ecn, hf]; exact hle')
          rw [ecn, hf] at this
          exact this
        refine ⟨fun w => absurd w (nI_ge (a := k) (b := 4096) (by omega) (by omega)), fun _ => ⟨fun w => absurd w (nI_pos hj), fun _ => ?_⟩⟩
        rw [nI_clamp (by omega), hT.1 k (by omega)]
        refine ⟨b_in (by omega) (by omega), r_whole hD ⟨fun w => next ?_, fun w => ⟨b_in (by omega) (by omega), ?_⟩⟩⟩
        · have := (nI_ltI (by omega) (by omega)).1 w
          rw [hPS, decide_eq_false (by omega)]; rfl
        · have hlt : x_or 12 k < 2 ^ n := by
            by_cases q : x_or 12 k < 2 ^ n
            · exact q
            · exact absurd (nI_lt (by omega) (by omega)) w
          have hPk : P (x_or 12 k) = x_of b n r kind (x_or 12 k) := by rw [hPS, decide_eq_true hlt, Bool.true_and]
          refine r_isOf hD hT hk hlt ⟨fun w2 => next ?_, fun w2 => ?_⟩
          · rw [hPk]
            cases hh : x_of b n r kind (x_or 12 k)
            · rfl
            · rw [hh] at w2; exact t_10 w2
          · have hPt : P (x_or 12 k) = true := by
              rw [hPk]
              cases hh : x_of b n r kind (x_or 12 k)
              · rw [hh] at w2; exact absurd rfl w2
              · rfl
            refine ⟨fun w3 z9 e9 z ez => ?_, fun w3 => ⟨b_in (by omega) (by omega), ?_⟩⟩
            · have hne : ¬ x_cn k (fun i => P ((x_Ln 12).getD i 0)) = j := fun q => w3 (by rw [q])
              rw [ez, nI_1, e9, nI_1]
              have := ih (k + 1) (by omega) (by rw [ecn, hPt, if_pos rfl]; omega)
              rw [ecn, hPt, if_pos rfl] at this
              exact this
            · have heq : x_cn k (fun i => P ((x_Ln 12).getD i 0)) = j := (nI_eq (by omega) hj).1 w3
              have hg := x_fget (P := P) (x_Ln 12) k (by omega) (by rw [eor]; exact hPt)
              rw [heq, eor] at hg
              rw [hg] at h
              exact h
    exact ⟨4097, main 4096 0 rfl (Nat.zero_le _)⟩
theorem r_common {post : Int32 → (Nat → Int32) → (Nat → Int32) → (Nat → Int32) → (Nat → Int32) → (Nat → Int32) → Prop} {m2 s : Nat} {d : Nat → Bool} (hD : r_D ge gr gR m n r b) (hD2 : r_D ge gr gR m2 n s d) (hT : r_T go gs) (h : ∀ T, x_top n (x_cp b d) T → post (nI T) iv ge gR go gs) : w81_wp post (nI m) (nI m2) iv ge gR go gs := by
  have hn := (r_Dn hD).1
  have hp := b_p12 hn
  have hp0 := Nat.two_pow_pos n
  have main : ∀ (u k T : Nat), k + u = 4096 → T < 2 ^ n → x_cp b d T = true → (∀ j, j < k → x_or 12 j < 2 ^ n → x_cp b d (x_or 12 j) = true → x_n (x_or 12 j) < x_n T ∨ (x_n (x_or 12 j) = x_n T ∧ x_key T ≤ x_key (x_or 12 j))) → (T = 0 ∨ ∃ j, j < k ∧ x_or 12 j = T) → w81_L5 post (u + 1) (nI m) (nI m2) (nI T) (nI k) iv ge gR go gs := by
    intro u
    induction u with
    | zero =>
      intro k T hk hTl hcp hall _
      refine ⟨fun _ => h T ⟨hTl, hcp, fun S hS hS2 => ?_⟩, fun w => absurd (nI_le (a := 4096) (b := k) (by omega) (by omega)) w⟩
      obtain ⟨j, hj, ej⟩ := x_orx (n := 12) (Nat.le_refl _) (show S < 2 ^ 12 by omega)
      have := hall j (by omega) (by rw [ej]; exact hS) (by rw [ej]; exact hS2)
      rw [ej] at this
      exact this
    | succ u ih =>
      intro k T hk hTl hcp hall hT0
      have horl := (x_orl (m := 12) (Nat.le_refl _) (show k < 2 ^ 12 by omega)).1
      have hkey : ∀ j, j < k → x_key (x_or 12 j) < x_key (x_or 12 k) := fun j hj => x_orp (Nat.le_refl _) hj (by omega)
      have next : (x_or 12 k < 2 ^ n → x_cp b d (x_or 12 k) = true → x_n (x_or 12 k) ≤ x_n T) → w81_L71 (w81_L5 post (u + 1)) post (nI m) (nI m2) (nI T) (nI k) (nI (x_or 12 k)) iv ge gR go gs := by
        intro hno z ez
        rw [ez, nI_1]
        refine ih (k + 1) T (by omega) hTl hcp (fun j hj h1 h2 => ?_) (by
          rcases hT0 with q | ⟨j, q1, q2⟩
          · exact Or.inl q
          · exact Or.inr ⟨j, by omega, q2⟩)
        by_cases q : j = k
        · rw [q] at h1 h2 ⊢
          have hle := hno h1 h2
          by_cases q2 : x_n (x_or 12 k) < x_n T
          · exact Or.inl q2
          · right
            refine ⟨by omega, ?_⟩
            rcases hT0 with q3 | ⟨j', q3, q4⟩
            · have h0 : x_n T = 0 := by rw [q3]; decide
              have hz : x_or 12 k = 0 := by
                refine x_ext horl (by decide) (fun i hi => ?_)
                rw [Nat.zero_testBit]
                exact x_cnz 12 (show x_n (x_or 12 k) = 0 by omega) i hi
              rw [hz, q3]; exact Nat.le_refl _
            · rw [← q4]
              exact Nat.le_of_lt (hkey j' q3)
        · exact hall j (by omega) h1 h2
      refine ⟨fun w => absurd w (nI_ge (a := k) (b := 4096) (by omega) (by omega)), fun _ => ⟨b_in (by omega) (by omega), fun z2 e2 => ?_⟩⟩
      rw [nI_clamp (by omega), hT.1 k (by omega)] at e2
      rw [e2]
      have hx1 := x_nle (x_or 12 k)
      have hx2 := x_nle T
      refine r_whole hD ⟨fun w => next (fun hlt _ => ?_), fun w => ?_⟩
      · have := (nI_ltI (by omega) (by omega)).1 w
        omega
      · have hlt : x_or 12 k < 2 ^ n := by
          by_cases q : x_or 12 k < 2 ^ n
          · exact q
          · exact absurd (nI_lt (by omega) (by omega)) w
        rw [nI_clamp (by omega), nI_clamp (by omega), hT.2 _ (by omega), hT.2 T (by omega)]
        refine ⟨b_in (by omega) (by omega), b_in (by omega) (by omega), fun w2 => next (fun _ _ => (nI_leI (by omega) (by omega)).1 w2), fun w2 => ?_⟩
        have hgt : x_n T < x_n (x_or 12 k) := by
          by_cases q : x_n T < x_n (x_or 12 k)
          · exact q
          · exact absurd (nI_le (by omega) (by omega)) w2
        refine r_isFree hD hT hlt ⟨fun w3 => next (fun _ hcp2 => ?_), fun w3 => r_isFree hD2 hT hlt ⟨fun w4 => next (fun _ hcp2 => ?_), fun w4 => ?_⟩⟩
        · exfalso
          unfold x_cp at hcp2
          rw [Bool.and_eq_true] at hcp2
          rw [hcp2.1] at w3
          exact t_10 w3
        · exfalso
          unfold x_cp at hcp2
          rw [Bool.and_eq_true] at hcp2
          rw [hcp2.2] at w4
          exact t_10 w4
        · have hcp2 : x_cp b d (x_or 12 k) = true := by
            unfold x_cp
            have a1 : decide (x_rk b (x_or 12 k) = x_n (x_or 12 k)) = true := by
              cases hh : decide (x_rk b (x_or 12 k) = x_n (x_or 12 k))
              · rw [hh] at w3; exact absurd rfl w3
              · rfl
            have a2 : decide (x_rk d (x_or 12 k) = x_n (x_or 12 k)) = true := by
              cases hh : decide (x_rk d (x_or 12 k) = x_n (x_or 12 k))
              · rw [hh] at w4; exact absurd rfl w4
              · rfl
            rw [a1, a2]; rfl
          intro z ez
          rw [ez, nI_1]
          refine ih (k + 1) (x_or 12 k) (by omega) hlt hcp2 (fun j hj h1 h2 => ?_) (Or.inr ⟨k, by omega, rfl⟩)
          by_cases q : j = k
          · rw [q]; exact Or.inr ⟨rfl, Nat.le_refl _⟩
          · left
            rcases hall j (by omega) h1 h2 with q2 | q2 <;> omega
  refine ⟨4097, main 4096 0 0 rfl hp0 ?_ (fun j hj => absurd hj (Nat.not_lt_zero j)) (Or.inl rfl)⟩
  unfold x_cp
  have z1 : x_n 0 = 0 := by decide
  rw [x_rk00, x_rk00, z1]
  rfl
theorem r_cover {post : Int32 → (Nat → Int32) → (Nat → Int32) → (Nat → Int32) → (Nat → Int32) → (Nat → Int32) → Prop} {m2 s : Nat} {d : Nat → Bool} (hD : r_D ge gr gR m n r b) (hD2 : r_D ge gr gR m2 n s d) (hT : r_T go gs) (h : ∀ T, x_top n (x_cp b d) T → post (nI (x_cv b d n (x_n T) (2 ^ n))) iv ge gR go gs) : w82_wp post (nI m) (nI m2) iv ge gR go gs := by
  have hn := (r_Dn hD).1
  have hp := b_p12 hn
  have hp0 := Nat.two_pow_pos n
  refine r_common hD hD2 hT (fun T hTop => ?_)
  have hTl := hTop.1
  have hx := x_nle T
  rw [nI_clamp (by omega), hT.2 T (by omega)]
  refine ⟨b_in (by omega) (by omega), fun z11 e11 => r_whole hD ⟨2 ^ n + 1, ?_⟩⟩
  rw [e11]
  have main : ∀ (u k : Nat), k + u = 2 ^ n → w82_L26 post (u + 1) (nI m) (nI m2) (nI (x_n T)) (nI (2 ^ n - 1)) (nI (x_cv b d n (x_n T) k)) (nI k) iv ge gR go gs := by
    intro u
    induction u with
    | zero =>
      intro k hk
      refine ⟨fun _ => ?_, fun w => absurd (nI_lt (show 2 ^ n - 1 < k by omega) (by omega)) w⟩
      rw [show k = 2 ^ n by omega]
      exact h T hTop
    | succ u ih =>
      intro k hk
      have ih := ih (k + 1) (by omega)
      have hkl : k < 2 ^ n := by omega
      have e : x_cv b d n (x_n T) (k + 1) = if x_rk b k + x_rk d (x_co n k) = x_n T then x_cv b d n (x_n T) k &&& k else x_cv b d n (x_n T) k := rfl
      rw [e] at ih
      have a1 := x_rkn (b := b) k
      have a2 := x_rkn (b := d) (x_co n k)
      have a3 := x_nle k
      have a4 := x_nle (x_co n k)
      refine ⟨fun w => absurd w (nI_nlt (by omega) (by omega)), fun _ => r_rank hD hkl ?_⟩
      rw [b_coS hn hkl]
      refine r_rank hD2 (x_col hkl) ?_
      rw [nI_add]
      refine ⟨fun w z ez => ?_, fun w z ez => ?_⟩
      · rw [if_neg (fun q => w (by rw [q]))] at ih
        rw [ez, nI_1]; exact ih
      · rw [if_pos ((nI_eq (by omega) (by omega)).1 w)] at ih
        rw [ez, nI_1, b_and]; exact ih
  exact main (2 ^ n) 0 (by omega)
end RAT
