/-! PURE, the class: crossesOdd, interleavesOdd, negatives -/
theorem x_par {f : Nat → Bool} : ∀ (n : Nat), (x_cn n f % 2 = 1) ↔ x_xs n f = true
  | 0 => ⟨fun h => absurd (show (0 : Nat) % 2 = 1 from h) (by decide), fun h => Bool.noConfusion h⟩
  | n + 1 => by
    have ih := x_par (f := f) n
    show ((x_cn n f + (if f n = true then 1 else 0)) % 2 = 1) ↔ (x_xs n f ^^ f n) = true
    cases h1 : x_xs n f <;> cases h2 : f n
    · rw [h1] at ih
      have : ¬ x_cn n f % 2 = 1 := fun z => Bool.noConfusion (ih.mp z)
      simp; omega
    · rw [h1] at ih
      have : ¬ x_cn n f % 2 = 1 := fun z => Bool.noConfusion (ih.mp z)
      simp; omega
    · rw [h1] at ih
      have := ih.mpr rfl
      simp; omega
    · rw [h1] at ih
      have := ih.mpr rfl
      simp; omega
/-- whether an odd number of a set's elements stand between i and j -/
def x_cr (S i j : Nat) : Bool := x_xs 12 (fun k => S.testBit k && decide (i < k ∧ k < j))
def x_bw (i j : Nat) : Nat := 2 ^ j - 2 ^ (i + 1)
theorem x_bwb : ∀ i, i < 12 → ∀ j, j < 12 → i < j → ∀ k, k < 12 → (x_bw i j).testBit k = decide (i < k ∧ k < j) := by decide +kernel
theorem b_low : ∀ i, i < 12 → ∀ j, j < 12 → i < j → nI (2 ^ i ||| 2 ^ j) &&& (- nI (2 ^ i ||| 2 ^ j)) = nI (2 ^ i) := by decide +kernel
theorem b_bw : ∀ i, i < 12 → ∀ j, j < 12 → i < j → ((nI (2 ^ i ||| 2 ^ j) ^^^ nI (2 ^ i)) - 1) &&& (((2 * nI (2 ^ i)) - 1) ^^^ (-1)) = nI (x_bw i j) := by decide +kernel
theorem b_odd (k : Nat) (hk : k < 2 ^ 31) : (nI k &&& 1 = 0) ↔ ¬ k % 2 = 1 := by
  rw [pk_andN (show k < 2 ^ 32 by omega) (m := 1) 1 (by decide), show 2 ^ 1 = 2 from rfl]
  rcases (show k % 2 = 0 ∨ k % 2 = 1 by omega) with h | h
  · rw [h]; exact ⟨fun _ => by decide, fun _ => rfl⟩
  · rw [h]; exact ⟨fun z => absurd z (by decide), fun z => absurd rfl z⟩
theorem x_crn {S i j : Nat} (hi : i < 12) (hj : j < 12) (hij : i < j) : (x_n (S &&& x_bw i j) % 2 = 1) ↔ x_cr S i j = true := by
  rw [show x_n (S &&& x_bw i j) = x_cn 12 (fun k => (S &&& x_bw i j).testBit k) from rfl, x_par]
  have : x_xs 12 (fun k => (S &&& x_bw i j).testBit k) = x_cr S i j := x_xsc 12 (fun k hk => by rw [Nat.testBit_and, x_bwb i hi j hj hij k hk])
  rw [this]
theorem c_crosses {post : Int32 → Prop} {S i j : Nat} (hS : S < 4096) (hi : i < 12) (hj : j < 12) (hij : i < j) (h : post (if x_cr S i j = true then 1 else 0)) : w294_wp post (nI S) (nI (2 ^ i ||| 2 ^ j)) := by
  unfold w294_wp
  intro z1 e1 z2 e2
  rw [b_low i hi j hj hij] at e1
  rw [e1, b_bw i hi j hj hij] at e2
  have hl : S &&& x_bw i j < 4096 := Nat.lt_of_le_of_lt Nat.and_le_left hS
  have hn := x_nle (S &&& x_bw i j)
  rw [e2, b_and]
  refine b_bc hl ?_
  rw [b_odd _ (by omega), x_crn hi hj hij]
  refine ⟨fun q => ⟨rfl, ?_⟩, fun q => ⟨rfl, ?_⟩⟩
  · rw [if_neg q] at h; exact h
  · have q : x_cr S i j = true := Classical.byContradiction (fun z => q z)
    rw [if_pos q] at h; exact h
/-- the pairs, counted -/
theorem x_divn {S e : Nat} (hS : S < 4096) (he : S.testBit e = false) : (x_n (S / 2 ^ e) % 2 = 1) ↔ x_od S e = true := by
  rw [show x_n (S / 2 ^ e) = x_cn 12 (fun k => (S / 2 ^ e).testBit k) from rfl, x_par]
  unfold x_od
  have h1 : ∀ m, x_xs (e + m) (fun i => decide (e < i) && S.testBit i) = x_xs m (fun k => (S / 2 ^ e).testBit k) := by
    intro m
    induction m with
    | zero => exact x_xs0 e (fun i hi => by rw [decide_eq_false (show ¬ e < i by omega)]; rfl)
    | succ m ih =>
      show (x_xs (e + m) (fun i => decide (e < i) && S.testBit i) ^^ (decide (e < e + m) && S.testBit (e + m))) = (x_xs m (fun k => (S / 2 ^ e).testBit k) ^^ (S / 2 ^ e).testBit m)
      rw [ih, x_db]
      by_cases q : m = 0
      · subst q; rw [Nat.add_zero, he, Bool.and_false]
      · rw [decide_eq_true (show e < e + m by omega), Bool.true_and]
  by_cases q : e ≤ 12
  · have h2 := h1 (12 - e)
    rw [show e + (12 - e) = 12 by omega] at h2
    rw [h2]
    have := x_xsm (f := fun k => (S / 2 ^ e).testBit k) (n := 12 - e) e (fun i h3 h4 => by rw [x_db, x_hi (n := 12) hS (show 12 ≤ e + i by omega)])
    rw [show 12 - e + e = 12 by omega] at this
    rw [this]
  · have z1 : x_xs 12 (fun k => (S / 2 ^ e).testBit k) = false := x_xs0 12 (fun i _ => by rw [x_db, x_hi (n := 12) hS (show 12 ≤ e + i by omega)])
    have z2 : x_xs 12 (fun i => decide (e < i) && S.testBit i) = false := x_xs0 12 (fun i hi => by rw [decide_eq_false (show ¬ e < i by omega)]; rfl)
    rw [z1, z2]
section CSG
variable {a cm np ns : Nat} {pa sa : Nat → Nat} {pp : Nat → px_PR} {ss : Nat → px_SR} {mc ms : Nat} {q_o l_o : Nat} {o_r : Int32} {g_o g_t : Nat → Int32} {mm : Nat → px_MR} {n r : Nat} {b : Nat → Bool}
theorem c_inter {post : Int32 → Nat → Nat → Int32 → (Nat → Int32) → (Nat → Int32) → (Nat → px_MR) → Prop} {S U : Nat} (hS : S < 4096) (hU : U < 4096) (hd : ∀ i, i < 12 → U.testBit i = true → S.testBit i = false) (h : post (if x_il S U = true then 1 else 0) q_o l_o o_r g_o g_t mm) : w265_wp a cm np ns pa sa pp ss post (nI S) (nI U) q_o l_o o_r g_o g_t mm := by
  have main : ∀ (u k N : Nat), k + u = 12 → N ≤ 12 * k → ((N % 2 = 1) ↔ x_xs k (fun u => U.testBit u && x_od S u) = true) → w265_L5 a cm np ns pa sa pp ss post (u + 1) (nI S) (nI U) (nI N) (nI k) q_o l_o o_r g_o g_t mm := by
    intro u
    induction u with
    | zero =>
      intro k N hk hN hp
      have : k = 12 := by omega
      subst this
      unfold w265_L5
      refine ⟨fun _ => ?_, fun z => absurd (Int32.le_refl 12) z⟩
      rw [b_odd N (by omega), hp]
      refine ⟨fun q => ⟨rfl, ?_⟩, fun q => ⟨rfl, ?_⟩⟩
      · rw [if_neg (show ¬ x_il S U = true from q)] at h; exact h
      · rw [if_pos (show x_il S U = true from Classical.byContradiction (fun z => q z))] at h; exact h
    | succ u ih =>
      intro k N hk hN hp
      unfold w265_L5 w265_L31
      refine ⟨fun z => absurd z (show ¬ nI 12 ≤ nI k from nI_ge (by omega) (by decide)), fun _ => ⟨fun q z1 e1 => ?_, fun q => ?_⟩⟩
      · have q := (b_bit0 (show U < 2 ^ 31 by omega) (show k < 32 by omega)).mp q
        rw [e1, nI_1]
        refine ih (k + 1) N (by omega) (by omega) ?_
        rw [hp]
        show _ ↔ (x_xs k (fun u => U.testBit u && x_od S u) ^^ (U.testBit k && x_od S k)) = true
        rw [q, Bool.false_and, Bool.xor_false]
      · have q : U.testBit k = true := by
          cases hh : U.testBit k
          · exact absurd ((b_bit0 (show U < 2 ^ 31 by omega) (show k < 32 by omega)).mpr hh) q
          · rfl
        have hdk := hd k (by omega) q
        have hle : S / 2 ^ k ≤ S := Nat.div_le_self _ _
        rw [b_shr (show S < 2 ^ 31 by omega) (show k < 32 by omega)]
        refine b_bc (by omega) (fun z3 e3 z1 e1 => ?_)
        have hb := x_nle (S / 2 ^ k)
        have hv := x_divn hS hdk
        rw [e3, e1, nI_add, nI_1]
        refine ih (k + 1) _ (by omega) (by omega) ?_
        show _ ↔ (x_xs k (fun u => U.testBit u && x_od S u) ^^ (U.testBit k && x_od S k)) = true
        rw [q, Bool.true_and]
        cases h1 : x_xs k (fun u => U.testBit u && x_od S u) <;> cases h2 : x_od S k
        · rw [h1] at hp; rw [h2] at hv
          have a1 : ¬ N % 2 = 1 := fun z => Bool.noConfusion (hp.mp z)
          have a2 : ¬ x_n (S / 2 ^ k) % 2 = 1 := fun z => Bool.noConfusion (hv.mp z)
          simp; omega
        · rw [h1] at hp; rw [h2] at hv
          have a1 : ¬ N % 2 = 1 := fun z => Bool.noConfusion (hp.mp z)
          have a2 := hv.mpr rfl
          simp; omega
        · rw [h1] at hp; rw [h2] at hv
          have a1 := hp.mpr rfl
          have a2 : ¬ x_n (S / 2 ^ k) % 2 = 1 := fun z => Bool.noConfusion (hv.mp z)
          simp; omega
        · rw [h1] at hp; rw [h2] at hv
          have a1 := hp.mpr rfl
          have a2 := hv.mpr rfl
          simp; omega
  unfold w265_wp
  refine ⟨13, ?_⟩
  have := main 12 0 0 (by omega) (Nat.le_refl 0) ⟨fun z => by omega, fun z => Bool.noConfusion z⟩
  rw [nI_0] at this
  exact this
/-- the least element -/
def x_ls (S : Nat) : Nat := ((List.range 12).find? (fun e => S.testBit e)).getD 0
set_option maxRecDepth 100000 in
theorem b_ls : ∀ S, S < 4096 → (S = 0 ∨ (nI S &&& (- nI S) = nI (2 ^ x_ls S) ∧ S.testBit (x_ls S) = true ∧ x_ls S < 12 ∧ (List.range (x_ls S)).all (fun e => !S.testBit e) = true)) := by decide +kernel
/-- the signs that tell of an element against the least -/
def x_neg1 (s : Nat → Int32) (B e l : Nat) : Bool := if x_cr B l e = true then decide (s B * s (x_t (x_t B e) l) < 0) else decide (0 < s B * s (x_t (x_t B e) l))
def x_ngk (s : Nat → Int32) (B C : Nat) : Nat → Nat
  | 0 => 0
  | k + 1 => if C.testBit k = true ∧ k ≠ x_ls C ∧ x_neg1 s B k (x_ls C) = true then x_ngk s B C k ||| 2 ^ k else x_ngk s B C k
/-- the basis that a circuit without its least element is part of -/
def x_cb (b : Nat → Bool) (n C : Nat) : Nat := x_ra b (x_mi (2 ^ n - 1) (x_t C (x_ls C))) n (x_t C (x_ls C))
theorem x_rain {set g : Nat} (hd : ∀ i, g.testBit i = true → set.testBit i = false) (k : Nat) : g ||| (x_ra b set k g &&& set) = x_ra b set k g := by
  apply Nat.eq_of_testBit_eq
  intro i
  rw [Nat.testBit_or, Nat.testBit_and]
  cases h1 : g.testBit i
  · cases h2 : (x_ra b set k g).testBit i
    · rfl
    · rcases x_rab k i h2 with z | z
      · rw [h1] at z; exact Bool.noConfusion z
      · rw [z.2]; rfl
  · rw [x_ras k i h1]; rfl
theorem c_neg32 {post : Int32 → Nat → Nat → Int32 → (Nat → Int32) → (Nat → Int32) → (Nat → px_MR) → Prop} {B C kc ks : Nat} {s : Nat → Int32} {x1 : Int32} (ha : a < cm) (hn : n ≤ 12) (hs : (mm a).2.1 13 = nI n) (hl6 : 2 ^ n ≤ (mm a).2.2.1 6) (h6 : ∀ S, S < 2 ^ n → (mm a).2.2.2.1 6 S = s S) (hC : C < 2 ^ n) (hC0 : C ≠ 0) (hB : B < 2 ^ n) (h : post (nI (x_ngk s B C n)) q_o l_o o_r g_o g_t mm) :
    ∀ (u k : Nat), k + u = n → w293_L32 a cm np ns pa sa pp ss mc ms post (u + 1) x1 (nI (2 ^ x_ls C)) (nI (x_t C (x_ls C))) (nI B) (nI (x_ngk s B C k)) (nI k) q_o l_o o_r g_o g_t mm kc ks := by
  have hp := b_p12 hn
  obtain ⟨_, hlt, hl12, hall⟩ := (b_ls C (by omega)).resolve_left hC0
  have hle : ∀ e, C.testBit e = true → x_ls C ≤ e := fun e he => by
    refine Classical.byContradiction (fun q => ?_)
    have := List.all_eq_true.mp hall e (List.mem_range.mpr (by omega))
    rw [he] at this; exact Bool.noConfusion this
  have hlsn : x_ls C < n := by
    refine Classical.byContradiction (fun q => ?_)
    rw [x_hi hC (show n ≤ x_ls C by omega)] at hlt; exact Bool.noConfusion hlt
  generalize hL : x_ls C = L at *
  have ngl : ∀ k, k ≤ n → x_ngk s B C k < 2 ^ n := by
    intro k
    induction k with
    | zero => intro _; exact Nat.two_pow_pos n
    | succ k ih =>
      intro hk
      show (if C.testBit k = true ∧ k ≠ x_ls C ∧ x_neg1 s B k (x_ls C) = true then x_ngk s B C k ||| 2 ^ k else x_ngk s B C k) < 2 ^ n
      split
      · exact Nat.or_lt_two_pow (ih (by omega)) (Nat.pow_lt_pow_right (by decide) (by omega))
      · exact ih (by omega)
  intro u
  induction u with
  | zero =>
    intro k hk
    have : k = n := by omega
    subst this
    unfold w293_L32
    rw [hs]
    exact ⟨ha, fun _ => h, fun z => absurd (nI_le (Nat.le_refl k) (by omega)) z⟩
  | succ u ih =>
    intro k hk
    have hng : x_ngk s B C (k + 1) = if C.testBit k = true ∧ k ≠ L ∧ x_neg1 s B k L = true then x_ngk s B C k ||| 2 ^ k else x_ngk s B C k := by
      rw [← hL]; rfl
    unfold w293_L32 w293_L129
    rw [hs, b_one _ k (by omega) (by have := x_tl hC hlsn; omega)]
    refine ⟨ha, fun z => absurd z (nI_ge (by omega) (by omega)), fun _ z3 e3 => ⟨fun q z1 e1 => ?_, fun q => ?_⟩⟩
    · have hk0 : ¬ (C.testBit k = true ∧ k ≠ L) := by
        rintro ⟨q1, q2⟩
        rw [x_tbn q2, q1, if_pos rfl] at e3
        rw [e3] at q
        exact nI_ne0 (Nat.two_pow_pos k) (Nat.pow_lt_pow_right (by decide) (by omega)) q
      rw [e1, nI_1]
      have := ih (k + 1) (by omega)
      rw [hng, if_neg (fun z => hk0 ⟨z.1, z.2.1⟩)] at this
      exact this
    · have hk1 : (x_t C L).testBit k = true := Classical.byContradiction (fun z => q (by rw [e3, if_neg z]; rfl))
      have hkL : k ≠ L := fun z => by rw [z, x_tbs, hlt] at hk1; exact Bool.noConfusion hk1
      have hkC : C.testBit k = true := by rw [x_tbn hkL] at hk1; exact hk1
      rw [if_pos hk1] at e3
      have hLk : L < k := by have := hle k hkC; omega
      have hB2 : x_t (x_t B k) L < 2 ^ n := x_tl (x_tl hB (by omega)) hlsn
      rw [e3, b_xor, show B ^^^ 2 ^ k = x_t B k from rfl, b_xor, show x_t B k ^^^ 2 ^ L = x_t (x_t B k) L from rfl, nI_clamp (show B < 2 ^ 31 by omega), nI_clamp (show x_t (x_t B k) L < 2 ^ 31 by omega), h6 B hB, h6 _ hB2, b_or, Nat.or_comm]
      have fin : ∀ y : Int32, (y = if x_neg1 s B k L = true then 1 else 0) → ∀ z4, w293_L111 (w293_L32 a cm np ns pa sa pp ss mc ms post (u + 1)) a cm np ns pa sa pp ss mc ms post x1 (nI (2 ^ L)) (nI (x_t C L)) (nI B) (nI (x_ngk s B C k)) (nI k) (nI (2 ^ k)) z4 y q_o l_o o_r g_o g_t mm kc ks := by
        intro y ey z4
        unfold w293_L111 w293_L126 w293_L129
        have := ih (k + 1) (by omega)
        refine ⟨fun y0 z2 e2 z1 e1 => ?_, fun y0 z2 e2 z1 e1 => ?_⟩
        · rw [ey] at y0
          rw [hng, if_neg (fun z => by rw [b_b00 y0] at z; exact Bool.noConfusion z.2.2)] at this
          rw [e1, nI_1, e2, show (0 : Int32) = nI 0 from rfl, b_or, Nat.or_zero]
          exact this
        · rw [ey] at y0
          rw [hng, if_pos ⟨hkC, hkL, b_b10 y0⟩] at this
          rw [e1, nI_1, e2, b_or]
          exact this
      refine ⟨ha, ha, b_in (by omega) (by omega), ha, ha, b_in (by omega) (by omega), fun z4 e4 => c_crosses (by omega) hl12 (by omega) hLk ⟨fun c => ?_, fun c => ?_⟩⟩
      · have c := b_b00 c
        have e0 : x_neg1 s B k L = decide (0 < s B * s (x_t (x_t B k) L)) := if_neg (by rw [c]; simp)
        rw [e4]
        refine ⟨fun d => fin 0 ?_ _, fun d => fin 1 ?_ _⟩
        · rw [e0, decide_eq_false (fun z => absurd (Int32.lt_of_lt_of_le z d) Int32.lt_irrefl)]; rfl
        · rw [e0, decide_eq_true (Int32.not_le.mp d)]; rfl
      · have c := b_b10 c
        have e0 : x_neg1 s B k L = decide (s B * s (x_t (x_t B k) L) < 0) := if_pos c
        rw [e4]
        refine ⟨fun d => fin 0 ?_ _, fun d => fin 1 ?_ _⟩
        · rw [e0, decide_eq_false (fun z => absurd (Int32.lt_of_le_of_lt d z) Int32.lt_irrefl)]; rfl
        · rw [e0, decide_eq_true (Int32.not_le.mp d)]; rfl
/-- negatives -/
theorem c_neg {post : Int32 → Nat → Nat → Int32 → (Nat → Int32) → (Nat → Int32) → (Nat → px_MR) → Prop} {C : Nat} {s : Nat → Int32} (ha : a < cm) (hB : c_B (mm a) n r b) (hK : c_K (mm a) n b) (h6 : ∀ S, S < 2 ^ n → (mm a).2.2.2.1 6 S = s S) (hC : C < 2 ^ n) (hC0 : C ≠ 0) (hmc : c_rc (mm a) n ≤ mc) (hms : c_rs (mm a) n ≤ ms)
    (h : ∀ M', c_Q (mm a) M' n b → post (nI (x_ngk s (x_cb b n C) C n)) q_o l_o o_r g_o g_t (va_up mm a M')) : w293_wp a cm np ns pa sa pp ss mc ms post (nI C) q_o l_o o_r g_o g_t mm := by
  have hn := hB.2.2.1.1
  have hp := b_p12 hn
  obtain ⟨hlow, hlt, hl12, hall⟩ := (b_ls C (by omega)).resolve_left hC0
  have hlsn : x_ls C < n := by
    refine Classical.byContradiction (fun q => ?_)
    rw [x_hi hC (show n ≤ x_ls C by omega)] at hlt; exact Bool.noConfusion hlt
  have ho := x_tl hC hlsn
  unfold w293_wp
  intro z6 e6 z7 e7
  rw [hlow] at e6
  rw [e6, b_xor, show C ^^^ 2 ^ x_ls C = x_t C (x_ls C) from rfl] at e7
  have hset : x_mi (2 ^ n - 1) (x_t C (x_ls C)) < 2 ^ n := x_milt (Nat.sub_lt (Nat.two_pow_pos n) (by decide))
  refine ⟨ha, c_all ha hn hB.1 ⟨mc, ms, by omega, by omega, ha, ?_⟩⟩
  rw [e7, b_nand (show 2 ^ n - 1 < 2 ^ 31 by omega) (show x_t C (x_ls C) < 2 ^ 31 by omega)]
  show w261_wp a cm np ns pa sa pp ss mc ms _ (nI (x_t C (x_ls C))) (nI (x_mi (2 ^ n - 1) (x_t C (x_ls C)))) q_o l_o o_r g_o g_t mm
  refine c_raisers ha hB hK hset ho hmc hms (fun M' hQ z23 e23 => ⟨n + 1, ?_⟩)
  rw [e6, e23, b_or, x_rain (fun i hi => by rw [x_mib, hi, Bool.not_true, Bool.and_false])]
  have hcb : x_cb b n C < 2 ^ n := x_lo hn (fun i hi hni => by
    cases hh : (x_cb b n C).testBit i
    · rfl
    · rcases x_rab n i hh with z | z
      · rw [x_hi ho hni] at z; exact Bool.noConfusion z
      · omega) (x_ral (Nat.le_refl 12) (by omega) n hn)
  have hB' := c_QB hB hQ
  have := c_neg32 (np := np) (ns := ns) (pa := pa) (sa := sa) (pp := pp) (ss := ss) (q_o := q_o) (l_o := l_o) (o_r := o_r) (g_o := g_o) (g_t := g_t) (mm := va_up mm a M') (mc := mc) (ms := ms) (kc := 0 + mc) (ks := 0 + ms) (post := post) (B := x_cb b n C) (C := C) (s := s) (x1 := nI C) ha hn (by rw [va_up_self]; exact hB'.1) (by rw [va_up_self]; exact hB'.2.2.2.1) (fun S hS => by rw [va_up_self, hQ.2.1.2.2.2.1 6 (by decide)]; exact h6 S hS) hC hC0 hcb (h M' hQ) n 0 (by omega)
  rw [nI_0] at this
  exact this
end CSG
