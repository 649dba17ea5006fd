/-! PURE, the class: Arrays.copyOf, circuits, which sets belong to a list, the lists -/
theorem b_min {P : Int32 → Prop} {x y : Nat} (hx : x < 2 ^ 31) (hy : y < 2 ^ 31) (h : P (nI (min x y))) : w183_wp P (nI x) (nI y) := by
  unfold w183_wp
  first
  | (unfold w183_L10
     refine ⟨fun q => ?_, fun q => ?_⟩
     · rw [nI_ltI hy hx] at q
       rw [show min x y = y by omega] at h
       exact h
     · rw [nI_ltI hy hx] at q
       rw [show min x y = x by omega] at h
       exact h)
  | (unfold w183_L10
     refine ⟨fun q => ?_, fun q => ?_⟩
     · rw [nI_leI hx hy] at q
       rw [show min x y = x by omega] at h
       exact h
     · rw [nI_leI hx hy] at q
       rw [show min x y = y by omega] at h
       exact h)
  | (unfold w183_L10
     refine ⟨fun q => ?_, fun q => ?_⟩
     · rw [nI_leI hx hy] at q
       rw [show min x y = y by omega] at h
       exact h
     · rw [nI_leI hx hy] at q
       rw [show min x y = x by omega] at h
       exact h)
theorem b_copyI {l N mc ms : Nat} {post : Nat → Nat → (Nat → Int32) → (Nat → Int32) → Prop} {g : Nat → Int32} (hl : l < N) (hN : N ≤ 134217728) (hmc : 1 ≤ mc) (hms : N ≤ ms) (h : ∀ q f, (∀ i, i < l → f i = g i) → post q N f g) : w182_wp l mc ms post (nI N) g := by
  unfold w182_wp
  rw [nI_clamp (show N < 2 ^ 31 by omega)]
  refine ⟨fun _ => ⟨nI_pos (by omega), by omega, by omega, by omega, fun q => b_min (by omega) (by omega) ?_⟩, fun e => by rw [nI_eq (by omega) (by omega)] at e; omega⟩
  rw [show min l N = l by omega, nI_clamp (show l < 2 ^ 31 by omega)]
  have z0 : Int32.toNatClampNeg 0 = 0 := by decide +kernel
  rw [z0]
  refine ⟨by decide, by decide, nI_pos (by omega), by omega, by omega, fun _ _ => rfl, fun f ef => h q f (fun i hi => ?_)⟩
  rw [ef]
  unfold va_cpy
  rw [if_pos (by omega)]
  congr 1
  omega
theorem b_copyB {l N mc ms : Nat} {post : Nat → Nat → (Nat → Int32) → (Nat → Int32) → Prop} {g : Nat → Int32} (hl : l < N) (hN : N ≤ 134217728) (hg : ∀ i, i < l → fits .byte (.int (g i)) = true) (hmc : 1 ≤ mc) (hms : N ≤ ms) (h : ∀ q f, (∀ i, i < l → f i = g i) → post q N f g) : w200_wp l mc ms post (nI N) g := by
  unfold w200_wp
  rw [nI_clamp (show N < 2 ^ 31 by omega)]
  refine ⟨fun _ => ⟨nI_pos (by omega), by omega, by omega, by omega, fun q => b_min (by omega) (by omega) ?_⟩, fun e => by rw [nI_eq (by omega) (by omega)] at e; omega⟩
  rw [show min l N = l by omega, nI_clamp (show l < 2 ^ 31 by omega)]
  have z0 : Int32.toNatClampNeg 0 = 0 := by decide +kernel
  rw [z0]
  refine ⟨by decide, by decide, nI_pos (by omega), by omega, by omega, fun i hi => by rw [Nat.zero_add]; exact hg i hi, fun f ef => h q f (fun i hi => ?_)⟩
  rw [ef]
  unfold va_cpy
  rw [if_pos (by omega)]
  congr 1
  omega
section CLI
variable {a cm np ns : Nat} {pa sa : Nat → Nat} {pp : Nat → px_PR} {ss : Nat → px_SR} {mc ms : Nat} {q_o l_o : Nat} {o_r : Int32} {g_o g_t : Nat → Int32} {mm : Nat → px_MR} {kc ks : Nat} {n r : Nat} {b : Nat → Bool}
theorem x_rle (h : x_M n r b) : r ≤ 12 := by
  obtain ⟨B, hb⟩ := h.2.1
  have := (h.2.2.1 B hb).2
  have := x_nle B
  omega
theorem b_pred {k r : Nat} (hk : k < 100) (hr : r < 100) : (nI k = nI r - 1) ↔ k + 1 = r := by
  by_cases q : r = 0
  · subst q
    constructor
    · intro e
      have : nI 0 - 1 = -1 := by decide
      rw [this] at e
      have h1 := nI_pos (n := k) (by omega)
      rw [e] at h1
      exact absurd (by decide) h1
    · intro e; omega
  · obtain ⟨s, rfl⟩ : ∃ s, r = s + 1 := ⟨r - 1, by omega⟩
    rw [nI_pred, nI_eq (by omega) (by omega)]
    omega
theorem b_ifd {P Q : Prop} {post : Int32 → Prop} (d : Bool) (c : Prop) (hd : (d = true) ↔ c) (h : post (if d = true then 1 else 0)) : (¬ c → post 0) ∧ (c → post 1) := by
  cases d
  · exact ⟨fun _ => h, fun z => absurd (hd.mpr z) (by simp)⟩
  · exact ⟨fun z => absurd (hd.mp rfl) z, fun _ => h⟩
theorem c_isCircuit {post : Int32 → Nat → Nat → Int32 → (Nat → Int32) → (Nat → Int32) → (Nat → px_MR) → Prop} {S : Nat} (ha : a < cm) (hB : c_B (mm a) n r b) (hR : c_R (mm a) n b) (hS : S < 2 ^ n) (h : post (if x_ci b n S = true then 1 else 0) q_o l_o o_r g_o g_t mm) : w275_wp a cm np ns pa sa pp ss post (nI S) q_o l_o o_r g_o g_t mm := by
  have hn := hB.2.2.1.1
  have hp := b_p12 hn
  have hl := hR.2.1
  have r3 := x_rle hB.2.2.1
  have hnS := x_nle S
  let A : Bool := decide (x_rk b S + 1 = x_n S)
  let p : Nat → Bool := fun e => !S.testBit e || decide (x_rk b (x_t S e) + 1 = x_n S)
  have fin : ∀ x3 : Int32, w275_L75 a cm np ns pa sa pp ss post (nI S) (nI (x_n S) - 1) (if x_ci b n S = true then 1 else 0) x3 q_o l_o o_r g_o g_t mm := fun x3 => ⟨b_bb _, h⟩
  have main : ∀ (t k : Nat), k + t = n → w275_L26 a cm np ns pa sa pp ss post (t + 1) (nI S) (nI (x_n S) - 1) (if (A && (List.range k).all p) = true then 1 else 0) (nI k) q_o l_o o_r g_o g_t mm := by
    intro t
    induction t with
    | zero =>
      intro k hk
      have hkn : k = n := by omega
      subst hkn
      unfold w275_L26
      rw [hB.1]
      exact ⟨ha, fun _ => fin _, fun q => absurd (nI_le (Nat.le_refl k) (by omega)) q⟩
    | succ t ih =>
      intro k hk
      unfold w275_L26 w275_L63 w275_L68
      rw [hB.1]
      refine ⟨ha, fun q => absurd q (nI_ge (by omega) (by omega)), fun _ => ⟨fun q => ?_, fun q => ?_⟩⟩
      · have q' := b_b00 q
        have e : x_ci b n S = false := by
          show (A && (List.range n).all p) = false
          cases hA : A
          · rfl
          · rw [hA, Bool.true_and] at q'
            rw [b_ball0 (show k ≤ n by omega) q']; rfl
        have := fin (nI k)
        rw [e] at this
        rw [q']
        exact this
      · have q := b_b10 q
        rw [Bool.and_eq_true] at q
        have ih := ih (k + 1) (by omega)
        rw [b_allr, q.1, q.2, Bool.true_and, Bool.true_and] at ih
        have ih : ∀ x : Int32, x = (if (!S.testBit k || decide (x_rk b (x_t S k) + 1 = x_n S)) = true then 1 else 0) → w275_L26 a cm np ns pa sa pp ss post (t + 1) (nI S) (nI (x_n S) - 1) x (nI (k + 1)) q_o l_o o_r g_o g_t mm := fun x ex => by rw [ex]; exact ih
        refine ⟨fun c z ez => ?_, fun c => ?_⟩
        · have c := (b_bit0 (show S < 2 ^ 31 by omega) (show k < 32 by omega)).mp c
          rw [ez, nI_1]
          exact ih 1 (by rw [c]; rfl)
        · have c : S.testBit k = true := by
            cases hh : S.testBit k
            · exact absurd ((b_bit0 (show S < 2 ^ 31 by omega) (show k < 32 by omega)).mpr hh) c
            · rfl
          have hol : x_t S k < 2 ^ n := x_tl hS (by omega)
          have r1 := x_rkr hB.2.2.1 (x_t S k)
          rw [b_sh (show k < 31 by omega), b_xor, show S ^^^ 2 ^ k = x_t S k from rfl, nI_clamp (show x_t S k < 2 ^ 31 by omega), hR.2.2 _ hol, b_pred (by omega) (by omega)]
          refine ⟨ha, ha, b_in (by omega) (by omega), fun d z ez => ?_, fun d z ez => ?_⟩
          · rw [ez, nI_1]
            exact ih 0 (by rw [c, decide_eq_false d]; rfl)
          · rw [ez, nI_1]
            exact ih 1 (by rw [c, decide_eq_true d]; rfl)
  have start : w275_L22 a cm np ns pa sa pp ss post (nI S) (nI (x_n S) - 1) (if A = true then 1 else 0) q_o l_o o_r g_o g_t mm := by
    unfold w275_L22
    refine ⟨n + 1, ?_⟩
    have := main n 0 (by omega)
    rw [nI_0] at this
    have e : (A && (List.range 0).all p) = A := by show (A && true) = A; rw [Bool.and_true]
    rw [e] at this
    exact this
  unfold w275_wp
  refine b_bc (by omega) (fun z3 e3 => ?_)
  have r2 := x_rkr hB.2.2.1 S
  rw [e3, nI_clamp (show S < 2 ^ 31 by omega), hR.2.2 _ hS, b_pred (by omega) (by omega)]
  refine ⟨ha, ha, b_in (by omega) (by omega), fun d => ?_, fun d => ?_⟩
  · have e : A = false := decide_eq_false d
    rw [e] at start
    exact start
  · have e : A = true := decide_eq_true d
    rw [e] at start
    exact start
/-- whether a set belongs to a list: 0 bases, 1 circuits, 2 cocircuits, 3 flats -/
def x_of (b : Nat → Bool) (n r kind S : Nat) : Bool := if kind = 0 then b S else if kind = 1 then x_ci b n S else if kind = 2 then (decide (x_rk b (x_co n S) + 1 = r) && x_fl b n (x_co n S)) else x_fl b n S
theorem c_belongs {post : Int32 → Nat → Nat → Int32 → (Nat → Int32) → (Nat → Int32) → (Nat → px_MR) → Prop} {S kind : Nat} (ha : a < cm) (hB : c_B (mm a) n r b) (hR : c_R (mm a) n b) (hS : S < 2 ^ n) (hk : kind < 4) (h : post (if x_of b n r kind S = true then 1 else 0) q_o l_o o_r g_o g_t mm) : w274_wp a cm np ns pa sa pp ss post (nI kind) (nI S) q_o l_o o_r g_o g_t mm := by
  have hn := hB.2.2.1.1
  have hp := b_p12 hn
  have hl := hR.2.1
  have r3 := x_rle hB.2.2.1
  unfold w274_wp
  refine ⟨ha, c_all ha hn hB.1 (fun z8 e8 => ?_)⟩
  rw [b_xor, show (2 ^ n - 1) ^^^ S = x_co n S from rfl] at e8
  have hco := x_col hS
  refine ⟨fun e => ?_, fun e => ⟨ha, ?_⟩, fun e => ?_, fun e1 e2 e3 => ⟨ha, ?_⟩⟩
  · have e : kind = 0 := (nI_eq (show kind < 2 ^ 31 by omega) (show 0 < 2 ^ 31 by decide)).mp (by rw [e]; rfl)
    subst e
    rw [nI_clamp (show S < 2 ^ 31 by omega)]
    have hb := hB.2.2.2.2.1 S hS
    have h : post (if b S = true then 1 else 0) q_o l_o o_r g_o g_t mm := h
    refine ⟨ha, ha, b_in (by have := hB.2.2.2.1; omega) (by omega), fun d => ⟨rfl, ?_⟩, fun d => ⟨rfl, ?_⟩⟩
    · rw [if_neg (fun z => hb.mp z d)] at h; exact h
    · rw [if_pos (hb.mpr d)] at h; exact h
  · have e : kind = 1 := (nI_eq (show kind < 2 ^ 31 by omega) (show 1 < 2 ^ 31 by decide)).mp (by rw [e]; rfl)
    subst e
    exact c_isCircuit ha hB hR hS ⟨b_bb _, h⟩
  · have e : kind = 2 := (nI_eq (show kind < 2 ^ 31 by omega) (show 2 < 2 ^ 31 by decide)).mp (by rw [e]; rfl)
    subst e
    have h : post (if (decide (x_rk b (x_co n S) + 1 = r) && x_fl b n (x_co n S)) = true then 1 else 0) q_o l_o o_r g_o g_t mm := h
    have r1 := x_rkr hB.2.2.1 (x_co n S)
    rw [e8, nI_clamp (show x_co n S < 2 ^ 31 by omega), hR.2.2 _ hco, hB.2.1, b_pred (by omega) (by omega)]
    refine ⟨ha, ha, b_in (by omega) (by omega), ha, fun d => ⟨rfl, ?_⟩, fun d => ⟨ha, c_isFlat ha hB hR hco ⟨fun f => ⟨rfl, ?_⟩, fun f => ⟨rfl, ?_⟩⟩⟩⟩
    · rw [decide_eq_false d] at h; exact h
    · rw [decide_eq_true d, b_b00 f] at h; exact h
    · rw [decide_eq_true d, b_b10 f] at h; exact h
  · have c : kind = 3 := by
      have c0 : kind ≠ 0 := fun z => e1 (by rw [z]; rfl)
      have c1 : kind ≠ 1 := fun z => e2 (by rw [z]; rfl)
      have c2 : kind ≠ 2 := fun z => e3 (by rw [z]; rfl)
      omega
    subst c
    exact c_isFlat ha hB hR hS ⟨b_bb _, h⟩
end CLI
