/-! PURE, texts: tokens (t_ names are of texts); the class's Tokens -/
def t_let (c : Int32) : Bool := decide (¬ c < 97 ∧ c ≤ 122) || decide (¬ c < 65 ∧ ¬ 90 < c)
def t_dig (c : Int32) : Bool := decide (¬ c < 48 ∧ ¬ 57 < c)
def t_bl (c : Int32) : Bool := decide (c = 32) || decide (c = 10) || decide (c = 13) || decide (c = 9)
def t_sk (b : Nat → Int32) : Nat → Bool → Nat → Nat
  | 0, _, i => i
  | u + 1, cm, i => if (decide (b i = 35) || (cm && !decide (b i = 10))) = true then t_sk b u true (i + 1) else if t_bl (b i) = true then t_sk b u false (i + 1) else i
def t_run (P : Int32 → Bool) (b : Nat → Int32) : Nat → Nat → Nat
  | 0, i => i
  | u + 1, i => if P (b i) = true then t_run P b u (i + 1) else i
/-- n digits' value -/
def t_nv (b : Nat → Int32) (s : Nat) : Nat → Int32
  | 0 => 0
  | n + 1 => 10 * t_nv b s n + b (s + n) - 48
/-- the token behind place i: where it begins, its first digit, its end, its kind (0 end, 1 word, 2 number, 3 wrong, else the mark), its value -/
def t_j (b : Nat → Int32) (L i : Nat) : Nat := t_sk b (L - i) false i
def t_s (b : Nat → Int32) (L i : Nat) : Nat := if b (t_j b L i) = 45 then t_j b L i + 1 else t_j b L i
def t_mk (c : Int32) : Bool := decide (c = 123) || decide (c = 125) || decide (c = 44) || decide (c = 61) || decide (c = 59)
def t_e (b : Nat → Int32) (L i : Nat) : Nat :=
  if L ≤ t_j b L i then t_j b L i
  else if t_let (b (t_j b L i)) = true then t_run t_let b (L - (t_j b L i + 1)) (t_j b L i + 1)
  else if b (t_j b L i) = 45 ∨ t_dig (b (t_j b L i)) = true then t_run t_dig b (L - t_s b L i) (t_s b L i)
  else t_j b L i + 1
def t_k (b : Nat → Int32) (L i : Nat) : Int32 :=
  if L ≤ t_j b L i then 0
  else if t_let (b (t_j b L i)) = true then 1
  else if b (t_j b L i) = 45 ∨ t_dig (b (t_j b L i)) = true then (if 1 ≤ t_e b L i - t_s b L i ∧ t_e b L i - t_s b L i ≤ 3 then 2 else 3)
  else if t_mk (b (t_j b L i)) = true then b (t_j b L i) else 3
def t_v (b : Nat → Int32) (L i : Nat) : Int32 := if b (t_j b L i) = 45 then - t_nv b (t_s b L i) (t_e b L i - t_s b L i) else t_nv b (t_s b L i) (t_e b L i - t_s b L i)
/-- the class's kinds -/
def t_ck (k : Int32) : Int32 := if k = 1 then 2 else if k = 2 then 3 else if k = 3 then 1 else k
theorem t_skl (b : Nat → Int32) : ∀ (u : Nat) (cm : Bool) (i : Nat), i ≤ t_sk b u cm i ∧ t_sk b u cm i ≤ i + u
  | 0, _, i => ⟨Nat.le_refl _, Nat.le_refl _⟩
  | u + 1, cm, i => by
    have h1 := t_skl b u true (i + 1)
    have h2 := t_skl b u false (i + 1)
    unfold t_sk
    split
    · omega
    · split <;> omega
theorem t_runl (P : Int32 → Bool) (b : Nat → Int32) : ∀ (u i : Nat), i ≤ t_run P b u i ∧ t_run P b u i ≤ i + u
  | 0, i => ⟨Nat.le_refl _, Nat.le_refl _⟩
  | u + 1, i => by
    have h1 := t_runl P b u (i + 1)
    unfold t_run
    split <;> omega
theorem t_jl {b : Nat → Int32} {L i : Nat} (h : i ≤ L) : i ≤ t_j b L i ∧ t_j b L i ≤ L := by
  have := t_skl b (L - i) false i
  unfold t_j
  omega
theorem t_el {b : Nat → Int32} {L i : Nat} (h : i ≤ L) : t_j b L i ≤ t_e b L i ∧ t_e b L i ≤ L ∧ (t_j b L i < L → t_j b L i < t_e b L i) := by
  have hj := t_jl (b := b) h
  unfold t_e
  split
  · omega
  · split
    · have := t_runl t_let b (L - (t_j b L i + 1)) (t_j b L i + 1)
      omega
    · split
      · rename_i h1 h2 h3
        have h4 := t_runl t_dig b (L - t_s b L i) (t_s b L i)
        by_cases w : b (t_j b L i) = 45
        · have e : t_s b L i = t_j b L i + 1 := if_pos w
          rw [e] at h4 ⊢
          omega
        · have e : t_s b L i = t_j b L i := if_neg w
          rw [e] at h4 ⊢
          have hd : t_dig (b (t_j b L i)) = true := by
            rcases h3 with q | q
            · exact absurd q w
            · exact q
          have e2 : t_run t_dig b (L - t_j b L i) (t_j b L i) = t_run t_dig b (L - (t_j b L i + 1)) (t_j b L i + 1) := by
            rw [show L - t_j b L i = (L - (t_j b L i + 1)) + 1 by omega]
            show (if _ then _ else _) = _
            rw [if_pos hd]
          have h5 := t_runl t_dig b (L - (t_j b L i + 1)) (t_j b L i + 1)
          omega
      · omega
theorem t_sl {b : Nat → Int32} {L i : Nat} : t_j b L i ≤ t_s b L i ∧ t_s b L i ≤ t_j b L i + 1 := by
  unfold t_s
  split <;> omega
theorem t_rdig {b : Nat → Int32} {L j : Nat} (h : j < L) (hd : t_dig (b j) = true) : t_run t_dig b (L - j) j = t_run t_dig b (L - (j + 1)) (j + 1) := by
  rw [show L - j = (L - (j + 1)) + 1 by omega]
  show (if _ then _ else _) = _
  rw [if_pos hd]
theorem c_let {post : Int32 → Prop} {c : Int32} (h : post (if t_let c = true then 1 else 0)) : w140_wp post c := by
  unfold w140_wp w140_L12 w140_L28 w140_L24 w140_L29
  refine ⟨fun w1 => ⟨fun w2 => ⟨rfl, ?_⟩, fun w2 => ⟨fun w3 => ⟨rfl, ?_⟩, fun w3 => ⟨rfl, ?_⟩⟩⟩, fun w1 => ⟨fun w2 => ⟨rfl, ?_⟩, fun w2 => ⟨fun w3 => ⟨rfl, ?_⟩, fun w3 => ⟨fun w4 => ⟨rfl, ?_⟩, fun w4 => ⟨rfl, ?_⟩⟩⟩⟩⟩ <;> simpa [t_let, *] using h
theorem c_dig {post : Int32 → Prop} {c : Int32} (h : post (if t_dig c = true then 1 else 0)) : w142_wp post c := by
  unfold w142_wp w142_L16 w142_L17
  refine ⟨fun w1 => ⟨rfl, ?_⟩, fun w1 => ⟨fun w2 => ⟨rfl, ?_⟩, fun w2 => ⟨rfl, ?_⟩⟩⟩ <;> simpa [t_dig, *] using h
section CTK
variable {N L : Nat} {b : Nat → Int32} {ts tk tv : Int32} {post : Int32 → Int32 → Int32 → Int32 → Int32 → (Nat → Int32) → Prop}
theorem c_skip {i : Nat} (hL : L ≤ N) (hN : N < 2 ^ 31) (hi : i ≤ L) (h : post (nI L) (nI (t_j b L i)) ts tk tv b) : w139_wp N post (nI L) (nI i) ts tk tv b := by
  unfold w139_wp
  have main : ∀ (u i : Nat) (cm : Bool), i + u = L → post (nI L) (nI (t_sk b u cm i)) ts tk tv b → w139_L2 N post (u + 1) (if cm = true then 1 else 0) (nI L) (nI i) ts tk tv b := by
    intro u
    induction u with
    | zero =>
      intro i cm hi h
      refine ⟨fun _ => h, fun w => absurd (nI_le (by omega) (by omega)) w⟩
    | succ u ih =>
      intro i cm hi h
      refine ⟨fun w => absurd w (nI_ge (by omega) (by omega)), fun _ => ⟨b_in (by omega) (by omega), fun z2 e2 => ?_⟩⟩
      rw [nI_clamp (by omega)] at e2
      have hT : (decide (b i = 35) || (cm && !decide (b i = 10))) = true → w139_L39 (w139_L2 N post (u + 1)) N post (if cm = true then 1 else 0) z2 (nI L) (nI i) ts tk tv b := by
        intro hc
        refine ⟨fun _ z e => ?_, fun w => absurd w (by decide)⟩
        rw [e, nI_1]
        have := ih (i + 1) true (by omega) (by
          have e : t_sk b (u + 1) cm i = t_sk b u true (i + 1) := by
            show (if _ then _ else _) = _
            rw [if_pos hc]
          rw [← e]; exact h)
        exact this
      have hF : (decide (b i = 35) || (cm && !decide (b i = 10))) = false → w139_L43 (w139_L2 N post (u + 1)) N post (if cm = true then 1 else 0) z2 (nI L) (nI i) ts tk tv b := by
        intro hc
        have hb : t_bl (b i) = true → w139_L74 (w139_L2 N post (u + 1)) N post 0 z2 (nI L) (nI i) ts tk tv b := by
          intro hb z e
          rw [e, nI_1]
          have := ih (i + 1) false (by omega) (by
            have e : t_sk b (u + 1) cm i = t_sk b u false (i + 1) := by
              show (if _ then _ else (if _ then _ else _)) = _
              rw [if_neg (by rw [hc]; decide), if_pos hb]
            rw [← e]; exact h)
          exact this
        refine ⟨fun w => absurd rfl w, fun _ => ⟨fun w => hb (by rw [t_bl, ← e2, w]; rfl), fun w1 => ⟨fun w => hb (by rw [t_bl, ← e2, w]; rfl), fun w2 => ⟨fun w => hb (by rw [t_bl, ← e2, w]; rfl), fun w3 => ⟨fun w => hb (by rw [t_bl, ← e2, w]; rfl), fun w4 => ?_⟩⟩⟩⟩⟩
        have e : t_sk b (u + 1) cm i = i := by
          show (if _ then _ else (if _ then _ else _)) = _
          rw [if_neg (by rw [hc]; decide), if_neg (by rw [t_bl, ← e2]; simp [w1, w2, w3, w4])]
        rw [e] at h
        exact h
      refine ⟨fun w => hT (by rw [← e2, w]; rfl), fun w => ⟨fun w2 => hF ?_, fun w2 => ⟨fun w3 => hF ?_, fun w3 => hT ?_⟩⟩⟩
      · have : cm = false := by
          cases cm
          · rfl
          · exact absurd w2 (by decide)
        rw [← e2, this]; simp [w]
      · rw [← e2, w3]; simp
      · have : cm = true := by
          cases cm
          · exact absurd rfl w2
          · rfl
        rw [← e2, this]; simp [w3]
  exact ⟨_, main (L - i) i false (by omega) h⟩
theorem c_word {i : Nat} (hL : L ≤ N) (hN : N < 2 ^ 31) (hi : i ≤ L) (h : post (nI L) (nI (t_run t_let b (L - i) i)) ts 2 tv b) : w141_wp N post (nI L) (nI i) ts tk tv b := by
  unfold w141_wp
  have main : ∀ (u i : Nat), i + u = L → post (nI L) (nI (t_run t_let b u i)) ts 2 tv b → w141_L5 N post (u + 1) (nI L) (nI i) ts 2 tv b := by
    intro u
    induction u with
    | zero =>
      intro i hi h
      refine ⟨fun _ => h, fun w => absurd (nI_le (by omega) (by omega)) w⟩
    | succ u ih =>
      intro i hi h
      refine ⟨fun w => absurd w (nI_ge (by omega) (by omega)), fun _ => ⟨b_in (by omega) (by omega), ?_⟩⟩
      rw [nI_clamp (by omega)]
      refine c_let ⟨fun w => ?_, fun w z e => ?_⟩
      · have hb : ¬ t_let (b i) = true := fun q => by rw [if_pos q] at w; exact absurd w (by decide)
        have e : t_run t_let b (u + 1) i = i := by
          show (if _ then _ else _) = _
          rw [if_neg hb]
        rw [e] at h
        exact h
      · have hb : t_let (b i) = true := by
          cases q : t_let (b i)
          · rw [q] at w; exact absurd rfl w
          · rfl
        have e2 : t_run t_let b (u + 1) i = t_run t_let b u (i + 1) := by
          show (if _ then _ else _) = _
          rw [if_pos hb]
        rw [e, nI_1]
        exact ih (i + 1) (by omega) (by rw [← e2]; exact h)
  exact ⟨_, main (L - i) i (by omega) h⟩
theorem c_numb {c : Int32} {s i d : Nat} (hL : L ≤ N) (hN : N < 2 ^ 31) (hs : s + d = i) (hi : i ≤ L)
    (h : post (nI L) (nI (t_run t_dig b (L - i) i)) ts (if 1 ≤ t_run t_dig b (L - i) i - s ∧ t_run t_dig b (L - i) i - s ≤ 3 then 3 else 1) (if c = 45 then - (if t_run t_dig b (L - i) i - s ≤ 3 then t_nv b s (t_run t_dig b (L - i) i - s) else 0) else (if t_run t_dig b (L - i) i - s ≤ 3 then t_nv b s (t_run t_dig b (L - i) i - s) else 0)) b) : ∃ j, w143_L27 N post j c (nI d) (if d ≤ 3 then t_nv b s d else 0) (nI L) (nI i) ts tk tv b := by
  have fin : ∀ (d : Nat) (a : Int32) (i : Nat), d < 2 ^ 31 → post (nI L) (nI i) ts (if 1 ≤ d ∧ d ≤ 3 then 3 else 1) (if c = 45 then - a else a) b → w143_L96 N post c (nI d) a (nI L) (nI i) ts tk tv b := by
    intro d a i hd h
    have key : ∀ y : Int32, y = (if 1 ≤ d ∧ d ≤ 3 then 3 else 1) → w143_L112 N post c (nI d) a y (nI L) (nI i) ts tk tv b := by
      intro y ey
      refine ⟨fun w => ?_, fun w => ?_⟩
      · rw [if_neg w] at h
        show post _ _ _ y a b
        rw [ey]; exact h
      · rw [if_pos w] at h
        show post _ _ _ y (-a) b
        rw [ey]; exact h
    refine ⟨fun w => key 1 ?_, fun w => ⟨fun w2 => key 1 ?_, fun w2 => key 3 ?_⟩⟩
    · rw [if_neg]
      intro q
      exact absurd w (nI_nlt (a := d) (b := 1) q.1 (by omega))
    · rw [if_neg]
      intro q
      exact absurd w2 (nI_nlt (a := 3) (b := d) q.2 (by omega))
    · rw [if_pos]
      refine ⟨?_, ?_⟩
      · by_cases q : 1 ≤ d
        · exact q
        · exact absurd (nI_lt (a := d) (b := 1) (by omega) (by omega)) w
      · by_cases q : d ≤ 3
        · exact q
        · exact absurd (nI_lt (a := 3) (b := d) (by omega) (by omega)) w2
  have main : ∀ (u i d : Nat), s + d = i → i + u = L → post (nI L) (nI (t_run t_dig b u i)) ts (if 1 ≤ t_run t_dig b u i - s ∧ t_run t_dig b u i - s ≤ 3 then 3 else 1) (if c = 45 then - (if t_run t_dig b u i - s ≤ 3 then t_nv b s (t_run t_dig b u i - s) else 0) else (if t_run t_dig b u i - s ≤ 3 then t_nv b s (t_run t_dig b u i - s) else 0)) b → w143_L27 N post (u + 1) c (nI d) (if d ≤ 3 then t_nv b s d else 0) (nI L) (nI i) ts tk tv b := by
    intro u
    induction u with
    | zero =>
      intro i d hs hi h
      refine ⟨fun _ => fin d _ i (by omega) ?_, fun w => absurd (nI_le (by omega) (by omega)) w⟩
      rw [show t_run t_dig b 0 i = i from rfl, show i - s = d by omega] at h
      exact h
    | succ u ih =>
      intro i d hs hi h
      refine ⟨fun w => absurd w (nI_ge (by omega) (by omega)), fun _ => ⟨b_in (by omega) (by omega), ?_⟩⟩
      rw [nI_clamp (by omega)]
      refine c_dig ⟨fun w => ?_, fun w z e => ?_⟩
      · have hb : ¬ t_dig (b i) = true := fun q => by rw [if_pos q] at w; exact absurd w (by decide)
        have e : t_run t_dig b (u + 1) i = i := by
          show (if _ then _ else _) = _
          rw [if_neg hb]
        rw [e, show i - s = d by omega] at h
        exact fin d _ i (by omega) h
      · have hb : t_dig (b i) = true := by
          cases q : t_dig (b i)
          · rw [q] at w; exact absurd rfl w
          · rfl
        have e2 : t_run t_dig b (u + 1) i = t_run t_dig b u (i + 1) := by
          show (if _ then _ else _) = _
          rw [if_pos hb]
        rw [e2] at h
        have ih := ih (i + 1) (d + 1) (by omega) (by omega) h
        rw [nI_1] at e
        rw [e]
        refine ⟨fun w2 => ⟨b_in (by omega) (by omega), fun z2 e3 => ?_⟩, fun w2 z2 e3 => ?_⟩
        · have hd : d + 1 ≤ 3 := by
            by_cases q : d + 1 ≤ 3
            · exact q
            · exact absurd w2 (nI_ge (a := 3) (b := d + 1) (by omega) (by omega))
          rw [if_pos hd] at ih
          rw [e3, nI_1, if_pos (show d ≤ 3 by omega), ← hs]
          rw [← hs] at ih
          exact ih
        · have hd : ¬ d + 1 ≤ 3 := fun q => w2 (nI_le (a := d + 1) (b := 3) q (by omega))
          rw [if_neg hd] at ih
          rw [e3, nI_1]
          exact ih
  exact ⟨_, main (L - i) i d hs (by omega) h⟩
end CTK
