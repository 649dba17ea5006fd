/-! PURE, the class: begin, turnFirstUp -/
section CBG
variable {a cm np ns : Nat} {pa sa : Nat → Nat} {pp : Nat → px_PR} {ss : Nat → px_SR} {mc ms : Nat} {q_o l_o : Nat} {o_r : Int32} {g_o g_t : Nat → Int32} {mm : Nat → px_MR} {n r q : Nat}
/-- a matroid begun anew -/
def c_bgn (M M' : px_MR) (p : Int32) (n : Nat) (rk : Int32) : Prop := M'.2.1 12 = p ∧ M'.2.1 13 = nI n ∧ M'.2.1 14 = rk ∧ M'.2.1 9 = 0 ∧ M'.2.1 10 = 0 ∧ M'.2.1 11 = M.2.1 11 ∧ M'.2.2.1 6 = max (M.2.2.1 6) (2 ^ n) ∧ (∀ k, k ≠ 6 → M'.2.2.1 k = M.2.2.1 k) ∧ (∀ e, e < 12 → M'.2.2.2.1 3 e = 0) ∧ (∀ k, k < 4 → M'.2.2.2.1 5 k = -1) ∧ (∀ k, k ≠ 3 → k ≠ 5 → k ≠ 6 → M'.2.2.2.1 k = M.2.2.2.1 k) ∧ M'.2.2.2.2 = M.2.2.2.2 ∧ (∀ k, k ≠ 6 → M'.1 k = M.1 k)
def c_bgc (l_o : Nat) (M : px_MR) (n : Nat) : Nat := (if 2 ^ (n + 1) ≤ l_o then 0 else 1) + (if 2 ^ n ≤ M.2.2.1 6 then 0 else 1)
def c_bgs (l_o : Nat) (M : px_MR) (n : Nat) : Nat := (if 2 ^ (n + 1) ≤ l_o then 0 else 2 ^ (n + 1)) + (if 2 ^ n ≤ M.2.2.1 6 then 0 else 2 ^ n)
theorem c_begin {post : Nat → Nat → Int32 → (Nat → Int32) → (Nat → Int32) → (Nat → px_MR) → Prop} {p rk : Int32} (ha : a < cm) (hn : n ≤ 12) (ho : o_Ok l_o o_r g_o g_t q) (h31 : (mm a).2.2.1 6 < 2 ^ 31) (hmc : c_bgc l_o (mm a) n ≤ mc) (hms : c_bgs l_o (mm a) n ≤ ms)
    (h : ∀ q' o' g t M', o_Ok (o_ln l_o n) o' g t (max q n) → c_bgn (mm a) M' p n rk → post q' (o_ln l_o n) o' g t (va_up mm a M')) : w246_wp a cm np ns pa sa pp ss mc ms post p (nI n) rk q_o l_o o_r g_o g_t mm := by
  have hp := b_p12 hn
  unfold w246_wp
  refine ⟨ha, fun mm7 e7 => ⟨ha, fun mm8 e8 => ⟨ha, fun mm9 e9 => ⟨ha, fun mm10 e10 => ⟨ha, fun mm11 e11 => ?_⟩⟩⟩⟩⟩
  obtain ⟨iv, hiv⟩ : ∃ iv : Nat → Int32, iv = va_up (va_up (va_up (va_up (va_up (mm a).2.1 12 p) 13 (nI n)) 14 rk) 9 0) 10 0 := ⟨_, rfl⟩
  have e7' : mm7 = va_up mm a ((mm a).1, va_up (mm a).2.1 12 p, (mm a).2.2) := e7
  have e8' : mm8 = va_up mm a ((mm a).1, va_up (va_up (mm a).2.1 12 p) 13 (nI n), (mm a).2.2) := by rw [e8, e7', b_upup, va_up_self]
  have e9' : mm9 = va_up mm a ((mm a).1, va_up (va_up (va_up (mm a).2.1 12 p) 13 (nI n)) 14 rk, (mm a).2.2) := by rw [e9, e8', b_upup, va_up_self]
  have e10' : mm10 = va_up mm a ((mm a).1, va_up (va_up (va_up (va_up (mm a).2.1 12 p) 13 (nI n)) 14 rk) 9 0, (mm a).2.2) := by rw [e10, e9', b_upup, va_up_self]
  have e11' : mm11 = va_up mm a ((mm a).1, iv, (mm a).2.2) := by rw [e11, e10', b_upup, va_up_self, hiv]
  have i13 : iv 13 = nI n := by
    rw [hiv, va_up_ne _ _ (by decide), va_up_ne _ _ (by decide), va_up_ne _ _ (by decide), va_up_self]
  have i12 : iv 12 = p := by
    rw [hiv, va_up_ne _ _ (by decide), va_up_ne _ _ (by decide), va_up_ne _ _ (by decide), va_up_ne _ _ (by decide), va_up_self]
  have i14 : iv 14 = rk := by
    rw [hiv, va_up_ne _ _ (by decide), va_up_ne _ _ (by decide), va_up_self]
  have i9 : iv 9 = 0 := by
    rw [hiv, va_up_ne _ _ (by decide), va_up_self]
  have i10 : iv 10 = 0 := by rw [hiv, va_up_self]
  have i11 : iv 11 = (mm a).2.1 11 := by
    rw [hiv, va_up_ne _ _ (by decide), va_up_ne _ _ (by decide), va_up_ne _ _ (by decide), va_up_ne _ _ (by decide), va_up_ne _ _ (by decide)]
  -- weights and lists
  have fin : ∀ (N : px_MR) (q' : Nat) (o' : Int32) (g t : Nat → Int32) (kc ks : Nat), o_Ok (o_ln l_o n) o' g t (max q n) → N.2.1 = iv → N.2.2.1 6 = max ((mm a).2.2.1 6) (2 ^ n) → (∀ k, k ≠ 6 → N.2.2.1 k = (mm a).2.2.1 k) → (∀ k, k ≠ 6 → N.2.2.2.1 k = (mm a).2.2.2.1 k) → N.2.2.2.2 = (mm a).2.2.2.2 → (∀ k, k ≠ 6 → N.1 k = (mm a).1 k) → w246_L62 a cm np ns pa sa pp ss mc ms post p (nI n) rk q' (o_ln l_o n) o' g t (va_up mm a N) kc ks := by
    intro N q' o' g t kc ks hok g1 g2 g3 g4 g5 g6
    unfold w246_L62
    refine ⟨ha, ha, b_fillI (by decide) (fun f hf _ mm2 e2 => ⟨ha, ha, ?_⟩)⟩
    have e2' : mm2 = va_up mm a (c_set N 3 f) := by rw [e2, b_upup, va_up_self]; rfl
    refine b_fillI (by decide) (fun f5 hf5 _ mm5 e5 => ?_)
    have e5' : mm5 = va_up mm a (c_set (c_set N 3 f) 5 f5) := by rw [e5, e2', b_upup, va_up_self]; rfl
    rw [e5']
    refine h q' o' g t _ hok ⟨by show N.2.1 12 = _; rw [g1]; exact i12, by show N.2.1 13 = _; rw [g1]; exact i13, by show N.2.1 14 = _; rw [g1]; exact i14, by show N.2.1 9 = _; rw [g1]; exact i9, by show N.2.1 10 = _; rw [g1]; exact i10, by show N.2.1 11 = _; rw [g1]; exact i11, g2, g3, fun e he => ?_, fun k hk => ?_, fun k k3 k5 k6 => ?_, g5, g6⟩
    · rw [c_sgn _ _ (by decide), c_sg]; exact hf e he
    · rw [c_sg]; exact hf5 k hk
    · rw [c_sgn _ _ k5, c_sgn _ _ k3]; exact g4 k k6
  rw [e11', va_up_self]
  dsimp only
  rw [i13]
  unfold c_bgc at hmc
  unfold c_bgs at hms
  refine ⟨ha, ha, (if 2 ^ (n + 1) ≤ l_o then 0 else 1), (if 2 ^ (n + 1) ≤ l_o then 0 else 2 ^ (n + 1)), by omega, by omega, c_reach ho hn (fun z => by rw [if_neg z]; exact Nat.le_refl _) (fun z => by rw [if_neg z]; exact Nat.le_refl _) (fun q' o' g t hok => ⟨ha, ha, ha, ?_⟩)⟩
  rw [b_sh (show n < 31 by omega), nI_leI (show 2 ^ n < 2 ^ 31 by omega) h31]
  refine ⟨fun z => ?_, fun z => ⟨ha, ?_⟩⟩
  · exact fin ((mm a).1, iv, (mm a).2.2) q' o' g t _ _ hok rfl (by show (mm a).2.2.1 6 = _; omega) (fun _ _ => rfl) (fun _ _ => rfl) rfl (fun _ _ => rfl)
  · rw [if_neg (show ¬ 2 ^ n ≤ (mm a).2.2.1 6 from z)] at hmc hms
    rw [nI_clamp (show 2 ^ n < 2 ^ 31 by omega)]
    refine ⟨nI_pos (by omega), by omega, by omega, by omega, fun q57 => ⟨ha, fun mm20 e20 => ?_⟩⟩
    have e20' : mm20 = va_up mm a (va_up (mm a).1 6 q57, iv, va_up (mm a).2.2.1 6 (2 ^ n), va_up (mm a).2.2.2.1 6 (fun _ => 0), (mm a).2.2.2.2) := by rw [e20, b_upup]
    rw [e20']
    have z' : ¬ 2 ^ n ≤ (mm a).2.2.1 6 := z
    exact fin _ q' o' g t _ _ hok rfl (by show va_up (mm a).2.2.1 6 (2 ^ n) 6 = _; rw [va_up_self]; omega) (fun k hk => va_up_ne _ _ hk) (fun k hk => va_up_ne _ _ hk) rfl (fun k hk => va_up_ne _ _ hk)
/-- a sign -/
def c_s3 (x : Int32) : Prop := x = -1 ∨ x = 0 ∨ x = 1
theorem c_s3b {x : Int32} (h : c_s3 x) : vp_nar .byte x.toInt8.toInt32 = x := by
  rcases h with h | h | h <;> rw [h] <;> decide
theorem c_s3m {x y : Int32} (h : c_s3 x) (h' : c_s3 y) : c_s3 (x * y) := by
  rcases h with h | h | h <;> rcases h' with h' | h' | h' <;> rw [h, h'] <;> unfold c_s3 <;> decide
theorem c_s3n {x : Int32} (h : c_s3 x) : c_s3 (-x) := by
  rcases h with h | h | h <;> rw [h] <;> unfold c_s3 <;> decide
/-- the first sign that isn't 0, from place i on -/
def x_fs (s : Nat → Int32) (n : Nat) : Nat → Nat → Int32
  | 0, _ => 0
  | u + 1, i => if s (x_or n i) = 0 then x_fs s n u (i + 1) else s (x_or n i)
def x_f1 (s : Nat → Int32) (n r : Nat) : Int32 := x_fs s n (x_st n (r + 1) - x_st n r) (x_st n r)
theorem x_fs3 {s : Nat → Int32} (hs : ∀ S, S < 2 ^ n → c_s3 (s S)) (hn : n ≤ 12) : ∀ (u i : Nat), i + u ≤ 2 ^ n → c_s3 (x_fs s n u i)
  | 0, _, _ => Or.inr (Or.inl rfl)
  | u + 1, i, h => by
    unfold x_fs
    split
    · exact x_fs3 hs hn u (i + 1) (by omega)
    · exact hs _ (x_orl hn (by omega)).1
/-- the signs turned -/
def x_tu (p : Int32) (f x : Int32) : Int32 := if p = 0 then f * x else if 0 ≤ x then x else -x
theorem c_tu3 {p f x : Int32} (hf : c_s3 f) (hx : c_s3 x) : c_s3 (x_tu p f x) := by
  unfold x_tu
  split
  · exact c_s3m hf hx
  · split
    · exact hx
    · exact c_s3n hx
theorem c_turnUp {post : Nat → Nat → Int32 → (Nat → Int32) → (Nat → Int32) → (Nat → px_MR) → Prop} {M : px_MR} {s : Nat → Int32} (ha : a < cm) (hn : n ≤ 12) (hr : r ≤ n) (hsz : M.2.1 13 = nI n) (hrk : M.2.1 14 = nI r) (hl : 2 ^ n ≤ M.2.2.1 6) (h6 : ∀ S, S < 2 ^ n → M.2.2.2.1 6 S = s S) (hs : ∀ S, S < 2 ^ n → c_s3 (s S)) (ho : o_Ok l_o o_r g_o g_t q) (hnq : n ≤ q)
    (h : ∀ f, (∀ S, S < 2 ^ n → f S = x_tu (M.2.1 12) (x_f1 s n r) (s S)) → post q_o l_o o_r g_o g_t (va_up mm a (c_set M 6 f))) : w251_wp a cm np ns pa sa pp ss post q_o l_o o_r g_o g_t (va_up mm a M) := by
  have hp := b_p12 hn
  have hp0 := Nat.two_pow_pos n
  have hst := x_stl (m := n) (j := r + 1) hn
  have hmono := x_stm (n := n) (show r ≤ r + 1 by omega)
  have hf3 : c_s3 (x_f1 s n r) := x_fs3 hs hn _ _ (by omega)
  -- the second loop
  have l71 : ∀ (u k : Nat) (f : Nat → Int32) (x1 : Int32), k + u = 2 ^ n → (∀ S, S < 2 ^ n → f S = if S < k then x_tu (M.2.1 12) (x_f1 s n r) (s S) else s S) → w251_L71 a cm np ns pa sa pp ss post (u + 1) x1 (x_f1 s n r) (nI k) q_o l_o o_r g_o g_t (va_up mm a (c_set M 6 f)) := by
    intro u
    induction u with
    | zero =>
      intro k f x1 hk hf
      unfold w251_L71
      refine ⟨ha, c_all (mm := va_up mm a (c_set M 6 f)) ha hn (by rw [va_up_self]; exact hsz) ⟨fun _ => h f (fun S hS => by rw [hf S hS, if_pos (by omega)]), fun z => absurd (nI_lt (show 2 ^ n - 1 < k by omega) (by omega)) z⟩⟩
    | succ u ih =>
      intro k f x1 hk hf
      have hkl : k < 2 ^ n := by omega
      have e12 : ((va_up mm a (c_set M 6 f)) a).2.1 12 = M.2.1 12 := by rw [va_up_self]; rfl
      have e6 : ((va_up mm a (c_set M 6 f)) a).2.2.1 6 = M.2.2.1 6 := by rw [va_up_self]; rfl
      have c6 : ((va_up mm a (c_set M 6 f)) a).2.2.2.1 6 = f := c_atg
      have fk : f k = s k := by rw [hf k hkl, if_neg (Nat.lt_irrefl k)]
      have fin : ∀ y : Int32, y = x_tu (M.2.1 12) (x_f1 s n r) (s k) → w251_L111 (w251_L71 a cm np ns pa sa pp ss post (u + 1)) a cm np ns pa sa pp ss post x1 (x_f1 s n r) (nI k) y (nI k) q_o l_o o_r g_o g_t (va_up mm a (c_set M 6 f)) := by
        intro y ey
        unfold w251_L111
        intro z1 e1
        rw [e6, nI_clamp (show k < 2 ^ 31 by omega)]
        refine ⟨ha, b_in (by omega) (by omega), fun mm2 e2 z3 e3 => ?_⟩
        rw [c_atu e2, c6, e3, nI_1, e1, ey, c_s3b (c_tu3 hf3 (hs k hkl))]
        refine ih (k + 1) _ x1 (by omega) (fun S hS => ?_)
        by_cases z : S = k
        · rw [z, pk_us, if_pos (by omega)]
        · rw [pk_un z, hf S hS]
          by_cases z2 : S < k
          · rw [if_pos z2, if_pos (by omega)]
          · rw [if_neg z2, if_neg (by omega)]
      unfold w251_L71
      refine ⟨ha, c_all (mm := va_up mm a (c_set M 6 f)) ha hn (by rw [va_up_self]; exact hsz) ⟨fun z => absurd z (nI_nlt (by omega) (by omega)), fun _ => ⟨ha, ha, ?_⟩⟩⟩
      rw [e12, e6, c6, nI_clamp (show k < 2 ^ 31 by omega), fk]
      refine ⟨fun z => ⟨ha, ha, b_in (by omega) (by omega), ?_⟩, fun z => ⟨ha, ha, b_in (by omega) (by omega), fin _ (by unfold x_tu; rw [if_pos z])⟩⟩
      unfold w252_wp w252_L10
      refine ⟨fun y => fin _ (by unfold x_tu; rw [if_neg z, if_pos y]), fun y => fin _ (by unfold x_tu; rw [if_neg z, if_neg y])⟩
  have eM : va_up mm a M = va_up mm a (c_set M 6 (M.2.2.2.1 6)) := by rw [c_self]
  have l69 : ∀ (x1 x3 : Int32), w251_L69 a cm np ns pa sa pp ss post x1 (x_f1 s n r) x3 q_o l_o o_r g_o g_t (va_up mm a M) := by
    intro x1 x3
    unfold w251_L69
    refine ⟨2 ^ n + 1, ?_⟩
    have := l71 (2 ^ n) 0 (M.2.2.2.1 6) x1 (by omega) (fun S hS => by rw [if_neg (Nat.not_lt_zero S)]; exact h6 S hS)
    rw [nI_0, ← eM] at this
    exact this
  have l36 : ∀ (u i : Nat) (x2 : Int32), i + u = x_st n (r + 1) → (x2 = x_f1 s n r ∧ ¬ x2 = 0 ∨ x2 = 0 ∧ x_f1 s n r = x_fs s n u i) → w251_L36 a cm np ns pa sa pp ss post (u + 1) (nI (x_st n (r + 1))) x2 (nI i) q_o l_o o_r g_o g_t (va_up mm a M) := by
    intro u
    induction u with
    | zero =>
      intro i x2 hi hx
      unfold w251_L36
      refine ⟨fun _ => ?_, fun z => absurd (nI_le (show x_st n (r + 1) ≤ i by omega) (by omega)) z⟩
      have : x2 = x_f1 s n r := by
        rcases hx with z | z
        · exact z.1
        · rw [z.1, z.2]; rfl
      rw [this]; exact l69 _ _
    | succ u ih =>
      intro i x2 hi hx
      unfold w251_L36
      refine ⟨fun z => absurd z (nI_ge (by omega) (by omega)), fun _ => ⟨fun z => ?_, fun z => ⟨ha, ha, ha, ?_⟩⟩⟩
      · rcases hx with y | y
        · rw [y.1]; exact l69 _ _
        · exact absurd y.1 z
      · have hx := hx.resolve_left (fun y => y.2 z)
        have hil : i < 2 ^ n := by omega
        obtain ⟨o1, o2⟩ := x_orl hn hil
        rw [va_up_self, hsz]
        refine c_oset ho hnq hil ⟨ha, b_in (by omega) (by omega), fun z18 e18 z19 e19 => ?_⟩
        rw [nI_clamp (show x_or n i < 2 ^ 31 by omega), h6 _ o1] at e18
        rw [e18, e19, nI_1]
        refine ih (i + 1) _ (by omega) ?_
        have hfs : x_f1 s n r = if s (x_or n i) = 0 then x_fs s n u (i + 1) else s (x_or n i) := hx.2
        by_cases y : s (x_or n i) = 0
        · rw [if_pos y] at hfs
          exact Or.inr ⟨y, hfs⟩
        · rw [if_neg y] at hfs
          exact Or.inl ⟨hfs.symm, y⟩
  unfold w251_wp
  rw [va_up_self, hsz, hrk, nI_1]
  refine ⟨ha, ha, ha, c_ostart ho hnq (by omega) ⟨ha, ha, ha, c_ostart ho hnq (by omega) ⟨x_st n (r + 1) - x_st n r + 1, l36 (x_st n (r + 1) - x_st n r) (x_st n r) 0 (by omega) (Or.inr ⟨rfl, rfl⟩)⟩⟩⟩
end CBG
