/-! PURE, the class: texts; Product: put, mark, text, number, setLine. What is printed is a list; its first 65536 are kept -/
def x_str (k : Nat) : List Nat := (px_qb.getD k []).map (fun x => x.toNatClampNeg)
theorem b_strl : ∀ k, k < 32 → (x_str k).length = px_ql.getD k 0 ∧ px_ql.getD k 0 < 100 := by decide +kernel
theorem b_strc : ∀ k, k < 32 → ∀ i, i < px_ql.getD k 0 → ((((px_qb.getD k []).getD i 0) &&& 255).toUInt32 % 65536).toInt32 = nI ((x_str k).getD i 0) ∧ (x_str k).getD i 0 < 128 ∧ narrow .char (.int (nI ((x_str k).getD i 0))) = .int (nI ((x_str k).getD i 0)) := by decide +kernel
theorem b_len {k : Nat} {post : Int32 → Prop} (hk : k < 32) (h : post (nI (x_str k).length)) : w149_wp k post := by
  have e := b_strl k hk
  unfold w149_wp w150_wp w150_L14
  refine ⟨hk, hk, hk, hk, rfl, ?_⟩
  show post (nI (px_ql.getD k 0) >>> (nI 0 &&& 31))
  rw [b_shr (show px_ql.getD k 0 < 2 ^ 31 by omega) (by decide), Nat.pow_zero, Nat.div_one, ← e.1]
  exact h
theorem b_char {k i : Nat} {post : Int32 → Prop} (hk : k < 32) (hi : i < (x_str k).length) (h : post (nI ((x_str k).getD i 0))) : w151_wp k post (nI i) := by
  have e := b_strl k hk
  rw [e.1] at hi
  obtain ⟨e1, e2, e3⟩ := b_strc k hk i hi
  unfold w151_wp w152_wp w152_L18 w153_wp w154_wp wkn_wp wcn_wp
  refine ⟨hk, hk, rfl, fun z => absurd z (by decide), fun _ => ⟨hk, hk, fun z => absurd z (nI_pos (by omega)), fun _ => ⟨fun _ => ⟨hk, b_in hi (by omega), ?_⟩, fun z => absurd (show nI i < nI (px_ql.getD k 0) from nI_lt hi (by omega)) z⟩⟩⟩
  rw [nI_clamp (show i < 2 ^ 31 by omega), e1]
  exact ⟨e3, e3, h⟩
/-- an array grows by two -/
def x_g2 : Nat → Nat → Nat → Nat
  | 0, l, _ => l
  | t + 1, l, m => if m ≤ l then l else x_g2 t (2 * l) m
theorem x_g2le : ∀ (t l m : Nat), l ≤ x_g2 t l m
  | 0, l, _ => Nat.le_refl l
  | t + 1, l, m => by
    unfold x_g2
    have := x_g2le t (2 * l) m
    split <;> omega
theorem x_g2fin : ∀ (t l m : Nat), m ≤ l → x_g2 t l m = l
  | 0, _, _, _ => rfl
  | t + 1, l, m, h => by unfold x_g2; rw [if_pos h]
theorem x_g2cont : ∀ (t l m m' : Nat), m' ≤ m → ∃ i, i ≤ t ∧ x_g2 t l m' = l * 2 ^ i ∧ x_g2 (t - i) (l * 2 ^ i) m = x_g2 t l m
  | 0, l, m, m', _ => ⟨0, Nat.le_refl 0, by rw [Nat.pow_zero, Nat.mul_one]; rfl, by rw [Nat.pow_zero, Nat.mul_one]⟩
  | t + 1, l, m, m', h => by
    by_cases z : m' ≤ l
    · exact ⟨0, by omega, by rw [Nat.pow_zero, Nat.mul_one, x_g2fin _ _ _ z], by rw [Nat.pow_zero, Nat.mul_one, Nat.sub_zero]⟩
    · obtain ⟨i, h1, h2, h3⟩ := x_g2cont t (2 * l) m m' h
      have e : l * 2 ^ (i + 1) = 2 * l * 2 ^ i := by rw [Nat.pow_succ, Nat.mul_comm (2 ^ i) 2, ← Nat.mul_assoc, Nat.mul_comm l 2]
      refine ⟨i + 1, by omega, ?_, ?_⟩
      · rw [e, ← h2]
        show (if m' ≤ l then l else x_g2 t (2 * l) m') = _
        rw [if_neg z]
      · rw [e, show t + 1 - (i + 1) = t - i by omega, h3]
        show _ = (if m ≤ l then l else x_g2 t (2 * l) m)
        rw [if_neg (by omega)]
/-- what is printed: U; T so long the array will be, when M bytes have been kept -/
def pr_I (M T l : Nat) (pl pf : Int32) (g : Nat → Int32) (U : List Nat) : Prop := pl = nI (min 65536 U.length) ∧ pf = (if 65536 < U.length then 1 else 0) ∧ (∀ j x, j < 65536 → U[j]? = some x → g j = nI x ∧ x < 128) ∧ min 65536 U.length ≤ l ∧ l ≤ T ∧ M ≤ 65536 ∧ ∃ j, j ≤ 8 ∧ l = 256 * 2 ^ j ∧ x_g2 (8 - j) l M = T
def pr_b (kc ks l T mc ms : Nat) : Prop := 16 * kc + (T - l) ≤ 16 * mc ∧ ks + 2 * (T - l) ≤ ms
abbrev pr_P := Nat → Nat → Int32 → Int32 → (Nat → Int32) → (Nat → Int32) → Prop
/-- a method that prints V -/
def pr_S (R : (Nat → Int32) → (Nat → Int32) → Prop) (V : List Nat) (P : Nat → Nat → pr_P → pr_P) : Prop := ∀ mc ms post q l pl pf g gd M T U, pr_I M T l pl pf g U → pr_b 0 0 l T mc ms → min 65536 (U.length + V.length) ≤ M → (∀ q' l' pl' pf' g' gd', pr_I M T l' pl' pf' g' (U ++ V) → R gd gd' → post q' l' pl' pf' g' gd') → P mc ms post q l pl pf g gd
theorem b_fb : ∀ x, x < 128 → fits .byte (.int (nI x)) = true := by decide +kernel
theorem x_p256 : ∀ j, j ≤ 8 → 256 * 2 ^ j ≤ 65536 ∧ 256 ≤ 256 * 2 ^ j := by decide
section CPR
variable {mc ms kc ks q_b l_b M T : Nat} {pl pf : Int32} {g_b g_d : Nat → Int32} {U : List Nat}
theorem c_pput {c : Nat} (hc : c < 128) : pr_S (fun a b => b = a) [c] (fun mc ms post => w270_wp mc ms post (nI c)) := by
  intro mc ms post q_b l_b pl pf g_b g_d M T U hI hb hM h
  obtain ⟨i1, i2, i3, i4, i7, i8, j, i9, i10, i11⟩ := hI
  obtain ⟨i6, i5⟩ := x_p256 j i9
  rw [← i10] at i6 i5
  have hUl : ∀ x, (U ++ [x]).length = U.length + 1 := fun x => by rw [List.length_append]; rfl
  rw [show [c].length = 1 from rfl] at hM
  have key : ∀ (l' : Nat) (g' : Nat → Int32), U.length < 65536 → U.length < l' → (∀ i, i < U.length → g' i = g_b i) → ∀ j', j' ≤ 8 → l' = 256 * 2 ^ j' → x_g2 (8 - j') l' M = T → pr_I M T l' (nI (U.length + 1)) pf (upd g' U.length (nI c)) (U ++ [c]) := by
    intro l' g' h1 h2 h5 j' h6 h7 h8
    refine ⟨by rw [hUl, show min 65536 (U.length + 1) = U.length + 1 by omega], by rw [i2, hUl, if_neg (by omega), if_neg (by omega)], fun k x hk hx => ?_, by rw [hUl]; omega, by rw [← h8]; exact x_g2le _ l' M, i8, j', h6, h7, h8⟩
    by_cases z : k = U.length
    · rw [z, List.getElem?_append_right (Nat.le_refl _), Nat.sub_self] at hx
      have : c = x := by simpa using hx
      rw [z, pk_us, ← this]; exact ⟨rfl, hc⟩
    · rw [pk_un z]
      by_cases z2 : k < U.length
      · rw [List.getElem?_append_left z2] at hx
        rw [h5 k z2]; exact i3 k x hk hx
      · rw [List.getElem?_eq_none (by rw [hUl]; omega)] at hx
        exact absurd hx (by simp)
  have hbyte : vp_nar .byte (nI c).toInt8.toInt32 = nI c := b_byte c hc
  show w270_wp mc ms post (nI c) q_b l_b pl pf g_b g_d
  by_cases q1 : U.length < 65536
  · have hpl : pl = nI U.length := by rw [i1, show min 65536 U.length = U.length by omega]
    have hlt : pl < 65536 := by rw [hpl]; exact nI_lt (b := 65536) q1 (by decide)
    by_cases q2 : U.length = l_b
    · have hM2 : l_b < M := by omega
      have hj : j ≠ 8 := fun z => by rw [z] at i10; omega
      have hg : x_g2 (8 - (j + 1)) (2 * l_b) M = T := by
        rw [← i11, show 8 - j = 8 - (j + 1) + 1 by omega]
        show _ = (if M ≤ l_b then l_b else x_g2 (8 - (j + 1)) (2 * l_b) M)
        rw [if_neg (by omega)]
      have hle := x_g2le (8 - (j + 1)) (2 * l_b) M
      rw [hg] at hle
      have ej : 2 * l_b = 256 * 2 ^ (j + 1) := by rw [i10, Nat.pow_succ]; omega
      unfold w270_wp
      refine ⟨fun _ => ⟨fun z => absurd (by rw [hpl, q2]) z, fun _ => ⟨1, 2 * l_b, by have := hb.1; omega, by have := hb.2; omega, ?_⟩⟩, fun z => absurd hlt z⟩
      rw [hpl, show (2 : Int32) = nI 2 from rfl, pk_mul, q2]
      refine b_copyB (by omega) (by omega) (fun i hi => ?_) (Nat.le_refl 1) (Nat.le_refl _) (fun q' f hf => ?_)
      · obtain ⟨x, hx⟩ : ∃ x, U[i]? = some x := ⟨_, List.getElem?_eq_getElem (by omega)⟩
        have := i3 i x (by omega) hx
        rw [this.1]; exact b_fb x this.2
      · unfold w270_L44
        rw [nI_clamp (show l_b < 2 ^ 31 by omega), hbyte]
        refine ⟨b_in (by omega) (by omega), fun z1 e1 => ?_⟩
        rw [e1, nI_1]
        have hk := key (2 * l_b) f q1 (by omega) (fun i hi => hf i (by omega)) (j + 1) (by omega) ej hg
        rw [q2] at hk
        exact h _ _ _ _ _ _ hk rfl
    · unfold w270_wp w270_L44
      refine ⟨fun _ => ⟨fun _ => ?_, fun z => ?_⟩, fun z => absurd hlt z⟩
      · rw [hpl, nI_clamp (show U.length < 2 ^ 31 by omega), hbyte]
        refine ⟨b_in (by omega) (by omega), fun z1 e1 => ?_⟩
        rw [e1, nI_1]
        exact h _ _ _ _ _ _ (key l_b g_b q1 (by omega) (fun _ _ => rfl) j i9 i10 i11) rfl
      · rw [hpl, nI_eq (by omega) (by omega)] at z
        exact absurd z q2
  · have hpl : pl = nI 65536 := by rw [i1, show min 65536 U.length = 65536 by omega]
    have hnl : ¬ pl < 65536 := by rw [hpl]; decide
    unfold w270_wp
    refine ⟨fun z => absurd z hnl, fun _ => ?_⟩
    exact h q_b l_b pl 1 g_b g_d ⟨by rw [hpl, hUl, show min 65536 (U.length + 1) = 65536 by omega], by rw [hUl, if_pos (by omega)], fun k x hk hx => by
      rw [List.getElem?_append_left (by omega)] at hx; exact i3 k x hk hx, by rw [hUl]; omega, i7, i8, j, i9, i10, i11⟩ rfl
/-- a call within a method -/
theorem c_sub {R : (Nat → Int32) → (Nat → Int32) → Prop} {P : Nat → Nat → pr_P → pr_P} {V : List Nat} {post : Nat → Nat → pr_P} (hP : pr_S R V P) (hI : pr_I M T l_b pl pf g_b U) (hb : pr_b kc ks l_b T mc ms) (hM : min 65536 (U.length + V.length) ≤ M)
    (h : ∀ m s q' l' pl' pf' g' gd', pr_I M T l' pl' pf' g' (U ++ V) → R g_d gd' → pr_b (kc + m) (ks + s) l' T mc ms → post m s q' l' pl' pf' g' gd') : ∃ m s, kc + m ≤ mc ∧ ks + s ≤ ms ∧ P m s (post m s) q_b l_b pl pf g_b g_d := by
  obtain ⟨i1, i2, i3, i4, i7, i8, j, i9, i10, i11⟩ := hI
  obtain ⟨i, c1, c2, c3⟩ := x_g2cont (8 - j) l_b M (min 65536 (U.length + V.length)) hM
  have e0 : l_b * 2 ^ i = 256 * 2 ^ (j + i) := by rw [i10, Nat.pow_add, Nat.mul_assoc]
  have e1 : l_b ≤ l_b * 2 ^ i := Nat.le_mul_of_pos_right _ (Nat.two_pow_pos i)
  have e2 : l_b * 2 ^ i ≤ T := by rw [← i11, ← c3]; exact x_g2le _ _ _
  have e3 : 16 * ((l_b * 2 ^ i - l_b) / 16) = l_b * 2 ^ i - l_b := by rw [e0, i10]; omega
  have hb1 := hb.1
  have hb2 := hb.2
  refine ⟨(l_b * 2 ^ i - l_b) / 16, 2 * (l_b * 2 ^ i - l_b), by omega, by omega, ?_⟩
  refine hP _ _ _ _ _ _ _ _ _ (min 65536 (U.length + V.length)) (l_b * 2 ^ i) U ⟨i1, i2, i3, i4, e1, by omega, j, i9, i10, c2⟩ ⟨by omega, by omega⟩ (Nat.le_refl _) (fun q' l' pl' pf' g' gd' hi hR => ?_)
  obtain ⟨k1, k2, k3, k4, k7, k8, j', k9, k10, k11⟩ := hi
  rw [List.length_append] at k4
  rw [x_g2fin _ _ _ k4] at k11
  have e4 : j' = j + i := by
    rw [k11, e0] at k10
    have k12 : 2 ^ (j + i) = 2 ^ j' := by omega
    exact ((Nat.pow_right_inj (by decide)).1 k12).symm
  refine h _ _ _ _ _ _ _ _ ⟨k1, k2, k3, by rw [List.length_append]; exact k4, by omega, i8, j', k9, k10, ?_⟩ hR ⟨by omega, by omega⟩
  rw [k11, e4, show 8 - (j + i) = 8 - j - i by omega, c3, i11]
theorem c_mark {x : Int32} : pr_S (fun a b => b = a) [if x = 0 then 48 else if 0 ≤ x then 43 else 45] (fun mc ms post => w291_wp mc ms post x) := by
  intro mc ms post q_b l_b pl pf g_b g_d M T U hI hb hM h
  show w291_wp mc ms post x q_b l_b pl pf g_b g_d
  unfold w291_wp w291_L21
  refine ⟨fun z => ⟨fun z2 => ?_, fun z2 => ?_⟩, fun z => ?_⟩
  · rw [if_neg z, if_pos z2] at h
    exact c_sub (P := fun mc ms post => w270_wp mc ms post 43) (post := fun _ _ => post) (V := [43]) (c_pput (c := 43) (by decide)) hI hb hM (fun _ _ _ _ _ _ _ _ a r _ => h _ _ _ _ _ _ a r)
  · rw [if_neg z, if_neg z2] at h
    exact c_sub (P := fun mc ms post => w270_wp mc ms post 45) (post := fun _ _ => post) (V := [45]) (c_pput (c := 45) (by decide)) hI hb hM (fun _ _ _ _ _ _ _ _ a r _ => h _ _ _ _ _ _ a r)
  · rw [if_pos z] at h
    exact c_sub (P := fun mc ms post => w270_wp mc ms post 48) (post := fun _ _ => post) (V := [48]) (c_pput (c := 48) (by decide)) hI hb hM (fun _ _ _ _ _ _ _ _ a r _ => h _ _ _ _ _ _ a r)
theorem c_text {k : Nat} (hk : k < 32) : pr_S (fun a b => b = a) (x_str k) (fun mc ms post => w278_wp mc ms k post) := by
  intro mc ms post q_b l_b pl pf g_b g_d M T U hI hb hM h
  show w278_wp mc ms k post q_b l_b pl pf g_b g_d
  unfold w278_wp
  have e := b_strl k hk
  refine ⟨(x_str k).length + 1, ?_⟩
  have main : ∀ (n i : Nat), i + n = (x_str k).length → ∀ (q l : Nat) (pl pf : Int32) (g : Nat → Int32) (kc ks : Nat), pr_I M T l pl pf g (U ++ (x_str k).take i) → pr_b kc ks l T mc ms → w278_L2 mc ms k post (n + 1) (nI i) q l pl pf g g_d kc ks := by
    intro n
    induction n with
    | zero =>
      intro i hi q l pl pf g kc ks hI hb
      refine ⟨hk, b_len hk ⟨fun _ => ?_, fun z => absurd (nI_le (by omega) (by omega)) z⟩⟩
      rw [List.take_of_length_le (by omega)] at hI
      exact h _ _ _ _ _ _ hI rfl
    | succ n ih =>
      intro i hi q l pl pf g kc ks hI hb
      refine ⟨hk, b_len hk ⟨fun z => absurd z (nI_ge (by omega) (by omega)), fun _ => ⟨hk, b_char hk (by omega) ?_⟩⟩⟩
      have ht : (x_str k).take (i + 1) = (x_str k).take i ++ [(x_str k).getD i 0] := by
        rw [List.take_succ, List.getD_eq_getElem?_getD, List.getElem?_eq_getElem (by omega)]; rfl
      refine c_sub (V := [(x_str k).getD i 0]) (P := fun mc ms post => w270_wp mc ms post (nI ((x_str k).getD i 0))) (post := fun m s v3 v4 v5 v6 v7 v8 => ∀ z11 : Int32, z11 = nI i + 1 → w278_L2 mc ms k post (n + 1) z11 v3 v4 v5 v6 v7 v8 (kc + m) (ks + s)) (c_pput (b_strc k hk i (by omega)).2.1) hI hb (by
        rw [List.length_append, List.length_take, show [(x_str k).getD i 0].length = 1 from rfl]; omega) (fun m s q' l' pl' pf' g' gd' a hR b => ?_)
      intro z11 e11
      rw [e11, nI_1]
      rw [hR]
      refine ih (i + 1) (by omega) _ _ _ _ _ _ _ ?_ b
      rw [ht, ← List.append_assoc]; exact a
  refine main _ 0 (by omega) _ _ _ _ _ _ _ ?_ hb
  rw [List.take_zero, List.append_nil]; exact hI
end CPR
