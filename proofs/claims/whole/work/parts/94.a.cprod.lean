/-! PURE, the class: texts; Product: put, mark, text, number, setLine. What is printed is a list; its first 65536 are kept -/
def x_str (k : Nat) : List Nat := (px_qb.getD k []).map (fun x => x.toNatClampNeg)
theorem b_strl : ∀ k, k < 32 → (x_str k).length = px_ql.getD k 0 ∧ px_ql.getD k 0 < 100 := by decide +kernel
theorem b_strc : ∀ k, k < 32 → ∀ i, i < px_ql.getD k 0 → ((((px_qb.getD k []).getD i 0) &&& 255).toUInt32 % 65536).toInt32 = nI ((x_str k).getD i 0) ∧ (x_str k).getD i 0 < 128 ∧ narrow .char (.int (nI ((x_str k).getD i 0))) = .int (nI ((x_str k).getD i 0)) := by decide +kernel
theorem b_len {k : Nat} {post : Int32 → Prop} (hk : k < 32) (h : post (nI (x_str k).length)) : w149_wp k post := by
  have e := b_strl k hk
  unfold w149_wp w150_wp w150_L14
  refine ⟨hk, hk, hk, hk, rfl, ?_⟩
  show post (nI (px_ql.getD k 0) >>> (nI 0 &&& 31))
  rw [b_shr (show px_ql.getD k 0 < 2 ^ 31 by omega) (by decide), Nat.pow_zero, Nat.div_one, ← e.1]
  exact h
theorem b_char {k i : Nat} {post : Int32 → Prop} (hk : k < 32) (hi : i < (x_str k).length) (h : post (nI ((x_str k).getD i 0))) : w151_wp k post (nI i) := by
  have e := b_strl k hk
  rw [e.1] at hi
  obtain ⟨e1, e2, e3⟩ := b_strc k hk i hi
  unfold w151_wp w152_wp w152_L18 w153_wp w154_wp wkn_wp wcn_wp
  refine ⟨hk, hk, rfl, fun z => absurd z (by decide), fun _ => ⟨hk, hk, fun z => absurd z (nI_pos (by omega)), fun _ => ⟨fun _ => ⟨hk, b_in hi (by omega), ?_⟩, fun z => absurd (show nI i < nI (px_ql.getD k 0) from nI_lt hi (by omega)) z⟩⟩⟩
  rw [nI_clamp (show i < 2 ^ 31 by omega), e1]
  exact ⟨e3, e3, h⟩
/-- an array grows by two -/
def x_g2 : Nat → Nat → Nat → Nat
  | 0, l, _ => l
  | t + 1, l, m => if m ≤ l then l else x_g2 t (2 * l) m
theorem x_g2le : ∀ (t l m : Nat), l ≤ x_g2 t l m
  | 0, l, _ => Nat.le_refl l
  | t + 1, l, m => by
    unfold x_g2
    have := x_g2le t (2 * l) m
    split <;> omega
/-- what is printed: U; T so long the array will be, when M bytes have been kept -/
def pr_I (M T l : Nat) (pl pf : Int32) (g : Nat → Int32) (U : List Nat) : Prop := pl = nI (min 65536 U.length) ∧ pf = (if 65536 < U.length then 1 else 0) ∧ (∀ j x, j < 65536 → U[j]? = some x → g j = nI x ∧ x < 128) ∧ min 65536 U.length ≤ l ∧ 256 ≤ l ∧ l ≤ 65536 ∧ l ≤ T ∧ M ≤ 65536 ∧ ∃ t, 65536 ≤ l * 2 ^ t ∧ x_g2 t l M = T ∧ ∃ j, l * 2 ^ j = 65536
def pr_b (kc ks l T mc ms : Nat) : Prop := 16 * kc + (T - l) ≤ 16 * mc ∧ ks + 2 * (T - l) ≤ ms
theorem b_fb : ∀ x, x < 128 → fits .byte (.int (nI x)) = true := by decide +kernel
section CPR
variable {mc ms kc ks q_b l_b M T : Nat} {pl pf : Int32} {g_b g_d : Nat → Int32} {U : List Nat}
theorem c_put1 {post : Nat → Nat → Int32 → Int32 → (Nat → Int32) → (Nat → Int32) → Prop} {c : Nat} (hI : pr_I M T l_b pl pf g_b U) (hb : pr_b kc ks l_b T mc ms) (hc : c < 128) (hM : min 65536 (U.length + 1) ≤ M)
    (h : ∀ m s q' l' pl' pf' g', pr_I M T l' pl' pf' g' (U ++ [c]) → pr_b (kc + m) (ks + s) l' T mc ms → l_b ≤ l' → ∃ (_ : True), post q' l' pl' pf' g' g_d) : ∃ m s, kc + m ≤ mc ∧ ks + s ≤ ms ∧ pr_b (kc + m) (ks + s) (if pl < 65536 ∧ pl = nI l_b then 2 * l_b else l_b) T mc ms ∧ w270_wp m s post (nI c) q_b l_b pl pf g_b g_d := by
  obtain ⟨i1, i2, i3, i4, i5, i6, i7, i8, t, i9, i10, j, i11⟩ := hI
  have hUl : ∀ x, (U ++ [x]).length = U.length + 1 := fun x => by rw [List.length_append]; rfl
  have key : ∀ (l' : Nat) (g' : Nat → Int32), U.length < 65536 → U.length < l' → l' ≤ 65536 → 256 ≤ l' → (∀ i, i < U.length → g' i = g_b i) → ∀ t', 65536 ≤ l' * 2 ^ t' → x_g2 t' l' M = T → (∃ j, l' * 2 ^ j = 65536) → pr_I M T l' (nI (U.length + 1)) pf (upd g' U.length (nI c)) (U ++ [c]) := by
    intro l' g' h1 h2 h3 h4 h5 t' h6 h7 h8
    refine ⟨by rw [hUl, show min 65536 (U.length + 1) = U.length + 1 by omega], by rw [i2, hUl, if_neg (by omega), if_neg (by omega)], fun k x hk hx => ?_, by rw [hUl]; omega, h4, h3, by rw [← h7]; exact x_g2le t' l' M, i8, t', h6, h7, h8⟩
    by_cases z : k = U.length
    · rw [z, List.getElem?_append_right (Nat.le_refl _), Nat.sub_self] at hx
      have : c = x := by simpa using hx
      rw [z, pk_us, ← this]; exact ⟨rfl, hc⟩
    · rw [pk_un z]
      by_cases z2 : k < U.length
      · rw [List.getElem?_append_left z2] at hx
        rw [h5 k z2]; exact i3 k x hk hx
      · rw [List.getElem?_eq_none (by rw [hUl]; omega)] at hx
        exact absurd hx (by simp)
  have hbyte : vp_nar .byte (nI c).toInt8.toInt32 = nI c := b_byte c hc
  by_cases q1 : U.length < 65536
  · have hpl : pl = nI U.length := by rw [i1, show min 65536 U.length = U.length by omega]
    have hlt : pl < 65536 := by rw [hpl]; exact nI_lt (b := 65536) q1 (by decide)
    by_cases q2 : U.length = l_b
    · have hM2 : l_b < M := by omega
      obtain ⟨t', rfl⟩ : ∃ t', t = t' + 1 := ⟨t - 1, by
        by_cases z : t = 0
        · rw [z] at i9; omega
        · omega⟩
      have hg : x_g2 t' (2 * l_b) M = T := by
        rw [← i10]
        show _ = (if M ≤ l_b then l_b else x_g2 t' (2 * l_b) M)
        rw [if_neg (by omega)]
      have hle := x_g2le t' (2 * l_b) M
      rw [hg] at hle
      have hj0 : j ≠ 0 := fun z => by rw [z] at i11; omega
      obtain ⟨j', rfl⟩ : ∃ j', j = j' + 1 := ⟨j - 1, by omega⟩
      have ej : 2 * l_b * 2 ^ j' = 65536 := by rw [← i11, Nat.pow_succ, Nat.mul_comm (2 ^ j') 2, ← Nat.mul_assoc, Nat.mul_comm l_b 2]
      have h2l : 2 * l_b ≤ 65536 := by rw [← ej]; exact Nat.le_mul_of_pos_right _ (Nat.two_pow_pos j')
      have i9' : 65536 ≤ 2 * l_b * 2 ^ t' := by rw [Nat.pow_succ, Nat.mul_comm (2 ^ t') 2, ← Nat.mul_assoc, Nat.mul_comm l_b 2] at i9; exact i9
      have hb' : pr_b (kc + 1) (ks + 2 * l_b) (2 * l_b) T mc ms := by
        have := hb.1
        have := hb.2
        exact ⟨by omega, by omega⟩
      refine ⟨1, 2 * l_b, by have := hb.1; omega, by have := hb.2; omega, by rw [if_pos ⟨hlt, by rw [hpl, q2]⟩]; exact hb', ?_⟩
      unfold w270_wp
      refine ⟨fun _ => ⟨fun z => absurd (by rw [hpl, q2]) z, fun _ => ⟨1, 2 * l_b, by omega, by omega, ?_⟩⟩, fun z => absurd hlt z⟩
      rw [hpl, show (2 : Int32) = nI 2 from rfl, pk_mul, q2]
      refine b_copyB (by omega) (by omega) (fun i hi => ?_) (Nat.le_refl 1) (Nat.le_refl _) (fun q' f hf => ?_)
      · obtain ⟨x, hx⟩ : ∃ x, U[i]? = some x := ⟨_, List.getElem?_eq_getElem (by omega)⟩
        have := i3 i x (by omega) hx
        rw [this.1]; exact b_fb x this.2
      · unfold w270_L44
        rw [nI_clamp (show l_b < 2 ^ 31 by omega), hbyte]
        refine ⟨b_in (by omega) (by omega), fun z1 e1 => ?_⟩
        rw [e1, nI_1]
        have hk := key (2 * l_b) f q1 (by omega) h2l (by omega) (fun i hi => hf i (by omega)) t' i9' hg ⟨j', ej⟩
        rw [q2] at hk
        obtain ⟨_, hp⟩ := h 1 (2 * l_b) q' (2 * l_b) _ _ _ hk hb' (by omega)
        exact hp
    · refine ⟨0, 0, by have := hb.1; omega, by have := hb.2; omega, by rw [if_neg (fun z => ?_)]; exact hb; rw [hpl, nI_eq (by omega) (by omega)] at z; exact q2 z.2, ?_⟩
      unfold w270_wp w270_L44
      refine ⟨fun _ => ⟨fun _ => ?_, fun z => ?_⟩, fun z => absurd hlt z⟩
      · rw [hpl, nI_clamp (show U.length < 2 ^ 31 by omega), hbyte]
        refine ⟨b_in (by omega) (by omega), fun z1 e1 => ?_⟩
        rw [e1, nI_1]
        obtain ⟨_, hp⟩ := h 0 0 q_b l_b _ _ _ (key l_b g_b q1 (by omega) i6 i5 (fun _ _ => rfl) t i9 i10 ⟨j, i11⟩) hb (Nat.le_refl _)
        exact hp
      · rw [hpl, nI_eq (by omega) (by omega)] at z
        exact absurd z q2
  · have hpl : pl = nI 65536 := by rw [i1, show min 65536 U.length = 65536 by omega]
    have hnl : ¬ pl < 65536 := by rw [hpl]; decide
    refine ⟨0, 0, by have := hb.1; omega, by have := hb.2; omega, by rw [if_neg (fun z => hnl z.1)]; exact hb, ?_⟩
    unfold w270_wp
    refine ⟨fun z => absurd z hnl, fun _ => ?_⟩
    obtain ⟨_, hp⟩ := h 0 0 q_b l_b pl 1 g_b ⟨by rw [hpl, hUl, show min 65536 (U.length + 1) = 65536 by omega], by rw [hUl, if_pos (by omega)], fun k x hk hx => by
      rw [List.getElem?_append_left (by omega)] at hx; exact i3 k x hk hx, by rw [hUl]; omega, i5, i6, i7, i8, t, i9, i10, j, i11⟩ hb (Nat.le_refl _)
    exact hp
end CPR
