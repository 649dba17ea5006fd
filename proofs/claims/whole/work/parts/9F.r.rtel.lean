/-! PURE, the reference: the statements that tell -/
abbrev r_P8 := (Nat → Int32) → (Nat → Int32) → (Nat → Int32) → (Nat → Int32) → (Nat → Int32) → (Nat → Int32) → (Nat → Int32) → (Nat → Int32) → (Nat → Int32) → (Nat → Int32) → (Nat → Int32) → (Nat → Int32) → (Nat → Int32) → (Nat → Int32) → (Nat → Int32) → (Nat → Int32) → (Nat → Int32) → (Nat → Int64) → (Nat → Int64) → (Nat → Int32) → (Nat → Int32) → (Nat → Int32) → (Nat → Int32) → (Nat → Int32) → (Nat → Int32) → (Nat → Int32) → (Nat → Int32) → (Nat → px_NV) → Prop
/-- the text kept -/
def rp_T (iv sh : Nat → Int32) (U : List Nat) : Prop := U.length ≤ 65536 ∧ iv 47 = nI U.length ∧ ∀ j x, U[j]? = some x → sh j = nI x
theorem rp_TI {iv sh : Nat → Int32} {U : List Nat} (h : rp_T iv sh U) (h43 : iv 43 = 0) : rp_I iv sh U :=
  ⟨by rw [h.2.1, Nat.min_eq_right h.1], by rw [h43, if_neg (by have := h.1; omega)], fun j x _ hx => h.2.2 j x hx⟩
theorem rp_FT {iv sh : Nat → Int32} {U V : List Nat} (hU : U.length ≤ 65536) (h : rp_F iv sh U V) : rp_T iv sh (if (U ++ V).length ≤ 65536 then U ++ V else U) ∧ iv 43 = if (U ++ V).length ≤ 65536 then 0 else 7 := by
  unfold rp_F at h
  by_cases q : (U ++ V).length ≤ 65536
  · rw [if_pos q] at h ⊢
    rw [if_pos q]
    obtain ⟨h1, h2, h3⟩ := h
    refine ⟨⟨q, by rw [h1, Nat.min_eq_right q], fun j x hx => ?_⟩, by rw [h2, if_neg (by omega)]⟩
    refine h3 j x ?_ hx
    refine Classical.byContradiction (fun w => ?_)
    rw [List.getElem?_eq_none (by omega)] at hx; cases hx
  · rw [if_neg q] at h ⊢
    rw [if_neg q]
    exact ⟨⟨hU, h.2.1, h.2.2⟩, h.1⟩
section RTL
variable {iv gs gp fr fc gm gth ge gf gr gk gq gw gR gS go gz gt gi gx b gl gsv sh gd : Nat → Int32} {gc gh : Nat → Int64} {nv : Nat → px_NV} {U : List Nat} {lt : Nat → Option x_LR}
theorem r_tel {post : r_P8} {k y z : Nat} (hk1 : 1 ≤ k) (hk2 : k ≤ 12) (hy : y < 26) (hz : z < 26) (hT : r_T go gz) (hLT : r_LT lt gth ge gf gr gk gq gw gR gS) (h43 : iv 43 = 0) (hU : rp_T iv sh U)
    (hB : ∀ (why : Int32), ((why = 1 ∧ (lt y = none ∨ lt z = none)) ∨ (∃ A B, lt y = some A ∧ lt z = some B ∧ ((why = 5 ∧ (k = 9 ∨ k = 10) ∧ ¬ A.1 = 0) ∨ (why = 6 ∧ k = 8 ∧ ¬ A.2.1 = B.2.1)))) → post (va_up iv 43 why) gs gp fr fc gm gth ge gf gr gk gq gw gR gS go gz gc gh gt gi gx b gl gsv sh gd nv)
    (hG : ∀ A B V iv' gc' gh' gt' gi' gx' sh' gd' nv', lt y = some A → lt z = some B → ((k = 9 ∨ k = 10) → A.1 = 0) → (k = 8 → A.2.1 = B.2.1) → x_PG (8 + k) A B V → rp_F iv' sh' U V → (∀ q, q ≠ 43 → q ≠ 47 → q ≠ 32 → q ≠ 33 → iv' q = iv q) → (∀ q, q < 156 → nv' q = nv q) → post iv' gs gp fr fc gm gth ge gf gr gk gq gw gR gS go gz gc' gh' gt' gi' gx' b gl gsv sh' gd' nv') :
    w104_L69 post (nI k) (nI y) (nI z) iv gs gp fr fc gm gth ge gf gr gk gq gw gR gS go gz gc gh gt gi gx b gl gsv sh gd nv := by
  have ne : ∀ a, a < 20 → k ≠ a → ¬ nI k = nI a := fun a ha q w => q ((nI_eq (by omega) (by omega)).1 w)
  have eq : ∀ a, a < 20 → nI k = nI a → k = a := fun a ha w => (nI_eq (by omega) (by omega)).1 w
  have iny : vp_in (nI y) 26 := b_in hy (by omega)
  have inz : vp_in (nI z) 26 := b_in hz (by omega)
  unfold w104_L69 w104_L98
  rw [nI_clamp (show y < 2 ^ 31 by omega), nI_clamp (show z < 2 ^ 31 by omega)]
  refine ⟨iny, r_may h43 (by decide) (fun w => ⟨fun w0 => t_10 w0, fun _ => ⟨inz, r_may h43 (by decide) (fun w2 => ?_) (fun w2 => ?_)⟩⟩) (fun w => ?_)⟩
  · -- both are there
    rcases hLT y hy with ⟨z1, _⟩ | ⟨A, a1, a2, a3, a4⟩
    · exact absurd z1 w
    rcases hLT z hz with ⟨z1, _⟩ | ⟨B, b1, b2, b3, b4⟩
    · exact absurd z1 w2
    obtain ⟨g1, g2, g3, g4, g5, g6⟩ := r_gth1 a2
    obtain ⟨j1, j2, j3, j4, j5, j6⟩ := r_gth1 b2
    obtain ⟨hM, hpm⟩ := r_GM a2
    have hpm2 := (r_GM b2).2
    have pr : ((k = 9 ∨ k = 10) → A.1 = 0) → (k = 8 → A.2.1 = B.2.1) → w104_L169 post (nI k) (nI y) (nI z) iv gs gp fr fc gm gth ge gf gr gk gq gw gR gS go gz gc gh gt gi gx b gl gsv sh gd nv := by
      intro c9 c8
      obtain ⟨_, piv, K, hL1, hp1⟩ := a2
      obtain ⟨_, piv2, K2, hL2, hp2⟩ := b2
      have eb := x_ppb hpm hp1
      unfold w104_L169 w104_L176
      refine r_print (w := fun e => (A.2.2.2.2 e).toInt) (c := fun i j => (x_T Int (x_bg A.1 A.2.2.2.1) A.2.1 A.2.2.1 i j).toNat) hk1 hk2 hL1 hL2 hT (fun e he => by rw [a3 e he]) (fun e _ => a4 e) (fun _ i j _ _ => ?_) (fun e10 => ⟨fun S hS hb => ?_, fun C hC => ?_⟩) c8 hU.1 (rp_TI hU h43) (fun V iv' gc' gh' gt' gi' gx' sh' gd' nv' hP hF hQ hn => hG A B V iv' gc' gh' gt' gi' gx' sh' gd' nv' a1 b1 c9 c8 (x_PTG hpm hpm2 hL1.2.2.2.2.2.2.1 hp1 hp2 hM hP) hF hQ hn)
      · rw [eb]; exact x_Tok hM i j
      · rw [x_sgK hpm hp1 S]
        rw [eb] at hb
        have e0 := c9 (Or.inr e10)
        rw [e0] at hb hM ⊢
        exact x_sgpm hM hb
      · refine Nat.lt_of_lt_of_le (x_ngkL _) ?_
        have : 2 ^ A.2.1 ≤ 2 ^ 12 := Nat.pow_le_pow_right (by decide) g5
        exact Nat.le_trans this (by decide)
    have l134 : ((k = 9 ∨ k = 10) → A.1 = 0) → w104_L134 post (nI k) (nI y) (nI z) iv gs gp fr fc gm gth ge gf gr gk gq gw gR gS go gz gc gh gt gi gx b gl gsv sh gd nv := by
      intro c9
      unfold w104_L134 w104_L161
      rw [nI_clamp (show y < 2 ^ 31 by omega), nI_clamp (show z < 2 ^ 31 by omega), g3, j3]
      refine ⟨fun w8 => pr c9 (fun q => absurd (by rw [q]; rfl) w8), fun w8 => ⟨iny, inz, fun wn => ?_, fun wn => ?_⟩⟩
      · have hne : ¬ A.2.1 = B.2.1 := fun q => wn (by rw [q])
        refine r_may h43 (by decide) (fun q => absurd rfl q) (fun _ => ⟨fun _ => ?_, fun q => absurd rfl q⟩)
        unfold w104_L176
        exact hB 6 (Or.inr ⟨A, B, a1, b1, Or.inr ⟨rfl, eq 8 (by decide) w8, hne⟩⟩)
      · have hen : A.2.1 = B.2.1 := (nI_eq (by omega) (by omega)).1 wn
        exact r_may h43 (by decide) (fun _ => ⟨fun q => t_10 q, fun _ => pr c9 (fun _ => hen)⟩) (fun q => t_10 q)
    have l111 : (k = 9 ∨ k = 10) → w104_L111 post (nI k) (nI y) (nI z) iv gs gp fr fc gm gth ge gf gr gk gq gw gR gS go gz gc gh gt gi gx b gl gsv sh gd nv := by
      intro c9
      unfold w104_L111 w104_L126
      rw [nI_clamp (show y < 2 ^ 31 by omega), g4]
      refine ⟨iny, fun wp => ?_, fun wp => ?_⟩
      · refine r_may h43 (by decide) (fun q => absurd rfl q) (fun _ => ⟨fun q => absurd rfl q, fun _ => ?_⟩)
        exact hB 5 (Or.inr ⟨A, B, a1, b1, Or.inl ⟨rfl, c9, fun q => wp (by rw [q]; rfl)⟩⟩)
      · have e0 : A.1 = 0 := (nI_eq (b := 0) (by omega) (by decide)).1 wp
        exact r_may h43 (by decide) (fun _ => ⟨fun _ => l134 (fun _ => e0), fun q => t_10 q⟩) (fun q => t_10 q)
    refine ⟨fun _ => ⟨fun w9 => l111 (Or.inl (eq 9 (by decide) w9)), fun w9 => ⟨fun w10 => l134 (fun q => ?_), fun w10 => l111 (Or.inr (eq 10 (by decide) w10))⟩⟩, fun q => t_10 q⟩
    rcases q with q | q
    · exact absurd (by rw [q]; rfl) w9
    · exact absurd (by rw [q]; rfl) w10
  · refine ⟨fun q => absurd rfl q, fun _ => hB 1 (Or.inl ⟨rfl, Or.inr ?_⟩)⟩
    rcases hLT z hz with ⟨_, z2⟩ | ⟨B, _, b2, _⟩
    · exact z2
    · rw [(r_gth1 b2).1] at w2; exact t_10 w2
  · refine ⟨fun _ => hB 1 (Or.inl ⟨rfl, Or.inl ?_⟩), fun q => absurd rfl q⟩
    rcases hLT y hy with ⟨_, z2⟩ | ⟨B, _, b2, _⟩
    · exact z2
    · rw [(r_gth1 b2).1] at w; exact t_10 w
end RTL
