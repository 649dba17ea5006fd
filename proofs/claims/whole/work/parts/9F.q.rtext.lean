/-! PURE, the reference: what it prints is the ghost's text; its letters -/
theorem x_sgpm {n r : Nat} {g : Nat → Int} (hM : x_M n r (x_bg 0 g)) {S : Nat} (hS : x_bg 0 g S = true) : x_sgn2 0 n r (x_Fg 0 g) S = 1 ∨ x_sgn2 0 n r (x_Fg 0 g) S = -1 := by
  have hb : ∀ T, x_bg 0 g T = true → ¬ g T = 0 := fun T h z => by
    unfold x_bg at h
    rw [z] at h
    exact absurd h (by decide)
  have eF : ∀ T, x_Fg 0 g T = x_sg (g T) := fun T => if_pos rfl
  have hpm : ∀ T, ¬ g T = 0 → x_Fg 0 g T = 1 ∨ x_Fg 0 g T = -1 := fun T h => by rw [eF]; exact x_sg1 h
  obtain ⟨s1, s2⟩ := hM.2.2.1 S hS
  have hn : n ≤ 12 := hM.1
  have f1 := hpm S (hb S hS)
  have nz : ¬ x_Fg 0 g S = 0 := by
    rcases f1 with q | q <;> rw [q] <;> decide
  obtain ⟨S0, h1, h2⟩ := x_fstE (F := x_Fg 0 g) hn ⟨S, s1, s2, nz⟩
  have f2 : x_Fg 0 g S0 = 1 ∨ x_Fg 0 g S0 = -1 := hpm S0 (fun z => h1.2.2.1 (by rw [eF, z]; rfl))
  unfold x_sgn2
  rw [if_pos s2, if_pos rfl, h2]
  rcases f1 with q | q <;> rcases f2 with q' | q' <;> rw [q, q'] <;> decide
theorem x_PTG {k : Nat} {A B : x_LR} {piv : Nat → Nat} {K K2 : Nat → Nat → Int} {V : List Nat} (hpA : x_pm A.1) (hpB : x_pm B.1) (hK : x_KK A.1 A.2.1 A.2.2.1 piv K) (hA : x_pp A.1 A.2.2.1 K A.2.2.2.1) (hB : x_pp B.1 B.2.2.1 K2 B.2.2.2.1) (hM : x_M A.2.1 A.2.2.1 (x_bg A.1 A.2.2.2.1))
    (h : x_PT k A.1 A.2.1 A.2.2.1 piv K (fun e => (A.2.2.2.2 e).toInt) (fun i j => (x_T Int (x_bg A.1 A.2.2.2.1) A.2.1 A.2.2.1 i j).toNat) B.1 B.2.1 B.2.2.1 K2 V) : x_PG (8 + k) A B V := by
  have e1 := x_ppb hpA hA
  have e2 := x_ppb hpB hB
  have e3 : x_sgn2 A.1 A.2.1 A.2.2.1 (x_Fm A.1 A.2.2.1 K) = x_sgn2 A.1 A.2.1 A.2.2.1 (x_Fg A.1 A.2.2.2.1) := funext (fun S => x_sgK hpA hA S)
  unfold x_PT at h
  rw [e1, e2, e3] at h
  unfold x_PG
  rcases h with ⟨v, h⟩ | ⟨v, v', h⟩ | ⟨v, h⟩ | ⟨v, h⟩ | ⟨v, h⟩ | ⟨v, h⟩ | ⟨v, h⟩ | ⟨v, h⟩ | ⟨v, h⟩
  · exact Or.inr (Or.inl ⟨by omega, h⟩)
  · refine Or.inr (Or.inr (Or.inl ⟨by omega, by omega, ?_⟩))
    rw [show 8 + k - 10 = k - 2 by omega]
    exact h
  · exact Or.inr (Or.inr (Or.inr (Or.inl ⟨by omega, h⟩)))
  · exact Or.inr (Or.inr (Or.inr (Or.inr (Or.inl ⟨by omega, h⟩))))
  · exact Or.inr (Or.inr (Or.inr (Or.inr (Or.inr (Or.inl ⟨by omega, h⟩)))))
  · exact Or.inr (Or.inr (Or.inr (Or.inr (Or.inr (Or.inr (Or.inl ⟨by omega, h⟩))))))
  · exact Or.inr (Or.inr (Or.inr (Or.inr (Or.inr (Or.inr (Or.inr (Or.inl ⟨by omega, h⟩)))))))
  · exact Or.inr (Or.inr (Or.inr (Or.inr (Or.inr (Or.inr (Or.inr (Or.inr (Or.inl ⟨by omega, h⟩))))))))
  · refine Or.inr (Or.inr (Or.inr (Or.inr (Or.inr (Or.inr (Or.inr (Or.inr (Or.inr ⟨by omega, ?_⟩))))))))
    rw [h]; exact (x_shwG hpA hK hA hM).1
/-- the reference's letters tell of the ghosts -/
def r_LT (lt : Nat → Option x_LR) (gth ge gf gr gk gq gw gR gS : Nat → Int32) : Prop := ∀ x, x < 26 → (gth x = 0 ∧ lt x = none) ∨ ∃ A, lt x = some A ∧ r_G x A.1 A.2.1 A.2.2.1 A.2.2.2.1 gth ge gf gr gk gq gR gS ∧ (∀ e, e < A.2.1 → gw (12 * x + e) = A.2.2.2.2 e) ∧ ∀ e, -999 ≤ (A.2.2.2.2 e).toInt ∧ (A.2.2.2.2 e).toInt ≤ 999
section RLT
variable {lt : Nat → Option x_LR} {gth ge gf gr gk gq gw gR gS gth' ge' gf' gr' gk' gq' gw' gR' gS' : Nat → Int32} {m : Nat} {A : x_LR}
theorem r_GM {p n r : Nat} {g : Nat → Int} (h : r_G m p n r g gth ge gf gr gk gq gR gS) : x_M n r (x_bg p g) ∧ x_pm p := by
  obtain ⟨h0, piv, K, hL, hp⟩ := h
  have hD := r_LD hL
  have e := x_ppb hL.2.2.2.2.2.1 hp
  rw [e] at hD
  exact ⟨hD.2.2.2.1, hL.2.2.2.2.2.1⟩
/-- a letter is made anew -/
theorem r_LTm {n r p : Nat} (hm : m < 26) (h : r_LT lt gth ge gf gr gk gq gw gR gS) (hG : r_G m A.1 A.2.1 A.2.2.1 A.2.2.2.1 (upd gth m 1) (upd ge m (nI n)) (upd gf m (nI p)) (upd gr m (nI r)) gk' gq' gR' gS') (hw : ∀ e, e < A.2.1 → gw' (12 * m + e) = A.2.2.2.2 e) (hw9 : ∀ e, -999 ≤ (A.2.2.2.2 e).toInt ∧ (A.2.2.2.2 e).toInt ≤ 999) (hk : r_kf m gk gq gw gR gS gk' gq' gw' gR' gS') : r_LT (va_up lt m (some A)) (upd gth m 1) (upd ge m (nI n)) (upd gf m (nI p)) (upd gr m (nI r)) gk' gq' gw' gR' gS' := by
  intro x hx
  by_cases q : x = m
  · subst q
    rw [va_up_self]
    exact Or.inr ⟨A, rfl, hG, hw, hw9⟩
  · rw [va_up_ne _ _ q]
    have u : ∀ (f : Nat → Int32) (v : Int32), upd f m v x = f x := fun f v => if_neg q
    rcases h x hx with ⟨z1, z2⟩ | ⟨B, z1, z2, z3, z4⟩
    · exact Or.inl ⟨by rw [u]; exact z1, z2⟩
    · refine Or.inr ⟨B, z1, r_Gf q (u _ _) (u _ _) (u _ _) (u _ _) hk z2, fun e he => ?_, z4⟩
      have hn : B.2.1 ≤ 12 := z2.1.1
      rw [hk.2.2.1 (12 * x + e) (by omega)]
      exact z3 e he
theorem r_LTo {x : Int32} (h : r_LT lt gth ge gf gr gk gq gw gR gS) {y : Nat} (hy : y < 26) (e : x = nI y) : (gth y = 0 ∧ x_lt lt x = none) ∨ ∃ A, gth y = 1 ∧ x_lt lt x = some A ∧ lt y = some A ∧ r_G y A.1 A.2.1 A.2.2.1 A.2.2.2.1 gth ge gf gr gk gq gR gS ∧ (∀ e, e < A.2.1 → gw (12 * y + e) = A.2.2.2.2 e) ∧ ∀ e, -999 ≤ (A.2.2.2.2 e).toInt ∧ (A.2.2.2.2 e).toInt ≤ 999 := by
  have ex : x_lt lt x = lt y := by
    unfold x_lt
    rw [e, if_neg (nI_pos (by omega)), if_pos (show nI y < (26 : Int32) from nI_lt (b := 26) hy (by omega)), nI_clamp (by omega)]
  rw [ex]
  rcases h y hy with z | ⟨A, z1, z2, z3, z4⟩
  · exact Or.inl z
  · exact Or.inr ⟨A, (r_gth1 z2).1, z1, z1, z2, z3, z4⟩
/-- weights told -/
theorem r_LTw {vs : List Int32} (hm : m < 26) (hA : lt m = some A) (h : r_LT lt gth ge gf gr gk gq gw gR gS) (hw : ∀ e, e < A.2.1 → gw' (12 * m + e) = vs.getD e 0) (hw9 : ∀ x, x ∈ vs → -999 ≤ x.toInt ∧ x.toInt ≤ 999) (hk : ∀ q, (∀ e, e < A.2.1 → q ≠ 12 * m + e) → gw' q = gw q) : r_LT (va_up lt m (some (A.1, A.2.1, A.2.2.1, A.2.2.2.1, fun e => vs.getD e 0))) gth ge gf gr gk gq gw' gR gS := by
  intro x hx
  by_cases q : x = m
  · subst q
    rw [va_up_self]
    rcases h x hx with ⟨z1, z2⟩ | ⟨B, z1, z2, z3, z4⟩
    · rw [hA] at z2; cases z2
    · rw [hA] at z1; cases z1
      refine Or.inr ⟨_, rfl, z2, hw, fun e => ?_⟩
      show -999 ≤ (vs.getD e 0).toInt ∧ (vs.getD e 0).toInt ≤ 999
      rw [List.getD_eq_getElem?_getD]
      cases hv : vs[e]? with
      | none => exact ⟨by decide, by decide⟩
      | some v => exact hw9 v (List.mem_of_getElem? hv)
  · rw [va_up_ne _ _ q]
    rcases h x hx with z | ⟨B, z1, z2, z3, z4⟩
    · exact Or.inl z
    · refine Or.inr ⟨B, z1, z2, fun e he => ?_, z4⟩
      have hn : B.2.1 ≤ 12 := z2.1.1
      rcases h m hm with ⟨y1, y2⟩ | ⟨C, y1, y2, _⟩
      · rw [hA] at y2; cases y2
      · rw [hA] at y1; cases y1
        have hn2 : A.2.1 ≤ 12 := y2.1.1
        rw [hk (12 * x + e) (fun e' he' w => by omega)]
        exact z3 e he
end RLT
