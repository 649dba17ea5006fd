/-! PURE, the class: bestBasis -/
section CBB
variable {a cm np ns : Nat} {pa sa : Nat → Nat} {pp : Nat → px_PR} {ss : Nat → px_SR} {mc ms : Nat} {q_o l_o : Nat} {o_r : Int32} {g_o g_t : Nat → Int32} {mm : Nat → px_MR} {n r : Nat} {b : Nat → Bool}
/-- the heaviest of those below k that weren't seen -/
def c_hv (w : Nat → Int) (seen k : Nat) (x : Int32) : Prop := (x = -1 ∧ ∀ e, e < k → seen.testBit e = true) ∨ ∃ h, h < k ∧ x = nI h ∧ seen.testBit h = false ∧ ∀ e, e < k → seen.testBit e = false → w e < w h ∨ (w e = w h ∧ h ≤ e)
theorem x_ra1 {h : Nat} {G : Nat} (hh : h < n) (hG : G.testBit h = false) : ∀ (k : Nat), k ≤ n → x_ra b (2 ^ h) k G = if h < k ∧ x_rk b G < x_rk b (x_t G h) then x_t G h else G
  | 0, _ => by rw [if_neg (by omega)]; rfl
  | k + 1, hk => by
    have ih := x_ra1 hh hG k (by omega)
    show (if (2 ^ h).testBit k = true ∧ (x_ra b (2 ^ h) k G).testBit k = false ∧ x_rk b (x_ra b (2 ^ h) k G) < x_rk b (x_t (x_ra b (2 ^ h) k G) k) then x_t (x_ra b (2 ^ h) k G) k else x_ra b (2 ^ h) k G) = _
    rw [ih, Nat.testBit_two_pow]
    by_cases z : h = k
    · subst z
      rw [if_neg (by omega : ¬ (h < h ∧ x_rk b G < x_rk b (x_t G h)))]
      by_cases q : x_rk b G < x_rk b (x_t G h)
      · rw [if_pos ⟨by simp, hG, q⟩, if_pos ⟨by omega, q⟩]
      · rw [if_neg (fun z => q z.2.2), if_neg (fun z => q z.2)]
    · rw [decide_eq_false z, if_neg (fun q => Bool.noConfusion q.1)]
      by_cases q : h < k ∧ x_rk b G < x_rk b (x_t G h)
      · rw [if_pos q, if_pos ⟨by omega, q.2⟩]
      · rw [if_neg q, if_neg (fun q2 => q ⟨by omega, q2.2⟩)]
theorem c_best20 {post : Int32 → Nat → Nat → Int32 → (Nat → Int32) → (Nat → Int32) → (Nat → px_MR) → Prop} {K6 : Int32 → Int32 → Int32 → Nat → Nat → Int32 → (Nat → Int32) → (Nat → Int32) → (Nat → px_MR) → Nat → Nat → Prop} {M1 : px_MR} {w : Nat → Int} {seen G turn kc ks : Nat} (ha : a < cm) (hB : c_B M1 n r b) (hK : c_K M1 n b) (hw : ∀ e, e < n → (M1.2.2.2.1 3 e).toInt = w e) (hs : seen < 2 ^ n) (hGn : G < 2 ^ n) (hGs : ∀ i, G.testBit i = true → seen.testBit i = true) (hfree : ∃ e, e < n ∧ seen.testBit e = false) (hmc : kc + c_rc M1 n ≤ mc) (hms : ks + c_rs M1 n ≤ ms)
    (hk : ∀ h M', h < n → seen.testBit h = false → (∀ f, f < n → seen.testBit f = false → f ≠ h → x_wx w f < x_wx w h) → c_Q M1 M' n b → K6 (nI (if x_rk b G < x_rk b (x_t G h) then x_t G h else G)) (nI (x_t seen h)) (nI turn + 1) q_o l_o o_r g_o g_t (va_up mm a M') (kc + c_rc M1 n) (ks + c_rs M1 n)) :
    ∀ (u k : Nat) (x : Int32), k + u = n → c_hv w seen k x → w286_L20 K6 a cm np ns pa sa pp ss mc ms post (u + 1) (nI G) (nI seen) (nI turn) x (nI k) q_o l_o o_r g_o g_t (va_up mm a M1) kc ks := by
  have hn := hB.2.2.1.1
  have hp := b_p12 hn
  intro u
  induction u with
  | zero =>
    intro k x hk1 hx
    have hkn : k = n := by omega
    subst hkn
    unfold w286_L20
    rw [va_up_self, hB.1]
    refine ⟨ha, fun _ => ?_, fun z => absurd (nI_le (Nat.le_refl k) (by omega)) z⟩
    rcases hx with ⟨_, hx⟩ | ⟨h, hh, ex, hf, hmax⟩
    · obtain ⟨e, he, be⟩ := hfree
      rw [hx e he] at be; exact Bool.noConfusion be
    · rw [ex]
      refine ⟨fun _ => ?_, fun z => absurd z (b_m1 (by omega))⟩
      unfold w286_L97
      rw [b_sh (show h < 31 by omega), b_or, b_ortf hf]
      intro z1 e1
      have hGh : G.testBit h = false := by
        cases q : G.testBit h
        · rfl
        · rw [hGs h q] at hf; exact Bool.noConfusion hf
      refine ⟨c_rc M1 k, c_rs M1 k, hmc, hms, ha, ?_⟩
      refine c_raisers (mm := va_up mm a M1) ha (by rw [va_up_self]; exact hB) (by rw [va_up_self]; exact hK) (Nat.pow_lt_pow_right (by decide) hh) hGn (by rw [va_up_self]; exact Nat.le_refl _) (by rw [va_up_self]; exact Nat.le_refl _) (fun M' hQ z10 e10 z11 e11 => ?_)
      rw [va_up_self] at hQ
      rw [b_upup, e11, e1, e10, b_or, x_ra1 hh hGh k (Nat.le_refl k)]
      have hres : G ||| ((if h < k ∧ x_rk b G < x_rk b (x_t G h) then x_t G h else G) &&& 2 ^ h) = if x_rk b G < x_rk b (x_t G h) then x_t G h else G := by
        by_cases q : x_rk b G < x_rk b (x_t G h)
        · rw [if_pos ⟨hh, q⟩, if_pos q, ← b_ortf hGh]
          apply Nat.eq_of_testBit_eq
          intro i
          rw [Nat.testBit_or, Nat.testBit_and, Nat.testBit_or, Nat.testBit_two_pow]
          cases G.testBit i <;> cases decide (h = i) <;> rfl
        · rw [if_neg (fun z => q z.2), if_neg q]
          apply Nat.eq_of_testBit_eq
          intro i
          rw [Nat.testBit_or, Nat.testBit_and, Nat.testBit_two_pow]
          cases G.testBit i <;> cases decide (h = i) <;> rfl
      rw [hres]
      refine hk h M' hh hf (fun f hfk hfs hfh => x_wxlt (by omega) (by omega) ?_) hQ
      rcases hmax f hfk hfs with z | z
      · exact Or.inl z
      · exact Or.inr ⟨z.1, by omega⟩
  | succ u ih =>
    intro k x hk1 hx
    unfold w286_L20 w286_L43 w286_L73 w286_L77
    rw [va_up_self, hB.1]
    refine ⟨ha, fun z => absurd z (nI_ge (by omega) (by omega)), fun _ => ⟨fun c => ?_, fun c => ?_⟩⟩
    · have c : seen.testBit k = true := by
        cases hh : seen.testBit k
        · exact absurd ((b_bit0 (show seen < 2 ^ 31 by omega) (show k < 32 by omega)).mpr hh) c
        · rfl
      refine ⟨fun _ z ez => ?_, fun z => absurd rfl z⟩
      rw [ez, nI_1]
      refine ih (k + 1) x (by omega) ?_
      rcases hx with ⟨ex, hx⟩ | ⟨h, hh, ex, hf, hmax⟩
      · refine Or.inl ⟨ex, fun e he => ?_⟩
        by_cases z : e = k
        · rw [z]; exact c
        · exact hx e (by omega)
      · refine Or.inr ⟨h, by omega, ex, hf, fun e he hes => ?_⟩
        by_cases z : e = k
        · rw [z, c] at hes; exact Bool.noConfusion hes
        · exact hmax e (by omega) hes
    · have c := (b_bit0 (show seen < 2 ^ 31 by omega) (show k < 32 by omega)).mp c
      refine ⟨fun z => absurd z (by decide), fun _ => ⟨fun ex z ez => ?_, fun hne => ?_⟩⟩
      · rw [ez, nI_1]
        refine ih (k + 1) (nI k) (by omega) ?_
        rcases hx with ⟨_, hx⟩ | ⟨h, hh, ex2, hf, hmax⟩
        · refine Or.inr ⟨k, by omega, rfl, c, fun e he hes => ?_⟩
          by_cases z : e = k
          · exact Or.inr ⟨by rw [z], by omega⟩
          · rw [hx e (by omega)] at hes; exact Bool.noConfusion hes
        · exact absurd (ex2 ▸ ex) (b_m1 (by omega))
      · rcases hx with ⟨ex, hx⟩ | ⟨h, hh, ex2, hf, hmax⟩
        · exact absurd ex hne
        · rw [ex2, nI_clamp (show k < 2 ^ 31 by omega), nI_clamp (show h < 2 ^ 31 by omega), Int32.le_iff_toInt_le, hw k (by omega), hw h (by omega)]
          refine ⟨ha, ha, b_in (by omega) (by omega), ha, ha, b_in (by omega) (by omega), fun q z ez => ?_, fun q z ez => ?_⟩
          · rw [ez, nI_1]
            refine ih (k + 1) (nI h) (by omega) (Or.inr ⟨h, by omega, rfl, hf, fun e he hes => ?_⟩)
            by_cases z : e = k
            · rw [z]
              by_cases q2 : w k = w h
              · exact Or.inr ⟨q2, by omega⟩
              · exact Or.inl (by omega)
            · exact hmax e (by omega) hes
          · rw [ez, nI_1]
            refine ih (k + 1) (nI k) (by omega) (Or.inr ⟨k, by omega, rfl, c, fun e he hes => ?_⟩)
            by_cases z : e = k
            · exact Or.inr ⟨by rw [z], by omega⟩
            · rcases hmax e (by omega) hes with q2 | q2
              · exact Or.inl (by omega)
              · exact Or.inl (by omega)
theorem c_best6 {post : Int32 → Nat → Nat → Int32 → (Nat → Int32) → (Nat → Int32) → (Nat → px_MR) → Prop} {w : Nat → Int} (ha : a < cm) (hM : x_M n r b) :
    ∀ (u t : Nat) (M1 : px_MR) (seen G kc ks : Nat), t + u = n → x_n seen = t → seen < 2 ^ n → G < 2 ^ n → x_gi b n w seen G → c_B M1 n r b → c_K M1 n b → (t = 0 ∨ c_R M1 n b) → (∀ e, e < n → (M1.2.2.2.1 3 e).toInt = w e) → kc + c_rc M1 n ≤ mc → ks + c_rs M1 n ≤ ms → (∀ M' G', c_Q M1 M' n b → x_best b w G' → post (nI G') q_o l_o o_r g_o g_t (va_up mm a M')) → w286_L6 a cm np ns pa sa pp ss mc ms post (u + 1) (nI G) (nI seen) (nI t) q_o l_o o_r g_o g_t (va_up mm a M1) kc ks := by
  have hn := hM.1
  have hp := b_p12 hn
  intro u
  induction u with
  | zero =>
    intro t M1 seen G kc ks ht hsn hs hG hgi hB hK hR hw hmc hms h
    have htn : t = n := by omega
    subst htn
    unfold w286_L6
    rw [va_up_self, hB.1]
    refine ⟨ha, fun _ => h M1 G (c_Qr hB hR.symm) (x_giend hM (fun i hi => ?_) (by omega) hgi), fun z => absurd (nI_le (Nat.le_refl t) (by omega)) z⟩
    have h1 := x_nco hn hs
    have h2 : x_n (x_co t seen) = 0 := by omega
    have := x_cnz 12 h2 i (by omega)
    rw [x_cob hi] at this
    cases hh : seen.testBit i
    · rw [hh] at this; exact Bool.noConfusion this
    · rfl
  | succ u ih =>
    intro t M1 seen G kc ks ht hsn hs hG hgi hB hK hR hw hmc hms h
    unfold w286_L6
    rw [va_up_self, hB.1]
    refine ⟨ha, fun z => absurd z (nI_ge (by omega) (by omega)), fun _ => ⟨n + 1, ?_⟩⟩
    have hfree : ∃ e, e < n ∧ seen.testBit e = false := by
      refine Classical.byContradiction (fun hno => ?_)
      have h1 := x_nco hn hs
      have : x_n (x_co n seen) = x_cn 12 (fun _ => false) := x_cnc 12 (fun i hi => by
        by_cases q : i < n
        · rw [x_cob q]
          cases hh : seen.testBit i
          · exact absurd ⟨i, q, hh⟩ hno
          · rfl
        · exact x_hi (x_col hs) (by omega))
      have h0 : x_cn 12 (fun _ => false) = 0 := rfl
      omega
    have := c_best20 (K6 := w286_L6 a cm np ns pa sa pp ss mc ms post (u + 1)) (np := np) (ns := ns) (pa := pa) (sa := sa) (pp := pp) (ss := ss) (q_o := q_o) (l_o := l_o) (o_r := o_r) (g_o := g_o) (g_t := g_t) (mm := mm) (post := post) (turn := t) (w := w) (G := G) ha hB hK hw hs hG hgi.1 hfree hmc hms (fun e M' he hes hmax hQ => ?_) n 0 (-1) (by omega) (Or.inl ⟨rfl, fun e he => by omega⟩)
    · rw [nI_0] at this; exact this
    · rw [nI_1]
      have hz := c_Qc hB hQ
      have hR' : c_R M' n b := hQ.1.resolve_right (fun z => by omega)
      refine ih (t + 1) M' (x_t seen e) _ _ _ (by omega) (by have := x_nt0 (S := seen) (e := e) (by omega) hes; omega) (x_tl hs he) ?_ (x_gi1 hM hgi he hes hmax) (c_QB hB hQ) (Or.inr hR') (Or.inr hR') (fun e' he' => by rw [hQ.2.1.2.2.2.1 3 (by decide)]; exact hw e' he') (by omega) (by omega) (fun M'' G' hQ' hb => h M'' G' (c_Qt hB hQ hQ') hb)
      split
      · exact x_tl hG he
      · exact hG
/-- bestBasis -/
theorem c_bestB {post : Int32 → Nat → Nat → Int32 → (Nat → Int32) → (Nat → Int32) → (Nat → px_MR) → Prop} {w : Nat → Int} (ha : a < cm) (hB : c_B (mm a) n r b) (hK : c_K (mm a) n b) (hw : ∀ e, e < n → ((mm a).2.2.2.1 3 e).toInt = w e) (hmc : c_rc (mm a) n ≤ mc) (hms : c_rs (mm a) n ≤ ms)
    (h : ∀ M' G, c_Q (mm a) M' n b → x_best b w G → post (nI G) q_o l_o o_r g_o g_t (va_up mm a M')) : w286_wp a cm np ns pa sa pp ss mc ms post q_o l_o o_r g_o g_t mm := by
  unfold w286_wp
  refine ⟨n + 1, ?_⟩
  have hp := Nat.two_pow_pos n
  have := c_best6 (np := np) (ns := ns) (pa := pa) (sa := sa) (pp := pp) (ss := ss) (q_o := q_o) (l_o := l_o) (o_r := o_r) (g_o := g_o) (g_t := g_t) (mm := mm) (post := post) (w := w) (mc := mc) (ms := ms) ha hB.2.2.1 n 0 (mm a) 0 0 0 0 (by omega) (by decide) hp hp (x_gi0 hB.2.2.1) hB hK (Or.inl rfl) hw (by omega) (by omega) h
  rw [b_upself, nI_0] at this
  exact this
end CBB
