/-! PURE, the class: Minors: addsRow -/
/-- the numbers when a row more is there -/
def x_zn (p n h : Nat) (r : Nat → Int) (Z : Nat → Int) (T : Nat) : Int := if T < 2 ^ n ∧ x_n T = h + 1 then x_md p (x_w r Z T) else Z T
theorem x_wcg2 {r : Nat → Int} {F G : Nat → Int} {S : Nat} (h : ∀ e, e < 12 → S.testBit e = true → F (x_t S e) = G (x_t S e)) : x_w r F S = x_w r G S := by
  unfold x_w
  refine x_smc 12 (fun e he => ?_)
  by_cases q : S.testBit e = true
  · rw [if_pos q, if_pos q, h e he q]
  · rw [if_neg q, if_neg q]
section CMA
variable {q_l q_m q_h l_l l_m l_h q_o l_o : Nat} {m_loaded : Option Nat} {g_r g_o g_t : Nat → Int32} {o_r : Int32} {n_r n at_ p h q : Nat} {r : Nat → Int} {Z : Nat → Int}
theorem c_adds {g_l g_m g_h : Nat → Int64} {post : Int32 → Nat → Nat → Nat → Nat → Nat → Nat → Int32 → Int32 → Int32 → Option Nat → (Nat → Int64) → (Nat → Int64) → (Nat → Int64) → Nat → Nat → Int32 → (Nat → Int32) → (Nat → Int32) → (Nat → Int32) → Prop} (ho : o_Ok l_o o_r g_o g_t q) (hq : n ≤ q) (hhn : h ≤ n) (hll : 2 ^ n ≤ l_l) (hlm : 2 ^ n ≤ l_m) (hlh : 2 ^ n ≤ l_h) (hl1 : l_l < 2 ^ 31) (hl2 : l_m < 2 ^ 31) (hl3 : l_h < 2 ^ 31) (hat : at_ + n ≤ n_r) (hnr : n_r < 2 ^ 31) (hr : ∀ e, e < 12 → (r e).natAbs ≤ 999) (hg : ∀ e, e < n → g_r (at_ + e) = Int32.ofInt (r e)) (hp : p < 2 ^ 31)
    (hL : ∀ T, T < 2 ^ n → mn (Z T) (g_l T) (g_m T) (g_h T)) (hZ : ∀ T, (Z T).natAbs < 2 ^ 143) (hZp : p ≠ 0 → ∀ T, 0 ≤ Z T ∧ Z T < p) (hZ2 : p = 0 → ∀ T, T < 2 ^ n → x_n T = h + 1 → (x_w r Z T).natAbs < 2 ^ 143)
    (hpost : ∀ g_l' g_m' g_h' (b : Bool), (∀ T, T < 2 ^ n → mn (x_zn p n h r Z T) (g_l' T) (g_m' T) (g_h' T)) → (b = true ↔ ∃ T, T < 2 ^ n ∧ x_n T = h + 1 ∧ x_md p (x_w r Z T) ≠ 0) → post (if b = true then 1 else 0) q_l q_m q_h l_l l_m l_h (nI p) (nI n) (nI (h + if b = true then 1 else 0)) m_loaded g_l' g_m' g_h' q_o l_o o_r g_o g_t g_r) :
    w238_wp n_r post (nI at_) q_l q_m q_h l_l l_m l_h (nI p) (nI n) (nI h) m_loaded g_l g_m g_h q_o l_o o_r g_o g_t g_r := by
  have hn : n ≤ 12 := Nat.le_trans hq ho.1
  have h2n : 2 ^ n ≤ 2 ^ 12 := Nat.pow_le_pow_right (by decide) hn
  have hxn : ∀ T, T < 2 ^ n → x_n T ≤ n := fun T hT => x_nlen hn hT
  unfold w238_wp
  by_cases z : h = n
  · refine ⟨fun k => absurd k (nI_nlt (by omega) (by omega)), fun _ => ⟨rfl, ?_⟩⟩
    refine hpost g_l g_m g_h false (fun T hT => ?_) ⟨fun k => Bool.noConfusion k, fun ⟨T, t1, t2, _⟩ => absurd (hxn T t1) (by omega)⟩
    unfold x_zn
    rw [if_neg (fun k => absurd (hxn T hT) (by omega))]
    exact hL T hT
  · refine ⟨fun _ => ?_, fun k => absurd (nI_lt (by omega) (by omega)) k⟩
    have e2 : nI h + 2 = nI (h + 2) := (Int32.ofNat_add h 2).symm
    rw [e2, nI_1]
    refine c_ostart ho hq (by omega) (c_ostart ho hq (by omega) ?_)
    have s1 := x_stm (n := n) (show h + 1 ≤ h + 2 by omega)
    have s2 := x_stl (m := n) (j := h + 2) hn
    generalize hA : x_st n (h + 1) = A at *
    generalize hB : x_st n (h + 2) = B at *
    have hAB : ∀ i, i < 2 ^ n → ((A ≤ i ∧ i < B) ↔ x_n (x_or n i) = h + 1) := fun i hi => by rw [← hA, ← hB]; exact x_sti hn hi
    have hzn : ∀ T, (x_zn p n h r Z T).natAbs < 2 ^ 143 := by
      intro T
      unfold x_zn
      split
      · rename_i k
        unfold x_md
        split
        · rename_i k2; exact hZ2 k2 T k.1 k.2
        · have m0 := Int.emod_nonneg (x_w r Z T) (show (p : Int) ≠ 0 by omega)
          have m1 := Int.emod_lt_of_pos (x_w r Z T) (show (0 : Int) < p by omega)
          omega
      · exact hZ T
    have hznp : p ≠ 0 → ∀ T, 0 ≤ x_zn p n h r Z T ∧ x_zn p n h r Z T < p := by
      intro hp0 T
      unfold x_zn
      split
      · unfold x_md
        rw [if_neg hp0]
        exact ⟨Int.emod_nonneg (x_w r Z T) (show (p : Int) ≠ 0 by omega), Int.emod_lt_of_pos (x_w r Z T) (show (0 : Int) < p by omega)⟩
      · exact hZp hp0 T
    have main : ∀ (t i : Nat), i + t = B → A ≤ i → ∀ (g_l g_m g_h : Nat → Int64) (Zc : Nat → Int) (b : Bool), (∀ T, T < 2 ^ n → mn (Zc T) (g_l T) (g_m T) (g_h T)) → (∀ T, Zc T = Z T ∨ Zc T = x_zn p n h r Z T) → (∀ k, A ≤ k → k < i → Zc (x_or n k) = x_zn p n h r Z (x_or n k)) → (b = true ↔ ∃ k, A ≤ k ∧ k < i ∧ x_zn p n h r Z (x_or n k) ≠ 0) → w238_L53 n_r post (t + 1) (nI at_) (if b = true then 1 else 0) (nI B) (nI i) q_l q_m q_h l_l l_m l_h (nI p) (nI n) (nI h) m_loaded g_l g_m g_h q_o l_o o_r g_o g_t g_r := by
      intro t
      induction t with
      | zero =>
        intro i hi hAi g_l g_m g_h Zc b c1 c2 c3 c4
        refine ⟨fun _ => ?_, fun k => absurd (nI_le (by omega) (by omega)) k⟩
        have hp2 := hpost g_l g_m g_h b (fun T hT => ?_) ?_
        · cases b with
          | true => exact ⟨fun k => absurd k (by decide), fun _ z1 e1 => ⟨rfl, by rw [e1, nI_1]; exact hp2⟩⟩
          | false => exact ⟨fun _ z1 e1 => ⟨rfl, by rw [e1, show nI h + 0 = nI h from Int32.add_zero _]; exact hp2⟩, fun k => absurd rfl k⟩
        · by_cases k : x_n T = h + 1
          · obtain ⟨j, j1, j2⟩ := x_orx hn hT
            have := (hAB j j1).2 (by rw [j2]; exact k)
            have e := c3 j this.1 (by omega)
            rw [j2] at e
            rw [← e]; exact c1 T hT
          · have e : Zc T = x_zn p n h r Z T := by
              have : x_zn p n h r Z T = Z T := if_neg (fun kk => k kk.2)
              cases c2 T with
              | inl a => rw [a, this]
              | inr a => exact a
            rw [← e]; exact c1 T hT
        · rw [c4]
          refine ⟨fun ⟨k, k1, k2, k3⟩ => ?_, fun ⟨T, t1, t2, t3⟩ => ?_⟩
          · have hk : k < 2 ^ n := by omega
            have hs := (hAB k hk).1 ⟨k1, by omega⟩
            have hlt := (x_orl hn hk).1
            refine ⟨x_or n k, hlt, hs, ?_⟩
            rw [show x_zn p n h r Z (x_or n k) = x_md p (x_w r Z (x_or n k)) from if_pos ⟨hlt, hs⟩] at k3
            exact k3
          · obtain ⟨j, j1, j2⟩ := x_orx hn t1
            have := (hAB j j1).2 (by rw [j2]; exact t2)
            refine ⟨j, this.1, by omega, ?_⟩
            rw [j2, show x_zn p n h r Z T = x_md p (x_w r Z T) from if_pos ⟨t1, t2⟩]
            exact t3
      | succ t ih =>
        intro i hi hAi g_l g_m g_h Zc b c1 c2 c3 c4
        have hi2 : i < 2 ^ n := by omega
        have hsz := (hAB i hi2).1 ⟨hAi, by omega⟩
        have hlt := (x_orl hn hi2).1
        refine ⟨fun k => absurd k (nI_ge (by omega) (by omega)), fun _ => ?_⟩
        refine c_oset ho hq hi2 ?_
        generalize hS : x_or n i = S at *
        have ew : x_w r Zc S = x_w r Z S := by
          refine x_wcg2 (fun e he hb => ?_)
          have hne : x_n (x_t S e) ≠ h + 1 := by
            have := x_nt1 (S := S) (e := e) he hb
            omega
          have e1 : x_zn p n h r Z (x_t S e) = Z (x_t S e) := if_neg (fun kk => hne kk.2)
          cases c2 (x_t S e) with
          | inl a => exact a
          | inr a => rw [a, e1]
        have ez : x_zn p n h r Z S = x_md p (x_w r Z S) := if_pos ⟨hlt, hsz⟩
        refine c_expand (Z := Zc) hn hlt hll hlm hlh hl1 hl2 hl3 hat hnr hr hg hp c1 (fun T => ?_) (fun hp0 T => ?_) (fun g_l' g_m' g_h' d1 d2 => ?_)
        · cases c2 T with
          | inl a => rw [a]; exact hZ T
          | inr a => rw [a]; exact hzn T
        · cases c2 T with
          | inl a => rw [a]; exact hZp hp0 T
          | inr a => rw [a]; exact hznp hp0 T
        · rw [ew, ← ez] at d2
          have step : ∀ b' : Bool, (b' = true ↔ (b = true ∨ x_zn p n h r Z S ≠ 0)) → w238_L53 n_r post (t + 1) (nI at_) (if b' = true then 1 else 0) (nI B) (nI i + 1) q_l q_m q_h l_l l_m l_h (nI p) (nI n) (nI h) m_loaded g_l' g_m' g_h' q_o l_o o_r g_o g_t g_r := by
            intro b' hb'
            rw [nI_1]
            refine ih (i + 1) (by omega) (by omega) g_l' g_m' g_h' (fun T => if T = S then x_zn p n h r Z S else Zc T) b' (fun T hT => ?_) (fun T => ?_) (fun k k1 k2 => ?_) ?_
            · by_cases k : T = S
              · show mn (if T = S then _ else _) _ _ _
                rw [if_pos k, k]; exact d2
              · show mn (if T = S then _ else _) _ _ _
                obtain ⟨f1, f2, f3⟩ := d1 T k
                rw [if_neg k, f1, f2, f3]; exact c1 T hT
            · by_cases k : T = S
              · exact Or.inr (by show (if T = S then _ else _) = _; rw [if_pos k, k])
              · show (if T = S then _ else _) = _ ∨ (if T = S then _ else _) = _
                rw [if_neg k]; exact c2 T
            · by_cases kk : x_or n k = S
              · show (if x_or n k = S then _ else _) = _
                rw [if_pos kk, kk]
              · show (if x_or n k = S then _ else _) = _
                rw [if_neg kk]
                refine c3 k k1 ?_
                by_cases k3 : k = i
                · rw [k3] at kk; exact absurd hS kk
                · omega
            · rw [hb', c4]
              refine ⟨fun k => k.elim (fun ⟨k, k1, k2, k3⟩ => ⟨k, k1, by omega, k3⟩) (fun k => ⟨i, hAi, by omega, by rw [hS]; exact k⟩), fun ⟨k, k1, k2, k3⟩ => ?_⟩
              by_cases k4 : k = i
              · rw [k4, hS] at k3; exact Or.inr k3
              · exact Or.inl ⟨k, k1, by omega, k3⟩
          refine ⟨fun k => ?_, fun k => ?_⟩
          · have hb : b = true := by
              cases b with
              | true => rfl
              | false => exact absurd rfl k
            intro z2 e2
            rw [e2]
            exact step true ⟨fun _ => Or.inl hb, fun _ => rfl⟩
          · have hb : b = false := by
              cases b with
              | true => exact absurd k (by decide)
              | false => rfl
            have hzz := hzn S
            refine c_msign (z := x_zn p n h r Z S) (by omega) (by omega) (by omega) (by omega) (by omega) d2 ⟨fun k2 => ?_, fun k2 => ?_⟩
            · have h0 : x_zn p n h r Z S = 0 := by
                by_cases w1 : x_zn p n h r Z S < 0
                · rw [if_pos w1] at k2; exact absurd k2 (by decide)
                · rw [if_neg w1] at k2
                  by_cases w2 : x_zn p n h r Z S = 0
                  · exact w2
                  · rw [if_neg w2] at k2; exact absurd k2 (by decide)
              intro z2 e2
              rw [e2]
              exact step false ⟨fun w => Bool.noConfusion w, fun w => w.elim (fun w => by rw [hb] at w; exact w) (fun w => absurd h0 w)⟩
            · intro z2 e2
              rw [e2]
              refine step true ⟨fun _ => Or.inr (fun h0 => k2 ?_), fun _ => rfl⟩
              rw [if_neg (by omega), if_pos h0]
    have fin := main (B - A) A (by omega) (Nat.le_refl A) g_l g_m g_h Z false hL (fun T => Or.inl rfl) (fun k k1 k2 => absurd k2 (by omega)) ⟨fun k => Bool.noConfusion k, fun ⟨k, k1, k2, _⟩ => absurd k2 (by omega)⟩
    exact ⟨_, fin⟩
end CMA
