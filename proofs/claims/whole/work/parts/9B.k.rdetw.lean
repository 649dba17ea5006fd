/-! PURE, the reference: determinant, whole -/
section RDW
variable {nv nv0 : Nat → px_NV} {iv fr fc : Nat → Int32} {n c : Nat} {A B : Nat → Nat → Int}
def x_pi (i c k : Nat) : Nat := if k = i then c else if k = c then i else k
theorem r_dS {K60 : Int32 → Int32 → Int32 → (Nat → Int32) → (Nat → Int32) → (Nat → Int32) → (Nat → px_NV) → Prop} {post : Int32 → (Nat → Int32) → (Nat → Int32) → (Nat → Int32) → (Nat → px_NV) → Prop} {s : Int32} {i : Nat} {Z : Nat → Nat → Int} (hn : n ≤ 6) (hi : i < n) (hc : c < n) (hZ : ∀ k j, k < n → j < n → pn_N (nv (156 + (6 * k + j))) (Z k j)) (h : ∀ x5 nv', (∀ d, d < 156 → nv' d = nv d) → (∀ k j, k < n → j < n → pn_N (nv' (156 + (6 * k + j))) (Z (x_pi i c k) j)) → w61_L194 K60 post (nI n) s (nI c) (nI i) x5 iv fr fc nv') : ∃ t, w61_L109 K60 post t (nI n) s (nI c) (nI i) 0 iv fr fc nv := by
  by_cases hic : i = c
  · subst hic
    have e : ∀ k, x_pi i i k = k := fun k => by
      unfold x_pi
      by_cases q : k = i
      · rw [if_pos q, q]
      · rw [if_neg q, if_neg q]
    have hh := fun x5 => h x5 nv (fun _ _ => rfl) (fun k j hk hj => by rw [e]; exact hZ k j hk hj)
    exact ⟨1, fun _ => hh _, fun _ => ⟨fun _ => hh _, fun w => absurd rfl w⟩⟩
  · have main : ∀ (u j : Nat) (nv1 : Nat → px_NV), j + u = n → (∀ d, d < 156 → nv1 d = nv d) → (∀ k j', k < n → j' < n → pn_N (nv1 (156 + (6 * k + j'))) (Z (if j' < j then x_pi i c k else k) j')) → w61_L109 K60 post (u + 1) (nI n) s (nI c) (nI i) (nI j) iv fr fc nv1 := by
      intro u
      induction u with
      | zero =>
        intro j nv1 hj h1 h2
        have : j = n := by omega
        subst this
        refine ⟨fun _ => h _ nv1 h1 (fun k j' hk hj' => ?_), fun w => absurd (nI_le (Nat.le_refl j) (by omega)) w⟩
        have := h2 k j' hk hj'
        rw [if_pos hj'] at this; exact this
      | succ u ih =>
        intro j nv1 hj h1 h2
        have zi := h2 i j hi (by omega)
        have zc := h2 c j hc (by omega)
        rw [if_neg (by omega)] at zi zc
        have pi1 : x_pi i c i = c := if_pos rfl
        have pi2 : x_pi i c c = i := by unfold x_pi; rw [if_neg (fun z => hic z.symm), if_pos rfl]
        have pi3 : ∀ k, k ≠ i → k ≠ c → x_pi i c k = k := fun k q1 q2 => by unfold x_pi; rw [if_neg q1, if_neg q2]
        unfold w61_L109
        rw [b_ix6 (i := i) (j := j), b_ix6 (i := c) (j := j), nI_clamp (show 6 * i + j < 2 ^ 31 by omega), nI_clamp (show 6 * c + j < 2 ^ 31 by omega)]
        refine ⟨fun w => absurd w (nI_ge (by omega) (by omega)), fun _ => ⟨fun w => absurd ((nI_eq (by omega) (by omega)).1 w) hic, fun _ => ⟨b_in (by omega) (by omega), ?_⟩⟩⟩
        refine pn_cpP (by decide) (by omega) (by omega) zi (fun nv2 k2 r2 => ⟨b_in (by omega) (by omega), b_in (by omega) (by omega), ?_⟩)
        refine pn_cpP (by omega) (by omega) (by omega) (by rw [k2 _ (by omega)]; exact zc) (fun nv3 k3 r3 => ⟨b_in (by omega) (by omega), ?_⟩)
        refine pn_cpP (by omega) (by decide) (by omega) (by rw [k3 _ (by omega)]; exact r2) (fun nv4 k4 r4 z ez => ?_)
        rw [ez, nI_1]
        refine ih (j + 1) nv4 (by omega) (fun d hd => by rw [k4 d (by omega), k3 d (by omega), k2 d (by omega)]; exact h1 d hd) (fun k j' hk hj' => ?_)
        by_cases qc : k = c ∧ j' = j
        · rw [qc.1, qc.2, if_pos (by omega), pi2]; exact r4
        · rw [k4 _ (by omega)]
          by_cases qi : k = i ∧ j' = j
          · rw [qi.1, qi.2, if_pos (by omega), pi1]; exact r3
          · rw [k3 _ (by omega), k2 _ (by omega)]
            have := h2 k j' hk hj'
            by_cases q : j' < j
            · rw [if_pos (by omega)]; rw [if_pos q] at this; exact this
            · rw [if_neg q] at this
              by_cases q' : j' = j
              · rw [if_pos (by omega), pi3 k (fun z => qi ⟨z, q'⟩) (fun z => qc ⟨z, q'⟩)]; exact this
              · rw [if_neg (by omega)]; exact this
    exact ⟨n + 1, main n 0 nv (by omega) (fun _ _ => rfl) (fun k j' hk hj' => by rw [if_neg (Nat.not_lt_zero j')]; exact hZ k j' hk hj')⟩
/-- the table when step c begins -/
def r_Dt (n c : Nat) (A B : Nat → Nat → Int) (sg : Bool) (nv0 nv : Nat → px_NV) : Prop := (∀ d, d < 156 → nv d = nv0 d) ∧ (0 < c → pn_N (nv (156 + (6 * (c - 1) + (c - 1)))) (x_d B c)) ∧ (∀ k j, k < n → j < n → ∃ z, pn_N (nv (156 + (6 * k + j))) z) ∧ (∀ k j, c ≤ k → k < n → c ≤ j → j < n → pn_N (nv (156 + (6 * k + j))) (x_mu B c k j)) ∧ ¬ x_d B c = 0 ∧ (∀ i, i < n → ∀ e, e < 12 → (B i e).natAbs < 65536 ^ 9) ∧ x_d A n = x_s Int sg * x_d B n
theorem x_sgs (q : Bool) (z : Int) : (if q = true then (-1 : Int32) else 1) * x_sg z = x_sg (x_s Int q * z) := by
  cases q
  · show (1 : Int32) * x_sg z = x_sg (1 * z)
    rw [Int.one_mul]
    unfold x_sg
    split
    · rfl
    · split <;> rfl
  · show (-1 : Int32) * x_sg z = x_sg (-1 * z)
    unfold x_sg
    rcases Int.lt_trichotomy z 0 with w | w | w
    · rw [if_pos w, if_neg (by omega), if_neg (by omega)]; rfl
    · subst w; rfl
    · rw [if_neg (by omega), if_neg (by omega), if_pos (by omega)]; rfl
theorem pn_sgnP {Q : Int32 → (Nat → px_NV) → Prop} {a0 : Nat} {x : Int} (h0 : a0 < 200) (hx : pn_N (nv a0) x) (h : Q (x_sg x) nv) : px_ix [a0] ∧ (ns_wp (fun r v1 v2 v3 => ∀ nv' : Nat → px_NV, nv' = px_fold nv [(a0, ⟨v1, v2, v3⟩)] → Q r nv') ((nv a0).1) ((nv a0).2.1) ((nv a0).2.2)) := by
  refine ⟨⟨by simp, fun c hc => by rw [List.mem_singleton.mp hc]; exact h0⟩, ?_⟩
  have hz := (pn_N0 hx).2
  obtain ⟨k, p1, p2, p3, p4, p5, p6⟩ := id hx
  have e : ∀ nv', nv' = px_fold nv [(a0, ⟨(nv a0).1, (nv a0).2.1, (nv a0).2.2⟩)] → nv' = nv := by
    intro nv' e
    rw [e]
    show va_up nv a0 (nv a0) = nv
    funext c
    by_cases s : c = a0
    · subst s; rw [va_up_self]
    · rw [pn_un s]
  unfold ns_wp ns_L23
  refine ⟨fun w => ⟨fun w' nv' en => ?_, fun w' nv' en => ?_⟩, fun w nv' en => ?_⟩
  · rw [e nv' en]
    have h1 : ¬ x = 0 := fun q => w (hz.2 q)
    have h2 : ¬ x < 0 := fun q => by rw [p6, if_pos q] at w'; exact t_10 w'
    rw [show x_sg x = 1 by unfold x_sg; rw [if_neg h2, if_neg h1]] at h
    exact h
  · rw [e nv' en]
    have h2 : x < 0 := Classical.byContradiction (fun q => w' (by rw [p6, if_neg q]))
    rw [show x_sg x = -1 by unfold x_sg; rw [if_pos h2]] at h
    exact h
  · rw [e nv' en]
    have h1 : x = 0 := hz.1 w
    rw [show x_sg x = 0 by rw [h1]; rfl] at h
    exact h
theorem r_dM {post : Int32 → (Nat → Int32) → (Nat → Int32) → (Nat → Int32) → (Nat → px_NV) → Prop} (hn : n ≤ 6) (h : ∀ nv', (∀ d, d < 156 → nv' d = nv0 d) → post (x_sg (x_d A n)) iv fr fc nv') : ∀ (u c : Nat) (B : Nat → Nat → Int) (sg : Bool) (nv : Nat → px_NV), c + u = n → r_Dt n c A B sg nv0 nv → w61_L60 post (u + 1) (nI n) (if sg = true then -1 else 1) (nI c) iv fr fc nv := by
  intro u
  induction u with
  | zero =>
    intro c B sg nv hc hT
    obtain ⟨t1, t2, t3, t4, t5, t6, t7⟩ := hT
    have : c = n := by omega
    subst this
    unfold w61_L60 w61_L429
    refine ⟨fun _ => ⟨fun w => ?_, fun w => ?_⟩, fun w => absurd (nI_le (Nat.le_refl c) (by omega)) w⟩
    · have hc0 : 0 < c := Classical.byContradiction (fun q => w (by rw [show c = 0 by omega]; rfl))
      rw [b_ix6d hc0, nI_clamp (show 6 * (c - 1) + (c - 1) < 2 ^ 31 by omega)]
      refine ⟨b_in (by omega) (by omega), pn_sgnP (Q := fun r nv' => post ((if sg = true then -1 else 1) * r) iv fr fc nv') (by omega) (t2 hc0) ?_⟩
      show post ((if sg = true then -1 else 1) * x_sg (x_d B c)) iv fr fc nv
      rw [x_sgs, ← t7]
      exact h nv t1
    · have hc0 : c = 0 := Classical.byContradiction (fun q => nI_ne0 (by omega) (by omega) w)
      have := h nv t1
      rw [hc0, x_d0] at this
      exact this
  | succ u ih =>
    intro c B sg nv hc hT
    obtain ⟨t1, t2, t3, t4, t5, t6, t7⟩ := hT
    refine ⟨fun w => absurd w (nI_ge (by omega) (by omega)), fun _ => ⟨n - c + 1, ?_⟩⟩
    have find : ∀ (v i : Nat), i + v = n → c ≤ i → (∀ i', c ≤ i' → i' < i → x_mu B c i' c = 0) → w61_L68 (w61_L60 post (u + 1)) post (v + 1) (nI n) (if sg = true then -1 else 1) (nI c) (nI i) iv fr fc nv := by
      intro v
      induction v with
      | zero =>
        intro i hi hci hz
        have : i = n := by omega
        subst this
        unfold w61_L68 w61_L98
        refine ⟨fun _ => ⟨fun w => absurd rfl w, fun _ => ?_⟩, fun w => absurd (nI_le (Nat.le_refl i) (by omega)) w⟩
        have e0 : x_d B i = 0 := x_nopiv x_domI B c i (by omega) (by omega) t5 hz
        have := h nv t1
        rw [t7, e0, Int.mul_zero] at this
        exact this
      | succ v ihv =>
        intro i hi hci hz
        have hiN := t4 i c hci (by omega) (Nat.le_refl c) (by omega)
        unfold w61_L68 w61_L98
        rw [b_ix6 (i := i) (j := c), nI_clamp (show 6 * i + c < 2 ^ 31 by omega)]
        refine ⟨fun w => absurd w (nI_ge (by omega) (by omega)), fun _ => ⟨b_in (by omega) (by omega), by omega, fun w => ⟨fun _ => ?_, fun w' => absurd ((nI_eq (by omega) (by omega)).1 w') (by omega)⟩, fun w z ez => ?_⟩⟩
        · have hne : ¬ x_mu B c i c = 0 := fun q => w ((pn_N0 hiN).2.2 q)
          -- all entries named
          let Z : Nat → Nat → Int := fun k j => if hkj : k < n ∧ j < n then (if c ≤ k ∧ c ≤ j then x_mu B c k j else Classical.choose (t3 k j hkj.1 hkj.2)) else 0
          have hZ : ∀ k j, k < n → j < n → pn_N (nv (156 + (6 * k + j))) (Z k j) := by
            intro k j hk hj
            have e1 : Z k j = (if c ≤ k ∧ c ≤ j then x_mu B c k j else Classical.choose (t3 k j hk hj)) := dif_pos ⟨hk, hj⟩
            rw [e1]
            by_cases q : c ≤ k ∧ c ≤ j
            · rw [if_pos q]; exact t4 k j q.1 hk q.2 hj
            · rw [if_neg q]; exact Classical.choose_spec (t3 k j hk hj)
          have hZ2 : ∀ k j, k < n → j < n → c ≤ k → c ≤ j → Z k j = x_mu B c k j := by
            intro k j hk hj q1 q2
            have e1 : Z k j = (if c ≤ k ∧ c ≤ j then x_mu B c k j else Classical.choose (t3 k j hk hj)) := dif_pos ⟨hk, hj⟩
            rw [e1, if_pos ⟨q1, q2⟩]
          generalize Z = Z at hZ hZ2
          have hpl : ∀ k, k < n → x_pi i c k < n ∧ (c ≤ k → c ≤ x_pi i c k) := by
            intro k hk
            unfold x_pi
            split
            · exact ⟨by omega, fun _ => by omega⟩
            · split
              · exact ⟨by omega, fun _ => by omega⟩
              · exact ⟨hk, fun q => q⟩
          have hlow : ∀ k, k < c → x_pi i c k = k := fun k hk => by
            unfold x_pi; rw [if_neg (by omega), if_neg (by omega)]
          refine r_dS (Z := Z) hn (by omega) (by omega) hZ (fun x5 nv1 k1 r1 => ?_)
          -- the rows changed
          have mB : ∀ k j, c ≤ k → k < n → j < 12 → x_mu (fun k => B (x_pi i c k)) c k j = x_mu B c (x_pi i c k) j := fun k j q1 q2 q3 => x_muc q3 (fun i' hi' e _ => by show B (x_pi i c i') e = B i' e; rw [hlow i' hi']) (fun e _ => rfl)
          have dB : x_d (fun k => B (x_pi i c k)) c = x_d B c := x_Wc c (fun i' hi' e _ => by show B (x_pi i c i') e = B i' e; rw [hlow i' hi']) _
          have pc : x_pi i c c = i := by
            unfold x_pi
            by_cases q : c = i
            · rw [if_pos q]; exact q
            · rw [if_neg q, if_pos rfl]
          have d1B : ¬ x_d (fun k => B (x_pi i c k)) (c + 1) = 0 := by
            rw [← x_mud, mB c c (Nat.le_refl c) (by omega) (by omega), pc]; exact hne
          have bB : ∀ i', i' < n → ∀ e, e < 12 → ((fun k => B (x_pi i c k)) i' e).natAbs < 65536 ^ 9 := fun i' hi' e he => t6 _ (hpl i' hi').1 e he
          have sB : x_d A n = x_s Int (sg ^^ decide (i ≠ c)) * x_d (fun k => B (x_pi i c k)) n := by
            rw [x_sx, t7]
            by_cases q : i = c
            · rw [decide_eq_false (fun z => z q)]
              have : x_d (fun k => B (x_pi i c k)) n = x_d B n := x_Wc n (fun i' hi' e _ => by
                show B (x_pi i c i') e = B i' e
                have : x_pi i c i' = i' := by
                  unfold x_pi
                  by_cases z : i' = i
                  · rw [if_pos z]; omega
                  · rw [if_neg z, if_neg (by omega)]
                rw [this]) _
              rw [this]
              show _ = x_s Int sg * 1 * _
              rw [Int.mul_one]
            · rw [decide_eq_true q]
              have : x_d (fun k => B (x_pi i c k)) n = - x_d B n := x_Wsw (i := i) (j := c) q (by omega) (by omega) (fun e _ => by show B (x_pi i c i) e = B c e; rw [show x_pi i c i = c from if_pos rfl]) (fun e _ => by show B (x_pi i c c) e = B i e; rw [pc]) (fun k _ q1 q2 e _ => by show B (x_pi i c k) e = B k e; unfold x_pi; rw [if_neg q1, if_neg q2]) _
              rw [this]
              show _ = x_s Int sg * (-1) * _
              grind
          have sI : ∀ y0 : Int32, y0 = (if (sg ^^ decide (i ≠ c)) = true then -1 else 1) → w61_L206 (w61_L60 post (u + 1)) post (nI n) (if sg = true then -1 else 1) (nI c) (nI i) x5 y0 iv fr fc nv1 := by
            intro y0 ey z59 e59
            rw [e59, nI_1, ey]
            refine ⟨n - (c + 1) + 1, r_dR (nv0 := nv0) (B := fun k => B (x_pi i c k)) hn bB (by rw [dB]; exact t5) d1B (fun nv2 hE => ?_) (n - (c + 1)) (c + 1) nv1 (by omega) (by omega) ⟨fun d hd => by rw [k1 d hd]; exact t1 d hd, fun hc0 => ?_, fun k' j' q1 q2 => ⟨_, r1 k' j' q1 q2⟩, fun k' j' q1 q2 q3 q4 => ?_⟩⟩
            · obtain ⟨e1, e2, e3, e4⟩ := hE
              refine ih (c + 1) _ (sg ^^ decide (i ≠ c)) nv2 (by omega) ⟨e1, fun _ => ?_, e3, fun k j q1 q2 q3 q4 => ?_, d1B, bB, sB⟩
              · have := e4 c c (Nat.le_refl c) (by omega) (Nat.le_refl c) (by omega)
                rw [if_neg (by omega), x_mud] at this
                exact this
              · have := e4 k j (by omega) q2 (by omega) q4
                rw [if_pos (by omega)] at this
                exact this
            · have := r1 (c - 1) (c - 1) (by omega) (by omega)
              have h1 := pn_Nu (hZ (c - 1) (c - 1) (by omega) (by omega)) (t2 hc0)
              rw [hlow (c - 1) (by omega), h1] at this
              rw [dB]; exact this
            · rw [if_neg (by omega), mB k' j' q1 q2 (by omega)]
              have := r1 k' j' q2 q4
              rw [hZ2 _ _ (hpl k' q2).1 q4 ((hpl k' q2).2 q1) q3] at this
              exact this
          refine ⟨fun w => sI _ ?_, fun w => sI _ ?_⟩
          · have q : i = c := (nI_eq (by omega) (by omega)).1 w
            rw [decide_eq_false (fun z => z q), Bool.xor_false]
          · have q : i ≠ c := fun q => w (by rw [q])
            rw [decide_eq_true q]
            cases sg <;> rfl
        · have hz0 : x_mu B c i c = 0 := (pn_N0 hiN).2.1 w
          rw [ez, nI_1]
          refine ihv (i + 1) (by omega) (by omega) (fun i' h1 h2 => ?_)
          by_cases q : i' = i
          · subst q; exact hz0
          · exact hz i' h1 (by omega)
    exact find (n - c) c (by omega) (Nat.le_refl c) (fun i' h1 h2 => by omega)
end RDW
