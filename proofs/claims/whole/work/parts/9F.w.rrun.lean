/-! PURE, the reference: run -/
abbrev r_P9 := Int32 → (Nat → Int32) → (Nat → Int32) → (Nat → Int32) → (Nat → Int32) → (Nat → Int32) → (Nat → Int32) → (Nat → Int32) → (Nat → Int32) → (Nat → Int32) → (Nat → Int32) → (Nat → Int32) → (Nat → Int32) → (Nat → Int32) → (Nat → Int32) → (Nat → Int32) → (Nat → Int32) → (Nat → Int32) → (Nat → Int64) → (Nat → Int64) → (Nat → Int32) → (Nat → Int32) → (Nat → Int32) → (Nat → Int32) → (Nat → Int32) → (Nat → Int32) → (Nat → Int32) → (Nat → Int32) → (Nat → Int32) → (Nat → px_NV) → Prop
/-- the reference after a run -/
def r_AR (X : x_GS × Nat × Int32) (iv iv' gth' ge' gf' gr' gk' gq' gw' gR' gS' sh' : Nat → Int32) (nv' : Nat → px_NV) : Prop := r_V nv' ∧ r_LT X.1.1 gth' ge' gf' gr' gk' gq' gw' gR' gS' ∧ iv' 52 = X.2.2 ∧ rp_T iv' sh' X.1.2.2.2.2.2.2 ∧ ∀ q, q = 42 ∨ q = 49 ∨ q = 51 → iv' q = iv q
section RRN
variable {go gz b gm' ca : Nat → Int32} {L : Nat} {post : r_P9}
theorem r_loop (hL : L ≤ 16384) (hT : r_T go gz) : ∀ (u n i c : Nat) (G : x_GS) (iv gs gp fr fc gm gth ge gf gr gk gq gw gR gS gt gi gx gl gsv sh gd : Nat → Int32) (gc gh : Nat → Int64) (nv : Nat → px_NV), L + 1 ≤ u + i → i ≤ L → (t_scr b L u n i).1 = true → r_tat iv b L i → iv 43 = 0 → rp_T iv sh G.2.2.2.2.2.2 → r_LT G.1 gth ge gf gr gk gq gw gR gS → r_V nv →
    (∀ iv' gs' gp' fr' fc' gm' gth' ge' gf' gr' gk' gq' gw' gR' gS' gc' gh' gt' gi' gx' gl' gsv' sh' gd' nv', r_AR (x_run b L u n i G) iv iv' gth' ge' gf' gr' gk' gq' gw' gR' gS' sh' nv' → post (nI (c + (x_run b L u n i G).2.1)) iv' gs' gp' fr' fc' gm' gth' ge' gf' gr' gk' gq' gw' gR' gS' go gz gc' gh' gt' gi' gx' b gl' gsv' sh' gd' ca nv') →
    w117_L76 post (u + 1) (nI c) iv gs gp fr fc gm gth ge gf gr gk gq gw gR gS go gz gc gh gt gi gx b gl gsv sh gd ca nv := by
  intro u
  induction u with
  | zero => intro n i c G iv gs gp fr fc gm gth ge gf gr gk gq gw gR gS gt gi gx gl gsv sh gd gc gh nv h1 h2; omega
  | succ u ih =>
    intro n i c G iv gs gp fr fc gm gth ge gf gr gk gq gw gR gS gt gi gx gl gsv sh gd gc gh nv h1 h2 h3 h4 h5 h6 h7 h8 h
    unfold w117_L76 w117_L111
    refine ⟨fun w => ?_, fun w => ⟨fun w2 => absurd h5 w2, fun _ => ?_⟩⟩
    · intro z1 e1
      rw [h4.2.1] at w
      have er : x_run b L (u + 1) n i G = (G, 0, 0) := by
        unfold x_run
        rw [if_pos (Or.inr w)]
      rw [er] at h
      refine h _ _ _ _ _ _ _ _ _ _ _ _ _ _ _ _ _ _ _ _ _ _ _ _ _ ⟨h8, h7, by rw [va_up_self, e1, h5], rp_Tq h6 (va_up_ne _ _ (by decide)), fun q hq => va_up_ne _ _ (by omega)⟩
    · rw [h4.2.1] at w
      have hs : ¬ n = 400 ∧ (t_st b L i).1 = true ∧ (t_scr b L u (n + 1) (t_st b L i).2).1 = true := by
        unfold t_scr at h3
        rw [if_neg w] at h3
        by_cases q1 : n = 400
        · rw [if_pos q1] at h3; cases h3
        · rw [if_neg q1] at h3
          by_cases q2 : (t_st b L i).1 = true
          · rw [if_pos q2] at h3; exact ⟨q1, q2, h3⟩
          · rw [if_neg q2] at h3; exact absurd h3 q2
      obtain ⟨hn4, hst, hnext⟩ := hs
      have hnq : ¬ (n = 400 ∨ t_k b L i = 0) := fun z => z.elim hn4 w
      refine r_perf (G := G) hL h2 hst hT h8 h7 h5 h6 h4 (fun iv' gs' gp' fr' fc' gm' gth' ge' gf' gr' gk' gq' gw' gR' gS' gc' gh' gt' gi' gx' gl' gsv' sh' gd' nv' hA => ?_)
      obtain ⟨a1, a2, a3, a4, a5, a6⟩ := hA
      refine ⟨fun q => ?_, fun q => ?_⟩
      · have er : x_run b L (u + 1) n i G = ((x_stp b L i G).1, 0, (x_stp b L i G).2) := by
          unfold x_run
          rw [if_neg hnq, if_pos (by rw [← a3]; exact q)]
        rw [er] at h
        have fin : w117_L111 post (nI c) iv' gs' gp' fr' fc' gm' gth' ge' gf' gr' gk' gq' gw' gR' gS' go gz gc' gh' gt' gi' gx' b gl' gsv' sh' gd' ca nv' := by
          intro z1 e1
          refine h _ _ _ _ _ _ _ _ _ _ _ _ _ _ _ _ _ _ _ _ _ _ _ _ _ ⟨a1, a2, by rw [va_up_self, e1, a3], rp_Tq a4 (va_up_ne _ _ (by decide)), fun q hq => ?_⟩
          rw [va_up_ne _ _ (by omega)]; exact a6 q (by omega)
        unfold w117_L76
        exact ⟨fun _ => fin, fun _ => ⟨fun _ => fin, fun z => absurd z q⟩⟩
      · have e0 : (x_stp b L i G).2 = 0 := by rw [← a3]; exact q
        have er : x_run b L (u + 1) n i G = ((x_run b L u (n + 1) (t_st b L i).2 (x_stp b L i G).1).1, (x_run b L u (n + 1) (t_st b L i).2 (x_stp b L i G).1).2.1 + 1, (x_run b L u (n + 1) (t_st b L i).2 (x_stp b L i G).1).2.2) := by
          show (if n = 400 ∨ t_k b L i = 0 then (G, 0, 0) else if ¬ (x_stp b L i G).2 = 0 then ((x_stp b L i G).1, 0, (x_stp b L i G).2) else ((x_run b L u (n + 1) (t_st b L i).2 (x_stp b L i G).1).1, (x_run b L u (n + 1) (t_st b L i).2 (x_stp b L i G).1).2.1 + 1, (x_run b L u (n + 1) (t_st b L i).2 (x_stp b L i G).1).2.2)) = _
          rw [if_neg hnq, if_neg (fun z => z e0)]
        rw [er] at h
        obtain ⟨j, hj, tj, ej⟩ := a5 e0
        refine r_nxt hL hj tj (fun iv2 t2 e2 => ?_)
        intro z34 e34
        rw [e34, nI_1]
        rw [ej] at t2
        have hadv := t_stadv h2 hst
        refine ih (n + 1) (t_st b L i).2 (c + 1) (x_stp b L i G).1 iv2 gs' gp' fr' fc' gm' gth' ge' gf' gr' gk' gq' gw' gR' gS' gt' gi' gx' gl' gsv' sh' gd' gc' gh' nv' (by omega) (t_stl h2) hnext t2 (by rw [e2 43 (by decide) (by decide) (by decide)]; exact q) (rp_Tq a4 (e2 47 (by decide) (by decide) (by decide))) a2 a1 (fun iv'' gs'' gp'' fr'' fc'' gm'' gth'' ge'' gf'' gr'' gk'' gq'' gw'' gR'' gS'' gc'' gh'' gt'' gi'' gx'' gl'' gsv'' sh'' gd'' nv'' hR => ?_)
        obtain ⟨r1, r2, r3, r4, r5⟩ := hR
        have := h iv'' gs'' gp'' fr'' fc'' gm'' gth'' ge'' gf'' gr'' gk'' gq'' gw'' gR'' gS'' gc'' gh'' gt'' gi'' gx'' gl'' gsv'' sh'' gd'' nv'' ⟨r1, r2, r3, r4, fun q hq => by rw [r5 q hq, e2 q (by omega) (by omega) (by omega)]; exact a6 q (by omega)⟩
        rw [show c + 1 + (x_run b L u (n + 1) (t_st b L i).2 (x_stp b L i G).1).2.1 = c + ((x_run b L u (n + 1) (t_st b L i).2 (x_stp b L i G).1).2.1 + 1) by omega]
        exact this
end RRN
section RRN2
variable {iv gs gp fr fc gm gth ge gf gr gk gq gw gR gS go gz gt gi gx b gl gsv sh gd ca : Nat → Int32} {gc gh : Nat → Int64} {nv : Nat → px_NV} {G : x_GS} {L : Nat} {post : r_P9}
theorem r_run (hL : L ≤ 16384) (hT : r_T go gz) (hV : r_V nv) (hLT : r_LT G.1 gth ge gf gr gk gq gw gR gS) (hU : rp_T iv sh G.2.2.2.2.2.2) (h51 : iv 51 = nI L) (hca : ∀ k, k < L → vp_nar .byte (ca k) = ca k)
    (h0 : (t_scr ca L (L + 1) 0 0).1 = false → ∀ iv' b', rp_T iv' sh G.2.2.2.2.2.2 → iv' 42 = nI (t_j ca L (t_scr ca L (L + 1) 0 0).2) → iv' 49 = 0 → iv' 51 = 0 → iv' 52 = iv 52 → post (-1) iv' gs gp fr fc gm gth ge gf gr gk gq gw gR gS go gz gc gh gt gi gx b' gl gsv sh gd ca nv)
    (h1 : (t_scr ca L (L + 1) 0 0).1 = true → ∀ iv' gs' gp' fr' fc' gm' gth' ge' gf' gr' gk' gq' gw' gR' gS' gc' gh' gt' gi' gx' b' gl' gsv' sh' gd' nv', r_V nv' → r_LT (x_RN ca L G).1.1 gth' ge' gf' gr' gk' gq' gw' gR' gS' → rp_T iv' sh' (x_RN ca L G).1.2.2.2.2.2.2 → iv' 42 = iv 42 → iv' 49 = 0 → iv' 51 = 0 → iv' 52 = (x_RN ca L G).2.2 → post (nI (x_RN ca L G).2.1) iv' gs' gp' fr' fc' gm' gth' ge' gf' gr' gk' gq' gw' gR' gS' go gz gc' gh' gt' gi' gx' b' gl' gsv' sh' gd' ca nv') :
    w117_wp post iv gs gp fr fc gm gth ge gf gr gk gq gw gR gS go gz gc gh gt gi gx b gl gsv sh gd ca nv := by
  refine ⟨L + 1, ?_⟩
  have copy : ∀ (u k : Nat) (b1 : Nat → Int32), k + u = L → (∀ x, x < k → b1 x = ca x) → w117_L7 post (u + 1) (nI k) (va_up iv 49 0) gs gp fr fc gm gth ge gf gr gk gq gw gR gS go gz gc gh gt gi gx b1 gl gsv sh gd ca nv := by
    intro u
    induction u with
    | zero =>
      intro k b1 hk hb1
      have : k = L := by omega
      subst this
      have e51 : va_up iv 49 0 51 = nI k := by rw [va_up_ne _ _ (by decide)]; exact h51
      unfold w117_L7
      refine ⟨fun _ => ?_, fun w => absurd (by rw [e51]; exact Int32.le_refl _) w⟩
      intro z35 e35
      rw [e51] at e35
      have es := g_scr hb1 (k + 1) 0 0
      have ej := g_j hb1
      have i37 : va_up (va_up (va_up iv 49 0) 37 z35) 51 0 37 = nI k := by rw [va_up_ne _ _ (by decide), va_up_self, e35]
      have i42 : va_up (va_up (va_up iv 49 0) 37 z35) 51 0 42 = iv 42 := by rw [va_up_ne _ _ (by decide), va_up_ne _ _ (by decide), va_up_ne _ _ (by decide)]
      have iq : ∀ q, q ≠ 49 → q ≠ 37 → q ≠ 51 → va_up (va_up (va_up iv 49 0) 37 z35) 51 0 q = iv q := fun q q1 q2 q3 => by rw [va_up_ne _ _ q3, va_up_ne _ _ q2, va_up_ne _ _ q1]
      have i49 : va_up (va_up (va_up iv 49 0) 37 z35) 51 0 49 = 0 := by rw [va_up_ne _ _ (by decide), va_up_ne _ _ (by decide), va_up_self]
      have i51 : va_up (va_up (va_up iv 49 0) 37 z35) 51 0 51 = 0 := va_up_self _ _ _
      generalize va_up (va_up (va_up iv 49 0) 37 z35) 51 0 = jv at *
      refine r_isScript (pl := iv 42) hL i37 i42 ⟨fun w => ?_, fun w => ?_⟩
      · have hok : (t_scr b1 k (k + 1) 0 0).1 = true := Classical.byContradiction (fun q => w (if_neg q))
        rw [r_prT hok]
        have pq : ∀ q, q ≠ 38 → q ≠ 39 → q ≠ 40 → q ≠ 41 → q ≠ 42 → r_ps jv b1 k (t_scr b1 k (k + 1) 0 0).2 0 (iv 42) q = jv q := fun q q1 q2 q3 q4 q5 => by
          unfold r_ps
          rw [if_neg q1, if_neg q2, if_neg q3, if_neg q4, if_neg q5]
        have p42 : r_ps jv b1 k (t_scr b1 k (k + 1) 0 0).2 0 (iv 42) 42 = iv 42 := rfl
        generalize r_ps jv b1 k (t_scr b1 k (k + 1) 0 0).2 0 (iv 42) = kv at *
        refine r_next (i := 0) hL (by rw [va_up_ne _ _ (by decide), va_up_ne _ _ (by decide), va_up_ne _ _ (by decide), pq 37 (by decide) (by decide) (by decide) (by decide) (by decide)]; exact i37) (va_up_self _ _ _) (Nat.zero_le _) ?_
        have eRN := g_RN (G := G) hb1 hok
        refine ⟨k + 1 + 1, ?_⟩
        have tk : ∀ q, q ≠ 38 → q ≠ 39 → q ≠ 40 → q ≠ 43 → q ≠ 47 → r_tk (va_up (va_up (va_up kv 47 0) 43 0) 40 0) (t_k b1 k 0) (nI (t_j b1 k 0)) (nI (t_e b1 k 0)) q = kv q := fun q q1 q2 q3 q4 q5 => by
          unfold r_tk
          rw [if_neg q1, if_neg q2, if_neg q3, va_up_ne _ _ q3, va_up_ne _ _ q4, va_up_ne _ _ q5]
        have t43 : r_tk (va_up (va_up (va_up kv 47 0) 43 0) 40 0) (t_k b1 k 0) (nI (t_j b1 k 0)) (nI (t_e b1 k 0)) 43 = 0 := by
          show va_up (va_up (va_up kv 47 0) 43 0) 40 0 43 = 0
          rw [va_up_ne _ _ (by decide), va_up_self]
        have t47 : r_tk (va_up (va_up (va_up kv 47 0) 43 0) 40 0) (t_k b1 k 0) (nI (t_j b1 k 0)) (nI (t_e b1 k 0)) 47 = 0 := by
          show va_up (va_up (va_up kv 47 0) 43 0) 40 0 47 = 0
          rw [va_up_ne _ _ (by decide), va_up_ne _ _ (by decide), va_up_self]
        have ttat : r_tat (r_tk (va_up (va_up (va_up kv 47 0) 43 0) 40 0) (t_k b1 k 0) (nI (t_j b1 k 0)) (nI (t_e b1 k 0))) b1 k 0 := ⟨by rw [tk 37 (by decide) (by decide) (by decide) (by decide) (by decide), pq 37 (by decide) (by decide) (by decide) (by decide) (by decide)]; exact i37, rfl, rfl, rfl⟩
        generalize r_tk (va_up (va_up (va_up kv 47 0) 43 0) 40 0) (t_k b1 k 0) (nI (t_j b1 k 0)) (nI (t_e b1 k 0)) = mv at *
        refine r_loop (ca := ca) hL hT (k + 1) 0 0 0 (x_clr G) mv gs gp fr fc gm gth ge gf gr gk gq gw gR gS gt gi gx gl gsv sh gd gc gh nv (by omega) (Nat.zero_le _) hok ttat t43 ⟨Nat.zero_le _, t47, fun j x hx => (by cases hx)⟩ hLT hV (fun iv' gs' gp' fr' fc' gm' gth' ge' gf' gr' gk' gq' gw' gR' gS' gc' gh' gt' gi' gx' gl' gsv' sh' gd' nv' hR => ?_)
        have eX : x_run b1 k (k + 1) 0 0 (x_clr G) = x_RN ca k G := eRN
        rw [eX] at hR ⊢
        obtain ⟨r1, r2, r3, r4, r5⟩ := hR
        rw [Nat.zero_add]
        have mq : ∀ q, q = 49 ∨ q = 51 → iv' q = jv q := fun q hq => by rw [r5 q (by omega), tk q (by omega) (by omega) (by omega) (by omega) (by omega), pq q (by omega) (by omega) (by omega) (by omega) (by omega)]
        exact h1 (by rw [← es]; exact hok) _ _ _ _ _ _ _ _ _ _ _ _ _ _ _ _ _ _ _ _ _ _ _ _ _ _ r1 r2 r4 (by rw [r5 42 (Or.inl rfl), tk 42 (by decide) (by decide) (by decide) (by decide) (by decide), p42]) (by rw [mq 49 (Or.inl rfl)]; exact i49) (by rw [mq 51 (Or.inr rfl)]; exact i51) r3
      · have hno : (t_scr b1 k (k + 1) 0 0).1 = false := by
          cases hq : (t_scr b1 k (k + 1) 0 0).1 with
          | false => rfl
          | true => rw [hq, if_pos rfl] at w; exact t_10 w
        rw [r_prF hno]
        have pq : ∀ q, q ≠ 38 → q ≠ 39 → q ≠ 40 → q ≠ 41 → q ≠ 42 → r_ps jv b1 k (t_scr b1 k (k + 1) 0 0).2 1 (nI (t_j b1 k (t_scr b1 k (k + 1) 0 0).2)) q = jv q := fun q q1 q2 q3 q4 q5 => by
          unfold r_ps
          rw [if_neg q1, if_neg q2, if_neg q3, if_neg q4, if_neg q5]
        refine h0 (by rw [← es]; exact hno) _ b1 (rp_Tq hU ?_) ?_ ?_ ?_ ?_
        · rw [pq 47 (by decide) (by decide) (by decide) (by decide) (by decide)]; exact iq 47 (by decide) (by decide) (by decide)
        · rw [← es, ← ej]; rfl
        · rw [pq 49 (by decide) (by decide) (by decide) (by decide) (by decide)]; exact i49
        · rw [pq 51 (by decide) (by decide) (by decide) (by decide) (by decide)]; exact i51
        · rw [pq 52 (by decide) (by decide) (by decide) (by decide) (by decide)]; exact iq 52 (by decide) (by decide) (by decide)
    | succ u ih =>
      intro k b1 hk hb1
      have e51 : va_up iv 49 0 51 = nI L := by rw [va_up_ne _ _ (by decide)]; exact h51
      unfold w117_L7
      rw [e51, nI_clamp (show k < 2 ^ 31 by omega)]
      refine ⟨fun w => absurd w (nI_ge (by omega) (by omega)), fun _ => ⟨b_in (by omega) (by omega), b_in (by omega) (by omega), fun z e => ?_⟩⟩
      rw [e, nI_1, hca k (by omega)]
      refine ih (k + 1) _ (by omega) (fun x hx => ?_)
      unfold upd
      by_cases q : x = k
      · rw [if_pos q, q]
      · rw [if_neg q]; exact hb1 x (by omega)
  exact copy L 0 b (by omega) (fun x hx => absurd hx (Nat.not_lt_zero x))
end RRN2
