/-! PURE, the class: one statement of a run -/
def x_p4 (g : Nat → Nat) : Prop := ∀ k, k < 4 → ∃ j, g (20 + k) * 4 ^ j = 4096
theorem x_gr4 : ∀ (t l c : Nat), 4096 ≤ l * 4 ^ t → c ≤ 4096 → (∃ j, l * 4 ^ j = 4096) → ∃ j, x_gr t l c * 4 ^ j = 4096
  | 0, l, c, _, _, h => h
  | t + 1, l, c, h2, h3, ⟨j, hj⟩ => by
    unfold x_gr
    by_cases q : c ≤ l
    · rw [if_pos q]; exact ⟨j, hj⟩
    · rw [if_neg q]
      have hj0 : j ≠ 0 := fun z => by rw [z] at hj; omega
      obtain ⟨i, rfl⟩ : ∃ i, j = i + 1 := ⟨j - 1, by omega⟩
      have e : 4 * l * 4 ^ i = 4096 := by rw [← hj, Nat.pow_succ, Nat.mul_comm (4 ^ i) 4, ← Nat.mul_assoc, Nat.mul_comm l 4]
      refine x_gr4 t (4 * l) c ?_ h3 ⟨i, e⟩
      rw [Nat.pow_succ, Nat.mul_comm (4 ^ t) 4, ← Nat.mul_assoc, Nat.mul_comm l 4] at h2; exact h2
theorem x_p47 {n : Nat} {g : Nat → Nat} (h : x_p4 g) : x_p4 (x_g7 n g) := fun k hk => by
  unfold x_g7; rw [if_neg (by omega)]; exact h k hk
theorem x_p46 {n : Nat} {g : Nat → Nat} (h : x_p4 g) : x_p4 (x_g6 n g) := fun k hk => by
  unfold x_g6; rw [if_neg (by omega), if_neg (by omega)]; exact h k hk
theorem x_p4T {n : Nat} {g : Nat → Nat} (h : x_p4 g) : x_p4 (x_gT n g) := fun k hk => by
  unfold x_gT
  by_cases q : g 29 = 0
  · rw [if_pos q, if_neg (by omega), if_neg (by omega), if_neg (by omega)]; exact h k hk
  · rw [if_neg q]; exact h k hk
theorem x_p4L {n N k0 : Nat} {g : Nat → Nat} (hN : N ≤ 4096) (hk0 : k0 < 4) (h : x_p4 g) (h16 : ∀ k, k < 4 → 16 ≤ g (20 + k)) : x_p4 (x_gL n N k0 g) := fun k hk => by
  unfold x_gL
  by_cases q : g (30 + k0) = 0
  · rw [if_pos q, if_neg (by omega)]
    by_cases q2 : 20 + k = 20 + k0
    · rw [if_pos q2]
      have := h16 k0 hk0
      exact x_gr4 4 _ _ (by omega) hN (h k0 hk0)
    · rw [if_neg q2, if_neg (by omega)]; exact h k hk
  · rw [if_neg q]; exact h k hk
theorem x_p40 : x_p4 x_g0 := fun k hk => ⟨4, by unfold x_g0; rw [if_pos (by omega)]⟩
theorem x_s4u {sk : Nat → Nat → Nat} {f : Nat} {g : Nat → Nat} (h : x_s4 sk) (hg : x_p4 g) : x_s4 (va_up sk f g) := fun x hx => by
  by_cases w : x = f
  · rw [w, va_up_self]; exact Or.inr hg
  · rw [va_up_ne _ _ w]; exact h x hx
/-- what holds of the class between statements -/
def c_IV (G : x_GS) (lm : Nat → Option Nat) (spare : Option Nat) (cm : Nat) (mm : Nat → px_MR) (np ns : Nat) (pp : Nat → px_PR) (ss : Nat → px_SR) (sa : Nat → Nat) (o_r : Int32) (g_o g_t : Nat → Int32) (mf mz mh : Int32) (ml : Option Nat) (gl gm gh : Nat → Int64) (vh vg : Option Nat) (v1 v2 v4 v7 v8 : Int32) (gi : Nat → Int32) : Prop :=
  ∃ (q : Nat) (sp sn sm : Nat → Nat) (sK : Nat → Nat → Nat → Int), c_PW cm np ns mm pp ss sa sp sn sm sK G.2.2.2.1 o_r g_o g_t q G.2.2.2.2.1 mf mz mh ml gl gm gh ∧ c_LT lm spare cm mm G.2.2.1 G.1 G.2.1 np ns pp sp sn sm sK q ∧ c_WT lm mm G.1 G.2.2.1 G.2.2.2.2.2.1 v1 v2 v4 v7 v8 gi ∧ (∀ a, vh = some a → a < cm) ∧ (∀ a, vg = some a → a < cm) ∧ x_s4 G.2.1 ∧ G.2.2.2.2.2.1 ≤ 4096 ∧ 16 ≤ G.2.2.2.2.2.1 ∧ c_p2 G.2.2.2.2.2.1
theorem c_mks : ∀ v, v < 21 → px_v_makes.getD v 0 = if v < 8 then 1 else 0 := by decide
abbrev c_KT := Int32 → Int32 → Int32 → Int32 → Int32 → Int32 → Option Nat → (Nat → Option Nat) → (Nat → Int32) → Nat → Nat → Int32 → (Nat → Int32) → (Nat → Int32) → Nat → Nat → Nat → Nat → Nat → Nat → Int32 → Int32 → Int32 → Option Nat → (Nat → Int64) → (Nat → Int64) → (Nat → Int64) → Int64 → Int64 → Int64 → Int64 → Int64 → Int64 → Int64 → Int64 → Int64 → Int64 → Int64 → Int64 → Nat → Nat → Nat → Nat → Nat → Nat → Option Nat → Option Nat → Int32 → Int32 → Int32 → Int32 → Int32 → Int32 → Int32 → Int32 → Int32 → (Nat → Int32) → (Nat → Int32) → (Nat → Int32) → (Nat → Int32) → (Nat → Int32) → (Nat → Int32) → Nat → Int32 → Int32 → Int32 → Int32 → Int32 → (Nat → Int32) → Nat → Int32 → Int32 → Int32 → Int32 → Int32 → Int32 → Int32 → Int32 → Int32 → (Nat → Int32) → Nat → Nat → Int32 → Int32 → (Nat → Int32) → (Nat → Int32) → (Nat → px_MR) → Nat → Nat → Nat → (Nat → Nat) → (Nat → Nat) → (Nat → Nat) → (Nat → px_PR) → (Nat → px_SR) → Nat → Nat → Prop
abbrev c_PT9 := Int32 → Int32 → Int32 → Int32 → Int32 → Option Nat → (Nat → Option Nat) → (Nat → Int32) → Nat → Nat → Int32 → (Nat → Int32) → (Nat → Int32) → Nat → Nat → Nat → Nat → Nat → Nat → Int32 → Int32 → Int32 → Option Nat → (Nat → Int64) → (Nat → Int64) → (Nat → Int64) → Int64 → Int64 → Int64 → Int64 → Int64 → Int64 → Int64 → Int64 → Int64 → Int64 → Int64 → Int64 → Nat → Nat → Nat → Nat → Nat → Nat → Option Nat → Option Nat → Int32 → Int32 → Int32 → Int32 → Int32 → Int32 → Int32 → Int32 → Int32 → (Nat → Int32) → (Nat → Int32) → (Nat → Int32) → (Nat → Int32) → (Nat → Int32) → (Nat → Int32) → Nat → Int32 → Int32 → Int32 → Int32 → Int32 → (Nat → Int32) → Nat → Int32 → Int32 → Int32 → Int32 → Int32 → Int32 → Int32 → Int32 → Int32 → (Nat → Int32) → Nat → Nat → Int32 → Int32 → (Nat → Int32) → (Nat → Int32) → (Nat → px_MR) → Nat → Nat → Nat → (Nat → Nat) → (Nat → Nat) → (Nat → Nat) → (Nat → px_PR) → (Nat → px_SR) → Prop
section CST
variable {K60 : c_KT} {post : c_PT9} {q_y ho N mc ms kc ks : Nat} {x2 x3 x4 y0 : Int32} {d1 d2 d3 d4 : Int32} {d5 : Option Nat} {lm : Nat → Option Nat} {ge : Nat → Int32} {q_o l_o : Nat} {o_r : Int32} {g_o g_t : Nat → Int32} {q_l q_m q_h l : Nat} {mf mz mh : Int32} {ml : Option Nat} {gl gm gh : Nat → Int64} {w1 w2 w3 w4 w5 w6 w7 w8 w9 w10 w11 w12 : Int64} {qk qr qg lw : Nat} {vh vg : Option Nat} {v1 v2 v3 v4 v5 v6 v7 v8 v9 : Int32} {gi gp gq gk gr gg : Nat → Int32} {qs : Nat} {tl tb ts tk tv : Int32} {gy : Nat → Int32} {sv : Nat} {sg sf s2 sd sh sx smn sr se : Int32} {gn : Nat → Int32} {q_b l_b : Nat} {pl pf : Int32} {gb gd : Nat → Int32} {mm : Nat → px_MR} {cm np ns : Nat} {hm pa sa : Nat → Nat} {pp : Nat → px_PR} {ss : Nat → px_SR} {b : Nat → Int32} {L i M T RC RE : Nat} {G : x_GS}
theorem c_bE (hy : ¬ y0 = 0) (hpf : pf = 0) (h : K60 (x2 + 0) (x3 + 1) d1 d2 y0 d4 d5 lm ge q_o l_o o_r g_o g_t q_l q_m q_h l l l mf mz mh ml gl gm gh w1 w2 w3 w4 w5 w6 w7 w8 w9 w10 w11 w12 qk qr qg lw lw lw vh vg v1 v2 v3 v4 v5 v6 v7 v8 v9 gi gp gq gk gr gg qs tl tb ts tk tv gy sv sg sf s2 sd sh sx smn sr se gn q_b l_b pl pf gb gd mm cm np ns hm pa sa pp ss kc ks) : w135_L112 K60 q_y ho N mc ms post x2 x3 x4 y0 d1 d2 d3 d4 d5 lm ge q_o l_o o_r g_o g_t q_l q_m q_h l l l mf mz mh ml gl gm gh w1 w2 w3 w4 w5 w6 w7 w8 w9 w10 w11 w12 qk qr qg lw lw lw vh vg v1 v2 v3 v4 v5 v6 v7 v8 v9 gi gp gq gk gr gg qs tl tb ts tk tv gy sv sg sf s2 sd sh sx smn sr se gn q_b l_b pl pf gb gd mm cm np ns hm pa sa pp ss kc ks := by
  unfold w135_L112
  refine ⟨fun _ => ?_, fun z => absurd z hy⟩
  unfold w135_L142
  refine ⟨fun _ => ?_, fun z => absurd z hy⟩
  unfold w135_L164
  refine ⟨fun _ => ?_, fun z => absurd hpf z⟩
  unfold w135_L189
  refine ⟨fun _ => ?_, fun z => absurd z hy⟩
  unfold w135_L202
  intro z1 e1 z2 e2
  rw [e1, e2]
  exact h
theorem c_bM (hIV : c_IV G lm d5 cm mm np ns pp ss sa o_r g_o g_t mf mz mh ml gl gm gh vh vg v1 v2 v4 v7 v8 gi) (hst : G.2.2.1 + 1 < 2 ^ 31) (hL16 : L ≤ 16384) (hok : s_ok b L i sv sg sf s2 sd sh sx smn sr se gn) (hrd : (t_st b L i).1 = true) (hO : x_sO b L i G.1 = 0) (hv : t_pv b L i ≤ 7) (hpf : pf = 0) (hmc : kc + x_stC b L i G ≤ mc) (hms : ks + x_stE b L i G ≤ ms)
    (hK : ∀ ge' lm' d5' q_o' o_r' g_o' g_t' q_l' q_m' q_h' mf' mz' mh' ml' gl' gm' gh' mm' cm' np' ns' hm' pa' sa' pp' ss', c_IV (x_stp b L i G).1 lm' d5' cm' mm' np' ns' pp' ss' sa' o_r' g_o' g_t' mf' mz' mh' ml' gl' gm' gh' vh vg v1 v2 v4 v7 v8 gi → K60 (x2 + 1) (x3 + 1) d1 d2 0 (nI (x_stp b L i G).1.2.2.1) d5' lm' ge' q_o' (x_stp b L i G).1.2.2.2.1 o_r' g_o' g_t' q_l' q_m' q_h' (x_stp b L i G).1.2.2.2.2.1 (x_stp b L i G).1.2.2.2.2.1 (x_stp b L i G).1.2.2.2.2.1 mf' mz' mh' ml' gl' gm' gh' w1 w2 w3 w4 w5 w6 w7 w8 w9 w10 w11 w12 qk qr qg (x_stp b L i G).1.2.2.2.2.2.1 (x_stp b L i G).1.2.2.2.2.2.1 (x_stp b L i G).1.2.2.2.2.2.1 vh vg v1 v2 v3 v4 v5 v6 v7 v8 v9 gi gp gq gk gr gg qs tl tb ts tk tv gy sv sg sf s2 sd sh sx smn sr se gn q_b l_b pl pf gb gd mm' cm' np' ns' hm' pa' sa' pp' ss' (kc + x_stC b L i G) (ks + x_stE b L i G)) :
    w135_L112 K60 q_y ho N mc ms post x2 x3 x4 0 d1 d2 d3 (nI G.2.2.1) d5 lm ge q_o G.2.2.2.1 o_r g_o g_t q_l q_m q_h G.2.2.2.2.1 G.2.2.2.2.1 G.2.2.2.2.1 mf mz mh ml gl gm gh w1 w2 w3 w4 w5 w6 w7 w8 w9 w10 w11 w12 qk qr qg G.2.2.2.2.2.1 G.2.2.2.2.2.1 G.2.2.2.2.2.1 vh vg v1 v2 v3 v4 v5 v6 v7 v8 v9 gi gp gq gk gr gg qs tl tb ts tk tv gy sv sg sf s2 sd sh sx smn sr se gn q_b l_b pl pf gb gd mm cm np ns hm pa sa pp ss kc ks := by
  obtain ⟨lt, sk, st, lo, lmi, lwi, U⟩ := G
  obtain ⟨q, sp, sn, sm, sK, hP, hL, hT, hvh, hvg, hs4, hw1, hw2, hw3⟩ := hIV
  have hsv21 : sv < 21 := hok.1.1
  have ev := (t_fiE hok).2.2
  have hn : ∀ f A, f < 26 → lt f = some A → A.2.1 ≤ 12 := fun f A hf hA => by
    obtain ⟨a, _, _, hG, _⟩ := c_LTl hL hf hA
    exact (c_knn (show c_kn (mm a) A.2.1 A.2.2.1 (x_bg A.1 A.2.2.2.1) from hG.2.2.2.2.1)).1
  obtain ⟨hH, htg, htg26⟩ := c_mkHG (sk := sk) hL16 hok hrd hO hv hn
  have eS : x_stp b L i (lt, sk, st, lo, lmi, lwi, U) = ((va_up lt (t_ptg b L i) (some (x_sC b L i lt)), va_up (va_up (x_k1 (t_pv b L i) (t_pfi b L i).toNatClampNeg (x_sA b L i lt).2.1 sk) 26 (x_k1 (t_pv b L i) (t_pfi b L i).toNatClampNeg (x_sA b L i lt).2.1 sk (t_ptg b L i))) (t_ptg b L i) (x_g6 (x_sC b L i lt).2.1 (x_f0 sk)), st + 1, o_ln lo (x_sC b L i lt).2.1, (if t_pv b L i ≤ 2 then max lmi (2 ^ (x_sC b L i lt).2.1) else lmi), lwi, U), 0) := by
    unfold x_stp
    rw [if_neg (fun z => z hO), if_pos hv]
  have eC : x_stC b L i (lt, sk, st, lo, lmi, lwi, U) = (if sk 26 6 = 0 then 13 else 0) + x_mcc (decide (t_pv b L i ≤ 2)) (decide (t_pv b L i = 4 ∨ t_pv b L i = 5)) lo lmi (x_f0 sk) (sk (t_pfi b L i).toNatClampNeg) (x_sA b L i lt).2.1 (x_sC b L i lt).2.1 := by
    unfold x_stC
    rw [if_neg (fun z => z hO), if_pos hv]
  have eE : x_stE b L i (lt, sk, st, lo, lmi, lwi, U) = (if sk 26 6 = 0 then 155 else 0) + x_mcs (decide (t_pv b L i ≤ 2)) (decide (t_pv b L i = 4 ∨ t_pv b L i = 5)) lo lmi (x_f0 sk) (sk (t_pfi b L i).toNatClampNeg) (x_sA b L i lt).2.1 (x_sC b L i lt).2.1 := by
    unfold x_stE
    rw [if_neg (fun z => z hO), if_pos hv]
  rw [eS] at hK
  -- lists' lengths
  have hk1 : x_s4 (x_k1 (t_pv b L i) (t_pfi b L i).toNatClampNeg (x_sA b L i lt).2.1 sk) := by
    unfold x_k1
    by_cases w : t_pv b L i = 4 ∨ t_pv b L i = 5
    · rw [if_pos w]
      obtain ⟨⟨f, hf, ef⟩, _⟩ := t_fiN hok.1 hrd (by omega)
      rw [ef, nI_clamp (by omega)]
      rcases hs4 f (by omega) with z | z
      · intro x hx
        by_cases w2 : x = f
        · rw [w2, va_up_self]
          -- the letter is there
          obtain ⟨o1, _⟩ := x_ob0 hO
          obtain ⟨A, hA⟩ := o1 (by rcases w with w | w <;> (rw [w]; decide))
          rw [ef, x_ltn hf] at hA
          obtain ⟨a, _, _, hG, _, hsk⟩ := c_LTl hL hf hA
          have := c_knv (show c_kn (mm a) A.2.1 A.2.2.1 (x_bg A.1 A.2.2.2.1) from hG.2.2.2.2.1)
          have h6 : 16 ≤ c_lv (mm a) 6 := this.1
          rw [← hsk, z 6] at h6
          omega
        · rw [va_up_ne _ _ w2]; exact hs4 x hx
      · exact x_s4u hs4 (x_p47 z)
    · rw [if_neg w]; exact hs4
  have hf0 : x_p4 (x_f0 sk) := by
    unfold x_f0
    by_cases w : sk 26 6 = 0
    · rw [if_pos w]; exact x_p40
    · rw [if_neg w]
      rcases hs4 26 (by decide) with z | z
      · exact absurd (z 6) w
      · exact z
  have hs4' : x_s4 (va_up (va_up (x_k1 (t_pv b L i) (t_pfi b L i).toNatClampNeg (x_sA b L i lt).2.1 sk) 26 (x_k1 (t_pv b L i) (t_pfi b L i).toNatClampNeg (x_sA b L i lt).2.1 sk (t_ptg b L i))) (t_ptg b L i) (x_g6 (x_sC b L i lt).2.1 (x_f0 sk))) := by
    refine x_s4u (fun x hx => ?_) (x_p46 hf0)
    by_cases w : x = 26
    · rw [w, va_up_self]; exact hk1 _ (by omega)
    · rw [va_up_ne _ _ w]; exact hk1 x hx
  unfold w135_L112
  refine ⟨fun z => absurd rfl z, fun _ => ⟨hsv21, ?_⟩⟩
  rw [c_mks sv hsv21, if_pos (by omega)]
  refine ⟨fun z => absurd z (by decide), fun _ => ⟨x_stC b L i (lt, sk, st, lo, lmi, lwi, U), x_stE b L i (lt, sk, st, lo, lmi, lwi, U), hmc, hms, ?_⟩⟩
  refine c_make (x := t_ptg b L i) (lw := lwi) (v1 := v1) (v2 := v2) (fd := v4) (co := v7) (de := v8) (gi := gi) hL rfl hP hT hH htg26 htg hst (by rw [eC]; exact Nat.le_refl _) (by rw [eE]; exact Nat.le_refl _) (fun ge' lm' spare' q_o' l_o' o' g' t' q_l' q_m' q_h' l' mf' mz' mh' ml' gl' gm' gh' mm' cm' np' ns' hm' pa' sa' pp' ss' hhm hcm hQ => ?_)
  obtain ⟨k1, k2, q', sp', sn', sm', sK', k3, k4, k5⟩ := hQ
  refine ⟨?_, ?_, ?_⟩
  · cases hv' : vh with
    | none => rfl
    | some a => show some (hm a) = some (hm' a); rw [hhm a (hvh a hv')]
  · cases hv' : vg with
    | none => rfl
    | some a => show some (hm a) = some (hm' a); rw [hhm a (hvg a hv')]
  · unfold w135_L164
    refine ⟨fun _ => ?_, fun z => absurd hpf z⟩
    unfold w135_L189
    refine ⟨fun z => absurd rfl z, fun _ => ?_⟩
    unfold w135_L202
    intro z1 e1 z2 e2
    rw [e1, e2]
    have k2' : l' = if t_pv b L i ≤ 2 then max lmi (2 ^ (x_sC b L i lt).2.1) else lmi := by
      rw [k2]
      by_cases w : t_pv b L i ≤ 2
      · rw [if_pos (decide_eq_true w), if_pos w]
      · rw [if_neg (fun z => w (of_decide_eq_true z)), if_neg w]
    subst k1
    rw [k2'] at k3 ⊢
    exact hK ge' lm' spare' q_o' o' g' t' q_l' q_m' q_h' mf' mz' mh' ml' gl' gm' gh' mm' cm' np' ns' hm' pa' sa' pp' ss' ⟨q', sp', sn', sm', sK', k3, k4, k5, fun a e => Nat.lt_of_lt_of_le (hvh a e) hcm, fun a e => Nat.lt_of_lt_of_le (hvg a e) hcm, hs4', hw1, hw2, hw3⟩
end CST
