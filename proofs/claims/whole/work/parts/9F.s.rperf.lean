/-! PURE, the reference: perform, of a statement that tells -/
section TSV
variable {b : Nat → Int32} {L i v : Nat} {tg : Int32}
theorem t_vbw {lo cnt : Nat} (h : t_word b L lo cnt i = true) : ∃ m, m < cnt ∧ t_vb b L i lo cnt = nI m := by
  have hn : ¬ t_vb b L i lo cnt < 0 := by
    intro q
    unfold t_word at h
    rw [decide_eq_true q] at h
    exact absurd h (by decide)
  unfold t_vb at hn ⊢
  by_cases q : t_k b L i = 1
  · rw [if_pos q] at hn ⊢
    rcases t_fvr (b := b) (f := t_j b L i) (t := t_e b L i) (lo := lo) cnt 0 with z | ⟨m, _, h2, h3⟩
    · rw [z] at hn; exact absurd (by decide) hn
    · exact ⟨m, by omega, h3⟩
  · rw [if_neg q] at hn; exact absurd (by decide) hn
/-- a right statement has a verb -/
theorem t_sV (h : (t_st b L i).1 = true) : ∃ v tg, s_V b L i v tg := by
  have hrv : (t_rv b L i).1 = true := by
    cases hq : (t_rv b L i).1 with
    | true => rfl
    | false => rw [t_rvF hq, hq] at h; cases h
  unfold t_rv at hrv
  by_cases q : t_nm b L i = true
  · rw [if_pos q] at hrv
    obtain ⟨w1, w2, _⟩ := t_w1 hrv
    obtain ⟨_, _, u3⟩ := t_w1 w1
    rw [u3] at w2
    obtain ⟨m, hm, e⟩ := t_vbw w2
    refine ⟨m, b (t_j b L i) - 97, by omega, ?_⟩
    rw [if_pos q]
    refine ⟨hm, rfl, ?_⟩
    unfold t_iw
    rw [if_pos q]
    exact e
  · rw [if_neg q] at hrv
    obtain ⟨_, w2, _⟩ := t_w1 hrv
    obtain ⟨m, hm, e⟩ := t_vbw w2
    refine ⟨8 + m, -1, by omega, ?_⟩
    rw [if_neg q]
    exact ⟨by omega, rfl, by rw [e]; congr 1; omega⟩
theorem t_icE (h : 2 < v) : t_ic b L i v = t_ia b L i := by
  unfold t_ic t_rh t_ib t_rf
  rw [if_neg (by omega), if_neg (by omega), if_neg (by omega)]
theorem t_idE (hV : s_V b L i v tg) (h : (t_st b L i).1 = true) (h3 : 2 < v) : t_id b L i v = if v = 6 ∨ v = 16 ∨ v = 19 then t_e b L (t_e b L (t_ia b L i)) else t_e b L (t_ia b L i) := by
  have h4 := (t_stA hV h).2.2.2.1
  have h5 : (t_rn b L v (true, t_ic b L i v)).1 = true := by rw [h4]
  have h6 : t_id b L i v = (t_rn b L v (true, t_ic b L i v)).2 := rfl
  rw [h6]
  unfold t_rn at h5 ⊢
  rw [t_icE h3] at h5 ⊢
  rw [if_neg (by omega)] at h5 ⊢
  by_cases q : v = 6 ∨ v = 16 ∨ v = 19
  · rw [if_pos q] at h5 ⊢
    rw [if_pos q]
    obtain ⟨w1, w2, w3⟩ := t_w1 h5
    obtain ⟨u1, u2, u3⟩ := t_w1 w1
    rw [w3, u3]
  · rw [if_neg q] at h5 ⊢
    rw [if_neg q]
    obtain ⟨w1, w2, w3⟩ := t_w1 h5
    rw [w3]
theorem t_nsE {cm : Bool} {j : Nat} (h : (t_ns b L cm (true, j)).1 = true) : t_k b L j = 123 ∧ t_k b L (t_lp b L cm L (t_e b L j)) = 125 ∧ (t_ns b L cm (true, j)).2 = t_e b L (t_lp b L cm L (t_e b L j)) := by
  unfold t_ns at h ⊢
  obtain ⟨w1, w2, w3⟩ := t_w1 h
  have h1 : (t_w b L (t_is b L 123) (true, j)).1 = true := by
    cases hq : (t_w b L (t_is b L 123) (true, j)).1 with
    | true => rfl
    | false => rw [if_neg (by rw [hq]; decide), hq] at w1; cases w1
  obtain ⟨u1, u2, u3⟩ := t_w1 h1
  rw [if_pos h1, u3] at w2
  refine ⟨of_decide_eq_true u2, of_decide_eq_true w2, ?_⟩
  rw [w3, if_pos h1, u3]
theorem t_pbN (h : t_pv b L i ≠ 0 ∧ t_pv b L i ≠ 1 ∧ t_pv b L i ≠ 2 ∧ t_pv b L i ≠ 4 ∧ t_pv b L i ≠ 5 ∧ t_pv b L i ≠ 8) (n : Nat) : t_pbad b L i n = false := by
  unfold t_pbad t_bad
  obtain ⟨h0, h1, h2, h4, h5, h8⟩ := h
  rw [if_neg h0, if_neg h1, if_neg h2, if_neg (by omega), if_neg h8]
end TSV
theorem x_ob1 {v : Nat} {A B : Option x_LR} {bad : Nat → Bool} (h : 2 < v) (hc : A = none ∨ ((v = 6 ∨ v = 16 ∨ v = 19) ∧ B = none)) : x_ob v A B bad = 1 := by
  unfold x_ob
  rw [if_pos (hc.elim (fun q => Or.inl ⟨h, q⟩) Or.inr)]
theorem x_obS {v : Nat} {A : x_LR} {bad : Nat → Bool} (h : ¬ (v = 6 ∨ v = 16 ∨ v = 19)) : x_ob v (some A) none bad = if bad A.2.1 = true then 2 else if (v = 17 ∨ v = 18) ∧ ¬ A.1 = 0 then 5 else 0 := by
  unfold x_ob
  rw [if_neg (fun q => q.elim (fun q => by cases q.2) (fun q => h q.1))]
theorem x_obD {v : Nat} {A B : x_LR} {bad : Nat → Bool} : x_ob v (some A) (some B) bad = if bad A.2.1 = true then 2 else if v = 6 ∧ 12 < A.2.1 + B.2.1 then 3 else if v = 6 ∧ ¬ A.1 = B.1 then 4 else if v = 16 ∧ ¬ A.2.1 = B.2.1 then 6 else 0 := by
  unfold x_ob
  rw [if_neg (fun q => q.elim (fun q => by cases q.2) (fun q => by cases q.2))]
theorem x_ltI (lt : Nat → Option x_LR) {y : Nat} (hy : y < 26) : x_lt lt (nI y) = lt y := by
  unfold x_lt
  rw [if_neg (nI_pos (by omega)), if_pos (show nI y < (26 : Int32) from nI_lt (b := 26) hy (by omega)), nI_clamp (by omega)]
theorem x_ltM (lt : Nat → Option x_LR) : x_lt lt (-1) = none := by
  unfold x_lt
  rw [if_pos (by decide)]
theorem x_PGn {v : Nat} {A B B' : x_LR} {V : List Nat} (hv : ¬ (v = 16 ∨ v = 19)) (h : x_PG v A B V) : x_PG v A B' V := by
  unfold x_PG at h ⊢
  rcases h with h | h | h | h | h | ⟨q, h⟩ | h | h | ⟨q, h⟩ | h
  · exact Or.inl h
  · exact Or.inr (Or.inl h)
  · exact Or.inr (Or.inr (Or.inl h))
  · exact Or.inr (Or.inr (Or.inr (Or.inl h)))
  · exact Or.inr (Or.inr (Or.inr (Or.inr (Or.inl h))))
  · exact absurd (Or.inl q) hv
  · exact Or.inr (Or.inr (Or.inr (Or.inr (Or.inr (Or.inr (Or.inl h))))))
  · exact Or.inr (Or.inr (Or.inr (Or.inr (Or.inr (Or.inr (Or.inr (Or.inl h)))))))
  · exact absurd (Or.inr q) hv
  · exact Or.inr (Or.inr (Or.inr (Or.inr (Or.inr (Or.inr (Or.inr (Or.inr (Or.inr h))))))))
/-- ints that a statement leaves alone -/
def r_E2 (iv iv' : Nat → Int32) : Prop := ∀ q, q = 37 ∨ q = 42 ∨ 47 < q → iv' q = iv q
theorem r_E2R {iv : Nat → Int32} : r_E2 iv iv := fun _ _ => rfl
theorem r_E2T {iv iv' iv'' : Nat → Int32} (h : r_E2 iv iv') (h' : r_E2 iv' iv'') : r_E2 iv iv'' := fun q hq => by rw [h' q hq, h q hq]
theorem r_E2E {iv iv' : Nat → Int32} (h : r_Eq iv iv') : r_E2 iv iv' := fun q hq => h q (by omega) (by omega) (by omega) (by omega) (by omega) (by omega) (by omega)
theorem r_E2t {iv iv' : Nat → Int32} (h : ∀ q, q ≠ 38 → q ≠ 39 → q ≠ 40 → iv' q = iv q) : r_E2 iv iv' := fun q hq => h q (by omega) (by omega) (by omega)
theorem rp_Tq {iv iv' sh : Nat → Int32} {U : List Nat} (h : rp_T iv sh U) (e : iv' 47 = iv 47) : rp_T iv' sh U := ⟨h.1, by rw [e]; exact h.2.1, h.2.2⟩
/-- the reference after a step of the run -/
def r_AF (b : Nat → Int32) (L i : Nat) (G : x_GS) (iv iv' gth' ge' gf' gr' gk' gq' gw' gR' gS' sh' : Nat → Int32) (nv' : Nat → px_NV) : Prop := r_V nv' ∧ r_LT (x_stp b L i G).1.1 gth' ge' gf' gr' gk' gq' gw' gR' gS' ∧ iv' 43 = (x_stp b L i G).2 ∧ rp_T iv' sh' (x_stp b L i G).1.2.2.2.2.2.2 ∧ ((x_stp b L i G).2 = 0 → ∃ j, j ≤ L ∧ r_tat iv' b L j ∧ t_e b L j = (t_st b L i).2) ∧ r_E2 iv iv'
section RPF
variable {iv gs gp fr fc gm gth ge gf gr gk gq gw gR gS go gz gt gi gx b gl gsv sh gd : Nat → Int32} {gc gh : Nat → Int64} {nv : Nat → px_NV} {G : x_GS} {L i v : Nat} {tg : Int32}
theorem r_pfT {post : r_P8} (hL : L ≤ 16384) (hi : i ≤ L) (hV : s_V b L i v tg) (hst : (t_st b L i).1 = true) (hnm : ¬ t_nm b L i = true) (hT : r_T go gz) (hVn : r_V nv) (hLT : r_LT G.1 gth ge gf gr gk gq gw gR gS) (h43 : iv 43 = 0) (hU : rp_T iv sh G.2.2.2.2.2.2) (ht : r_tat iv b L i)
    (h : ∀ iv' gw' gc' gh' gt' gi' gx' gl' sh' gd' nv', r_AF b L i G iv iv' gth ge gf gr gk gq gw' gR gS sh' nv' → post iv' gs gp fr fc gm gth ge gf gr gk gq gw' gR gS go gz gc' gh' gt' gi' gx' b gl' gsv sh' gd' nv') :
    w104_wp post iv gs gp fr fc gm gth ge gf gr gk gq gw gR gS go gz gc gh gt gi gx b gl gsv sh gd nv := by
  have hv := t_pvE hV
  obtain ⟨hv21, hV2⟩ := id hV
  rw [if_neg hnm] at hV2
  obtain ⟨hv8, _, hvb⟩ := hV2
  obtain ⟨k, rfl⟩ : ∃ k, v = 8 + k := ⟨v - 8, by omega⟩
  rw [show 8 + k - 8 = k by omega] at hvb
  obtain ⟨s1, s2, s3, s4, s5, s6, s7⟩ := t_stA hV hst
  obtain ⟨n1, n2⟩ := t_stN hV hst (by omega)
  have eia : t_ia b L i = t_e b L i := by unfold t_ia t_iw; rw [if_neg hnm]
  have eic := t_icE (b := b) (L := L) (i := i) (v := 8 + k) (by omega)
  rw [eic, eia] at n1 n2
  have eid := t_idE hV hst (by omega)
  rw [eia] at eid
  obtain ⟨y, hy, ey⟩ := t_nmx n1
  have hi1 := (t_el (b := b) hi).2.1
  have hi2 := (t_el (b := b) hi1).2.1
  have hjy : t_j b L (t_e b L i) < L := t_kj (by rw [(t_nmb n1).2.1]; decide)
  have efi : t_pfi b L i = nI y := by
    unfold t_pfi
    rw [hv, if_neg (by omega), eic, eia, ey]
  have eA : x_lt G.1 (t_pfi b L i) = G.1 y := by rw [efi]; exact x_ltI G.1 hy
  have hne : ∀ a, a < 20 → k ≠ a → ¬ nI k = nI a := fun a ha q w => q ((nI_eq (by omega) (by omega)).1 w)
  have hequ : ∀ a, a < 20 → nI k = nI a → k = a := fun a ha w => (nI_eq (by omega) (by omega)).1 w
  -- the end of a statement that prints
  have fin : ∀ (z : Nat) (iv1 : Nat → Int32), 1 ≤ k → z < 26 → (k = 8 ∨ k = 11 → x_lt G.1 (t_pse b L i) = G.1 z) → (¬ (k = 8 ∨ k = 11) → z = y) → r_tat iv1 b L (t_id b L i (8 + k)) → iv1 43 = 0 → iv1 47 = iv 47 → r_E2 iv iv1 → w104_L69 post (nI k) (nI y) (nI z) iv1 gs gp fr fc gm gth ge gf gr gk gq gw gR gS go gz gc gh gt gi gx b gl gsv sh gd nv := by
    intro z iv1 hk1 hz hzB hzy t1 t43 t47 tE
    have hpb := t_pbN (b := b) (L := L) (i := i) (by rw [hv]; omega)
    have hpse : ¬ (k = 8 ∨ k = 11) → x_lt G.1 (t_pse b L i) = none := fun q => by
      unfold t_pse
      rw [hv, if_neg (by omega)]
      exact x_ltM _
    have hid : t_id b L i (8 + k) ≤ L := by
      rw [eid]
      split
      · exact (t_el hi2).2.1
      · exact hi2
    have ert : (t_rt b L (8 + k) (true, t_id b L i (8 + k))) = (true, t_id b L i (8 + k)) := by
      unfold t_rt
      rw [if_neg (by omega), if_neg (by omega), if_neg (by omega)]
    have eend : t_e b L (t_id b L i (8 + k)) = (t_st b L i).2 := by rw [s7, ert]
    refine r_tel hk1 (by omega) hy hz hT hLT t43 (rp_Tq hU t47) (fun why hw => ?_) (fun A B V iv' gc' gh' gt' gi' gx' sh' gd' nv' a1 a2 a3 a4 a5 a6 a7 a8 => ?_)
    · have hO : x_sO b L i G.1 = why ∧ ¬ why = 0 := by
        unfold x_sO
        rw [hv, eA]
        rcases hw with ⟨q1, q2⟩ | ⟨A, B, q1, q2, q3⟩
        · refine ⟨?_, by rw [q1]; decide⟩
          rw [q1]
          refine x_ob1 (by omega) ?_
          rcases q2 with q2 | q2
          · exact Or.inl q2
          · by_cases c : k = 8 ∨ k = 11
            · exact Or.inr ⟨by omega, by rw [hzB c]; exact q2⟩
            · rw [hzy c] at q2; exact Or.inl q2
        · rcases q3 with ⟨q3, q4, q5⟩ | ⟨q3, q4, q5⟩
          · refine ⟨?_, by rw [q3]; decide⟩
            rw [q1, hpse (by omega), x_obS (by omega), hpb, if_neg (by decide), if_pos ⟨by omega, q5⟩, q3]
          · refine ⟨?_, by rw [q3]; decide⟩
            rw [q1, hzB (Or.inl q4), q2, x_obD, hpb, if_neg (by decide), if_neg (by omega), if_neg (by omega), if_pos ⟨by omega, q5⟩, q3]
      have eS : x_stp b L i G = (G, why) := by
        unfold x_stp
        rw [hO.1, if_pos hO.2]
      refine h _ gw gc gh gt gi gx gl sh gd nv ?_
      unfold r_AF
      rw [eS]
      exact ⟨hVn, hLT, va_up_self _ _ _, rp_Tq hU (by rw [va_up_ne _ _ (by decide)]; exact t47), fun q => absurd q hO.2, r_E2T tE (fun q hq => va_up_ne _ _ (by omega))⟩
    · have hO : x_sO b L i G.1 = 0 := by
        unfold x_sO
        rw [hv, eA, a1]
        by_cases c : k = 8 ∨ k = 11
        · rw [hzB c, a2, x_obD, hpb, if_neg (by decide), if_neg (by omega), if_neg (by omega), if_neg (fun q => q.2 (a4 (by omega)))]
        · rw [hpse c, x_obS (by omega), hpb, if_neg (by decide), if_neg (fun q => q.2 (a3 (by omega)))]
      have hn : A.2.1 ≤ 12 := by
        rcases hLT y hy with ⟨_, z2⟩ | ⟨A', z1, z2, _⟩
        · rw [a1] at z2; cases z2
        · rw [a1] at z1; cases z1; exact z2.1.1
      have eV : x_sV b L i G.1 = V := by
        unfold x_sV x_sA x_sB
        rw [hv, eA, a1]
        refine (x_txtE hn ?_).symm
        by_cases c : k = 8 ∨ k = 11
        · rw [hzB c, a2]; exact a5
        · exact x_PGn (by omega) a5
      obtain ⟨f1, f2⟩ := rp_FT hU.1 a6
      refine h iv' gw gc' gh' gt' gi' gx' gl sh' gd' nv' ?_
      unfold r_AF x_stp x_tkA
      rw [hO, if_neg (fun q => q rfl), if_neg (by omega), hv, if_neg (by omega), eV]
      exact ⟨fun c hc => by rw [a8 c hc]; exact hVn c hc, hLT, f2, f1, fun _ => ⟨_, hid, r_tatU t1 (fun q hq => a7 q (by omega) (by omega) (by omega) (by omega)), eend⟩, r_E2T tE (fun q hq => a7 q (by omega) (by omega) (by omega) (by omega))⟩
  unfold w104_wp
  refine r_isn hL hi ht.2.1 ht.2.2.1 ht.2.2.2 ⟨fun _ => ?_, fun q => absurd (if_neg hnm) q⟩
  refine r_wordOf t_so10 hL hi ht.2.1 ht.2.2.1 ht.2.2.2 ?_
  rw [hvb]
  refine r_nxt hL hi ht (fun iv1 t1 e1 => r_letter hL hi1 hjy t1 (fun iv2 t2 e2 => ?_))
  rw [ey]
  have e12 : ∀ q, q ≠ 38 → q ≠ 39 → q ≠ 40 → iv2 q = iv q := fun q q1 q2 q3 => by rw [e2 q q1 q2 q3, e1 q q1 q2 q3]
  have x43 : iv2 43 = 0 := by rw [e12 43 (by decide) (by decide) (by decide)]; exact h43
  have x47 : iv2 47 = iv 47 := e12 47 (by decide) (by decide) (by decide)
  have two : k = 8 ∨ k = 11 → w104_L61 post (nI k) (nI y) iv2 gs gp fr fc gm gth ge gf gr gk gq gw gR gS go gz gc gh gt gi gx b gl gsv sh gd nv := fun c => by
    unfold w104_L61
    have n2' := n2 (by omega)
    obtain ⟨z, hz, ez⟩ := t_nmx n2'
    have hjz : t_j b L (t_e b L (t_e b L i)) < L := t_kj (by rw [(t_nmb n2').2.1]; decide)
    refine r_letter hL hi2 hjz t2 (fun iv3 t3 e3 => ?_)
    rw [ez]
    have epse : x_lt G.1 (t_pse b L i) = G.1 z := by
      unfold t_pse
      rw [hv, if_pos (by omega), eic, eia, ez]; exact x_ltI G.1 hz
    refine fin z iv3 (by omega) hz (fun _ => epse) (fun q => absurd c q) ?_ (by rw [e3 43 (by decide) (by decide) (by decide)]; exact x43) (by rw [e3 47 (by decide) (by decide) (by decide)]; exact x47) (r_E2T (r_E2t e12) (r_E2t e3))
    rw [eid, if_pos (by omega)]; exact t3
  refine ⟨fun w0 => ⟨fun w8 => two (Or.inl (hequ 8 (by decide) w8)), fun w8 => ⟨fun w11 => ?_, fun w11 => two (Or.inr (hequ 11 (by decide) w11))⟩⟩, fun w0 => ?_⟩
  · have c : ¬ (k = 8 ∨ k = 11) := fun q => q.elim (fun q => w8 (by rw [q]; rfl)) (fun q => w11 (by rw [q]; rfl))
    have k0 : k ≠ 0 := fun q => w0 (by rw [q]; rfl)
    refine fin y iv2 (by omega) hy (fun q => absurd q c) (fun _ => rfl) ?_ x43 x47 (r_E2t e12)
    rw [eid, if_neg (by omega)]; exact t2
  · have k0 : k = 0 := hequ 0 (by decide) w0
    subst k0
    have eid' : t_id b L i (8 + 0) = t_e b L (t_e b L i) := by rw [eid, if_neg (by decide)]
    have ert : t_rt b L (8 + 0) (true, t_id b L i (8 + 0)) = t_ns b L false (true, t_e b L (t_e b L i)) := by
      rw [eid']
      unfold t_rt
      rw [if_neg (by decide), if_neg (by decide), if_pos (by decide)]
    rw [ert] at s5 s6 s7
    obtain ⟨m1, m2, m3⟩ := t_nsE s5
    rw [m3] at s6 s7
    have evs : t_pvs b L i = t_vl (t_it b L false L (t_e b L (t_e b L (t_e b L i)))) := by
      unfold t_pvs t_vals
      rw [hv, if_neg (by decide), if_neg (by decide), eid']
    have hie : t_e b L (t_lp b L false L (t_e b L (t_e b L (t_e b L i)))) ≤ L := (t_el (t_lpl L _ (t_el hi2).2.1)).2.1
    have epse : x_lt G.1 (t_pse b L i) = none := by
      unfold t_pse
      rw [hv, if_neg (by decide)]; exact x_ltM _
    have ebd : ∀ n, n ≤ 12 → t_pbad b L i n = !decide ((t_pvs b L i).length = n) := fun n hn => by
      unfold t_pbad t_bad
      rw [hv, if_neg (by decide), if_neg (by decide), if_neg (by decide), if_neg (by decide), if_pos (by decide)]
      congr 1
      exact decide_eq_decide.2 (nI_eq (t_pvl hL) (by omega))
    have bad : ∀ (why : Int32) (iv' gl' : Nat → Int32), ¬ why = 0 → x_sO b L i G.1 = why → r_Eq iv2 iv' → iv' 43 = why → post iv' gs gp fr fc gm gth ge gf gr gk gq gw gR gS go gz gc gh gt gi gx b gl' gsv sh gd nv := fun why iv' gl' hw0 hO tE t43 => by
      have eS : x_stp b L i G = (G, why) := by
        unfold x_stp
        rw [hO, if_pos hw0]
      refine h _ gw gc gh gt gi gx gl' sh gd nv ?_
      unfold r_AF
      rw [eS]
      exact ⟨hVn, hLT, t43, rp_Tq hU (by rw [tE 47 (by decide) (by decide) (by decide) (by decide) (by decide) (by decide) (by decide)]; exact x47), fun q => absurd q hw0, r_E2T (r_E2t e12) (r_E2E tE)⟩
    rcases hLT y hy with ⟨z1, z2⟩ | ⟨A, a1, a2, a3, a4⟩
    · refine r_weigh (n := 0) hL hi2 hy (Or.inl z1) x43 t2 rfl rfl m2 (fun _ iv' gl' u1 u2 u3 => bad 1 iv' gl' (by decide) ?_ u2 u3) (fun w => by rw [z1] at w; exact absurd w (by decide)) (fun w => by rw [z1] at w; exact absurd w (by decide))
      unfold x_sO
      rw [hv, eA]
      exact x_ob1 (by decide) (Or.inl z2)
    · obtain ⟨g1, g2, g3, g4, g5, g6⟩ := r_gth1 a2
      refine r_weigh (n := A.2.1) hL hi2 hy (Or.inr ⟨g1, g3, g5⟩) x43 t2 rfl rfl m2 (fun w => by rw [g1] at w; exact absurd w (by decide)) (fun _ hl iv' gl' u1 u2 u3 => bad 2 iv' gl' (by decide) ?_ u2 u3) (fun _ hl iv' gl' gw' u1 u2 u3 u4 u5 => ?_)
      · unfold x_sO
        rw [hv, eA, a1, epse, x_obS (by decide), ebd _ g5, evs, decide_eq_false hl]; rfl
      · have hO : x_sO b L i G.1 = 0 := by
          unfold x_sO
          rw [hv, eA, a1, epse, x_obS (by decide), ebd _ g5, evs, decide_eq_true hl]; rfl
        have eV : x_sV b L i G.1 = [] := by
          unfold x_sV x_sA
          rw [hv, eA, a1]
          exact (x_txtE g5 (Or.inl ⟨rfl, rfl⟩)).symm
        refine h iv' gw' gc gh gt gi gx gl' sh gd nv ?_
        unfold r_AF x_stp x_tkA
        rw [hO, if_neg (fun q => q rfl), if_neg (by omega), hv, if_pos (by decide), eV, List.append_nil, if_pos hU.1, if_pos hU.1]
        have eSA : x_sA b L i G.1 = A := by
          unfold x_sA
          rw [eA, a1]; rfl
        rw [eSA, efi, nI_clamp (show y < 2 ^ 31 by omega), evs]
        refine ⟨hVn, r_LTw hy a1 hLT u4 (t_vlb L _) u5, u3, rp_Tq hU (by rw [u2 47 (by decide) (by decide) (by decide) (by decide) (by decide) (by decide) (by decide)]; exact x47), fun _ => ⟨_, hie, u1, by rw [s7]⟩, r_E2T (r_E2t e12) (r_E2E u2)⟩
end RPF
