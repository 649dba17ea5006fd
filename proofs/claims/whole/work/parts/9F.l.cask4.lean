/-! PURE, the class: below; asking two matroids: common, cover -/
def x_sk2 (A B : x_LR) (f f2 : Nat) (sk : Nat → Nat → Nat) : Nat → Nat → Nat := va_up (va_up sk f (x_g7 A.2.1 (sk f))) f2 (x_g7 B.2.1 (va_up sk f (x_g7 A.2.1 (sk f)) f2))
def x_2c (A B : x_LR) (f f2 : Nat) (sk : Nat → Nat → Nat) : Nat := (if sk f 7 < 2 ^ A.2.1 then 1 else 0) + (if f2 = f then 0 else if sk f2 7 < 2 ^ B.2.1 then 1 else 0)
def x_2s (A B : x_LR) (f f2 : Nat) (sk : Nat → Nat → Nat) : Nat := (if sk f 7 < 2 ^ A.2.1 then 2 ^ A.2.1 else 0) + (if f2 = f then 0 else if sk f2 7 < 2 ^ B.2.1 then 2 ^ B.2.1 else 0)
section CAO
variable {mc ms : Nat} {d1 d2 d3 d4 : Int32} {d5 : Option Nat} {lm : Nat → Option Nat} {q_o l_o : Nat} {o_r : Int32} {g_o g_t : Nat → Int32} {mf mz mh : Int32} {ml : Option Nat} {gl gm gh : Nat → Int64} {vh vg : Option Nat} {v1 v2 v3 v4 v5 v6 v7 v8 v9 : Int32} {gi gp gq gk gr gg : Nat → Int32} {mm : Nat → px_MR} {cm np ns : Nat} {hm pa sa : Nat → Nat} {pp : Nat → px_PR} {ss : Nat → px_SR} {G : x_GS} {post : c_aT} {m m2 : Int32}
/-- below -/
theorem c_qU {i : Int32} (hIV : c_IV G lm d5 cm mm np ns pp ss sa o_r g_o g_t mf mz mh ml gl gm gh vh vg v1 v2 v4 v7 v8 gi) (hmc : ∀ A, x_lt G.1 m = some A → A.1 = 0 → ¬ i < 0 → x_scc A.2.1 (x_fam (x_bg A.1 A.2.2.2.1) A.2.1 A.2.2.1 1).length (G.2.1 m.toNatClampNeg) ≤ mc ∧ x_scs A.2.1 (x_fam (x_bg A.1 A.2.2.2.1) A.2.1 A.2.2.1 1).length (G.2.1 m.toNatClampNeg) ≤ ms)
    (h0 : (∀ A, x_lt G.1 m = some A → A.1 = 0 → i < 0) → post (-1) d1 d2 d3 d4 d5 q_o G.2.2.2.1 o_r g_o g_t mm)
    (h1 : ∀ A mm', x_lt G.1 m = some A → A.1 = 0 → ¬ i < 0 → x_ix (x_fam (x_bg A.1 A.2.2.2.1) A.2.1 A.2.2.1 1) i = none → c_IV (G.1, va_up G.2.1 m.toNatClampNeg (x_gL A.2.1 (x_fam (x_bg A.1 A.2.2.2.1) A.2.1 A.2.2.1 1).length 1 (G.2.1 m.toNatClampNeg)), G.2.2) lm d5 cm mm' np ns pp ss sa o_r g_o g_t mf mz mh ml gl gm gh vh vg v1 v2 v4 v7 v8 gi → post (-1) d1 d2 d3 d4 d5 q_o G.2.2.2.1 o_r g_o g_t mm')
    (h2 : ∀ A C mm', x_lt G.1 m = some A → A.1 = 0 → ¬ i < 0 → x_ix (x_fam (x_bg A.1 A.2.2.2.1) A.2.1 A.2.2.1 1) i = some C → c_IV (G.1, va_up G.2.1 m.toNatClampNeg (x_g7 A.2.1 (x_gL A.2.1 (x_fam (x_bg A.1 A.2.2.2.1) A.2.1 A.2.2.1 1).length 1 (G.2.1 m.toNatClampNeg))), G.2.2) lm d5 cm mm' np ns pp ss sa o_r g_o g_t mf mz mh ml gl gm gh vh vg v1 v2 v4 v7 v8 gi → post (nI (x_ngk (x_sgn2 A.1 A.2.1 A.2.2.1 (x_Fg A.1 A.2.2.2.1)) (x_cb (x_bg A.1 A.2.2.2.1) A.2.1 C) C A.2.1)) d1 d2 d3 d4 d5 q_o G.2.2.2.1 o_r g_o g_t mm') : w350_wp lm cm np ns pa sa pp ss mc ms post m i d1 d2 d3 d4 d5 q_o G.2.2.2.1 o_r g_o g_t mm := by
  refine c_at26 ?_
  rcases c_IVo (x := m) hIV with ⟨z1, z2⟩ | ⟨f, a, A, f1, f2, f3, f4, f5, f6, f7, f8, f9, f10, f11, f12, f13, f14, f15, q, f16, f17⟩
  · rw [z1]
    exact ⟨fun _ => ⟨fun _ => h0 (fun A e => by rw [z2] at e; cases e), fun _ e => (by cases e)⟩, fun _ e => (by cases e)⟩
  · rw [f5]
    refine ⟨fun e => (by cases e), fun a5 e => ?_⟩
    cases e
    have hn := c_knn f8
    have hp := (x_pmb f14).2
    have hfm : m.toNatClampNeg = f := by rw [f2, nI_clamp (Nat.lt_trans f1 (by decide))]
    rw [hfm] at hmc h1 h2
    rw [f9]
    refine ⟨f7, fun w => ⟨fun e => (by cases e), fun _ _ => h0 (fun A' e e2 => ?_)⟩, fun w => ⟨fun w2 => ⟨fun e => (by cases e), fun _ _ => h0 (fun _ _ _ => w2)⟩, fun hi => ?_⟩⟩
    · rw [f6] at e; cases e
      exact absurd (by rw [e2]; rfl) w
    · have hp0 : A.1 = 0 := (nI_eq (b := 0) (by omega) (by decide)).1 w
      obtain ⟨c1, c2⟩ := hmc A f6 hp0 hi
      unfold x_scc at c1
      unfold x_scs at c2
      rw [f12] at c1 c2
      have hfl := x_faml (b := x_bg A.1 A.2.2.2.1) (r := A.2.2.1) (kind := 1) hn.1
      refine ⟨x_lcc A.2.1 (x_fam (x_bg A.1 A.2.2.2.1) A.2.1 A.2.2.1 1).length 1 (c_lv (mm a)), x_lcs A.2.1 (x_fam (x_bg A.1 A.2.2.2.1) A.2.1 A.2.2.1 1).length 1 (c_lv (mm a)), by omega, by omega, f7, c_aL (k := 1) f7 f8 f17 f16 (by decide) (by rw [← f12]; exact f13 1 (by decide)) (Nat.le_refl _) (Nat.le_refl _) (fun M' m1 m2 m3 m4 m5 m6 m7 m8 m9 => ?_)⟩
      have h16 : ∀ j, j < 4 → 16 ≤ G.2.1 f (20 + j) := by rw [f12]; exact c_16f f8
      have hp4' := x_p4L (n := A.2.1) (k0 := 1) hfl (by decide) f13 h16
      obtain ⟨I, hI, eI⟩ := nI_of hi
      have hix : x_ix (x_fam (x_bg A.1 A.2.2.2.1) A.2.1 A.2.2.1 1) i = (x_fam (x_bg A.1 A.2.2.2.1) A.2.1 A.2.2.1 1)[I]? := by
        unfold x_ix
        rw [if_neg hi, eI, nI_clamp hI]
      rw [eI]
      refine ⟨fun w2 => ?_, fun w2 => ⟨fun e => (by cases e), fun _ _ => ?_⟩⟩
      · have hlt : I < (x_fam (x_bg A.1 A.2.2.2.1) A.2.1 A.2.2.1 1).length := (nI_ltI hI (by omega)).1 w2
        have e : (x_fam (x_bg A.1 A.2.2.2.1) A.2.1 A.2.2.1 1)[I]? = some ((x_fam (x_bg A.1 A.2.2.2.1) A.2.1 A.2.2.1 1).getD I 0) := by
          rw [List.getD_eq_getElem?_getD, List.getElem?_eq_getElem hlt]; rfl
        have hmem := List.mem_filter.1 (List.mem_of_getElem? e)
        have hCl := (x_Lnm hn.1 _).1 hmem.1
        have hci := x_ciT hn.1 hCl hmem.2
        generalize hC : (x_fam (x_bg A.1 A.2.2.2.1) A.2.1 A.2.2.1 1).getD I 0 = C at *
        have hC0 : C ≠ 0 := fun z => by
          have := (x_ciL hci hn.1).2.1
          rw [z, Nat.zero_testBit] at this; cases this
        have hM16 : M'.2.2.1 (20 + 1) ≤ 4096 := (m1.2.2.1 1 (by decide)).2.1
        refine ⟨f7, f7, b_in (n := 1) (by decide) (by decide), f7, ?_⟩
        rw [va_up_self, show Int32.toNatClampNeg 1 = 1 from rfl, nI_clamp hI, m9 I C e]
        have hrb := c_rcb M' A.2.1
        rw [m3] at hrb
        refine ⟨b_in (by omega) hI, by decide, c_rc M' A.2.1, c_rs M' A.2.1, by omega, by omega, f7, c_neg (s := x_sgn2 A.1 A.2.1 A.2.2.1 (x_Fg A.1 A.2.2.2.1)) f7 (by rw [va_up_self]; exact m1.1) (by rw [va_up_self]; exact m1.2.1) (fun S hS => by rw [va_up_self, m2.2.2.1 6 (by omega)]; exact f11 S hS) hCl hC0 (by rw [va_up_self]; exact Nat.le_refl _) (by rw [va_up_self]; exact Nat.le_refl _) (fun M2 hQ => ?_)⟩
        rw [va_up_self] at hQ
        have hqk := c_Qk m1 hQ
        have hvv : va_up (va_up mm a M') a M2 = va_up mm a M2 := by
          funext y
          by_cases w : y = a
          · rw [w, va_up_self, va_up_self]
          · rw [va_up_ne _ _ w, va_up_ne _ _ w, va_up_ne _ _ w]
        rw [hvv]
        exact h2 A C (va_up mm a M2) f6 hp0 hi (by rw [hix]; exact e) (c_IVa hIV f1 f4 f3 f7 hqk.1 (c_frt m2 hqk.2.1) (fun hR => c_QRR hQ (m5 hR)) (by rw [c_lvQ m1 hQ, m3, ← f12]) (x_p47 hp4'))
      · have hge : (x_fam (x_bg A.1 A.2.2.2.1) A.2.1 A.2.2.1 1).length ≤ I := Classical.byContradiction (fun w3 => w2 ((nI_ltI hI (by omega)).2 (by omega)))
        exact h1 A (va_up mm a M') f6 hp0 hi (by rw [hix]; exact List.getElem?_eq_none hge) (c_IVa hIV f1 f4 f3 f7 m1 m2 m5 (by rw [m3, ← f12]) hp4')
/-- two are asked -/
theorem c_IVb {f f2 a c : Nat} {A B : x_LR} {mm' : Nat → px_MR} (hIV : c_IV G lm d5 cm mm np ns pp ss sa o_r g_o g_t mf mz mh ml gl gm gh vh vg v1 v2 v4 v7 v8 gi) (hf : f < 26) (hf2 : f2 < 26) (hA : G.1 f = some A) (hB : G.1 f2 = some B) (ha : lm f = some a) (hc : lm f2 = some c) (hac : a < cm) (hcc : c < cm) (h4 : x_p4 (G.2.1 f)) (h42 : x_p4 (G.2.1 f2)) (hmm : ∀ i, i ≠ a → i ≠ c → mm' i = mm i) (h1 : c_A7 (mm a) (mm' a) A.2.1 A.2.2.1 (x_bg A.1 A.2.2.2.1)) (h2 : c_A7 (mm c) (mm' c) B.2.1 B.2.2.1 (x_bg B.1 B.2.2.2.1)) : c_IV (G.1, x_sk2 A B f f2 G.2.1, G.2.2) lm d5 cm mm' np ns pp ss sa o_r g_o g_t mf mz mh ml gl gm gh vh vg v1 v2 v4 v7 v8 gi := by
  obtain ⟨q, sp, sn, sm, sK, hP, hL, hT, hvh, hvg, hs4, hw1, hw2, hw3⟩ := hIV
  obtain ⟨g1, g2, g3⟩ := c_ask2 hP hL hT hf hf2 hA hB ha hc hac hcc hmm h1 h2
  refine ⟨q, sp, sn, sm, sK, g1, g2, g3, hvh, hvg, x_s4u (x_s4u hs4 (x_p47 h4)) (x_p47 ?_), hw1, hw2, hw3⟩
  by_cases w : f2 = f
  · rw [w, va_up_self]; exact x_p47 h4
  · rw [va_up_ne _ _ w]; exact h42
theorem c_rem2 {f f2 a c n : Nat} {A B : x_LR} {sk : Nat → Nat → Nat} (hsk : sk f = c_lv (mm a)) (hsk2 : sk f2 = c_lv (mm c)) (hcf : c = a ↔ f2 = f) (hA : A.2.1 = n) (hB : B.2.1 = n) : c_remc mm a c n ≤ x_2c A B f f2 sk ∧ c_rems mm a c n ≤ x_2s A B f f2 sk := by
  have hrb := c_rcb (mm a) n
  have hrb2 := c_rcb (mm c) n
  rw [← hsk] at hrb
  rw [← hsk2] at hrb2
  unfold c_remc c_rems x_2c x_2s
  rw [hA, hB]
  by_cases w : c = a
  · rw [if_pos w, if_pos w, if_pos (hcf.1 w), if_pos (hcf.1 w)]
    omega
  · rw [if_neg w, if_neg w, if_neg (fun w2 => w (hcf.2 w2)), if_neg (fun w2 => w (hcf.2 w2))]
    omega
end CAO
