/-! PURE: what a statement that tells leaves: text, lengths, costs -/
/-- the text -/
def x_PG (v : Nat) (A B : x_LR) (V : List Nat) : Prop :=
  (v = 8 ∧ V = []) ∨ (v = 9 ∧ V = x_dg A.2.2.1 ++ [10]) ∨ (10 ≤ v ∧ v ≤ 13 ∧ V = x_fa (x_fml (x_bg A.1 A.2.2.2.1) A.2.1 A.2.2.1 (v - 10)) 4096 0) ∨
  (v = 14 ∧ V = x_tuW (fun i j => (x_T Int (x_bg A.1 A.2.2.2.1) A.2.1 A.2.2.1 i j).toNat) 169 true ++ [10]) ∨
  (v = 15 ∧ ∃ G, x_best (x_bg A.1 A.2.2.2.1) (fun e => (A.2.2.2.2 e).toInt) G ∧ V = x_set G) ∨
  (v = 16 ∧ ∃ T, x_top A.2.1 (x_cp (x_bg A.1 A.2.2.2.1) (x_bg B.1 B.2.2.2.1)) T ∧ V = x_set T ++ x_set (x_cv (x_bg A.1 A.2.2.2.1) (x_bg B.1 B.2.2.2.1) A.2.1 (x_n T) (2 ^ A.2.1))) ∨
  (v = 17 ∧ V = x_fa (x_chl A.2.1 A.2.2.1 (x_sgn2 A.1 A.2.1 A.2.2.1 (x_Fg A.1 A.2.2.2.1))) 4096 0 ++ [10]) ∨
  (v = 18 ∧ V = x_fa (x_sgl (x_bg A.1 A.2.2.2.1) A.2.1 (x_sgn2 A.1 A.2.1 A.2.2.1 (x_Fg A.1 A.2.2.2.1))) 4096 0) ∨
  (v = 19 ∧ x_mnT (x_bg A.1 A.2.2.2.1) (x_bg B.1 B.2.2.2.1) A.2.1 B.2.1 V) ∨
  (v = 20 ∧ V = x_shT A.1 A.2.1 A.2.2.2.1)
theorem x_mnTu {b b' : Nat → Bool} {n g : Nat} {V V' : List Nat} (hn : n ≤ 12) (h : x_mnT b b' n g V) (h' : x_mnT b b' n g V') : V = V' := by
  rcases h with ⟨K, c, f, h1, h2⟩ | ⟨h1, h2⟩
  · rcases h' with ⟨K2, c2, f2, k1, k2⟩ | ⟨k1, k2⟩
    · obtain ⟨u1, u2, u3⟩ := w_1u hn h1 k1
      rw [h2, k2, u1, u2, x_faC (P := x_img3 f) (Q := x_img3 f2) g 0 (fun k _ hk => by unfold x_img3; rw [u3 k (by omega)])]
    · exact absurd ⟨K, c, f, h1.1⟩ k1
  · rcases h' with ⟨K2, c2, f2, k1, k2⟩ | ⟨k1, k2⟩
    · exact absurd ⟨K2, c2, f2, k1.1⟩ h1
    · rw [h2, k2]
theorem x_PGu {v : Nat} {A B : x_LR} {V V' : List Nat} (hn : A.2.1 ≤ 12) (h : x_PG v A B V) (h' : x_PG v A B V') : V = V' := by
  unfold x_PG at h h'
  rcases h with ⟨v1, h⟩ | ⟨v1, h⟩ | ⟨v1, v2, h⟩ | ⟨v1, h⟩ | ⟨v1, G, h0, h⟩ | ⟨v1, G, h0, h⟩ | ⟨v1, h⟩ | ⟨v1, h⟩ | ⟨v1, h⟩ | ⟨v1, h⟩ <;> rcases h' with ⟨w1, k⟩ | ⟨w1, k⟩ | ⟨w1, w2, k⟩ | ⟨w1, k⟩ | ⟨w1, G', k0, k⟩ | ⟨w1, G', k0, k⟩ | ⟨w1, k⟩ | ⟨w1, k⟩ | ⟨w1, k⟩ | ⟨w1, k⟩ <;> first | omega | (rw [h, k]; done) | (rw [h, k, x_bestu h0 k0]; done) | (rw [h, k, x_topu hn h0 k0]; done) | exact x_mnTu hn h k
noncomputable def x_txt (v : Nat) (A B : x_LR) : List Nat := Classical.epsilon (x_PG v A B)
theorem x_txtE {v : Nat} {A B : x_LR} {V : List Nat} (hn : A.2.1 ≤ 12) (h : x_PG v A B V) : V = x_txt v A B := x_PGu hn h (Classical.epsilon_spec ⟨V, h⟩)
/-- minor looks for itself -/
def x_slw (v : Nat) (A B : x_LR) : Bool := decide (v = 19 ∧ B.2.2.1 ≤ A.2.2.1 ∧ B.2.1 - B.2.2.1 ≤ A.2.1 - A.2.2.1)
def x_tkS (v : Nat) (A B : x_LR) (f g : Nat) (sk : Nat → Nat → Nat) : Nat → Nat → Nat :=
  if v = 14 then va_up sk f (x_gT A.2.1 (sk f))
  else if v = 15 ∨ v = 20 then va_up sk f (x_g7 A.2.1 (sk f))
  else if v = 18 then va_up sk f (x_gS A.2.1 (x_fam (x_bg A.1 A.2.2.2.1) A.2.1 A.2.2.1 1).length (sk f))
  else if v = 16 ∨ x_slw v A B = true then va_up (va_up sk f (x_g7 A.2.1 (sk f))) g (x_g7 B.2.1 (va_up sk f (x_g7 A.2.1 (sk f)) g))
  else if 10 ≤ v ∧ v ≤ 13 then va_up sk f (x_gL A.2.1 (x_fam (x_bg A.1 A.2.2.2.1) A.2.1 A.2.2.1 (v - 10)).length (v - 10) (sk f))
  else sk
def x_tkW (v : Nat) (A B : x_LR) (lw : Nat) : Nat := if x_slw v A B = true then max lw (2 ^ A.2.1) else lw
def x_tkC (v : Nat) (A B : x_LR) (f g : Nat) (sk : Nat → Nat → Nat) (lw : Nat) : Nat :=
  if v = 14 then x_tcc A.2.1 (sk f)
  else if v = 15 ∨ v = 20 then (if sk f 7 < 2 ^ A.2.1 then 1 else 0)
  else if v = 18 then x_scc A.2.1 (x_fam (x_bg A.1 A.2.2.2.1) A.2.1 A.2.2.1 1).length (sk f)
  else if v = 16 ∨ x_slw v A B = true then (if sk f 7 < 2 ^ A.2.1 then 1 else 0) + (if g = f then 0 else if sk g 7 < 2 ^ B.2.1 then 1 else 0) + (if v = 16 ∨ 2 ^ A.2.1 ≤ lw then 0 else 3)
  else if 10 ≤ v ∧ v ≤ 13 then x_lcc A.2.1 (x_fam (x_bg A.1 A.2.2.2.1) A.2.1 A.2.2.1 (v - 10)).length (v - 10) (sk f)
  else 0
def x_tkE (v : Nat) (A B : x_LR) (f g : Nat) (sk : Nat → Nat → Nat) (lw : Nat) : Nat :=
  if v = 14 then x_tcs A.2.1 (sk f)
  else if v = 15 ∨ v = 20 then (if sk f 7 < 2 ^ A.2.1 then 2 ^ A.2.1 else 0)
  else if v = 18 then x_scs A.2.1 (x_fam (x_bg A.1 A.2.2.2.1) A.2.1 A.2.2.1 1).length (sk f)
  else if v = 16 ∨ x_slw v A B = true then (if sk f 7 < 2 ^ A.2.1 then 2 ^ A.2.1 else 0) + (if g = f then 0 else if sk g 7 < 2 ^ B.2.1 then 2 ^ B.2.1 else 0) + (if v = 16 ∨ 2 ^ A.2.1 ≤ lw then 0 else 3 * 2 ^ A.2.1)
  else if 10 ≤ v ∧ v ≤ 13 then x_lcs A.2.1 (x_fam (x_bg A.1 A.2.2.2.1) A.2.1 A.2.2.1 (v - 10)).length (v - 10) (sk f)
  else 0
/-- the weights told -/
def x_tkA (v : Nat) (A : x_LR) (vs : List Int32) (f : Nat) (lt : Nat → Option x_LR) : Nat → Option x_LR := if v = 8 then va_up lt f (some (A.1, A.2.1, A.2.2.1, A.2.2.2.1, fun e => vs.getD e 0)) else lt
section CAS
variable {lm : Nat → Option Nat} {spare : Option Nat} {cm np ns a c : Nat} {mm mm' : Nat → px_MR} {st : Nat} {lt : Nat → Option x_LR} {sk : Nat → Nat → Nat} {sa : Nat → Nat} {pp : Nat → px_PR} {ss : Nat → px_SR} {sp sn sm : Nat → Nat} {sK : Nat → Nat → Nat → Int} {q : Nat} {l_o : Nat} {o_r : Int32} {g_o g_t : Nat → Int32} {l lw : Nat} {mf mz mh : Int32} {ml : Option Nat} {gl gm gh : Nat → Int64} {v1 v2 fd co de : Int32} {gi : Nat → Int32} {f f2 : Nat} {A B : x_LR} {M1 : px_MR} {G : Nat → Nat}
theorem c_ask1 (hP : c_PW cm np ns mm pp ss sa sp sn sm sK l_o o_r g_o g_t q l mf mz mh ml gl gm gh) (hL : c_LT lm spare cm mm st lt sk np ns pp sp sn sm sK q) (hT : c_WT lm mm lt st lw v1 v2 fd co de gi) (hf : f < 26) (hA : lt f = some A) (ha : lm f = some a) (hac : a < cm) (hk : c_kn M1 A.2.1 A.2.2.1 (x_bg A.1 A.2.2.2.1)) (hfr : c_fr (mm a) M1) (hR : c_R (mm a) A.2.1 (x_bg A.1 A.2.2.2.1) → c_R M1 A.2.1 (x_bg A.1 A.2.2.2.1)) (hlv : c_lv M1 = G) :
    c_PW cm np ns (va_up mm a M1) pp ss sa sp sn sm sK l_o o_r g_o g_t q l mf mz mh ml gl gm gh ∧ c_LT lm spare cm (va_up mm a M1) st lt (va_up sk f G) np ns pp sp sn sm sK q ∧ c_WT lm (va_up mm a M1) lt st lw v1 v2 fd co de gi := by
  obtain ⟨p1, p2, p3, p4, p5, p6⟩ := hP
  refine ⟨⟨p1, p2, p3, p4, c_pokup p5 (Nat.le_refl _) (fun e y hy => by rw [hfr.2.2.2] at hy; exact p5 a hac e y hy), p6⟩, by rw [← hlv]; exact c_LTa hL hf ha hA hk hfr, hT.1, hT.2.1, fun x y b d A' B' hx hy ex ey eA eB e1 e2 => ?_⟩
  rw [c_sta hfr] at e1 e2
  obtain ⟨r1, r2⟩ := hT.2.2 x y b d A' B' hx hy ex ey eA eB e1 e2
  have keep : ∀ z b' C', z < 26 → lm z = some b' → lt z = some C' → c_R (mm b') C'.2.1 (x_bg C'.1 C'.2.2.2.1) → c_R (va_up mm a M1 b') C'.2.1 (x_bg C'.1 C'.2.2.2.1) := fun z b' C' hz ez eC h => by
    by_cases w : b' = a
    · rw [w] at ez h ⊢
      have hzf := hL.2.2.1 z f a hz hf ez ha
      rw [hzf, hA] at eC
      cases eC
      rw [va_up_self]
      exact hR h
    · rw [va_up_ne _ _ w]; exact h
  exact ⟨r1, fun q1 q2 => ⟨keep x b A' hx ex eA (r2 q1 q2).1, keep y d B' hy ey eB (r2 q1 q2).2.1, (r2 q1 q2).2.2⟩⟩
theorem c_mm2 (h : ∀ i, i ≠ a → i ≠ c → mm' i = mm i) : va_up (va_up mm a (mm' a)) c (mm' c) = mm' := by
  funext i
  by_cases w : i = c
  · rw [w, va_up_self]
  · rw [va_up_ne _ _ w]
    by_cases w2 : i = a
    · rw [w2, va_up_self]
    · rw [va_up_ne _ _ w2, h i w2 w]
/-- two are asked for their ranks -/
theorem c_ask2 (hP : c_PW cm np ns mm pp ss sa sp sn sm sK l_o o_r g_o g_t q l mf mz mh ml gl gm gh) (hL : c_LT lm spare cm mm st lt sk np ns pp sp sn sm sK q) (hT : c_WT lm mm lt st lw v1 v2 fd co de gi) (hf : f < 26) (hf2 : f2 < 26) (hA : lt f = some A) (hB : lt f2 = some B) (ha : lm f = some a) (hc : lm f2 = some c) (hac : a < cm) (hcc : c < cm) (hmm : ∀ i, i ≠ a → i ≠ c → mm' i = mm i) (h1 : c_A7 (mm a) (mm' a) A.2.1 A.2.2.1 (x_bg A.1 A.2.2.2.1)) (h2 : c_A7 (mm c) (mm' c) B.2.1 B.2.2.1 (x_bg B.1 B.2.2.2.1)) :
    c_PW cm np ns mm' pp ss sa sp sn sm sK l_o o_r g_o g_t q l mf mz mh ml gl gm gh ∧ c_LT lm spare cm mm' st lt (va_up (va_up sk f (x_g7 A.2.1 (sk f))) f2 (x_g7 B.2.1 (va_up sk f (x_g7 A.2.1 (sk f)) f2))) np ns pp sp sn sm sK q ∧ c_WT lm mm' lt st lw v1 v2 fd co de gi := by
  obtain ⟨a', t1, t2, t3, t4, t5⟩ := c_LTl hL hf hA
  rw [ha] at t1
  cases t1
  obtain ⟨c', u1, u2, u3, u4, u5⟩ := c_LTl hL hf2 hB
  rw [hc] at u1
  cases u1
  obtain ⟨g1, g2, g3⟩ := c_ask1 (G := x_g7 A.2.1 (sk f)) hP hL hT hf hA ha hac h1.1 h1.2.1 (fun _ => h1.2.2.2) (by rw [t5]; exact h1.2.2.1)
  by_cases w : c = a
  · subst w
    have hff := hL.2.2.1 f f2 c hf hf2 ha hc
    subst hff
    rw [hA] at hB
    cases hB
    have e1 : va_up mm c (mm' c) = mm' := by
      have := c_mm2 (a := c) (c := c) hmm
      rw [← this]
      funext i
      by_cases w : i = c
      · rw [w, va_up_self, va_up_self]
      · rw [va_up_ne _ _ w, va_up_ne _ _ w, va_up_ne _ _ w]
    have e2 : va_up (va_up sk f (x_g7 A.2.1 (sk f))) f (x_g7 A.2.1 (va_up sk f (x_g7 A.2.1 (sk f)) f)) = va_up sk f (x_g7 A.2.1 (sk f)) := by
      rw [va_up_self, x_g77]
      funext i
      by_cases w : i = f
      · rw [w, va_up_self, va_up_self]
      · rw [va_up_ne _ _ w]
    rw [e2, ← e1]
    exact ⟨g1, g2, g3⟩
  · have hca : va_up mm a (mm' a) c = mm c := va_up_ne _ _ w
    have hne : f2 ≠ f := fun z => by rw [z, ha] at hc; cases hc; exact w rfl
    have := c_ask1 (G := x_g7 B.2.1 (sk f2)) g1 g2 g3 hf2 hB hc hcc h2.1 (by rw [hca]; exact h2.2.1) (fun _ => h2.2.2.2) (by rw [u5]; exact h2.2.2.1)
    rw [c_mm2 hmm] at this
    rw [va_up_ne _ _ hne]
    exact this
end CAS
