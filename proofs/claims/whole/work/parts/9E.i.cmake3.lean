/-! PURE, the class: make, its steps -/
abbrev c_mkT := Int32 → Int32 → Int32 → Int32 → Option Nat → (Nat → Option Nat) → (Nat → Int32) → Nat → Nat → Int32 → (Nat → Int32) → (Nat → Int32) → Nat → Nat → Nat → Nat → Nat → Nat → Int32 → Int32 → Int32 → Option Nat → (Nat → Int64) → (Nat → Int64) → (Nat → Int64) → Nat → Int32 → Int32 → Int32 → Int32 → Int32 → Int32 → Int32 → Int32 → Int32 → (Nat → Int32) → (Nat → px_MR) → Nat → Nat → Nat → (Nat → Nat) → (Nat → Nat) → (Nat → Nat) → (Nat → px_PR) → (Nat → px_SR) → Prop
section CMX
variable {lm : Nat → Option Nat} {spare : Option Nat} {cm np ns a0 ho mc ms kc ks : Nat} {mm : Nat → px_MR} {st : Nat} {lt : Nat → Option x_LR} {sk sk1 : Nat → Nat → Nat} {pa sa hm : Nat → Nat} {pp : Nat → px_PR} {ss : Nat → px_SR} {sp sn sm : Nat → Nat} {sK : Nat → Nat → Nat → Int} {q : Nat} {d1 d2 d3 : Int32} {d5 : Option Nat} {q_o l_o : Nat} {o_r : Int32} {g_o g_t : Nat → Int32} {q_l q_m q_h l : Nat} {mf mz mh : Int32} {ml : Option Nat} {gl gm gh : Nat → Int64} {ge : Nat → Int32} {sv : Nat} {sg sf s2 sd sh sx smn sr se : Int32} {gn : Nat → Int32} {post : c_mkT} {x : Nat} {C : x_LR} {vs : List Int32} {num ask : Bool} {nf lw : Nat} {g0 gf : Nat → Nat} {v1 v2 fd co de : Int32} {gi : Nat → Int32}
theorem c_L56 (hx : x < 26) (hsg : sg = nI x) (ha : a0 < cm) (h : post d1 d2 d3 (nI (st + 1)) (lm x) (va_up lm x (some a0)) ge q_o l_o o_r g_o g_t q_l q_m q_h l l l mf mz mh ml gl gm gh sv sg sf s2 sd sh sx smn sr se gn (va_up mm a0 ((mm a0).1, va_up (mm a0).2.1 11 (nI (st + 1)), (mm a0).2.2)) cm np ns hm pa sa pp ss) : w176_L56 ho mc ms post (some a0) d1 d2 d3 (nI st) d5 lm ge q_o l_o o_r g_o g_t q_l q_m q_h l l l mf mz mh ml gl gm gh sv sg sf s2 sd sh sx smn sr se gn mm cm np ns hm pa sa pp ss kc ks := by
  unfold w176_L56
  refine ⟨fun e => (by cases e), fun a e z3 e3 => ?_⟩
  cases e
  rw [nI_1] at e3
  subst e3
  subst hsg
  have hin : vp_in (nI x) 26 := b_in hx (by omega)
  refine ⟨ha, fun mm4 e4 => ⟨hin, ?_⟩⟩
  rw [nI_clamp (show x < 2 ^ 31 by omega)]
  subst e4
  refine ⟨fun e => ⟨ha, hin, fun g102 eg => ?_⟩, fun k e => ⟨ha, hin, fun g102 eg => ?_⟩⟩
  · subst eg; rw [e] at h; exact h
  · subst eg; rw [e] at h; exact h
/-- the witness's answer is kept by what is made -/
theorem c_WTm {mm' : Nat → px_MR} (h : c_WT lm mm lt st lw v1 v2 fd co de gi) (hst : st + 1 < 2 ^ 31) (hx : x < 26) (hn : ∀ y, lm y ≠ some a0) (h0 : (mm' a0).2.1 11 = nI (st + 1)) (h1 : ∀ a, a ≠ a0 → (mm' a).2.1 11 = (mm a).2.1 11) (h2 : ∀ a n b, a ≠ a0 → c_R (mm a) n b → c_R (mm' a) n b) : c_WT (va_up lm x (some a0)) mm' (va_up lt x (some C)) (st + 1) lw v1 v2 fd co de gi := by
  obtain ⟨w1, w2, hh⟩ := h
  refine ⟨c_WSm w1, c_WSm w2, fun y z a b A B hy hz ey ez eA eB e1 e2 => ?_⟩
  have hy' : y ≠ x := fun w => by
    rw [w, va_up_self] at ey
    cases ey
    rw [h0] at e1
    exact c_WSn w1 hst e1
  have hz' : z ≠ x := fun w => by
    rw [w, va_up_self] at ez
    cases ez
    rw [h0] at e2
    exact c_WSn w2 hst e2
  rw [va_up_ne _ _ hy'] at ey eA
  rw [va_up_ne _ _ hz'] at ez eB
  have na : a ≠ a0 := fun w => hn y (by rw [ey, w])
  have nb : b ≠ a0 := fun w => hn z (by rw [ez, w])
  rw [h1 a na] at e1
  rw [h1 b nb] at e2
  obtain ⟨r1, r2⟩ := hh y z a b A B hy hz ey ez eA eB e1 e2
  exact ⟨r1, fun q1 q2 => ⟨h2 a _ _ na (r2 q1 q2).1, h2 b _ _ nb (r2 q1 q2).2.1, (r2 q1 q2).2.2⟩⟩
/-- what holds when the matroid is made, stamped and named -/
def c_mkQ (lm : Nat → Option Nat) (cm st : Nat) (lt : Nat → Option x_LR) (sk1 : Nat → Nat → Nat) (l_o l lw : Nat) (num : Bool) (g0 : Nat → Nat) (x : Nat) (C : x_LR) (v1 v2 fd co de : Int32) (gi : Nat → Int32) (lm' : Nat → Option Nat) (spare' : Option Nat) (l_o' : Nat) (o' : Int32) (g' t' : Nat → Int32) (l' : Nat) (mf mz mh : Int32) (ml : Option Nat) (gl gm gh : Nat → Int64) (mm' : Nat → px_MR) (np' ns' : Nat) (sa' : Nat → Nat) (pp' : Nat → px_PR) (ss' : Nat → px_SR) : Prop :=
  l_o' = o_ln l_o C.2.1 ∧ l' = (if num = true then max l (2 ^ C.2.1) else l) ∧ ∃ (q' : Nat) (sp' sn' sm' : Nat → Nat) (sK' : Nat → Nat → Nat → Int), c_PW cm np' ns' mm' pp' ss' sa' sp' sn' sm' sK' l_o' o' g' t' q' l' mf mz mh ml gl gm gh ∧ c_LT lm' spare' cm mm' (st + 1) (va_up lt x (some C)) (va_up (va_up sk1 26 (sk1 x)) x (x_g6 C.2.1 g0)) np' ns' pp' sp' sn' sm' sK' q' ∧ c_WT lm' mm' (va_up lt x (some C)) (st + 1) lw v1 v2 fd co de gi
theorem c_pokst {z : Int32} (h : px_pok cm np mm) : px_pok cm np (va_up mm a0 ((mm a0).1, va_up (mm a0).2.1 11 z, (mm a0).2.2)) := fun i hi e y hy => by
  by_cases w : i = a0
  · subst w
    rw [va_up_self] at hy
    exact h i hi e y hy
  · rw [va_up_ne _ _ w] at hy
    exact h i hi e y hy
/-- the end of make: the parts of the invariant put together -/
theorem c_mkE {mm' : Nat → px_MR} {np' ns' q' l_o' l' : Nat} {sa' : Nat → Nat} {pp' : Nat → px_PR} {ss' : Nat → px_SR} {sp' sn' sm' : Nat → Nat} {sK' : Nat → Nat → Nat → Int} {o' : Int32} {g' t' : Nat → Int32} {mf' mz' mh' : Int32} {ml' : Option Nat} {gl' gm' gh' : Nat → Int64} (hLX : c_LX lm a0 cm mm' st lt sk1 np' ns' pp' sp' sn' sm' sK' q') (ha0 : a0 < cm) (hx : x < 26) (hst : st + 1 < 2 ^ 31) (hC : c_GL np' ns' pp' sp' sn' sm' sK' (mm' a0) C) (hq : C.2.1 ≤ q') (hg : c_lv (mm' a0) = x_g6 C.2.1 g0) (hP : c_PW cm np' ns' mm' pp' ss' sa' sp' sn' sm' sK' l_o' o' g' t' q' l' mf' mz' mh' ml' gl' gm' gh') (hWT : c_WT lm mm lt st lw v1 v2 fd co de gi) (h1 : ∀ a, a ≠ a0 → (mm' a).2.1 11 = (mm a).2.1 11) (h2 : ∀ a n b, a ≠ a0 → c_R (mm a) n b → c_R (mm' a) n b) (hlo : l_o' = o_ln l_o C.2.1) (hl : l' = (if num = true then max l (2 ^ C.2.1) else l)) :
    c_mkQ lm cm st lt sk1 l_o l lw num g0 x C v1 v2 fd co de gi (va_up lm x (some a0)) (lm x) l_o' o' g' t' l' mf' mz' mh' ml' gl' gm' gh' (va_up mm' a0 ((mm' a0).1, va_up (mm' a0).2.1 11 (nI (st + 1)), (mm' a0).2.2)) np' ns' sa' pp' ss' := by
  obtain ⟨p1, p2, p3, p4, p5, p6⟩ := hP
  refine ⟨hlo, hl, q', sp', sn', sm', sK', ⟨p1, p2, p3, p4, c_pokst p5, p6⟩, c_LXT hLX ha0 hx hst hC hq hg.symm, c_WTm hWT hst hx hLX.2.2.2.1 ?_ (fun a ha => ?_) (fun a n b ha hR => ?_)⟩
  · rw [va_up_self]; exact va_up_self (mm' a0).2.1 11 _
  · rw [va_up_ne _ _ ha]; exact h1 a ha
  · rw [va_up_ne _ _ ha]; exact h2 a n b ha hR
end CMX
