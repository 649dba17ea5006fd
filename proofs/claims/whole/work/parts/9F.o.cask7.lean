/-! PURE, the class: contracted, deleted, image -/
/-- the set contracted, the set deleted, an image: of the first witness, or -1 -/
def x_aK (b b' : Nat → Bool) (n g : Nat) (ans : Int32) : Prop := ((¬ ∃ K c f, w_E b b' n g K c f) ∧ ans = -1) ∨ ∃ K c f, w_1st b b' n g K c f ∧ ans = nI c
def x_aD (b b' : Nat → Bool) (n g : Nat) (ans : Int32) : Prop := ((¬ ∃ K c f, w_E b b' n g K c f) ∧ ans = -1) ∨ ∃ K c f, w_1st b b' n g K c f ∧ ans = nI (x_co n (K ||| c))
def x_aI (b b' : Nat → Bool) (n g e : Nat) (ans : Int32) : Prop := ((¬ ∃ K c f, w_E b b' n g K c f) ∧ ans = -1) ∨ ∃ K c f, w_1st b b' n g K c f ∧ ans = nI (f e)
section CAR
variable {mc ms : Nat} {d1 d2 d3 d4 : Int32} {d5 : Option Nat} {lm : Nat → Option Nat} {q_o l_o : Nat} {o_r : Int32} {g_o g_t : Nat → Int32} {mf mz mh : Int32} {ml : Option Nat} {gl gm gh : Nat → Int64} {qk qr qg : Nat} {vh vg : Option Nat} {v1 v2 v3 v4 v5 v6 v7 v8 v9 : Int32} {gi gp gq gk gr gg : Nat → Int32} {mm : Nat → px_MR} {cm np ns : Nat} {hm pa sa : Nat → Nat} {pp : Nat → px_PR} {ss : Nat → px_SR} {G : x_GS} {post : c_aW} {m m2 : Int32}
theorem c_qK (hIV : c_IV G lm d5 cm mm np ns pp ss sa o_r g_o g_t mf mz mh ml gl gm gh vh vg v1 v2 v4 v7 v8 gi) (hmc : ∀ A B, x_lt G.1 m = some A → x_lt G.1 m2 = some B → x_tkC 19 A B m.toNatClampNeg m2.toNatClampNeg G.2.1 G.2.2.2.2.2.1 ≤ mc ∧ x_tkE 19 A B m.toNatClampNeg m2.toNatClampNeg G.2.1 G.2.2.2.2.2.1 ≤ ms)
    (h0 : (x_lt G.1 m = none ∨ x_lt G.1 m2 = none) → post (-1) d1 d2 d3 d4 d5 q_o G.2.2.2.1 o_r g_o g_t qk qr qg G.2.2.2.2.2.1 G.2.2.2.2.2.1 G.2.2.2.2.2.1 vh vg v1 v2 v3 v4 v5 v6 v7 v8 v9 gi gp gq gk gr gg mm)
    (h1 : ∀ A B ans qk' qr' qg' vh' vg' v1' v2' v3' v4' v5' v6' v7' v8' v9' gi' gp' gq' gk' gr' gg' mm', x_lt G.1 m = some A → x_lt G.1 m2 = some B → x_aK (x_bg A.1 A.2.2.2.1) (x_bg B.1 B.2.2.2.1) A.2.1 B.2.1 ans → c_IV (x_GM A B m.toNatClampNeg m2.toNatClampNeg G) lm d5 cm mm' np ns pp ss sa o_r g_o g_t mf mz mh ml gl gm gh vh' vg' v1' v2' v4' v7' v8' gi' → post ans d1 d2 d3 d4 d5 q_o G.2.2.2.1 o_r g_o g_t qk' qr' qg' (x_tkW 19 A B G.2.2.2.2.2.1) (x_tkW 19 A B G.2.2.2.2.2.1) (x_tkW 19 A B G.2.2.2.2.2.1) vh' vg' v1' v2' v3' v4' v5' v6' v7' v8' v9' gi' gp' gq' gk' gr' gg' mm') :
    w351_wp lm cm np ns pa sa pp ss mc ms post m m2 d1 d2 d3 d4 d5 q_o G.2.2.2.1 o_r g_o g_t qk qr qg G.2.2.2.2.2.1 G.2.2.2.2.2.1 G.2.2.2.2.2.1 vh vg v1 v2 v3 v4 v5 v6 v7 v8 v9 gi gp gq gk gr gg mm := by
  refine ⟨mc, ms, by omega, by omega, c_qMi hIV hmc (fun z => ⟨fun _ => h0 z, fun w => absurd rfl w⟩) (fun A B fd qk' qr' qg' vh' vg' v1' v2' v3' v5' v6' v7' v8' v9' gi' gp' gq' gk' gr' gg' mm' hA hB hans hI => ⟨fun w => ?_, fun w => ?_⟩)⟩
  · rcases hans with ⟨_, z⟩ | ⟨z, _⟩
    · exact h1 A B (-1) qk' qr' qg' vh' vg' v1' v2' v3' fd v5' v6' v7' v8' v9' gi' gp' gq' gk' gr' gg' mm' hA hB (Or.inl ⟨z, rfl⟩) hI
    · rw [w] at z; exact absurd z (by decide)
  · rcases hans with ⟨z, _⟩ | ⟨_, K, c, f, z1, z2, _⟩
    · exact absurd z w
    · exact h1 A B v7' qk' qr' qg' vh' vg' v1' v2' v3' fd v5' v6' v7' v8' v9' gi' gp' gq' gk' gr' gg' mm' hA hB (Or.inr ⟨K, c, f, z1, z2⟩) hI
theorem c_qD (hIV : c_IV G lm d5 cm mm np ns pp ss sa o_r g_o g_t mf mz mh ml gl gm gh vh vg v1 v2 v4 v7 v8 gi) (hmc : ∀ A B, x_lt G.1 m = some A → x_lt G.1 m2 = some B → x_tkC 19 A B m.toNatClampNeg m2.toNatClampNeg G.2.1 G.2.2.2.2.2.1 ≤ mc ∧ x_tkE 19 A B m.toNatClampNeg m2.toNatClampNeg G.2.1 G.2.2.2.2.2.1 ≤ ms)
    (h0 : (x_lt G.1 m = none ∨ x_lt G.1 m2 = none) → post (-1) d1 d2 d3 d4 d5 q_o G.2.2.2.1 o_r g_o g_t qk qr qg G.2.2.2.2.2.1 G.2.2.2.2.2.1 G.2.2.2.2.2.1 vh vg v1 v2 v3 v4 v5 v6 v7 v8 v9 gi gp gq gk gr gg mm)
    (h1 : ∀ A B ans qk' qr' qg' vh' vg' v1' v2' v3' v4' v5' v6' v7' v8' v9' gi' gp' gq' gk' gr' gg' mm', x_lt G.1 m = some A → x_lt G.1 m2 = some B → x_aD (x_bg A.1 A.2.2.2.1) (x_bg B.1 B.2.2.2.1) A.2.1 B.2.1 ans → c_IV (x_GM A B m.toNatClampNeg m2.toNatClampNeg G) lm d5 cm mm' np ns pp ss sa o_r g_o g_t mf mz mh ml gl gm gh vh' vg' v1' v2' v4' v7' v8' gi' → post ans d1 d2 d3 d4 d5 q_o G.2.2.2.1 o_r g_o g_t qk' qr' qg' (x_tkW 19 A B G.2.2.2.2.2.1) (x_tkW 19 A B G.2.2.2.2.2.1) (x_tkW 19 A B G.2.2.2.2.2.1) vh' vg' v1' v2' v3' v4' v5' v6' v7' v8' v9' gi' gp' gq' gk' gr' gg' mm') :
    w353_wp lm cm np ns pa sa pp ss mc ms post m m2 d1 d2 d3 d4 d5 q_o G.2.2.2.1 o_r g_o g_t qk qr qg G.2.2.2.2.2.1 G.2.2.2.2.2.1 G.2.2.2.2.2.1 vh vg v1 v2 v3 v4 v5 v6 v7 v8 v9 gi gp gq gk gr gg mm := by
  refine ⟨mc, ms, by omega, by omega, c_qMi hIV hmc (fun z => ⟨fun _ => h0 z, fun w => absurd rfl w⟩) (fun A B fd qk' qr' qg' vh' vg' v1' v2' v3' v5' v6' v7' v8' v9' gi' gp' gq' gk' gr' gg' mm' hA hB hans hI => ⟨fun w => ?_, fun w => ?_⟩)⟩
  · rcases hans with ⟨_, z⟩ | ⟨z, _⟩
    · exact h1 A B (-1) qk' qr' qg' vh' vg' v1' v2' v3' fd v5' v6' v7' v8' v9' gi' gp' gq' gk' gr' gg' mm' hA hB (Or.inl ⟨z, rfl⟩) hI
    · rw [w] at z; exact absurd z (by decide)
  · rcases hans with ⟨z, _⟩ | ⟨_, K, c, f, z1, _, z2, _⟩
    · exact absurd z w
    · exact h1 A B v8' qk' qr' qg' vh' vg' v1' v2' v3' fd v5' v6' v7' v8' v9' gi' gp' gq' gk' gr' gg' mm' hA hB (Or.inr ⟨K, c, f, z1, z2⟩) hI
/-- an element of n -/
def x_el (n : Nat) (e : Int32) : Option Nat := if e < 0 then none else if e.toNatClampNeg < n then some e.toNatClampNeg else none
theorem c_qI {e : Int32} (hIV : c_IV G lm d5 cm mm np ns pp ss sa o_r g_o g_t mf mz mh ml gl gm gh vh vg v1 v2 v4 v7 v8 gi) (hmc : ∀ A B E, x_lt G.1 m = some A → x_lt G.1 m2 = some B → x_el B.2.1 e = some E → x_tkC 19 A B m.toNatClampNeg m2.toNatClampNeg G.2.1 G.2.2.2.2.2.1 ≤ mc ∧ x_tkE 19 A B m.toNatClampNeg m2.toNatClampNeg G.2.1 G.2.2.2.2.2.1 ≤ ms)
    (h0 : (x_lt G.1 m = none ∨ ∀ B, x_lt G.1 m2 = some B → x_el B.2.1 e = none) → post (-1) d1 d2 d3 d4 d5 q_o G.2.2.2.1 o_r g_o g_t qk qr qg G.2.2.2.2.2.1 G.2.2.2.2.2.1 G.2.2.2.2.2.1 vh vg v1 v2 v3 v4 v5 v6 v7 v8 v9 gi gp gq gk gr gg mm)
    (h1 : ∀ A B E ans qk' qr' qg' vh' vg' v1' v2' v3' v4' v5' v6' v7' v8' v9' gi' gp' gq' gk' gr' gg' mm', x_lt G.1 m = some A → x_lt G.1 m2 = some B → x_el B.2.1 e = some E → x_aI (x_bg A.1 A.2.2.2.1) (x_bg B.1 B.2.2.2.1) A.2.1 B.2.1 E ans → c_IV (x_GM A B m.toNatClampNeg m2.toNatClampNeg G) lm d5 cm mm' np ns pp ss sa o_r g_o g_t mf mz mh ml gl gm gh vh' vg' v1' v2' v4' v7' v8' gi' → post ans d1 d2 d3 d4 d5 q_o G.2.2.2.1 o_r g_o g_t qk' qr' qg' (x_tkW 19 A B G.2.2.2.2.2.1) (x_tkW 19 A B G.2.2.2.2.2.1) (x_tkW 19 A B G.2.2.2.2.2.1) vh' vg' v1' v2' v3' v4' v5' v6' v7' v8' v9' gi' gp' gq' gk' gr' gg' mm') :
    w354_wp lm cm np ns pa sa pp ss mc ms post m m2 e d1 d2 d3 d4 d5 q_o G.2.2.2.1 o_r g_o g_t qk qr qg G.2.2.2.2.2.1 G.2.2.2.2.2.1 G.2.2.2.2.2.1 vh vg v1 v2 v3 v4 v5 v6 v7 v8 v9 gi gp gq gk gr gg mm := by
  have no : ∀ x, post (-1) d1 d2 d3 d4 d5 q_o G.2.2.2.1 o_r g_o g_t qk qr qg G.2.2.2.2.2.1 G.2.2.2.2.2.1 G.2.2.2.2.2.1 vh vg v1 v2 v3 v4 v5 v6 v7 v8 v9 gi gp gq gk gr gg mm → w354_L29 lm cm np ns pa sa pp ss mc ms post m m2 e x d1 d2 d3 d4 d5 q_o G.2.2.2.1 o_r g_o g_t qk qr qg G.2.2.2.2.2.1 G.2.2.2.2.2.1 G.2.2.2.2.2.1 vh vg v1 v2 v3 v4 v5 v6 v7 v8 v9 gi gp gq gk gr gg mm 0 0 := by
    intro x h
    have l57 : ∀ x, w354_L57 lm cm np ns pa sa pp ss mc ms post m m2 e x 0 d1 d2 d3 d4 d5 q_o G.2.2.2.1 o_r g_o g_t qk qr qg G.2.2.2.2.2.1 G.2.2.2.2.2.1 G.2.2.2.2.2.1 vh vg v1 v2 v3 v4 v5 v6 v7 v8 v9 gi gp gq gk gr gg mm 0 0 := fun x => ⟨fun _ => ⟨fun _ => h, fun _ _ => h⟩, fun _ _ => ⟨fun _ => h, fun _ _ => h⟩⟩
    have l30 : ∀ x, w354_L30 lm cm np ns pa sa pp ss mc ms post m m2 e x 0 d1 d2 d3 d4 d5 q_o G.2.2.2.1 o_r g_o g_t qk qr qg G.2.2.2.2.2.1 G.2.2.2.2.2.1 G.2.2.2.2.2.1 vh vg v1 v2 v3 v4 v5 v6 v7 v8 v9 gi gp gq gk gr gg mm 0 0 := fun x => ⟨fun _ => ⟨fun _ => l57 _, fun w => absurd rfl w⟩, fun _ _ => ⟨fun _ => l57 _, fun w => absurd rfl w⟩⟩
    exact ⟨fun _ => l30 _, fun _ _ => l30 _⟩
  refine c_at26 ?_
  rcases c_IVo (x := m2) hIV with ⟨z1, z2⟩ | ⟨g, c, B, g1, g2, g3, g4, g5, g6, g7, g8, g9, g10, g11, g12, g13, g14, g15, q', g16, g17⟩
  · rw [z1]
    exact ⟨fun _ => no _ (h0 (Or.inr (fun B z => by rw [z2] at z; cases z))), fun _ z => (by cases z)⟩
  · rw [g5]
    refine ⟨fun z => (by cases z), fun a5 z => ?_⟩
    cases z
    have hn := c_knn g8
    have nox : x_el B.2.1 e = none → w354_L29 lm cm np ns pa sa pp ss mc ms post m m2 e (some c) d1 d2 d3 d4 d5 q_o G.2.2.2.1 o_r g_o g_t qk qr qg G.2.2.2.2.2.1 G.2.2.2.2.2.1 G.2.2.2.2.2.1 vh vg v1 v2 v3 v4 v5 v6 v7 v8 v9 gi gp gq gk gr gg mm 0 0 := fun w => no _ (h0 (Or.inr (fun B' z => by rw [g6] at z; cases z; exact w)))
    rw [g8.1.1]
    refine ⟨fun w => nox (by unfold x_el; rw [if_pos w]), fun w => ⟨g7, fun w2 => ?_, fun w2 => ?_⟩⟩
    · obtain ⟨E, hE, eE⟩ := nI_of w
      refine nox ?_
      unfold x_el
      rw [if_neg w]
      rw [eE] at w2 ⊢
      have := (nI_leI (by omega) hE).1 w2
      rw [nI_clamp hE, if_neg (by omega)]
    · obtain ⟨E, hE, eE⟩ := nI_of w
      have hlt : E < B.2.1 := Classical.byContradiction (fun z => w2 (by rw [eE]; exact (nI_leI (by omega) hE).2 (by omega)))
      have hel : x_el B.2.1 e = some E := by
        unfold x_el
        rw [if_neg w, eE, nI_clamp hE, if_pos hlt]
      refine ⟨fun z => (by cases z), fun a30 e30 => ⟨fun z => absurd z (by decide), fun _ => ?_⟩⟩
      cases e30
      refine ⟨mc, ms, by omega, by omega, c_qMi hIV (fun A' B' hA hB => hmc A' B' E hA hB (by rw [g6] at hB; cases hB; exact hel)) (fun z => ⟨fun _ => ?_, fun w => absurd rfl w⟩) (fun A B' fd qk' qr' qg' vh' vg' v1' v2' v3' v5' v6' v7' v8' v9' gi' gp' gq' gk' gr' gg' mm' hA hB hans hI => ⟨fun w => ?_, fun w => ⟨by rw [eE]; exact b_in (by omega) hE, ?_⟩⟩)⟩
      · have h := h0 (z.elim Or.inl (fun z => by rw [g6] at z; cases z))
        exact ⟨fun z => (by cases z), fun _ _ => ⟨fun z => (by cases z), fun _ _ => h⟩⟩
      · rw [g6] at hB
        cases hB
        rcases hans with ⟨_, z⟩ | ⟨z, _⟩
        · have h := h1 A B E (-1) qk' qr' qg' vh' vg' v1' v2' v3' fd v5' v6' v7' v8' v9' gi' gp' gq' gk' gr' gg' mm' hA g6 hel (Or.inl ⟨z, rfl⟩) hI
          exact ⟨fun z => (by cases z), fun _ _ => ⟨fun z => (by cases z), fun _ _ => h⟩⟩
        · rw [w] at z; exact absurd z (by decide)
      · rw [g6] at hB
        cases hB
        rcases hans with ⟨z, _⟩ | ⟨_, K, c', f, z1, _, _, z2⟩
        · exact absurd z w
        · have h := h1 A B E (gi' E) qk' qr' qg' vh' vg' v1' v2' v3' fd v5' v6' v7' v8' v9' gi' gp' gq' gk' gr' gg' mm' hA g6 hel (Or.inr ⟨K, c', f, z1, z2 E hlt⟩) hI
          rw [eE, nI_clamp hE]
          exact ⟨fun z => (by cases z), fun _ _ => h⟩
end CAR
