/-! PURE, the class: the tables of ORDER as they are asked; workOutList, howMany -/
def x_st (m j : Nat) : Nat := ((x_Ln m).filter (fun S => decide (x_n S < j))).length
def x_or (m i : Nat) : Nat := (x_Ln m).getD i 0
/-- the tables hold the sets of up to q elements -/
def o_Ok (l_o : Nat) (o_r : Int32) (g_o g_t : Nat → Int32) (q : Nat) : Prop := q ≤ 12 ∧ o_r = nI q ∧ 2 ^ (q + 1) ≤ l_o ∧ l_o ≤ 8192 ∧ (∀ m, m ≤ q → (∀ i, i < 2 ^ m → g_o (2 ^ m + i) = nI (x_or m i)) ∧ (∀ j, j ≤ m + 1 → g_t (14 * m + j) = nI (x_st m j))) ∧ (∀ m, m ≤ 11 → g_t (14 * m + (m + 2)) = 0)
theorem x_orl {m i : Nat} (hm : m ≤ 12) (hi : i < 2 ^ m) : x_or m i < 2 ^ m ∧ (x_Ln m)[i]? = some (x_or m i) := by
  have hl := x_Lnl m (by omega)
  have h1 : (x_Ln m)[i]? = some (x_or m i) := by
    unfold x_or
    rw [List.getD_eq_getElem?_getD, List.getElem?_eq_getElem (by omega)]; rfl
  exact ⟨(x_Lnm hm _).mp (List.mem_of_getElem? h1), h1⟩
theorem x_stl {m j : Nat} (hm : m ≤ 12) : x_st m j ≤ 2 ^ m := by
  rw [← x_Lnl m (by omega)]
  exact List.length_filter_le _ _
section OR
variable {q_o l_o : Nat} {o_r : Int32} {g_o g_t : Nat → Int32} {q : Nat} {post : Int32 → Nat → Nat → Int32 → (Nat → Int32) → (Nat → Int32) → Prop}
theorem c_oset (ho : o_Ok l_o o_r g_o g_t q) {n i : Nat} (hn : n ≤ q) (hi : i < 2 ^ n) (h : post (nI (x_or n i)) q_o l_o o_r g_o g_t) : w240_wp post (nI n) (nI i) q_o l_o o_r g_o g_t := by
  have hq := ho.1
  have hp := b_p12 (show n ≤ 12 by omega)
  have h2 : 2 ^ (n + 1) ≤ 2 ^ (q + 1) := Nat.pow_le_pow_right (by decide) (by omega)
  have h3 := Nat.pow_succ 2 n
  have h4 := ho.2.2.1
  unfold w240_wp
  rw [b_sh (show n < 31 by omega), nI_add, nI_clamp (show 2 ^ n + i < 2 ^ 31 by omega), (ho.2.2.2.2.1 n hn).1 i hi]
  exact ⟨b_in (by omega) (by omega), h⟩
theorem c_ostart (ho : o_Ok l_o o_r g_o g_t q) {n j : Nat} (hn : n ≤ q) (hj : j ≤ n + 1) (h : post (nI (x_st n j)) q_o l_o o_r g_o g_t) : w239_wp post (nI n) (nI j) q_o l_o o_r g_o g_t := by
  have hq := ho.1
  unfold w239_wp
  have e : nI n * 14 + nI j = nI (14 * n + j) := by
    rw [show (14 : Int32) = nI 14 from rfl, pk_mul, nI_add, Nat.mul_comm]
  rw [e, nI_clamp (show 14 * n + j < 2 ^ 31 by omega), (ho.2.2.2.2.1 n hn).2 j hj]
  exact ⟨b_in (by omega) (by omega), h⟩
end OR
/-- a list grows by four -/
def x_gr : Nat → Nat → Nat → Nat
  | 0, l, _ => l
  | t + 1, l, c => if c ≤ l then l else x_gr t (4 * l) c
theorem x_grle : ∀ (t l c : Nat), l ≤ x_gr t l c
  | 0, l, _ => Nat.le_refl l
  | t + 1, l, c => by
    unfold x_gr
    have := x_grle t (4 * l) c
    split <;> omega
theorem x_gr0 {l c : Nat} (h : c ≤ l) : ∀ (t : Nat), x_gr t l c = l
  | 0 => rfl
  | t + 1 => by unfold x_gr; rw [if_pos h]
/-- all sets of a list, in ORDER -/
def x_fam (b : Nat → Bool) (n r kind : Nat) : List Nat := (x_Ln n).filter (x_of b n r kind)
/-- a matroid with an array of its own in place K -/
def c_put (M : px_MR) (K q N : Nat) (f : Nat → Int32) : px_MR := (va_up M.1 K q, M.2.1, va_up M.2.2.1 K N, va_up M.2.2.2.1 K f, M.2.2.2.2)
theorem c_putp (M : px_MR) (K q N q' N' : Nat) (f f' : Nat → Int32) : c_put (c_put M K q N f) K q' N' f' = c_put M K q' N' f' := by
  unfold c_put
  simp only [b_upup]
theorem c_puts (M : px_MR) (K q N : Nat) (f f' : Nat → Int32) : c_set (c_put M K q N f) K f' = c_put M K q N f' := by
  unfold c_put c_set
  simp only [b_upup]
theorem c_put0 (M : px_MR) (K : Nat) : c_put M K (M.1 K) (M.2.2.1 K) (M.2.2.2.1 K) = M := by
  unfold c_put
  simp only [b_upself]
theorem c_putB {M : px_MR} {K q N n r : Nat} {f : Nat → Int32} {b : Nat → Bool} (hK : 20 ≤ K) (h : c_B M n r b) : c_B (c_put M K q N f) n r b := by
  refine ⟨h.1, h.2.1, h.2.2.1, ?_, ?_, ?_, ?_⟩
  · show 2 ^ n ≤ va_up M.2.2.1 K N 6; rw [va_up_ne _ _ (by omega)]; exact h.2.2.2.1
  · show ∀ S, S < 2 ^ n → (b S = true ↔ ¬ va_up M.2.2.2.1 K f 6 S = 0); rw [va_up_ne _ _ (by omega)]; exact h.2.2.2.2.1
  · show 16 ≤ va_up M.2.2.1 K N 7; rw [va_up_ne _ _ (by omega)]; exact h.2.2.2.2.2.1
  · show va_up M.2.2.1 K N 7 < 2 ^ 31; rw [va_up_ne _ _ (by omega)]; exact h.2.2.2.2.2.2
theorem c_putR {M : px_MR} {K q N n : Nat} {f : Nat → Int32} {b : Nat → Bool} (hK : 20 ≤ K) (h : c_R M n b) : c_R (c_put M K q N f) n b := by
  refine ⟨h.1, ?_, ?_⟩
  · show 2 ^ n ≤ va_up M.2.2.1 K N 7; rw [va_up_ne _ _ (by omega)]; exact h.2.1
  · show ∀ S, S < 2 ^ n → va_up M.2.2.2.1 K f 7 S = _; rw [va_up_ne _ _ (by omega)]; exact h.2.2
theorem b_take {l : List Nat} {i x : Nat} {p : Nat → Bool} (h : l[i]? = some x) : (l.take (i + 1)).filter p = (l.take i).filter p ++ (if p x = true then [x] else []) := by
  rw [List.take_add_one, h, List.filter_append]
  congr 1
  show ([x] : List Nat).filter p = _
  by_cases q : p x = true
  · rw [if_pos q, List.filter_cons_of_pos q]; rfl
  · rw [if_neg q, List.filter_cons_of_neg q]; rfl
section CWL
variable {a cm np ns : Nat} {pa sa : Nat → Nat} {pp : Nat → px_PR} {ss : Nat → px_SR} {mc ms : Nat} {q_o l_o : Nat} {o_r : Int32} {g_o g_t : Nat → Int32} {mm : Nat → px_MR} {n r q kind : Nat} {b : Nat → Bool} {M : px_MR}
/-- a list is there: so many, in so much room -/
def c_L (M : px_MR) (kind : Nat) (F : List Nat) (f : Nat → Int32) : Prop := ∀ j x, F[j]? = some x → f j = nI x
theorem c_wl12 {post : Nat → Nat → Int32 → (Nat → Int32) → (Nat → Int32) → (Nat → px_MR) → Prop} (ha : a < cm) (hB : c_B M n r b) (hR : c_R M n b) (ho : o_Ok l_o o_r g_o g_t q) (hnq : n ≤ q) (hk : kind < 4) {L' : Nat} (hL' : L' ≤ 65536)
    (h : ∀ (qq : Nat) (f : Nat → Int32), (∀ j x, (x_fam b n r kind)[j]? = some x → f j = nI x) → post q_o l_o o_r g_o g_t (va_up mm a (c_set (c_put M (20 + kind) qq L' f) 5 (upd (M.2.2.2.1 5) kind (nI (x_fam b n r kind).length))))) :
    ∀ (u i t l qq : Nat) (f : Nat → Int32) (kc ks : Nat), i + u = 2 ^ n → 16 ≤ l → ((x_Ln n).take i |>.filter (x_of b n r kind)).length ≤ l → 4096 ≤ l * 4 ^ t → x_gr t l (x_fam b n r kind).length = L' → (∀ j x, ((x_Ln n).take i |>.filter (x_of b n r kind))[j]? = some x → f j = nI x) → 16 * kc + (L' - l) ≤ 16 * mc → ks + 2 * (L' - l) ≤ ms → w273_L12 a cm np ns pa sa pp ss mc ms post (u + 1) (nI kind) (nI (2 ^ n)) (nI ((x_Ln n).take i |>.filter (x_of b n r kind)).length) (nI i) q_o l_o o_r g_o g_t (va_up mm a (c_put M (20 + kind) qq l f)) kc ks := by
  have hn := hB.2.2.1.1
  have hp := b_p12 hn
  have hll := x_Lnl n (by omega)
  have hck : Int32.toNatClampNeg (nI kind) = kind := nI_clamp (by omega)
  intro u
  induction u with
  | zero =>
    intro i t l qq f kc ks hi hl16 hl ht hg hf hmc hms
    unfold w273_L12
    have htk : (x_Ln n).take i = x_Ln n := List.take_of_length_le (by omega)
    rw [htk] at hf hl ⊢
    have hf : ∀ j x, (x_fam b n r kind)[j]? = some x → f j = nI x := hf
    have hl : (x_fam b n r kind).length ≤ l := hl
    rw [x_gr0 hl] at hg
    subst hg
    refine ⟨fun _ => ⟨ha, ha, b_in hk (by omega), fun mm4 e4 => ?_⟩, fun z => absurd (nI_le (show 2 ^ n ≤ i by omega) (by omega)) z⟩
    have e : mm4 = va_up mm a (c_set (c_put M (20 + kind) qq l f) 5 (upd (M.2.2.2.1 5) kind (nI (x_fam b n r kind).length))) := by
      rw [e4, b_upup, hck, va_up_self]
      show va_up mm a (c_set (c_put M (20 + kind) qq l f) 5 (upd (va_up M.2.2.2.1 (20 + kind) f 5) kind _)) = _
      rw [va_up_ne _ _ (by omega)]
      rfl
    rw [e]
    exact h qq f hf
  | succ u ih =>
    intro i t l qq f kc ks hi hl16 hl ht hg hf hmc hms
    have hil : i < 2 ^ n := by omega
    obtain ⟨ho1, ho2⟩ := x_orl hn hil
    have htake := b_take (p := x_of b n r kind) ho2
    generalize hP : ((x_Ln n).take i).filter (x_of b n r kind) = P at *
    have hPl : P.length ≤ i := by
      rw [← hP]
      exact Nat.le_trans (List.length_filter_le _ _) (by rw [List.length_take]; omega)
    unfold w273_L12 w273_L85
    refine ⟨fun z => absurd z (nI_ge (by omega) (by omega)), fun _ => ⟨ha, ha, ?_⟩⟩
    rw [va_up_self, show (c_put M (20 + kind) qq l f).2.1 13 = nI n from hB.1]
    refine c_oset ho hnq hil ⟨ha, c_belongs (mm := va_up mm a (c_put M (20 + kind) qq l f)) ha (by rw [va_up_self]; exact c_putB (by omega) hB) (by rw [va_up_self]; exact c_putR (by omega) hR) ho1 hk ⟨fun d z ez => ?_, fun d => ?_⟩⟩
    · have d := b_b00 d
      rw [d, if_neg (by simp), List.append_nil] at htake
      rw [ez, nI_1]
      have := ih (i + 1) t l qq f kc ks (by omega) hl16 (by rw [htake]; exact hl) ht hg (by rw [htake]; exact hf) hmc hms
      rw [htake] at this
      exact this
    · have d := b_b10 d
      rw [d, if_pos rfl] at htake
      -- the set's place behind those that are there
      have put : ∀ (t' l' qq' : Nat) (f' : Nat → Int32) (kc' ks' : Nat), 16 ≤ l' → P.length < l' → l' ≤ L' → 4096 ≤ l' * 4 ^ t' → x_gr t' l' (x_fam b n r kind).length = L' → (∀ j x, P[j]? = some x → f' j = nI x) → 16 * kc' + (L' - l') ≤ 16 * mc → ks' + 2 * (L' - l') ≤ ms → w273_L72 (w273_L12 a cm np ns pa sa pp ss mc ms post (u + 1)) a cm np ns pa sa pp ss mc ms post (nI kind) (nI (2 ^ n)) (nI P.length) (nI i) (nI (x_or n i)) q_o l_o o_r g_o g_t (va_up mm a (c_put M (20 + kind) qq' l' f')) kc' ks' := by
        intro t' l' qq' f' kc' ks' g0 g1 g1' g2 g3 g4 g5 g6
        unfold w273_L72 w273_L85
        rw [hck, va_up_self, nI_clamp (show P.length < 2 ^ 31 by omega)]
        refine ⟨ha, ha, b_in hk (by omega), ha, ?_, hk, fun mm2 e2 z3 e3 z1 e1 => ?_⟩
        · show vp_in (nI P.length) (va_up M.2.2.1 (20 + kind) l' (20 + kind))
          rw [va_up_self]; exact b_in g1 (by omega)
        · have e : mm2 = va_up mm a (c_put M (20 + kind) qq' l' (upd f' P.length (nI (x_or n i)))) := by
            rw [e2, b_upup]
            show va_up mm a (c_set (c_put M (20 + kind) qq' l' f') (20 + kind) (upd (va_up M.2.2.2.1 (20 + kind) f' (20 + kind)) P.length (nI (x_or n i)))) = _
            rw [va_up_self, c_puts]
          rw [e, e3, e1, nI_1, nI_1]
          have := ih (i + 1) t' l' qq' (upd f' P.length (nI (x_or n i))) kc' ks' (by omega) g0 (by rw [htake, List.length_append]; show P.length + 1 ≤ l'; omega) g2 g3 (by
            rw [htake]
            intro j x hx
            unfold upd
            by_cases z : j = P.length
            · rw [if_pos z]
              rw [z, List.getElem?_append_right (Nat.le_refl _), Nat.sub_self] at hx
              have : x_or n i = x := by simpa using hx
              rw [this]
            · rw [if_neg z]
              by_cases z2 : j < P.length
              · rw [List.getElem?_append_left z2] at hx; exact g4 j x hx
              · rw [List.getElem?_append_right (by omega)] at hx
                rw [List.getElem?_eq_none (by show 1 ≤ _; omega)] at hx
                exact absurd hx (by simp)) g5 g6
          rw [htake, List.length_append] at this
          exact this
      rw [hck]
      have hLl := x_grle t l (x_fam b n r kind).length
      rw [hg] at hLl
      refine ⟨ha, ha, b_in hk (by omega), ha, hk, fun c => ?_, fun c => ⟨ha, ha, ha, b_in hk (by omega), ha, hk, ?_⟩⟩
      · rw [va_up_self] at c
        have c : ¬ nI P.length = nI (va_up M.2.2.1 (20 + kind) l (20 + kind)) := c
        rw [va_up_self] at c
        have : P.length ≠ l := fun z => c (by rw [z])
        exact put t l qq f kc ks hl16 (by omega) hLl ht hg hf hmc hms
      · rw [va_up_self] at c
        have c : nI P.length = nI (va_up M.2.2.1 (20 + kind) l (20 + kind)) := c
        rw [va_up_self, nI_eq (by omega) (by omega)] at c
        -- one more will come: the list grows
        have hmore : P.length < (x_fam b n r kind).length := by
          have h1 : x_fam b n r kind = ((x_Ln n).take (i + 1)).filter (x_of b n r kind) ++ ((x_Ln n).drop (i + 1)).filter (x_of b n r kind) := by
            show (x_Ln n).filter (x_of b n r kind) = ((x_Ln n).take (i + 1)).filter (x_of b n r kind) ++ ((x_Ln n).drop (i + 1)).filter (x_of b n r kind)
            rw [← List.filter_append, List.take_append_drop]
          have h2 : (x_fam b n r kind).length = (P ++ [x_or n i]).length + (((x_Ln n).drop (i + 1)).filter (x_of b n r kind)).length := by
            rw [h1, htake, List.length_append]
          rw [h2, List.length_append]
          show _ < P.length + 1 + _
          omega
        have hfl : (x_fam b n r kind).length ≤ 4096 := by
          have : (x_fam b n r kind).length ≤ (x_Ln n).length := List.length_filter_le _ _
          omega
        obtain ⟨t', rfl⟩ : ∃ t', t = t' + 1 := ⟨t - 1, by
          by_cases z : t = 0
          · rw [z] at ht; omega
          · omega⟩
        have hg' : x_gr t' (4 * l) (x_fam b n r kind).length = L' := by
          rw [← hg]
          show _ = (if (x_fam b n r kind).length ≤ l then l else x_gr t' (4 * l) (x_fam b n r kind).length)
          rw [if_neg (by omega)]
        have hLl' := x_grle t' (4 * l) (x_fam b n r kind).length
        rw [hg'] at hLl'
        rw [va_up_self]
        refine ⟨1, 4 * l, by omega, by omega, ?_⟩
        have e4 : 4 * nI P.length = nI (4 * l) := by rw [show (4 : Int32) = nI 4 from rfl, pk_mul, c]
        rw [e4]
        show w182_wp (va_up M.2.2.1 (20 + kind) l (20 + kind)) _ _ _ _ (va_up M.2.2.2.1 (20 + kind) f (20 + kind))
        rw [va_up_self, va_up_self]
        refine b_copyI (by omega) (by omega) (by omega) (by omega) (fun nq nf hnf mm21 e21 => ?_)
        have e : mm21 = va_up mm a (c_put M (20 + kind) qq l f) := by
          rw [e21, b_upup]
          show va_up mm a (c_set (c_put M (20 + kind) qq l f) (20 + kind) f) = _
          rw [c_puts]
        rw [e, va_up_self]
        refine ⟨rfl, ha, b_in hk (by omega), fun mm23 e23 => ?_⟩
        have e' : mm23 = va_up mm a (c_put M (20 + kind) nq (4 * l) nf) := by
          rw [e23, b_upup]
          show va_up mm a (c_put (c_put M (20 + kind) qq l f) (20 + kind) nq (4 * l) nf) = _
          rw [c_putp]
        rw [e']
        have h4t : 4096 ≤ 4 * l * 4 ^ t' := by
          rw [Nat.pow_succ, Nat.mul_comm (4 ^ t') 4, ← Nat.mul_assoc, Nat.mul_comm l 4] at ht
          exact ht
        refine put t' (4 * l) nq nf (kc + 1) (ks + 4 * l) (by omega) (by omega) hLl' h4t hg' (fun j x hx => ?_) (by omega) (by omega)
        have hj : j < P.length := by
          refine Classical.byContradiction (fun z => ?_)
          rw [List.getElem?_eq_none (by omega)] at hx
          exact absurd hx (by simp)
        rw [hnf j (by omega)]
        exact hf j x hx
end CWL
section CHM
variable {a cm np ns : Nat} {pa sa : Nat → Nat} {pp : Nat → px_PR} {ss : Nat → px_SR} {mc ms : Nat} {q_o l_o : Nat} {o_r : Int32} {g_o g_t : Nat → Int32} {mm : Nat → px_MR} {n r q kind : Nat} {b : Nat → Bool}
/-- how long a list is, once it is there -/
def c_ll (M : px_MR) (b : Nat → Bool) (n r kind : Nat) : Nat := if M.2.2.2.1 5 kind = -1 then x_gr 4 (M.2.2.1 (20 + kind)) (x_fam b n r kind).length else M.2.2.1 (20 + kind)
/-- a list is known, or not -/
def c_LK (M : px_MR) (b : Nat → Bool) (n r kind : Nat) : Prop := 16 ≤ M.2.2.1 (20 + kind) ∧ M.2.2.1 (20 + kind) ≤ 4096 ∧ (M.2.2.2.1 5 kind = -1 ∨ (M.2.2.2.1 5 kind = nI (x_fam b n r kind).length ∧ (x_fam b n r kind).length ≤ M.2.2.1 (20 + kind) ∧ ∀ j x, (x_fam b n r kind)[j]? = some x → M.2.2.2.1 (20 + kind) j = nI x))
/-- all but ranks and one list is the same -/
def c_f720 (M M' : px_MR) (kind : Nat) : Prop := (∀ k, k ≠ 7 → k ≠ 20 + kind → M'.1 k = M.1 k) ∧ (∀ k, k ≠ 9 → M'.2.1 k = M.2.1 k) ∧ (∀ k, k ≠ 7 → k ≠ 20 + kind → M'.2.2.1 k = M.2.2.1 k) ∧ (∀ k, k ≠ 7 → k ≠ 20 + kind → k ≠ 5 → M'.2.2.2.1 k = M.2.2.2.1 k) ∧ (∀ j, j ≠ kind → M'.2.2.2.1 5 j = M.2.2.2.1 5 j) ∧ M'.2.2.2.2 = M.2.2.2.2
theorem b_m1 {k : Nat} (hk : k < 2 ^ 31) : ¬ nI k = -1 := fun e => by
  have := nI_pos hk
  rw [e] at this
  exact absurd (by decide) this
theorem x_faml (h : n ≤ 12) : (x_fam b n r kind).length ≤ 4096 := by
  have h1 : (x_fam b n r kind).length ≤ (x_Ln n).length := List.length_filter_le _ _
  have := x_Lnl n (by omega)
  have := b_p12 h
  omega
theorem x_gru : ∀ (t l c : Nat), x_gr t l c ≤ l * 4 ^ t
  | 0, l, _ => by show l ≤ l * 4 ^ 0; omega
  | t + 1, l, c => by
    unfold x_gr
    have h1 := x_gru t (4 * l) c
    have h2 : l * 4 ^ (t + 1) = 4 * l * 4 ^ t := by rw [Nat.pow_succ, Nat.mul_comm (4 ^ t) 4, ← Nat.mul_assoc, Nat.mul_comm l 4]
    have h3 : l ≤ l * 4 ^ (t + 1) := Nat.le_mul_of_pos_right l (Nat.pow_pos (by decide))
    split <;> omega
theorem x_gr40 : ∀ (t l c : Nat), l ≤ 4096 → 4096 ≤ l * 4 ^ t → c ≤ 4096 → (∃ j, l * 4 ^ j = 4096) → x_gr t l c ≤ 4096
  | 0, l, c, h, _, _, _ => h
  | t + 1, l, c, h, h2, h3, ⟨j, hj⟩ => by
    unfold x_gr
    by_cases q : c ≤ l
    · rw [if_pos q]; exact h
    · rw [if_neg q]
      have hj0 : j ≠ 0 := fun z => by rw [z] at hj; omega
      obtain ⟨i, rfl⟩ : ∃ i, j = i + 1 := ⟨j - 1, by omega⟩
      have e : 4 * l * 4 ^ i = 4096 := by rw [← hj, Nat.pow_succ, Nat.mul_comm (4 ^ i) 4, ← Nat.mul_assoc, Nat.mul_comm l 4]
      have p : 0 < 4 ^ i := Nat.pow_pos (by decide)
      refine x_gr40 t (4 * l) c ?_ ?_ h3 ⟨i, e⟩
      · rw [← e]; exact Nat.le_mul_of_pos_right _ p
      · rw [Nat.pow_succ, Nat.mul_comm (4 ^ t) 4, ← Nat.mul_assoc, Nat.mul_comm l 4] at h2; exact h2
/-- howMany -/
theorem c_howMany {post : Int32 → Nat → Nat → Int32 → (Nat → Int32) → (Nat → Int32) → (Nat → px_MR) → Prop} (ha : a < cm) (hB : c_B (mm a) n r b) (hK : c_K (mm a) n b) (ho : o_Ok l_o o_r g_o g_t q) (hnq : n ≤ q) (hk : kind < 4) (hL : c_LK (mm a) b n r kind)
    (hmc : (mm a).2.2.2.1 5 kind = -1 → 16 * c_rc (mm a) n + (c_ll (mm a) b n r kind - (mm a).2.2.1 (20 + kind)) ≤ 16 * mc) (hms : (mm a).2.2.2.1 5 kind = -1 → c_rs (mm a) n + 2 * (c_ll (mm a) b n r kind - (mm a).2.2.1 (20 + kind)) ≤ ms)
    (h : ∀ M', c_f720 (mm a) M' kind → c_K M' n b → c_B M' n r b → M'.2.2.1 (20 + kind) = c_ll (mm a) b n r kind → M'.2.2.1 7 = (if (mm a).2.2.2.1 5 kind = -1 then c_rl (mm a) n else (mm a).2.2.1 7) → ((mm a).2.2.2.1 5 kind = -1 → c_R M' n b) → (¬ (mm a).2.2.2.1 5 kind = -1 → M' = mm a) → M'.2.2.2.1 5 kind = nI (x_fam b n r kind).length → (x_fam b n r kind).length ≤ M'.2.2.1 (20 + kind) → (∀ j x, (x_fam b n r kind)[j]? = some x → M'.2.2.2.1 (20 + kind) j = nI x) → post (nI (x_fam b n r kind).length) q_o l_o o_r g_o g_t (va_up mm a M')) : w272_wp a cm np ns pa sa pp ss mc ms post (nI kind) q_o l_o o_r g_o g_t mm := by
  have hn := hB.2.2.1.1
  have hp := b_p12 hn
  have hck : Int32.toNatClampNeg (nI kind) = kind := nI_clamp (by omega)
  have hfl := x_faml (b := b) (r := r) (kind := kind) hn
  unfold w272_wp w272_L21
  rw [hck]
  refine ⟨ha, ha, b_in hk (by omega), fun c => ⟨ha, ha, b_in hk (by omega), ?_⟩, fun c => ?_⟩
  · obtain ⟨e1, e2, e3⟩ := hL.2.2.resolve_left c
    rw [e1]
    have := h (mm a) ⟨fun _ _ _ => rfl, fun _ _ => rfl, fun _ _ _ => rfl, fun _ _ _ _ => rfl, fun _ _ => rfl, rfl⟩ hK hB (by unfold c_ll; rw [if_neg c]) (by rw [if_neg c]) (fun z => absurd z c) (fun _ => rfl) e1 e2 e3
    rw [b_upself] at this
    exact this
  · have hmc := hmc c
    have hms := hms c
    have hll : c_ll (mm a) b n r kind = x_gr 4 ((mm a).2.2.1 (20 + kind)) (x_fam b n r kind).length := by unfold c_ll; rw [if_pos c]
    have hge := x_grle 4 ((mm a).2.2.1 (20 + kind)) (x_fam b n r kind).length
    rw [← hll] at hge
    refine ⟨c_rc (mm a) n, c_rs (mm a) n, by omega, by omega, ha, ?_⟩
    have hr0 := c_rankOf (np := np) (ns := ns) (pa := pa) (sa := sa) (pp := pp) (ss := ss) (q_o := q_o) (l_o := l_o) (o_r := o_r) (g_o := g_o) (g_t := g_t) (mm := mm) (S := 0) (mc := c_rc (mm a) n) (ms := c_rs (mm a) n) (post := fun r12 v1 v2 v3 v4 v5 v6 => ∃ m18_15 s18_15 : Nat, 0 + c_rc (mm a) n + m18_15 ≤ mc ∧ 0 + c_rs (mm a) n + s18_15 ≤ ms ∧ a < cm ∧ (w273_wp a cm np ns pa sa pp ss m18_15 s18_15 (fun v9 v10 v11 v12 v13 v14 => a < cm ∧ (a < cm ∧ (vp_in (nI kind) (4) ∧ (post (((v14 a).2.2.2.1 5) kind) v9 v10 v11 v12 v13 v14)))) (nI kind) v1 v2 v3 v4 v5 v6)) ha hB hK (Nat.two_pow_pos n) (Nat.le_refl _) (Nat.le_refl _) (fun M1 hQ1 hR1 => ?_)
    · rw [nI_0] at hr0; exact hr0
    · have hB1 := c_QB hB hQ1
      refine ⟨mc - c_rc (mm a) n, ms - c_rs (mm a) n, by omega, by omega, ha, ?_⟩
      unfold w273_wp
      refine ⟨ha, fun z24 e24 => ⟨2 ^ n + 1, ?_⟩⟩
      rw [va_up_self, hB1.1, b_sh (show n < 31 by omega)] at e24
      have l1 : M1.2.2.1 (20 + kind) = (mm a).2.2.1 (20 + kind) := hQ1.2.1.2.2.1 _ (by omega)
      have a5 : M1.2.2.2.1 5 = (mm a).2.2.2.1 5 := hQ1.2.1.2.2.2.1 5 (by decide)
      have hl1 := hL.1
      have hl2 := hL.2.1
      have := c_wl12 (np := np) (ns := ns) (pa := pa) (sa := sa) (pp := pp) (ss := ss) (q_o := q_o) (l_o := l_o) (o_r := o_r) (g_o := g_o) (g_t := g_t) (mm := mm) (M := M1) (q := q) (kind := kind) (mc := mc - c_rc (mm a) n) (ms := ms - c_rs (mm a) n) (post := fun v9 v10 v11 v12 v13 v14 => a < cm ∧ (a < cm ∧ (vp_in (nI kind) (4) ∧ (post (((v14 a).2.2.2.1 5) kind) v9 v10 v11 v12 v13 v14)))) ha hB1 hR1 ho hnq hk (L' := c_ll (mm a) b n r kind) ?_ (fun qq f hf => ⟨ha, ha, b_in hk (by omega), ?_⟩) (2 ^ n) 0 4 (M1.2.2.1 (20 + kind)) (M1.1 (20 + kind)) (M1.2.2.2.1 (20 + kind)) 0 0 (by omega) (by omega) (Nat.zero_le _) (by rw [l1]; omega) (by rw [l1]; exact hll.symm) (fun j x hx => by rw [List.take_zero] at hx; simp at hx) (by rw [l1]; omega) (by rw [l1]; omega)
      · rw [c_put0, nI_0] at this
        rw [e24]
        exact this
      · rw [hll]
        have := x_gru 4 ((mm a).2.2.1 (20 + kind)) (x_fam b n r kind).length
        by_cases z : (x_fam b n r kind).length ≤ (mm a).2.2.1 (20 + kind)
        · rw [x_gr0 z]; omega
        · have u1 := hL.2.1
          have key : ∀ (t l cc : Nat), l ≤ 4096 → cc ≤ 4096 → x_gr t l cc ≤ 4 * 4096 := by
            intro t
            induction t with
            | zero => intro l cc h1 _; show l ≤ _; omega
            | succ t ih =>
              intro l cc h1 h2
              unfold x_gr
              by_cases zz : cc ≤ l
              · rw [if_pos zz]; omega
              · rw [if_neg zz]
                by_cases z4 : 4 * l ≤ 4096
                · exact ih (4 * l) cc z4 h2
                · rw [x_gr0 (show cc ≤ 4 * l by omega)]; omega
          have := key 4 ((mm a).2.2.1 (20 + kind)) (x_fam b n r kind).length u1 hfl
          omega
      · rw [va_up_self]
        have e5 : (c_set (c_put M1 (20 + kind) qq (c_ll (mm a) b n r kind) f) 5 (upd (M1.2.2.2.1 5) kind (nI (x_fam b n r kind).length))).2.2.2.1 5 = upd (M1.2.2.2.1 5) kind (nI (x_fam b n r kind).length) := c_sg _ _ _
        rw [e5]
        show post (upd (M1.2.2.2.1 5) kind (nI (x_fam b n r kind).length) kind) _ _ _ _ _ _
        rw [show upd (M1.2.2.2.1 5) kind (nI (x_fam b n r kind).length) kind = nI (x_fam b n r kind).length from pk_us]
        have hcap : (x_fam b n r kind).length ≤ c_ll (mm a) b n r kind := by
          rw [hll]
          have key : ∀ (t l cc : Nat), 4096 ≤ l * 4 ^ t → cc ≤ 4096 → cc ≤ x_gr t l cc := by
            intro t
            induction t with
            | zero => intro l cc h1 h2; show cc ≤ l; omega
            | succ t ih =>
              intro l cc h1 h2
              unfold x_gr
              by_cases zz : cc ≤ l
              · rw [if_pos zz]; exact zz
              · rw [if_neg zz]
                refine ih (4 * l) cc ?_ h2
                rw [Nat.pow_succ, Nat.mul_comm (4 ^ t) 4, ← Nat.mul_assoc, Nat.mul_comm l 4] at h1; exact h1
          exact key 4 _ _ (by omega) hfl
        have g0 : ∀ k, k ≠ 20 + kind → (c_set (c_put M1 (20 + kind) qq (c_ll (mm a) b n r kind) f) 5 (upd (M1.2.2.2.1 5) kind (nI (x_fam b n r kind).length))).2.2.1 k = M1.2.2.1 k := fun k hk => va_up_ne _ _ hk
        have g1 : ∀ k, k ≠ 20 + kind → k ≠ 5 → (c_set (c_put M1 (20 + kind) qq (c_ll (mm a) b n r kind) f) 5 (upd (M1.2.2.2.1 5) kind (nI (x_fam b n r kind).length))).2.2.2.1 k = M1.2.2.2.1 k := fun k hk hk5 => by
          rw [c_sgn _ _ hk5]; exact va_up_ne _ _ hk
        have g2 : (c_set (c_put M1 (20 + kind) qq (c_ll (mm a) b n r kind) f) 5 (upd (M1.2.2.2.1 5) kind (nI (x_fam b n r kind).length))).2.2.2.1 (20 + kind) = f := by
          rw [c_sgn _ _ (by omega)]; exact va_up_self _ _ _
        have hR' : c_R (c_set (c_put M1 (20 + kind) qq (c_ll (mm a) b n r kind) f) 5 (upd (M1.2.2.2.1 5) kind (nI (x_fam b n r kind).length))) n b := ⟨hR1.1, by rw [g0 7 (by omega)]; exact hR1.2.1, by rw [g1 7 (by omega) (by decide)]; exact hR1.2.2⟩
        refine h _ ⟨fun k k7 kk => ?_, fun k k9 => hQ1.2.1.2.1 k k9, fun k k7 kk => by rw [g0 k kk]; exact hQ1.2.1.2.2.1 k k7, fun k k7 kk k5 => by rw [g1 k kk k5]; exact hQ1.2.1.2.2.2.1 k k7, fun j hj => ?_, hQ1.2.1.2.2.2.2⟩ (Or.inr hR') ⟨hB1.1, hB1.2.1, hB1.2.2.1, by rw [g0 6 (by omega)]; exact hB1.2.2.2.1, by rw [g1 6 (by omega) (by decide)]; exact hB1.2.2.2.2.1, by rw [g0 7 (by omega)]; exact hB1.2.2.2.2.2.1, by rw [g0 7 (by omega)]; exact hB1.2.2.2.2.2.2⟩ (va_up_self _ _ _) (by rw [g0 7 (by omega), if_pos c]; exact hQ1.2.2.1) (fun _ => hR') (fun z => absurd c z) (by rw [e5]; exact pk_us) (by show _ ≤ va_up M1.2.2.1 (20 + kind) _ (20 + kind); rw [va_up_self]; exact hcap) (fun j x hx => by rw [g2]; exact hf j x hx)
        · show va_up M1.1 (20 + kind) qq k = _
          rw [va_up_ne _ _ kk]; exact hQ1.2.1.1 k k7
        · rw [e5, ← a5]; exact pk_un hj
end CHM
