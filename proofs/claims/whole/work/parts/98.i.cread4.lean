/-! PURE, texts: the class's readVerb, read -/
theorem t_fvr {b : Nat → Int32} {f t lo : Nat} : ∀ (u n : Nat), (t_fv b f t lo u n = -1) ∨ (∃ m, n ≤ m ∧ m < n + u ∧ t_fv b f t lo u n = nI m)
  | 0, n => Or.inl rfl
  | u + 1, n => by
    unfold t_fv
    split
    · exact Or.inr ⟨n, Nat.le_refl _, by omega, rfl⟩
    · rcases t_fvr (b := b) (f := f) (t := t) (lo := lo) u (n + 1) with h | ⟨m, h1, h2, h3⟩
      · exact Or.inl h
      · exact Or.inr ⟨m, by omega, by omega, h3⟩
theorem t_vwk : ∀ v, v < 21 → px_vw.getD v 0 < 32 := by decide
section CRV
variable {N L : Nat} {b : Nat → Int32} {sv : Nat} {sg sf s2 sd sh sx sm sr se : Int32} {i : Nat} {tv : Int32} {gn : Nat → Int32} {post : Int32 → s_P}
/-- the search among the verbs, at the word behind i -/
theorem c_rv53 {mk : Bool} (hL : L ≤ N) (hN : N < 2 ^ 31) (hi : i ≤ L) (hv : t_k b L i = 2 → tv = t_v b L i)
    (h1 : ∀ m, m < (if mk = true then 8 else 13) → t_vb b L i (if mk = true then 0 else 8) (if mk = true then 8 else 13) = nI m → s_at b L (t_e b L i) (fun a1 a2 a3 a4 a5 a6 => post 1 ((if mk = true then 0 else 8) + m) sg sf s2 sd sh sx sm sr se a1 a2 a3 a4 a5 gn a6))
    (h0 : t_vb b L i (if mk = true then 0 else 8) (if mk = true then 8 else 13) = -1 → post 0 sv sg sf s2 sd sh sx sm sr se (nI L) (nI (t_e b L i)) (nI (t_j b L i)) (t_ck (t_k b L i)) tv gn b) :
    w145_L50 N post (if mk = true then 1 else 0) sv sg sf s2 sd sh sx sm sr se (nI L) (nI (t_e b L i)) (nI (t_j b L i)) (t_ck (t_k b L i)) tv gn b := by
  -- one verb tried
  have try1 : ∀ (K x : Nat) (M : Bool), x < 21 → (if x < 8 then (1 : Int32) else 0) = (if M = true then 1 else 0) → ((decide (t_k b L i = 1) && t_isw b (t_j b L i) (t_e b L i) (t_vw x)) = true → s_at b L (t_e b L i) (fun a1 a2 a3 a4 a5 a6 => post 1 x sg sf s2 sd sh sx sm sr se a1 a2 a3 a4 a5 gn a6)) → ((decide (t_k b L i = 1) && t_isw b (t_j b L i) (t_e b L i) (t_vw x)) = false → w145_L53 N post K (if M = true then 1 else 0) (nI (x + 1)) sv sg sf s2 sd sh sx sm sr se (nI L) (nI (t_e b L i)) (nI (t_j b L i)) (t_ck (t_k b L i)) tv gn b) → w145_L53 N post (K + 1) (if M = true then 1 else 0) (nI x) sv sg sf s2 sd sh sx sm sr se (nI L) (nI (t_e b L i)) (nI (t_j b L i)) (t_ck (t_k b L i)) tv gn b := by
    intro K x M hx hM hy hn
    have hin : vp_in (nI x) 21 := b_in hx (by omega)
    have hcl : (nI x).toNatClampNeg = x := nI_clamp (by omega)
    refine ⟨fun q => absurd q (nI_ge (a := x) (b := 21) hx (by omega)), fun _ => ?_⟩
    rw [hcl, t_mkv x hx]
    refine ⟨hin, hx, fun q => absurd hM q, fun _ => ⟨hin, hx, c_isWord (i := i) (t_vwk x hx) hL hN hi rfl rfl rfl ⟨fun q z e => ?_, fun q => ⟨hin, c_stepS hL hN hi (fun v1 hv1 => ⟨rfl, hy ?_ v1 hv1⟩)⟩⟩⟩⟩
    · rw [e, nI_1]
      refine hn ?_
      cases hh : (decide (t_k b L i = 1) && t_isw b (t_j b L i) (t_e b L i) (t_vw x)) with
      | false => rfl
      | true =>
        rw [show x_str (px_vw.getD x 0) = t_vw x from rfl, hh] at q
        exact t_10 q
    · cases hh : (decide (t_k b L i = 1) && t_isw b (t_j b L i) (t_e b L i) (t_vw x)) with
      | true => rfl
      | false =>
        rw [show x_str (px_vw.getD x 0) = t_vw x from rfl, hh] at q
        exact absurd rfl q
  have skip1 : ∀ (K x : Nat) (M : Bool), x < 21 → ¬ (if x < 8 then (1 : Int32) else 0) = (if M = true then 1 else 0) → w145_L53 N post K (if M = true then 1 else 0) (nI (x + 1)) sv sg sf s2 sd sh sx sm sr se (nI L) (nI (t_e b L i)) (nI (t_j b L i)) (t_ck (t_k b L i)) tv gn b → w145_L53 N post (K + 1) (if M = true then 1 else 0) (nI x) sv sg sf s2 sd sh sx sm sr se (nI L) (nI (t_e b L i)) (nI (t_j b L i)) (t_ck (t_k b L i)) tv gn b := by
    intro K x M hx hM hn
    have hin : vp_in (nI x) 21 := b_in hx (by omega)
    have hcl : (nI x).toNatClampNeg = x := nI_clamp (by omega)
    refine ⟨fun q => absurd q (nI_ge (a := x) (b := 21) hx (by omega)), fun _ => ?_⟩
    rw [hcl, t_mkv x hx]
    exact ⟨hin, hx, fun _ z e => by rw [e, nI_1]; exact hn, fun q => absurd q hM⟩
  have done : ∀ (M : Bool), post 0 sv sg sf s2 sd sh sx sm sr se (nI L) (nI (t_e b L i)) (nI (t_j b L i)) (t_ck (t_k b L i)) tv gn b → w145_L53 N post 1 (if M = true then 1 else 0) (nI 21) sv sg sf s2 sd sh sx sm sr se (nI L) (nI (t_e b L i)) (nI (t_j b L i)) (t_ck (t_k b L i)) tv gn b := by
    intro M h
    exact ⟨fun _ => ⟨rfl, h⟩, fun q => absurd (nI_le (Nat.le_refl 21) (by omega)) q⟩
  cases mk with
  | true =>
    have sk : ∀ u x, 8 ≤ x → x + u = 21 → post 0 sv sg sf s2 sd sh sx sm sr se (nI L) (nI (t_e b L i)) (nI (t_j b L i)) (t_ck (t_k b L i)) tv gn b → w145_L53 N post (u + 1) (if true = true then 1 else 0) (nI x) sv sg sf s2 sd sh sx sm sr se (nI L) (nI (t_e b L i)) (nI (t_j b L i)) (t_ck (t_k b L i)) tv gn b := by
      intro u
      induction u with
      | zero => intro x h8 hx h; rw [show x = 21 by omega]; exact done true h
      | succ u ih =>
        intro x h8 hx h
        exact skip1 (u + 1) x true (by omega) (by rw [if_neg (by omega)]; decide) (ih (x + 1) (by omega) (by omega) h)
    have main : ∀ u n, n + u = 8 → (∀ m, m < 8 → (decide (t_k b L i = 1)) = true → t_fv b (t_j b L i) (t_e b L i) 0 u n = nI m → s_at b L (t_e b L i) (fun a1 a2 a3 a4 a5 a6 => post 1 m sg sf s2 sd sh sx sm sr se a1 a2 a3 a4 a5 gn a6)) → ((decide (t_k b L i = 1)) = false ∨ t_fv b (t_j b L i) (t_e b L i) 0 u n = -1 → post 0 sv sg sf s2 sd sh sx sm sr se (nI L) (nI (t_e b L i)) (nI (t_j b L i)) (t_ck (t_k b L i)) tv gn b) → w145_L53 N post (u + 14) (if true = true then 1 else 0) (nI n) sv sg sf s2 sd sh sx sm sr se (nI L) (nI (t_e b L i)) (nI (t_j b L i)) (t_ck (t_k b L i)) tv gn b := by
      intro u
      induction u with
      | zero =>
        intro n hn g1 g0
        exact sk 13 n (by omega) (by omega) (g0 (Or.inr rfl))
      | succ u ih =>
        intro n hn g1 g0
        have e : t_fv b (t_j b L i) (t_e b L i) 0 (u + 1) n = if t_isw b (t_j b L i) (t_e b L i) (t_vw (0 + n)) = true then nI n else t_fv b (t_j b L i) (t_e b L i) 0 u (n + 1) := rfl
        rw [e, Nat.zero_add] at g0
        simp only [e, Nat.zero_add] at g1
        refine try1 (u + 14) n true (by omega) (by rw [if_pos (by omega)]; rfl) (fun hy => ?_) (fun hno => ih (n + 1) (by omega) ?_ ?_)
        · rw [Bool.and_eq_true] at hy
          exact g1 n (by omega) hy.1 (if_pos hy.2)
        · intro m hm hk hf
          have : ¬ t_isw b (t_j b L i) (t_e b L i) (t_vw n) = true := fun q => by rw [hk, q] at hno; exact absurd hno (by decide)
          exact g1 m hm hk (by rw [if_neg this]; exact hf)
        · intro hor
          rcases hor with q | q
          · exact g0 (Or.inl q)
          · by_cases hk : (decide (t_k b L i = 1)) = true
            · have : ¬ t_isw b (t_j b L i) (t_e b L i) (t_vw n) = true := fun q => by rw [hk, q] at hno; exact absurd hno (by decide)
              exact g0 (Or.inr (by rw [if_neg this]; exact q))
            · exact g0 (Or.inl (by simpa using hk))
    refine ⟨22, main 8 0 rfl (fun m hm hk hf => ?_) (fun hor => h0 ?_)⟩
    · have := h1 m hm (by unfold t_vb; rw [if_pos (of_decide_eq_true hk)]; exact hf)
      rw [if_pos rfl, Nat.zero_add] at this
      exact this
    · unfold t_vb
      rcases hor with q | q
      · rw [if_neg (of_decide_eq_false q)]
      · split
        · exact q
        · rfl
  | false =>
    have main : ∀ u n, n + u = 13 → (∀ m, m < 13 → (decide (t_k b L i = 1)) = true → t_fv b (t_j b L i) (t_e b L i) 8 u n = nI m → s_at b L (t_e b L i) (fun a1 a2 a3 a4 a5 a6 => post 1 (8 + m) sg sf s2 sd sh sx sm sr se a1 a2 a3 a4 a5 gn a6)) → ((decide (t_k b L i = 1)) = false ∨ t_fv b (t_j b L i) (t_e b L i) 8 u n = -1 → post 0 sv sg sf s2 sd sh sx sm sr se (nI L) (nI (t_e b L i)) (nI (t_j b L i)) (t_ck (t_k b L i)) tv gn b) → w145_L53 N post (u + 1) (if false = true then 1 else 0) (nI (8 + n)) sv sg sf s2 sd sh sx sm sr se (nI L) (nI (t_e b L i)) (nI (t_j b L i)) (t_ck (t_k b L i)) tv gn b := by
      intro u
      induction u with
      | zero =>
        intro n hn g1 g0
        rw [show n = 13 by omega]
        exact done false (g0 (Or.inr rfl))
      | succ u ih =>
        intro n hn g1 g0
        have e : t_fv b (t_j b L i) (t_e b L i) 8 (u + 1) n = if t_isw b (t_j b L i) (t_e b L i) (t_vw (8 + n)) = true then nI n else t_fv b (t_j b L i) (t_e b L i) 8 u (n + 1) := rfl
        rw [e] at g0
        simp only [e] at g1
        refine try1 (u + 1) (8 + n) false (by omega) (by rw [if_neg (by omega)]; rfl) (fun hy => ?_) (fun hno => ih (n + 1) (by omega) ?_ ?_)
        · rw [Bool.and_eq_true] at hy
          exact g1 n (by omega) hy.1 (if_pos hy.2)
        · intro m hm hk hf
          have : ¬ t_isw b (t_j b L i) (t_e b L i) (t_vw (8 + n)) = true := fun q => by rw [hk, q] at hno; exact absurd hno (by decide)
          exact g1 m hm hk (by rw [if_neg this]; exact hf)
        · intro hor
          rcases hor with q | q
          · exact g0 (Or.inl q)
          · by_cases hk : (decide (t_k b L i = 1)) = true
            · have : ¬ t_isw b (t_j b L i) (t_e b L i) (t_vw (8 + n)) = true := fun q => by rw [hk, q] at hno; exact absurd hno (by decide)
              exact g0 (Or.inr (by rw [if_neg this]; exact q))
            · exact g0 (Or.inl (by simpa using hk))
    have sk : ∀ u x, x + u = 8 → w145_L53 N post (u + 14) (if false = true then 1 else 0) (nI x) sv sg sf s2 sd sh sx sm sr se (nI L) (nI (t_e b L i)) (nI (t_j b L i)) (t_ck (t_k b L i)) tv gn b := by
      intro u
      induction u with
      | zero =>
        intro x hx
        have := main 13 0 rfl (fun m hm hk hf => h1 m hm (by unfold t_vb; rw [if_pos (of_decide_eq_true hk)]; exact hf)) (fun hor => h0 (by
          unfold t_vb
          rcases hor with q | q
          · rw [if_neg (of_decide_eq_false q)]
          · split
            · exact q
            · rfl))
        rw [show x = 8 + 0 by omega]
        exact this
      | succ u ih =>
        intro x hx
        exact skip1 (u + 14) x false (by omega) (by rw [if_pos (by omega)]; decide) (ih (x + 1) (by omega))
    exact ⟨22, sk 8 0 rfl⟩
/-- where the verb's word is -/
def t_iw (b : Nat → Int32) (L i : Nat) : Nat := if t_nm b L i = true then t_e b L (t_e b L i) else i
/-- what readVerb wants -/
def t_rv (b : Nat → Int32) (L i : Nat) : Bool × Nat := if t_nm b L i = true then t_w b L (t_word b L 0 8) (t_w b L (t_is b L 61) (true, t_e b L i)) else t_w b L (t_word b L 8 13) (true, i)
/-- verb and target -/
def s_V (b : Nat → Int32) (L i v : Nat) (tg : Int32) : Prop := v < 21 ∧ (if t_nm b L i = true then v < 8 ∧ tg = b (t_j b L i) - 97 ∧ t_vb b L (t_iw b L i) 0 8 = nI v else 8 ≤ v ∧ tg = -1 ∧ t_vb b L i 8 13 = nI (v - 8))
theorem t_vbr {lo cnt i : Nat} : t_vb b L i lo cnt = -1 ∨ ∃ m, m < cnt ∧ t_vb b L i lo cnt = nI m := by
  unfold t_vb
  split
  · rcases t_fvr (b := b) (f := t_j b L i) (t := t_e b L i) (lo := lo) cnt 0 with h | ⟨m, h1, h2, h3⟩
    · exact Or.inl h
    · exact Or.inr ⟨m, by omega, h3⟩
  · exact Or.inl rfl
theorem t_wdT {lo cnt i m : Nat} (hm : m < 100) (h : t_vb b L i lo cnt = nI m) : t_word b L lo cnt i = true := by
  unfold t_word
  rw [h, decide_eq_false (nI_pos (by omega))]; rfl
theorem t_wdF {lo cnt i : Nat} (h : t_vb b L i lo cnt = -1) : t_word b L lo cnt i = false := by
  unfold t_word
  rw [h]; decide
theorem c_readVerb (hL : L ≤ N) (hN : N < 2 ^ 31) (hi : i ≤ L) (hv21 : sv < 21) (hv : t_k b L i = 2 → tv = t_v b L i)
    (h1 : (t_rv b L i).1 = true → ∀ v tg, s_V b L i v tg → s_at b L (t_rv b L i).2 (fun a1 a2 a3 a4 a5 a6 => post 1 v tg sf s2 sd sh sx sm sr se a1 a2 a3 a4 a5 gn a6))
    (h0 : (t_rv b L i).1 = false → ∀ v tg, v < 21 → s_at b L (t_rv b L i).2 (fun a1 a2 a3 a4 a5 a6 => post 0 v tg sf s2 sd sh sx sm sr se a1 a2 a3 a4 a5 gn a6)) :
    w145_wp N post sv sg sf s2 sd sh sx sm sr se (nI L) (nI (t_e b L i)) (nI (t_j b L i)) (t_ck (t_k b L i)) tv gn b := by
  unfold w145_wp
  refine c_letter (i := i) hL hN hi rfl rfl rfl ⟨fun q => ?_, fun q => ?_⟩
  · have hn : t_nm b L i = false := by
      cases hh : t_nm b L i with
      | false => rfl
      | true => rw [if_pos hh] at q; exact absurd q (t_nm1 (t_nmb hh).1)
    have hn' : ¬ t_nm b L i = true := by rw [hn]; decide
    unfold t_rv at h1 h0
    rw [if_neg hn'] at h1 h0
    rw [q]
    refine ⟨fun _ => c_rv53 (mk := false) hL hN hi hv (fun m hm hk => ?_) (fun hk => ?_), fun q => absurd rfl q⟩
    · rw [if_neg (by decide)] at hm
      rw [if_neg (by decide), if_neg (by decide)] at hk
      rw [t_wT (t_wdT (by omega) hk)] at h1
      rw [if_neg (by decide)]
      refine h1 rfl (8 + m) (-1) ⟨by omega, ?_⟩
      rw [if_neg hn']
      exact ⟨by omega, rfl, by rw [show 8 + m - 8 = m by omega]; exact hk⟩
    · rw [if_neg (by decide), if_neg (by decide)] at hk
      rw [t_wN (t_wdF hk)] at h0
      exact h0 rfl sv (-1) hv21 tv hv
  · have hn : t_nm b L i = true := by
      cases hh : t_nm b L i with
      | true => rfl
      | false => rw [hh] at q; exact absurd rfl q
    rw [if_pos hn] at q ⊢
    unfold t_rv at h1 h0
    rw [if_pos hn] at h1 h0
    obtain ⟨a1, a2⟩ := t_nmj hi hn
    refine c_stepS hL hN hi (fun v1 hv1 => c_skp (c := 61) hL hN a2 t_ckk.2.2.1 (fun w v2 hv2 => ⟨fun _ => ?_, fun q => t_10 q⟩) (fun w => ⟨fun q => absurd rfl q, fun _ => ⟨rfl, ?_⟩⟩))
    · obtain ⟨a3, a4⟩ := t_isj a2 (by decide) w
      rw [t_wT w] at h1 h0
      refine ⟨fun q2 => absurd q2 q, fun _ => c_rv53 (mk := true) hL hN a4 hv2 (fun m hm hk => ?_) (fun hk => ?_)⟩
      · rw [if_pos rfl] at hm
        rw [if_pos rfl, if_pos rfl] at hk
        rw [t_wT (t_wdT (by omega) hk)] at h1
        rw [if_pos rfl, Nat.zero_add]
        refine h1 rfl m _ ⟨by omega, ?_⟩
        rw [if_pos hn]
        refine ⟨hm, rfl, ?_⟩
        unfold t_iw
        rw [if_pos hn]
        exact hk
      · rw [if_pos rfl, if_pos rfl] at hk
        rw [t_wN (t_wdF hk)] at h0
        exact h0 rfl sv _ hv21 v2 hv2
    · rw [t_wN w, t_wF rfl] at h0
      exact h0 rfl sv _ hv21 v1 hv1
end CRV
