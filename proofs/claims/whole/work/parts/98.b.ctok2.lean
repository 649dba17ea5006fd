/-! PURE, texts: the class's Tokens: step, open, letter, isWord -/
def t_isw (b : Nat → Int32) (f t : Nat) (w : List Nat) : Bool := decide (t - f = w.length) && decide (∀ j, j < w.length → b (f + j) = nI (w.getD j 0))
/-- a name: one small letter -/
def t_nm (b : Nat → Int32) (L i : Nat) : Bool := decide (t_k b L i = 1) && decide (t_e b L i = t_j b L i + 1) && !decide (b (t_j b L i) < 97)
theorem t_ckm {c : Int32} (h : t_mk c = true) : t_ck c = c := by
  unfold t_mk at h
  simp at h
  rcases h with (((h | h) | h) | h) | h <;> rw [h] <;> decide
theorem t_kn {b : Nat → Int32} {L i : Nat} (h : t_k b L i = 1) : t_j b L i < L ∧ t_let (b (t_j b L i)) = true := by
  unfold t_k at h
  split at h
  · exact absurd h (by decide)
  · split at h
    · rename_i h1 h2
      exact ⟨by omega, h2⟩
    · split at h
      · split at h <;> exact absurd h (by decide)
      · split at h
        · rename_i h5
          unfold t_mk at h5
          rw [h] at h5
          exact absurd h5 (by decide)
        · exact absurd h (by decide)
section CTL
variable {N L : Nat} {b : Nat → Int32} {ts tk tv : Int32} {post : Int32 → Int32 → Int32 → Int32 → Int32 → (Nat → Int32) → Prop}
theorem c_step {i : Nat} {tl : Int32} (hl : tl = nI L) (hL : L ≤ N) (hN : N < 2 ^ 31) (hi : i ≤ L) (h : ∀ v, (t_k b L i = 2 → v = t_v b L i) → post (nI L) (nI (t_e b L i)) (nI (t_j b L i)) (t_ck (t_k b L i)) v b) : w138_wp N post tl (nI i) ts tk tv b := by
  subst hl
  unfold w138_wp
  have hj := t_jl (b := b) hi
  refine c_skip hL hN hi ⟨fun w => ?_, fun w => ?_⟩
  · have hjL : t_j b L i < L := (nI_ltI (by omega) (by omega)).1 w
    refine ⟨b_in (by omega) (by omega), fun z13 e13 z14 e14 => ?_⟩
    rw [nI_clamp (by omega)] at e13
    rw [nI_1] at e14
    rw [e13, e14]
    refine c_let ⟨fun wl => ?_, fun wl => ?_⟩
    · have hl : ¬ t_let (b (t_j b L i)) = true := fun q => by rw [if_pos q] at wl; exact absurd wl (by decide)
      refine ⟨fun w45 => ?_, fun w45 => c_dig ⟨fun wd => ?_, fun wd => ?_⟩⟩
      · -- a minus
        have es : t_s b L i = t_j b L i + 1 := if_pos w45
        have ee : t_e b L i = t_run t_dig b (L - (t_j b L i + 1)) (t_j b L i + 1) := by
          unfold t_e
          rw [if_neg (by omega), if_neg hl, if_pos (Or.inl w45), es]
        have ek : t_k b L i = if 1 ≤ t_run t_dig b (L - (t_j b L i + 1)) (t_j b L i + 1) - (t_j b L i + 1) ∧ t_run t_dig b (L - (t_j b L i + 1)) (t_j b L i + 1) - (t_j b L i + 1) ≤ 3 then 2 else 3 := by
          unfold t_k
          rw [if_neg (by omega), if_neg hl, if_pos (Or.inl w45), ee, es]
        rw [ek, ee] at h
        refine ⟨fun q => absurd w45 q, fun _ => ⟨fun q => absurd w45 q, fun _ => ?_⟩⟩
        have hv : t_v b L i = - t_nv b (t_j b L i + 1) (t_run t_dig b (L - (t_j b L i + 1)) (t_j b L i + 1) - (t_j b L i + 1)) := by
          unfold t_v
          rw [if_pos w45, ee, es]
        refine c_numb (s := t_j b L i + 1) (d := 0) hL hN (by omega) (by omega) ?_
        rw [if_pos w45]
        generalize t_run t_dig b (L - (t_j b L i + 1)) (t_j b L i + 1) = e at *
        generalize hd : e - (t_j b L i + 1) = d at *
        by_cases wd : 1 ≤ d ∧ d ≤ 3
        · rw [if_pos wd, if_pos wd.2]
          have := h (- t_nv b (t_j b L i + 1) d) (fun _ => hv.symm)
          rw [if_pos wd] at this
          exact this
        · have := h (- (if d ≤ 3 then t_nv b (t_j b L i + 1) d else 0)) (fun q => by rw [if_neg wd] at q; exact absurd q (by decide))
          rw [if_neg wd] at this ⊢
          exact this
      · have hd : ¬ t_dig (b (t_j b L i)) = true := fun q => by rw [if_pos q] at wd; exact absurd wd (by decide)
        have hno : ¬ (b (t_j b L i) = 45 ∨ t_dig (b (t_j b L i)) = true) := fun q => q.elim w45 hd
        have ee : t_e b L i = t_j b L i + 1 := by
          unfold t_e
          rw [if_neg (by omega), if_neg hl, if_neg hno]
        have ek : t_k b L i = if t_mk (b (t_j b L i)) = true then b (t_j b L i) else 3 := by
          unfold t_k
          rw [if_neg (by omega), if_neg hl, if_neg hno]
        rw [ek, ee] at h
        have mark : t_mk (b (t_j b L i)) = true → w138_L114 N post (b (t_j b L i)) (nI L) (nI (t_j b L i + 1)) (nI (t_j b L i)) tk tv b := by
          intro hm
          rw [if_pos hm] at h
          refine ⟨fun q => absurd q (by decide), fun _ => ?_⟩
          have := h tv (fun q => by rw [q] at hm; exact absurd hm (by decide))
          rw [t_ckm hm] at this
          exact this
        refine ⟨fun q => mark (by rw [q]; decide), fun q1 => ⟨fun q => mark (by rw [q]; decide), fun q2 => ⟨fun q => mark (by rw [q]; decide), fun q3 => ⟨fun q => mark (by rw [q]; decide), fun q4 => ⟨fun q5 => ?_, fun q => mark (by rw [q]; decide)⟩⟩⟩⟩⟩
        have hm : ¬ t_mk (b (t_j b L i)) = true := by unfold t_mk; simp [q1, q2, q3, q4, q5]
        rw [if_neg hm] at h
        exact ⟨fun _ => h tv (fun q => absurd q (by decide)), fun q => absurd rfl q⟩
      · -- a digit
        have hd : t_dig (b (t_j b L i)) = true := by
          cases q : t_dig (b (t_j b L i))
          · rw [q] at wd; exact absurd rfl wd
          · rfl
        have es : t_s b L i = t_j b L i := if_neg w45
        have ee : t_e b L i = t_run t_dig b (L - (t_j b L i + 1)) (t_j b L i + 1) := by
          unfold t_e
          rw [if_neg (by omega), if_neg hl, if_pos (Or.inr hd), es, t_rdig hjL hd]
        have ek : t_k b L i = if 1 ≤ t_run t_dig b (L - (t_j b L i + 1)) (t_j b L i + 1) - t_j b L i ∧ t_run t_dig b (L - (t_j b L i + 1)) (t_j b L i + 1) - t_j b L i ≤ 3 then 2 else 3 := by
          unfold t_k
          rw [if_neg (by omega), if_neg hl, if_pos (Or.inr hd), ee, es]
        rw [ek, ee] at h
        refine ⟨fun _ => ⟨fun _ => ?_, fun q => absurd q w45⟩, fun q => absurd q w45⟩
        have hv : t_v b L i = t_nv b (t_j b L i) (t_run t_dig b (L - (t_j b L i + 1)) (t_j b L i + 1) - t_j b L i) := by
          unfold t_v
          rw [if_neg w45, ee, es]
        have e1 : b (t_j b L i) - 48 = (if 1 ≤ 3 then t_nv b (t_j b L i) 1 else 0) := by
          rw [if_pos (by decide)]
          show _ = 10 * 0 + b (t_j b L i + 0) - 48
          rw [Nat.add_zero, show (10 : Int32) * 0 = 0 from rfl, Int32.zero_add]
        show w143_L26 N _ (b (t_j b L i)) 1 (b (t_j b L i) - 48) _ _ _ _ _ _
        rw [e1]
        refine c_numb (s := t_j b L i) (d := 1) hL hN (by omega) (by omega) ?_
        rw [if_neg w45]
        generalize t_run t_dig b (L - (t_j b L i + 1)) (t_j b L i + 1) = e at *
        generalize hd' : e - t_j b L i = d at *
        by_cases wd : 1 ≤ d ∧ d ≤ 3
        · rw [if_pos wd, if_pos wd.2]
          have := h (t_nv b (t_j b L i) d) (fun _ => hv.symm)
          rw [if_pos wd] at this
          exact this
        · have := h (if d ≤ 3 then t_nv b (t_j b L i) d else 0) (fun q => by rw [if_neg wd] at q; exact absurd q (by decide))
          rw [if_neg wd] at this ⊢
          exact this
    · have hl : t_let (b (t_j b L i)) = true := by
        cases q : t_let (b (t_j b L i))
        · rw [q] at wl; exact absurd rfl wl
        · rfl
      have ee : t_e b L i = t_run t_let b (L - (t_j b L i + 1)) (t_j b L i + 1) := by
        unfold t_e
        rw [if_neg (by omega), if_pos hl]
      have ek : t_k b L i = 1 := by
        unfold t_k
        rw [if_neg (by omega), if_pos hl]
      rw [ek, ee] at h
      exact c_word hL hN (by omega) (h tv (fun q => absurd q (by decide)))
  · have hjL : L ≤ t_j b L i := by
      by_cases q : t_j b L i < L
      · exact absurd (nI_lt q (by omega)) w
      · omega
    have e1 : t_e b L i = t_j b L i := if_pos hjL
    have e2 : t_k b L i = 0 := if_pos hjL
    have := h tv (fun q => by rw [e2] at q; exact absurd q (by decide))
    rw [e1, e2] at this
    exact this
theorem c_letter {post : Int32 → Int32 → Int32 → Int32 → Int32 → Int32 → (Nat → Int32) → Prop} {i : Nat} {tl tb : Int32} (hL : L ≤ N) (hN : N < 2 ^ 31) (hi : i ≤ L) (e1 : tb = nI (t_e b L i)) (e2 : ts = nI (t_j b L i)) (e3 : tk = t_ck (t_k b L i)) (h : post (if t_nm b L i = true then b (t_j b L i) - 97 else -1) tl tb ts tk tv b) : w146_wp N post tl tb ts tk tv b := by
  have hj := t_jl (b := b) hi
  have he := t_el (b := b) hi
  have hk : t_ck (t_k b L i) = 2 ↔ t_k b L i = 1 := by
    unfold t_ck
    constructor
    · intro q
      split at q
      · assumption
      · split at q
        · exact absurd q (by decide)
        · split at q
          · exact absurd q (by decide)
          · contradiction
    · intro q
      rw [if_pos q]
  have hsub : nI (t_e b L i) - nI (t_j b L i) = nI (t_e b L i - t_j b L i) := nI_subn he.1
  have no : t_nm b L i = false → w146_L35 N post tl tb ts tk tv b := by
    intro q
    rw [q] at h
    exact h
  refine ⟨fun w => no ?_, fun w => ⟨fun w2 => no ?_, fun w2 => ?_⟩⟩
  · rw [e3, hk] at w
    unfold t_nm
    simp [w]
  · rw [e1, e2, hsub] at w2
    unfold t_nm
    have : ¬ t_e b L i = t_j b L i + 1 := fun q => w2 (by rw [q, show t_j b L i + 1 - t_j b L i = 1 by omega]; rfl)
    simp [this]
  · rw [e3, hk] at w
    have hjL := (t_kn w).1
    rw [e1, e2, hsub] at w2
    have h1 : t_e b L i - t_j b L i = 1 := (nI_eq (by omega) (by omega)).1 (w2.trans (show (1 : Int32) = nI 1 from rfl))
    rw [e2, nI_clamp (by omega)]
    have hin : vp_in (nI (t_j b L i)) N := b_in (by omega) (by omega)
    refine ⟨hin, fun w3 => ⟨hin, ?_⟩, fun w3 => ?_⟩
    · have : t_nm b L i = true := by
        unfold t_nm
        have q : ¬ b (t_j b L i) < 97 := by
          intro q
          have := Int32.lt_iff_toInt_lt.1 q
          have := Int32.le_iff_toInt_le.1 w3
          omega
        simp [w, q]
        omega
      rw [this, e2] at h
      exact h
    · have : t_nm b L i = false := by
        unfold t_nm
        have q : b (t_j b L i) < 97 := by
          apply Int32.lt_iff_toInt_lt.2
          have : ¬ (97 : Int32).toInt ≤ (b (t_j b L i)).toInt := fun q => w3 (Int32.le_iff_toInt_le.2 q)
          omega
        simp [q]
      have := no this
      rw [e2] at this
      exact this
theorem c_isWord {post : Int32 → Int32 → Int32 → Int32 → Int32 → Int32 → (Nat → Int32) → Prop} {i a : Nat} {tl tb : Int32} (ha : a < 32) (hL : L ≤ N) (hN : N < 2 ^ 31) (hi : i ≤ L) (e1 : tb = nI (t_e b L i)) (e2 : ts = nI (t_j b L i)) (e3 : tk = t_ck (t_k b L i)) (h : post (if (decide (t_k b L i = 1) && t_isw b (t_j b L i) (t_e b L i) (x_str a)) = true then 1 else 0) tl tb ts tk tv b) : w148_wp N a post tl tb ts tk tv b := by
  have hj := t_jl (b := b) hi
  have he := t_el (b := b) hi
  have hl := b_strl a ha
  have hk : t_ck (t_k b L i) = 2 ↔ t_k b L i = 1 := by
    unfold t_ck
    constructor
    · intro q
      split at q
      · assumption
      · split at q
        · exact absurd q (by decide)
        · split at q
          · exact absurd q (by decide)
          · contradiction
    · intro q
      rw [if_pos q]
  have hsub : nI (t_e b L i) - nI (t_j b L i) = nI (t_e b L i - t_j b L i) := nI_subn he.1
  have no : (decide (t_k b L i = 1) && t_isw b (t_j b L i) (t_e b L i) (x_str a)) = false → w148_L24 N a post tl tb ts tk tv b := by
    intro q
    rw [q] at h
    exact ⟨rfl, h⟩
  refine ⟨fun w => no ?_, fun w => ⟨ha, b_len ha ⟨fun w2 => ?_, fun w2 => no ?_⟩⟩⟩
  · rw [e3, hk] at w
    simp [w]
  · rw [e1, e2, hsub] at w2
    have h1 : t_e b L i - t_j b L i = (x_str a).length := (nI_eq (by omega) (by omega)).1 w2
    rw [e3, hk] at w
    have main : ∀ (u k : Nat), k + u = (x_str a).length → (∀ j, j < k → b (t_j b L i + j) = nI ((x_str a).getD j 0)) → w148_L28 N a post (u + 1) (nI k) tl tb ts tk tv b := by
      intro u
      induction u with
      | zero =>
        intro k hk hall
        refine ⟨ha, b_len ha ⟨fun _ => ⟨rfl, ?_⟩, fun w => absurd (nI_le (by omega) (by omega)) w⟩⟩
        have : (decide (t_k b L i = 1) && t_isw b (t_j b L i) (t_e b L i) (x_str a)) = true := by
          unfold t_isw
          rw [decide_eq_true w, decide_eq_true h1, decide_eq_true (fun j hj => hall j (by omega))]
          rfl
        rw [this] at h
        exact h
      | succ u ih =>
        intro k hk hall
        refine ⟨ha, b_len ha ⟨fun w => absurd w (nI_ge (by omega) (by omega)), fun _ => ?_⟩⟩
        rw [e2, nI_add, nI_clamp (by omega)]
        refine ⟨b_in (by omega) (by omega), ha, b_char ha (by omega) ⟨fun q z e => ?_, fun q => ⟨rfl, ?_⟩⟩⟩
        · rw [e, nI_1, ← e2]
          refine ih (k + 1) (by omega) (fun j hj => ?_)
          by_cases w : j = k
          · rw [w]; exact q
          · exact hall j (by omega)
        · have : (decide (t_k b L i = 1) && t_isw b (t_j b L i) (t_e b L i) (x_str a)) = false := by
            unfold t_isw
            have hq : ¬ ∀ j, j < (x_str a).length → b (t_j b L i + j) = nI ((x_str a).getD j 0) := fun hh => q (hh k (by omega))
            rw [decide_eq_false hq, Bool.and_false, Bool.and_false]
          rw [this, e2] at h
          exact h
    exact ⟨_, main _ 0 (Nat.zero_add _) (fun j hj => absurd hj (Nat.not_lt_zero j))⟩
  · have : ¬ t_e b L i - t_j b L i = (x_str a).length := fun q => w2 (by rw [e1, e2, hsub, q])
    unfold t_isw
    simp [this]
end CTL
