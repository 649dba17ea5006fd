/-! PURE, texts: the reference's wordOf, maker, isScript -/
theorem t_runp (P : Int32 → Bool) (b : Nat → Int32) : ∀ (u i x : Nat), i ≤ x → x < t_run P b u i → P (b x) = true
  | 0, i, x, h1, h2 => by
    have : t_run P b 0 i = i := rfl
    omega
  | u + 1, i, x, h1, h2 => by
    unfold t_run at h2
    split at h2
    · rename_i h
      by_cases w : x = i
      · rw [w]; exact h
      · exact t_runp P b u (i + 1) x (by omega) h2
    · omega
theorem t_wlet {b : Nat → Int32} {L i : Nat} (h : t_k b L i = 1) {x : Nat} (h1 : t_j b L i ≤ x) (h2 : x < t_e b L i) : t_let (b x) = true := by
  obtain ⟨hj, hl⟩ := t_kn h
  by_cases w : x = t_j b L i
  · rw [w]; exact hl
  · have ee : t_e b L i = t_run t_let b (L - (t_j b L i + 1)) (t_j b L i + 1) := by
      unfold t_e
      rw [if_neg (by omega), if_pos hl]
    rw [ee] at h2
    exact t_runp t_let b _ _ x (by omega) h2
/-- the verb's word -/
def t_vw (v : Nat) : List Nat := x_str (px_vw.getD v 0)
def t_fv (b : Nat → Int32) (f t lo : Nat) : Nat → Nat → Int32
  | 0, _ => -1
  | u + 1, n => if t_isw b f t (t_vw (lo + n)) = true then nI n else t_fv b f t lo u (n + 1)
def t_vb (b : Nat → Int32) (L i lo cnt : Nat) : Int32 := if t_k b L i = 1 then t_fv b (t_j b L i) (t_e b L i) lo cnt 0 else -1
def t_off (lo : Nat) : Nat → Nat
  | 0 => 0
  | n + 1 => t_off lo n + (t_vw (lo + n)).length + 1
def t_SO (a lo cnt : Nat) : Prop := a < 32 ∧ cnt < 100 ∧ (∀ n, n ≤ cnt → (x_str a).getD (t_off lo n) 0 = 32 ∧ t_off lo n < (x_str a).length) ∧ t_off lo cnt + 1 = (x_str a).length ∧ (∀ n, n < cnt → ∀ j, j < (t_vw (lo + n)).length → (x_str a).getD (t_off lo n + 1 + j) 0 = (t_vw (lo + n)).getD j 0 ∧ (t_vw (lo + n)).getD j 0 ≠ 32 ∧ (t_vw (lo + n)).getD j 0 < 128)
theorem t_so9 : t_SO 9 0 8 := by unfold t_SO; decide +kernel
theorem t_so10 : t_SO 10 8 13 := by unfold t_SO; decide +kernel
theorem t_let32 {c : Int32} (h : t_let c = true) : ¬ c = 32 := by
  intro q
  rw [q] at h
  exact absurd h (by decide)
section RWO
variable {L : Nat} {b : Nat → Int32} {jv : Nat → Int32}
theorem r_wordOf {a lo cnt i : Nat} {post : Int32 → (Nat → Int32) → (Nat → Int32) → Prop} (ho : t_SO a lo cnt) (hL : L ≤ 16384) (hi : i ≤ L) (e1 : jv 38 = t_k b L i) (e2 : jv 39 = nI (t_j b L i)) (e3 : jv 40 = nI (t_e b L i)) (h : post (t_vb b L i lo cnt) jv b) : w95_wp a post jv b := by
  obtain ⟨ha, hc, s1, s2, s3⟩ := ho
  have hj := t_jl (b := b) hi
  have he := t_el (b := b) hi
  have hal := b_strl a ha
  unfold w95_wp
  rw [e1]
  unfold t_vb at h
  refine ⟨fun w => ⟨cnt + 1, ?_⟩, fun w => ?_⟩
  · rw [if_pos w] at h
    have hlet : ∀ x, t_j b L i ≤ x → x < t_e b L i → ¬ b x = 32 := fun x h1 h2 => t_let32 (t_wlet w h1 h2)
    have main : ∀ (u n : Nat), n + u = cnt → post (t_fv b (t_j b L i) (t_e b L i) lo u n) jv b → w95_L14 a post (u + 1) (nI (t_off lo n)) (nI n) jv b := by
      intro u
      induction u with
      | zero =>
        intro n hn h
        refine ⟨ha, b_len ha ⟨fun _ => h, fun q => ?_⟩⟩
        rw [show n = cnt by omega, nI_1, s2] at q
        exact absurd (nI_le (Nat.le_refl _) (by omega)) q
      | succ u ih =>
        intro n hn h
        have hn' : n < cnt := by omega
        have o1 : t_off lo (n + 1) = t_off lo n + (t_vw (lo + n)).length + 1 := rfl
        have o2 := (s1 (n + 1) (by omega)).2
        have o3 := (s1 (n + 1) (by omega)).1
        have hw := s3 n hn'
        have hfv : t_fv b (t_j b L i) (t_e b L i) lo (u + 1) n = if t_isw b (t_j b L i) (t_e b L i) (t_vw (lo + n)) = true then nI n else t_fv b (t_j b L i) (t_e b L i) lo u (n + 1) := rfl
        rw [hfv] at h
        -- to the next word
        have skip : ∀ x4 : Int32, t_isw b (t_j b L i) (t_e b L i) (t_vw (lo + n)) = false → w95_L103 (w95_L14 a post (u + 1)) a post (nI (t_off lo n)) (nI n) x4 jv b := by
          intro x4 hno z4 e4
          rw [if_neg (by rw [hno]; decide)] at h
          have ih := ih (n + 1) (by omega) h
          have sp : ∀ (v j : Nat), j + v = (t_vw (lo + n)).length → w95_L106 (w95_L14 a post (u + 1)) a post (v + 1) (nI (t_off lo n + 1 + j)) (nI n) x4 jv b := by
            intro v
            induction v with
            | zero =>
              intro j hj
              refine ⟨ha, b_char ha (by omega) ⟨fun _ z e => ?_, fun q => ?_⟩⟩
              · rw [e, nI_1, show t_off lo n + 1 + j = t_off lo (n + 1) by omega]
                exact ih
              · rw [show t_off lo n + 1 + j = t_off lo (n + 1) by omega, o3] at q
                exact absurd rfl q
            | succ v ihv =>
              intro j hj
              have hwj := hw j (by omega)
              refine ⟨ha, b_char ha (by omega) ⟨fun q => ?_, fun _ z e => ?_⟩⟩
              · rw [hwj.1] at q
                exact absurd ((nI_eq (by omega) (by omega)).1 (q.trans (show (32 : Int32) = nI 32 from rfl))) hwj.2.1
              · rw [e, nI_1]
                exact ihv (j + 1) (by omega)
          rw [e4, nI_1]
          exact ⟨_, sp (t_vw (lo + n)).length 0 (by omega)⟩
        refine ⟨ha, b_len ha ⟨fun q => ?_, fun _ => ⟨(t_vw (lo + n)).length + 1, ?_⟩⟩⟩
        · rw [nI_1] at q
          exact absurd q (nI_ge (by omega) (by omega))
        · have mt : ∀ (v j : Nat), j + v = (t_vw (lo + n)).length → t_j b L i + j ≤ t_e b L i → (∀ x, x < j → b (t_j b L i + x) = nI ((t_vw (lo + n)).getD x 0)) → w95_L27 (w95_L14 a post (u + 1)) a post (v + 1) (nI (t_off lo n)) (nI n) (nI j) jv b := by
            intro v
            induction v with
            | zero =>
              intro j hj1 hj2 hall
              have l72 : w95_L72 (w95_L14 a post (u + 1)) a post (nI (t_off lo n)) (nI n) (nI j) jv b := by
                unfold w95_L72
                rw [e2, e3, nI_add, nI_1, nI_add]
                refine ⟨fun q => skip _ ?_, fun q => ⟨ha, b_char ha (by omega) ⟨fun q2 => ?_, fun _ => ?_⟩⟩⟩
                · unfold t_isw
                  have : ¬ t_e b L i - t_j b L i = (t_vw (lo + n)).length := fun q2 => q (by rw [show t_j b L i + j = t_e b L i by omega])
                  rw [decide_eq_false this]; rfl
                · rw [show t_off lo n + 1 + j = t_off lo (n + 1) by omega, o3] at q2
                  exact absurd rfl q2
                · have q3 : t_j b L i + j = t_e b L i := (nI_eq (by omega) (by omega)).1 q
                  have : t_isw b (t_j b L i) (t_e b L i) (t_vw (lo + n)) = true := by
                    unfold t_isw
                    rw [decide_eq_true (show t_e b L i - t_j b L i = (t_vw (lo + n)).length by omega), decide_eq_true (fun x hx => hall x (by omega))]
                    rfl
                  rw [if_pos this] at h
                  exact h
              refine ⟨fun _ => l72, fun q => ?_⟩
              rw [e2, e3, nI_add] at q
              have hlt : t_j b L i + j < t_e b L i := by
                by_cases q2 : t_j b L i + j < t_e b L i
                · exact q2
                · exact absurd (nI_le (by omega) (by omega)) q
              rw [nI_1 (t_off lo n), nI_add (t_off lo n + 1) j]
              refine ⟨ha, b_char ha (by omega) ?_⟩
              rw [e2, nI_add, nI_clamp (by omega), show t_off lo n + 1 + j = t_off lo (n + 1) by omega, o3]
              refine ⟨b_in (by omega) (by omega), fun _ => l72, fun q2 => ?_⟩
              exact absurd (q2.symm.trans (show nI 32 = 32 from rfl)) (hlet _ (by omega) hlt)
            | succ v ihv =>
              intro j hj1 hj2 hall
              have hwj := hw j (by omega)
              have l72 : (t_j b L i + j = t_e b L i ∨ ¬ b (t_j b L i + j) = nI ((t_vw (lo + n)).getD j 0)) → w95_L72 (w95_L14 a post (u + 1)) a post (nI (t_off lo n)) (nI n) (nI j) jv b := by
                intro hor
                have hno : t_isw b (t_j b L i) (t_e b L i) (t_vw (lo + n)) = false := by
                  unfold t_isw
                  rcases hor with q | q
                  · rw [decide_eq_false (show ¬ t_e b L i - t_j b L i = (t_vw (lo + n)).length by omega)]; rfl
                  · have : ¬ ∀ x, x < (t_vw (lo + n)).length → b (t_j b L i + x) = nI ((t_vw (lo + n)).getD x 0) := fun hh => q (hh j (by omega))
                    rw [decide_eq_false this, Bool.and_false]
                unfold w95_L72
                rw [e2, e3, nI_add, nI_1, nI_add]
                refine ⟨fun q => skip _ hno, fun q => ⟨ha, b_char ha (by omega) ⟨fun _ => skip _ hno, fun q2 => ?_⟩⟩⟩
                rw [hwj.1] at q2
                exact absurd ((nI_eq (by omega) (by omega)).1 (q2.trans (show (32 : Int32) = nI 32 from rfl))) hwj.2.1
              refine ⟨fun q => l72 (Or.inl ?_), fun q => ?_⟩
              · rw [e2, e3, nI_add] at q
                have := (nI_leI (by omega) (by omega)).1 q
                omega
              · rw [e2, e3, nI_add] at q
                have hlt : t_j b L i + j < t_e b L i := by
                  by_cases q2 : t_j b L i + j < t_e b L i
                  · exact q2
                  · exact absurd (nI_le (by omega) (by omega)) q
                rw [nI_1 (t_off lo n), nI_add (t_off lo n + 1) j]
                refine ⟨ha, b_char ha (by omega) ?_⟩
                rw [e2, nI_add, nI_clamp (by omega), hwj.1]
                refine ⟨b_in (by omega) (by omega), fun q2 => l72 (Or.inr (fun q3 => q2 q3.symm)), fun q2 z e => ?_⟩
                rw [e, nI_1]
                refine ihv (j + 1) (by omega) (by omega) (fun x hx => ?_)
                by_cases w : x = j
                · rw [w]; exact q2.symm
                · exact hall x (by omega)
          exact mt _ 0 (Nat.zero_add _) (by omega) (fun x hx => absurd hx (Nat.not_lt_zero x))
    exact main cnt 0 (by omega) h
  · rw [if_neg w] at h
    exact h
end RWO
/-- a field: a number, or Q -/
def t_fld (b : Nat → Int32) (L i : Nat) : Bool := decide (t_k b L i = 2) || (decide (t_k b L i = 1) && decide (t_e b L i = t_j b L i + 1) && decide (b (t_j b L i) = 81))
/-- behind a maker's word, behind another's -/
def t_mkr (b : Nat → Int32) (L : Nat) (k : Int32) (r : Bool × Nat) : Bool × Nat :=
  if k = 0 then t_ns b L true (t_w b L (t_is b L 2) (t_w b L (t_fld b L) r))
  else if k = 1 then t_eds b L (t_w b L (t_is b L 2) r)
  else if k = 2 then t_w b L (t_is b L 2) (t_w b L (t_is b L 2) r)
  else if k = 4 ∨ k = 5 then t_ns b L false (t_w b L (t_nm b L) r)
  else if k = 6 then t_w b L (t_nm b L) (t_w b L (t_nm b L) r)
  else t_w b L (t_nm b L) r
def t_oth (b : Nat → Int32) (L : Nat) (k : Int32) (r : Bool × Nat) : Bool × Nat :=
  if k = 0 then t_ns b L false (t_w b L (t_nm b L) r)
  else if k = 8 ∨ k = 11 then t_w b L (t_nm b L) (t_w b L (t_nm b L) r)
  else t_w b L (t_nm b L) r
def t_word (b : Nat → Int32) (L lo cnt i : Nat) : Bool := !decide (t_vb b L i lo cnt < 0)
def t_st (b : Nat → Int32) (L i : Nat) : Bool × Nat :=
  t_w b L (t_is b L 59) (if t_nm b L i = true then t_mkr b L (t_vb b L (t_w b L (t_is b L 61) (true, t_e b L i)).2 0 8) (t_w b L (t_word b L 0 8) (t_w b L (t_is b L 61) (true, t_e b L i)))
    else t_oth b L (t_vb b L i 8 13) (t_w b L (t_word b L 8 13) (true, i)))
/-- a script: true, if all is read; else where it is wrong -/
def t_scr (b : Nat → Int32) (L : Nat) : Nat → Nat → Nat → Bool × Nat
  | 0, _, i => (true, i)
  | u + 1, n, i => if t_k b L i = 0 then (true, i) else if n = 400 then (false, i) else if (t_st b L i).1 = true then t_scr b L u (n + 1) (t_st b L i).2 else t_st b L i
theorem t_mkrl {b : Nat → Int32} {L : Nat} {k : Int32} {r : Bool × Nat} (h : r.2 ≤ L) : (t_mkr b L k r).2 ≤ L := by
  unfold t_mkr
  split
  · exact t_nsl (t_wl (t_wl h))
  · split
    · exact t_edsl (t_wl h)
    · split
      · exact t_wl (t_wl h)
      · split
        · exact t_nsl (t_wl h)
        · split
          · exact t_wl (t_wl h)
          · exact t_wl h
theorem t_othl {b : Nat → Int32} {L : Nat} {k : Int32} {r : Bool × Nat} (h : r.2 ≤ L) : (t_oth b L k r).2 ≤ L := by
  unfold t_oth
  split
  · exact t_nsl (t_wl h)
  · split
    · exact t_wl (t_wl h)
    · exact t_wl h
theorem t_stl {b : Nat → Int32} {L i : Nat} (h : i ≤ L) : (t_st b L i).2 ≤ L := by
  unfold t_st
  apply t_wl
  split
  · exact t_mkrl (t_wl (t_wl (show ((true, t_e b L i) : Bool × Nat).2 ≤ L from (t_el h).2.1)))
  · exact t_othl (t_wl (show ((true, i) : Bool × Nat).2 ≤ L from h))
theorem t_wadv {b : Nat → Int32} {L : Nat} {c : Int32} {r : Bool × Nat} (hc : ¬ c = 0) (hr : r.2 ≤ L) (h : (t_w b L (t_is b L c) r).1 = true) : r.1 = true ∧ r.2 < (t_w b L (t_is b L c) r).2 := by
  unfold t_w at h ⊢
  cases hr1 : r.1 with
  | false =>
    rw [if_neg (by rw [hr1]; decide), hr1] at h
    exact absurd h (by decide)
  | true =>
    rw [if_pos hr1] at h
    cases hp : t_is b L c r.2 with
    | false =>
      rw [if_neg (by rw [hp]; decide)] at h
      exact absurd (show false = true from h) (by decide)
    | true =>
      rw [if_pos rfl, if_pos rfl]
      exact ⟨rfl, (t_isj hr hc hp).1⟩
theorem t_wle {b : Nat → Int32} {L : Nat} {p : Nat → Bool} {r : Bool × Nat} (hr : r.2 ≤ L) : r.2 ≤ (t_w b L p r).2 := by
  unfold t_w
  split
  · split
    · have := t_el (b := b) hr
      have := t_jl (b := b) hr
      show r.2 ≤ t_e b L r.2
      omega
    · exact Nat.le_refl _
  · exact Nat.le_refl _
theorem t_lple {b : Nat → Int32} {L : Nat} {cm : Bool} : ∀ (u i : Nat), i ≤ L → i ≤ t_lp b L cm u i
  | 0, i, _ => Nat.le_refl _
  | u + 1, i, h => by
    unfold t_lp
    split
    · have h1 := t_el (b := b) h
      have h2 := t_jl (b := b) h
      have := t_lple (b := b) (cm := cm) u _ h1.2.1
      omega
    · exact Nat.le_refl _
theorem t_nsle {b : Nat → Int32} {L : Nat} {cm : Bool} {r : Bool × Nat} (hr : r.2 ≤ L) : r.2 ≤ (t_ns b L cm r).2 := by
  have h1 := t_wle (b := b) (p := t_is b L 123) hr
  have h2 := t_wl (b := b) (p := t_is b L 123) hr
  unfold t_ns
  refine Nat.le_trans ?_ (t_wle ?_)
  · split
    · exact Nat.le_trans h1 (t_lple _ _ h2)
    · exact h1
  · split
    · exact t_lpl _ _ h2
    · exact h2
theorem t_edle {b : Nat → Int32} {L : Nat} : ∀ (u i : Nat), i ≤ L → i ≤ (t_ed b L u i).2
  | 0, i, _ => Nat.le_refl _
  | u + 1, i, h => by
    have a1 := t_el (b := b) h
    have a2 := t_jl (b := b) h
    have b1 := t_el (b := b) a1.2.1
    have b2 := t_jl (b := b) a1.2.1
    have c1 := t_el (b := b) b1.2.1
    have c2 := t_jl (b := b) b1.2.1
    unfold t_ed
    split
    · split
      · split
        · have := t_edle (b := b) u _ c1.2.1
          omega
        · show i ≤ t_e b L (t_e b L i)
          omega
      · show i ≤ t_e b L i
        omega
    · exact Nat.le_refl _
theorem t_edsle {b : Nat → Int32} {L : Nat} {r : Bool × Nat} (hr : r.2 ≤ L) : r.2 ≤ (t_eds b L r).2 := by
  have h1 := t_wle (b := b) (p := t_is b L 123) hr
  have h2 := t_wl (b := b) (p := t_is b L 123) hr
  unfold t_eds
  refine Nat.le_trans ?_ (t_wle ?_)
  · split
    · exact Nat.le_trans h1 (t_edle _ _ h2)
    · exact h1
  · split
    · exact t_edl _ _ h2
    · exact h2
theorem t_mkrle {b : Nat → Int32} {L : Nat} {k : Int32} {r : Bool × Nat} (h : r.2 ≤ L) : r.2 ≤ (t_mkr b L k r).2 := by
  unfold t_mkr
  split
  · exact Nat.le_trans (Nat.le_trans (t_wle h) (t_wle (t_wl h))) (t_nsle (t_wl (t_wl h)))
  · split
    · exact Nat.le_trans (t_wle h) (t_edsle (t_wl h))
    · split
      · exact Nat.le_trans (t_wle h) (t_wle (t_wl h))
      · split
        · exact Nat.le_trans (t_wle h) (t_nsle (t_wl h))
        · split
          · exact Nat.le_trans (t_wle h) (t_wle (t_wl h))
          · exact t_wle h
theorem t_othle {b : Nat → Int32} {L : Nat} {k : Int32} {r : Bool × Nat} (h : r.2 ≤ L) : r.2 ≤ (t_oth b L k r).2 := by
  unfold t_oth
  split
  · exact Nat.le_trans (t_wle h) (t_nsle (t_wl h))
  · split
    · exact Nat.le_trans (t_wle h) (t_wle (t_wl h))
    · exact t_wle h
theorem t_stadv {b : Nat → Int32} {L i : Nat} (hi : i ≤ L) (h : (t_st b L i).1 = true) : i < (t_st b L i).2 := by
  have a1 := t_el (b := b) hi
  have a2 := t_jl (b := b) hi
  have h0 : ((true, t_e b L i) : Bool × Nat).2 ≤ L := a1.2.1
  have h0' : ((true, i) : Bool × Nat).2 ≤ L := hi
  unfold t_st at h ⊢
  have key : ∀ r : Bool × Nat, r.2 ≤ L → i ≤ r.2 → (t_w b L (t_is b L 59) r).1 = true → i < (t_w b L (t_is b L 59) r).2 := by
    intro r hr hle h
    have := (t_wadv (by decide) hr h).2
    omega
  refine key _ ?_ ?_ h
  · split
    · exact t_mkrl (t_wl (t_wl h0))
    · exact t_othl (t_wl h0')
  · split
    · refine Nat.le_trans (show i ≤ ((true, t_e b L i) : Bool × Nat).2 from ?_) (Nat.le_trans (Nat.le_trans (t_wle h0) (t_wle (t_wl h0))) (t_mkrle (t_wl (t_wl h0))))
      show i ≤ t_e b L i
      omega
    · exact Nat.le_trans (t_wle h0') (t_othle (t_wl h0'))
section RSC
variable {L : Nat} {b : Nat → Int32} {iv : Nat → Int32} {pl : Int32} {r : Bool × Nat} {post : (Nat → Int32) → (Nat → Int32) → Prop}
theorem r_maker (hL : L ≤ 16384) (h37 : iv 37 = nI L) (hr : r.2 ≤ L) (h : post (r_pr iv b L pl (t_mkr b L (t_vb b L r.2 0 8) (t_w b L (t_word b L 0 8) r))) b) : w96_wp post (r_pr iv b L pl r) b := by
  unfold w96_wp
  refine r_wordOf (i := r.2) t_so9 hL hr (r_prk 38 rfl) r_prj r_pre ?_
  generalize hk : t_vb b L r.2 0 8 = k at *
  have key : ∀ y : Int32, (r.1 = true → y = if t_word b L 0 8 r.2 = true then 1 else 0) → w96_L18 post k y (r_pr iv b L pl r) b := by
    intro y hy
    refine r_want (p := t_word b L 0 8) hL h37 hr hy ?_
    have hr1 := t_wl (b := b) (p := t_word b L 0 8) hr
    generalize t_w b L (t_word b L 0 8) r = r1 at *
    unfold t_mkr at h
    have c4 : k = 4 ∨ k = 5 → post (r_pr iv b L pl (t_ns b L false (t_w b L (t_nm b L) r1))) b → w96_L135 post k (r_pr iv b L pl (t_w b L (t_nm b L) r1)) b := by
      intro _ h
      exact r_numbers (cm := false) hL h37 (t_wl hr1) h
    refine ⟨fun k0 => ?_, fun k0 => ?_⟩
    · rw [if_neg k0] at h
      refine ⟨fun k1 => ?_, fun k1 => ?_⟩
      · rw [if_neg k1] at h
        refine ⟨fun k2 => ?_, fun k2 => ?_⟩
        · rw [if_neg k2] at h
          refine r_name hL h37 hr1 ⟨fun k4 => ?_, fun k4 => ⟨fun k5 => ⟨fun k6 => ?_, fun k6 => ?_⟩, fun k5 => ?_⟩⟩
          · rw [if_pos (Or.inl k4)] at h
            exact c4 (Or.inl k4) h
          · rw [if_neg (fun q => q.elim k4 k5), if_neg k6] at h
            exact h
          · rw [if_neg (fun q => q.elim k4 k5), if_pos k6] at h
            exact r_name hL h37 (t_wl hr1) h
          · rw [if_pos (Or.inr k5)] at h
            exact c4 (Or.inr k5) h
        · rw [if_pos k2] at h
          exact r_number hL h37 hr1 (r_number hL h37 (t_wl hr1) h)
      · rw [if_pos k1] at h
        exact r_number hL h37 hr1 (r_edges hL h37 (t_wl hr1) h)
    · rw [if_pos k0] at h
      have fld : ∀ y : Int32, (y = if t_fld b L r1.2 = true then 1 else 0) → w96_L74 post k y (r_pr iv b L pl r1) b := by
        intro y hy
        exact r_want (p := t_fld b L) hL h37 hr1 (fun _ => hy) (r_number hL h37 (t_wl hr1) (r_numbers (cm := true) hL h37 (t_wl (t_wl hr1)) h))
      rw [r_prk 38 rfl, r_prj, r_pre, nI_1]
      have hj := t_jl (b := b) hr1
      have he := t_el (b := b) hr1
      refine ⟨fun q => fld 1 ?_, fun q => ⟨fun q2 => fld 0 ?_, fun q2 => ⟨fun q3 => fld 0 ?_, fun q3 => ?_⟩⟩⟩
      · unfold t_fld
        rw [decide_eq_true q]; rfl
      · unfold t_fld
        rw [decide_eq_false q, decide_eq_false q2]; rfl
      · unfold t_fld
        have : ¬ t_e b L r1.2 = t_j b L r1.2 + 1 := fun q4 => q3 (by rw [q4])
        rw [decide_eq_false q, decide_eq_false this, Bool.and_false]; rfl
      · have hjL := (t_kn q2).1
        have q4 : t_e b L r1.2 = t_j b L r1.2 + 1 := (nI_eq (by omega) (by omega)).1 q3
        rw [nI_clamp (by omega)]
        refine ⟨b_in (by omega) (by omega), fun q5 => fld 0 ?_, fun q5 => fld 1 ?_⟩
        · unfold t_fld
          rw [decide_eq_false q, decide_eq_false q5, Bool.and_false]; rfl
        · unfold t_fld
          rw [decide_eq_false q, decide_eq_true q2, decide_eq_true q4, decide_eq_true q5]; rfl
  refine ⟨fun q => key 0 (fun _ => ?_), fun q => key 1 (fun _ => ?_)⟩
  · unfold t_word
    rw [hk, decide_eq_true q]; rfl
  · unfold t_word
    rw [hk, decide_eq_false q]; rfl
theorem r_isScript {post : Int32 → (Nat → Int32) → (Nat → Int32) → Prop} (hL : L ≤ 16384) (h37 : iv 37 = nI L) (hp : iv 42 = pl) (h : post (if (t_scr b L (L + 1) 0 0).1 = true then 1 else 0) (r_pr iv b L pl (t_scr b L (L + 1) 0 0)) b) : w97_wp post iv b := by
  unfold w97_wp
  refine r_next (i := 0) hL (by exact h37) rfl (Nat.zero_le _) ⟨L + 2, ?_⟩
  have e0 : r_tk (va_up (va_up iv 41 0) 40 0) (t_k b L 0) (nI (t_j b L 0)) (nI (t_e b L 0)) = r_pr iv b L pl (true, 0) := by
    rw [r_prT rfl, ← hp]
    funext x
    unfold r_tk r_ps va_up
    by_cases w1 : x = 38 <;> by_cases w2 : x = 39 <;> by_cases w3 : x = 40 <;> by_cases w4 : x = 41 <;> by_cases w5 : x = 42 <;> simp [w1, w2, w3, w4, w5]
  rw [e0]
  have fin : ∀ (x1 : Int32) (r : Bool × Nat), post (if r.1 = true then 1 else 0) (r_pr iv b L pl r) b → w97_L158 post x1 (r_pr iv b L pl r) b := by
    intro x1 r h
    cases hr : r.1 with
    | true =>
      rw [hr] at h
      rw [r_prT hr] at h ⊢
      exact ⟨fun q => absurd rfl q, fun _ => ⟨rfl, h⟩⟩
    | false =>
      rw [hr] at h
      rw [r_prF hr] at h ⊢
      exact ⟨fun _ => ⟨rfl, h⟩, fun q => t_10 q⟩
  have main : ∀ (u n i : Nat), i ≤ L → L - i ≤ u → n ≤ 400 → post (if (t_scr b L (u + 1) n i).1 = true then 1 else 0) (r_pr iv b L pl (t_scr b L (u + 1) n i)) b → w97_L16 post (u + 2) (nI n) (r_pr iv b L pl (true, i)) b := by
    intro u
    induction u with
    | zero =>
      intro n i hi hu hn h
      have hk : t_k b L i = 0 := if_pos (by have := t_jl (b := b) hi; omega)
      have e : t_scr b L 1 n i = (true, i) := by
        show (if _ then _ else _) = _
        rw [if_pos hk]
      rw [e] at h
      refine ⟨fun q => absurd rfl q, fun _ => ⟨fun _ => fin _ (true, i) h, fun q => ?_⟩⟩
      rw [r_prk 38 rfl] at q
      exact absurd hk q
    | succ u ih =>
      intro n i hi hu hn h
      refine ⟨fun q => absurd rfl q, fun _ => ⟨fun q => ?_, fun q => ?_⟩⟩
      · rw [r_prk 38 rfl] at q
        have e : t_scr b L (u + 1 + 1) n i = (true, i) := by
          show (if _ then _ else _) = _
          rw [if_pos q]
        rw [e] at h
        exact fin _ (true, i) h
      · rw [r_prk 38 rfl] at q
        have hadv : i < L := by
          have h1 := t_kj (i := i) q
          have h2 := t_jl (b := b) hi
          omega
        have e : t_scr b L (u + 1 + 1) n i = if n = 400 then (false, i) else if (t_st b L i).1 = true then t_scr b L (u + 1) (n + 1) (t_st b L i).2 else t_st b L i := by
          show (if _ then _ else _) = _
          rw [if_neg q]
        rw [e] at h
        -- behind a statement
        have semi : ∀ (r : Bool × Nat) (n : Nat), r.2 ≤ L → (∀ x, w97_L16 post (u + 2) x (r_pr iv b L pl (t_w b L (t_is b L 59) r)) b) → w97_L134 (w97_L16 post (u + 2)) post (nI n) (r_pr iv b L pl r) b := by
          intro r n hr h
          unfold w97_L134 w97_L149
          rw [r_prk 38 rfl]
          exact ⟨fun w => r_wantc hL h37 hr (t_isF w) (fun z e => h z), fun w => r_wantc hL h37 hr (t_isT w) (fun z e => h z)⟩
        have semi2 : ∀ (r : Bool × Nat), r.2 ≤ L → w97_L16 post (u + 2) (nI (n + 1)) (r_pr iv b L pl (t_w b L (t_is b L 59) r)) b → w97_L134 (w97_L16 post (u + 2)) post (nI n) (r_pr iv b L pl r) b := by
          intro r hr h
          unfold w97_L134 w97_L149
          rw [r_prk 38 rfl]
          refine ⟨fun w => r_wantc hL h37 hr (t_isF w) (fun z e => ?_), fun w => r_wantc hL h37 hr (t_isT w) (fun z e => ?_)⟩
          · rw [e, nI_1]; exact h
          · rw [e, nI_1]; exact h
        have refd : ∀ (x : Int32) (r : Bool × Nat), r.1 = false → post 0 (r_pr iv b L pl r) b → w97_L16 post (u + 2) x (r_pr iv b L pl r) b := by
          intro x r hr h
          refine ⟨fun _ => fin _ r (by rw [hr]; exact h), fun q => ?_⟩
          rw [r_prF hr] at q
          exact t_10 q
        refine ⟨fun q4 => ?_, fun q4 => ?_⟩
        · have hn4 : ¬ n = 400 := fun w => q4 (by rw [w]; rfl)
          rw [if_neg hn4] at h
          have nextS : w97_L16 post (u + 2) (nI (n + 1)) (r_pr iv b L pl (t_st b L i)) b := by
            cases hst : (t_st b L i).1 with
            | true =>
              rw [if_pos hst] at h
              have hadv2 : i < (t_st b L i).2 := t_stadv hi hst
              have := ih (n + 1) (t_st b L i).2 (t_stl hi) (by omega) (by omega) h
              rw [show ((true, (t_st b L i).2) : Bool × Nat) = t_st b L i by rw [← hst]] at this
              exact this
            | false =>
              have e2 : (if (t_st b L i).1 = true then t_scr b L (u + 1) (n + 1) (t_st b L i).2 else t_st b L i) = t_st b L i := if_neg (by rw [hst]; decide)
              rw [e2, hst] at h
              exact refd _ _ hst h
          have est : t_st b L i = t_w b L (t_is b L 59) (if t_nm b L i = true then t_mkr b L (t_vb b L (t_w b L (t_is b L 61) (true, t_e b L i)).2 0 8) (t_w b L (t_word b L 0 8) (t_w b L (t_is b L 61) (true, t_e b L i))) else t_oth b L (t_vb b L i 8 13) (t_w b L (t_word b L 8 13) (true, i))) := rfl
          rw [est] at nextS
          refine r_isn (i := i) hL hi (r_prk 38 rfl) r_prj r_pre ⟨fun w => ?_, fun w => ?_⟩
          · have hnm : ¬ t_nm b L i = true := fun q => by rw [if_pos q] at w; exact absurd w (by decide)
            rw [if_neg hnm] at nextS
            refine r_wordOf (i := i) t_so10 hL hi (r_prk 38 rfl) r_prj r_pre ?_
            have hr0 : ((true, i) : Bool × Nat).2 ≤ L := hi
            generalize hk : t_vb b L i 8 13 = k at *
            have key : ∀ y : Int32, (y = if t_word b L 8 13 i = true then 1 else 0) → w97_L99 (w97_L16 post (u + 2)) post (nI n) k y (r_pr iv b L pl (true, i)) b := by
              intro y hy
              refine r_want (p := t_word b L 8 13) hL h37 hr0 (fun _ => hy) ?_
              have hr1 := t_wl (b := b) (p := t_word b L 8 13) hr0
              generalize t_w b L (t_word b L 8 13) (true, i) = r1 at *
              unfold t_oth at nextS
              refine r_name hL h37 hr1 ⟨fun k0 => ?_, fun k0 => ?_⟩
              · rw [if_neg k0] at nextS
                refine ⟨fun k8 => ?_, fun k8 => ⟨fun k11 => ?_, fun k11 => ?_⟩⟩
                · rw [if_pos (Or.inl k8)] at nextS
                  exact r_name hL h37 (t_wl hr1) (semi2 _ (t_wl (t_wl hr1)) nextS)
                · rw [if_neg (fun q => q.elim k8 k11)] at nextS
                  exact semi2 _ (t_wl hr1) nextS
                · rw [if_pos (Or.inr k11)] at nextS
                  exact r_name hL h37 (t_wl hr1) (semi2 _ (t_wl (t_wl hr1)) nextS)
              · rw [if_pos k0] at nextS
                exact r_numbers (cm := false) hL h37 (t_wl hr1) (semi2 _ (t_nsl (t_wl hr1)) nextS)
            refine ⟨fun q => key 0 ?_, fun q => key 1 ?_⟩
            · unfold t_word
              rw [hk, decide_eq_true q]; rfl
            · unfold t_word
              rw [hk, decide_eq_false q]; rfl
          · have hnm : t_nm b L i = true := by
              cases q : t_nm b L i
              · rw [q] at w; exact absurd rfl w
              · rfl
            rw [if_pos hnm] at nextS
            have he := (t_el (b := b) hi).2.1
            have hr0 : ((true, t_e b L i) : Bool × Nat).2 ≤ L := he
            have mk : w96_wp (fun v14 v15 => w97_L134 (w97_L16 post (u + 2)) post (nI n) v14 v15) (r_pr iv b L pl (t_w b L (t_is b L 61) (true, t_e b L i))) b :=
              r_maker hL h37 (t_wl hr0) (semi2 _ (t_mkrl (t_wl (t_wl hr0))) nextS)
            rw [r_prT (show ((true, i) : Bool × Nat).1 = true from rfl)]
            refine r_nextS hL h37 hi ?_
            rw [show r_ps iv b L (t_e b L i) 0 pl = r_pr iv b L pl (true, t_e b L i) from (r_prT (r := (true, t_e b L i)) rfl).symm, r_prk 38 rfl]
            exact ⟨fun w => r_wantc hL h37 hr0 (t_isF w) mk, fun w => r_wantc hL h37 hr0 (t_isT w) mk⟩
        · have hn4 : n = 400 := (nI_eq (by omega) (by omega)).1 (q4.trans (show (400 : Int32) = nI 400 from rfl))
          rw [if_pos hn4] at h
          have hr0 : ((true, i) : Bool × Nat).2 ≤ L := hi
          refine r_want (p := fun _ => false) hL h37 hr0 (fun _ => rfl) ?_
          have ew : t_w b L (fun _ => false) (true, i) = (false, i) := rfl
          rw [ew]
          refine semi (false, i) n hi (fun x => ?_)
          have ew2 : t_w b L (t_is b L 59) (false, i) = (false, i) := rfl
          rw [ew2]
          exact refd x _ rfl h
  exact main L 0 0 (Nat.zero_le _) (by omega) (by omega) h
end RSC
