/-! PURE, texts: the grammar; the reference's want, name, number, numbers, edges. (true, i): the token behind i is next; (false, i): it is wrong -/
def t_w (b : Nat → Int32) (L : Nat) (p : Nat → Bool) (r : Bool × Nat) : Bool × Nat := if r.1 = true then (if p r.2 = true then (true, t_e b L r.2) else (false, r.2)) else r
def t_is (b : Nat → Int32) (L : Nat) (c : Int32) (i : Nat) : Bool := decide (t_k b L i = c)
def t_lp (b : Nat → Int32) (L : Nat) (cm : Bool) : Nat → Nat → Nat
  | 0, i => i
  | u + 1, i => if (t_is b L 2 i || (cm && t_is b L 44 i)) = true then t_lp b L cm u (t_e b L i) else i
def t_ns (b : Nat → Int32) (L : Nat) (cm : Bool) (r : Bool × Nat) : Bool × Nat := t_w b L (t_is b L 125) (if (t_w b L (t_is b L 123) r).1 = true then (true, t_lp b L cm L (t_w b L (t_is b L 123) r).2) else t_w b L (t_is b L 123) r)
def t_ed (b : Nat → Int32) (L : Nat) : Nat → Nat → Bool × Nat
  | 0, i => (false, i)
  | u + 1, i => if t_is b L 2 i = true then (if t_is b L 2 (t_e b L i) = true then (if t_is b L 44 (t_e b L (t_e b L i)) = true then t_ed b L u (t_e b L (t_e b L (t_e b L i))) else (true, t_e b L (t_e b L i))) else (false, t_e b L i)) else (false, i)
def t_eds (b : Nat → Int32) (L : Nat) (r : Bool × Nat) : Bool × Nat := t_w b L (t_is b L 125) (if (t_w b L (t_is b L 123) r).1 = true ∧ t_is b L 2 (t_w b L (t_is b L 123) r).2 = true then t_ed b L (L + 1) (t_w b L (t_is b L 123) r).2 else t_w b L (t_is b L 123) r)
theorem t_10 {P : Prop} (h : (1 : Int32) = 0) : P := absurd h (by decide)
theorem t_wl {b : Nat → Int32} {L : Nat} {p : Nat → Bool} {r : Bool × Nat} (h : r.2 ≤ L) : (t_w b L p r).2 ≤ L := by
  unfold t_w
  split
  · split
    · exact (t_el h).2.1
    · exact h
  · exact h
theorem t_kj {b : Nat → Int32} {L i : Nat} (h : ¬ t_k b L i = 0) : t_j b L i < L := by
  by_cases q : L ≤ t_j b L i
  · exact absurd (if_pos q) h
  · omega
theorem t_isj {b : Nat → Int32} {L i : Nat} {c : Int32} (hi : i ≤ L) (hc : ¬ c = 0) (h : t_is b L c i = true) : i < t_e b L i ∧ t_e b L i ≤ L := by
  unfold t_is at h
  have h := of_decide_eq_true h
  have h1 := t_kj (b := b) (L := L) (i := i) (by rw [h]; exact hc)
  have h2 := t_el (b := b) hi
  have h3 := t_jl (b := b) hi
  have := h2.2.2 h1
  omega
theorem t_lpl {b : Nat → Int32} {L : Nat} {cm : Bool} : ∀ (u i : Nat), i ≤ L → t_lp b L cm u i ≤ L
  | 0, i, h => h
  | u + 1, i, h => by
    unfold t_lp
    split
    · exact t_lpl u _ (t_el h).2.1
    · exact h
theorem t_nsl {b : Nat → Int32} {L : Nat} {cm : Bool} {r : Bool × Nat} (h : r.2 ≤ L) : (t_ns b L cm r).2 ≤ L := by
  unfold t_ns
  have h1 := t_wl (b := b) (p := t_is b L 123) h
  apply t_wl
  split
  · exact t_lpl _ _ h1
  · exact h1
theorem t_edl {b : Nat → Int32} {L : Nat} : ∀ (u i : Nat), i ≤ L → (t_ed b L u i).2 ≤ L
  | 0, i, h => h
  | u + 1, i, h => by
    have h1 := (t_el (b := b) h).2.1
    have h2 := (t_el (b := b) h1).2.1
    have h3 := (t_el (b := b) h2).2.1
    unfold t_ed
    split
    · split
      · split
        · exact t_edl u _ h3
        · exact h2
      · exact h1
    · exact h
theorem t_edsl {b : Nat → Int32} {L : Nat} {r : Bool × Nat} (h : r.2 ≤ L) : (t_eds b L r).2 ≤ L := by
  unfold t_eds
  have h1 := t_wl (b := b) (p := t_is b L 123) h
  apply t_wl
  split
  · exact t_edl _ _ h1
  · exact h1
/-- the reference's ints while it reads -/
def r_ps (iv : Nat → Int32) (b : Nat → Int32) (L i : Nat) (rf pl : Int32) : Nat → Int32 := fun x => if x = 38 then t_k b L i else if x = 39 then nI (t_j b L i) else if x = 40 then nI (t_e b L i) else if x = 41 then rf else if x = 42 then pl else iv x
def r_pr (iv : Nat → Int32) (b : Nat → Int32) (L : Nat) (pl : Int32) (r : Bool × Nat) : Nat → Int32 := if r.1 = true then r_ps iv b L r.2 0 pl else r_ps iv b L r.2 1 (nI (t_j b L r.2))
theorem r_prT {iv b : Nat → Int32} {L : Nat} {pl : Int32} {r : Bool × Nat} (h : r.1 = true) : r_pr iv b L pl r = r_ps iv b L r.2 0 pl := if_pos h
theorem r_prF {iv b : Nat → Int32} {L : Nat} {pl : Int32} {r : Bool × Nat} (h : r.1 = false) : r_pr iv b L pl r = r_ps iv b L r.2 1 (nI (t_j b L r.2)) := if_neg (by rw [h]; decide)
section RGR
variable {L : Nat} {b : Nat → Int32} {iv : Nat → Int32} {pl : Int32} {r : Bool × Nat} {post : (Nat → Int32) → (Nat → Int32) → Prop}
theorem r_pstk {i : Nat} {rf : Int32} : r_tk (r_ps iv b L i rf pl) (t_k b L (t_e b L i)) (nI (t_j b L (t_e b L i))) (nI (t_e b L (t_e b L i))) = r_ps iv b L (t_e b L i) rf pl := by
  funext x
  unfold r_tk r_ps
  by_cases w1 : x = 38 <;> by_cases w2 : x = 39 <;> by_cases w3 : x = 40 <;> simp [w1, w2, w3]
theorem r_prk (x : Nat) (hx : x = 38) : (r_pr iv b L pl r) x = t_k b L r.2 := by
  subst hx
  unfold r_pr
  split <;> rfl
theorem r_pr37 : (r_pr iv b L pl r) 37 = iv 37 := by
  unfold r_pr
  split <;> rfl
theorem r_nextS {i : Nat} {rf : Int32} (hL : L ≤ 16384) (h37 : iv 37 = nI L) (hi : i ≤ L) (h : post (r_ps iv b L (t_e b L i) rf pl) b) : mnx_wp post (r_ps iv b L i rf pl) b := by
  refine r_next (i := t_e b L i) hL h37 rfl (t_el hi).2.1 ?_
  rw [r_pstk]
  exact h
theorem r_want {p : Nat → Bool} {bx : Int32} (hL : L ≤ 16384) (h37 : iv 37 = nI L) (hr : r.2 ≤ L) (hb : r.1 = true → bx = if p r.2 = true then 1 else 0) (h : post (r_pr iv b L pl (t_w b L p r)) b) : mwa_wp post bx (r_pr iv b L pl r) b := by
  cases hr1 : r.1 with
  | false =>
    have e : t_w b L p r = r := if_neg (by rw [hr1]; decide)
    rw [e] at h
    rw [r_prF hr1] at h ⊢
    refine ⟨fun _ => ⟨fun _ => h, fun q => t_10 q⟩, fun q => t_10 q⟩
  | true =>
    have hb := hb hr1
    rw [r_prT hr1]
    unfold t_w at h
    rw [if_pos hr1] at h
    cases hp : p r.2 with
    | true =>
      rw [if_pos hp, r_prT rfl] at h
      rw [if_pos hp] at hb
      rw [hb]
      refine ⟨fun q => absurd rfl q, fun _ => ⟨fun _ => ⟨fun q => absurd rfl q, fun _ => ?_⟩, fun q => absurd q (by decide)⟩⟩
      exact r_nextS hL h37 hr h
    | false =>
      rw [if_neg (by rw [hp]; decide), r_prF rfl] at h
      rw [if_neg (by rw [hp]; decide)] at hb
      rw [hb]
      refine ⟨fun q => absurd rfl q, fun _ => ⟨fun q => absurd rfl q, fun _ z e => ⟨fun _ => ?_, fun q => t_10 q⟩⟩⟩
      have e2 : va_up (va_up (r_ps iv b L r.2 0 pl) 41 1) 42 z = r_ps iv b L r.2 1 (nI (t_j b L r.2)) := by
        rw [e]
        funext x
        unfold va_up r_ps
        by_cases w1 : x = 38 <;> by_cases w2 : x = 39 <;> by_cases w3 : x = 40 <;> by_cases w4 : x = 41 <;> by_cases w5 : x = 42 <;> simp [w1, w2, w3, w4, w5]
      show post _ b
      rw [e2]
      exact h
theorem r_isn {P : Int32 → (Nat → Int32) → (Nat → Int32) → Prop} {jv : Nat → Int32} {i : Nat} (hL : L ≤ 16384) (hi : i ≤ L) (e1 : jv 38 = t_k b L i) (e2 : jv 39 = nI (t_j b L i)) (e3 : jv 40 = nI (t_e b L i)) (h : P (if t_nm b L i = true then 1 else 0) jv b) : min__wp P jv b := by
  unfold min__wp min__L39 min__L40
  rw [e1, e2, e3, nI_1]
  have hj := t_jl (b := b) hi
  have he := t_el (b := b) hi
  have no : t_nm b L i = false → narrow .boolean (.int 0) = .int 0 ∧ P 0 jv b := by
    intro q
    rw [q] at h
    exact ⟨rfl, h⟩
  refine ⟨fun w => no ?_, fun w => ⟨fun w2 => no ?_, fun w2 => ?_⟩⟩
  · unfold t_nm
    simp [w]
  · have : ¬ t_e b L i = t_j b L i + 1 := fun q => w2 (by rw [q])
    unfold t_nm
    simp [this]
  · have hjL := (t_kn w).1
    have e : t_e b L i = t_j b L i + 1 := (nI_eq (by omega) (by omega)).1 w2
    rw [nI_clamp (by omega)]
    refine ⟨b_in (by omega) (by omega), fun w3 => no ?_, fun w3 => ⟨rfl, ?_⟩⟩
    · unfold t_nm
      simp [w3]
    · have : t_nm b L i = true := by
        unfold t_nm
        simp [w, w3, e]
      rw [this] at h
      exact h
theorem r_prj : (r_pr iv b L pl r) 39 = nI (t_j b L r.2) := by
  unfold r_pr
  split <;> rfl
theorem r_pre : (r_pr iv b L pl r) 40 = nI (t_e b L r.2) := by
  unfold r_pr
  split <;> rfl
theorem r_name (hL : L ≤ 16384) (h37 : iv 37 = nI L) (hr : r.2 ≤ L) (h : post (r_pr iv b L pl (t_w b L (t_nm b L) r)) b) : mnm_wp post (r_pr iv b L pl r) b := by
  refine r_isn (i := r.2) hL hr (r_prk 38 rfl) r_prj r_pre ?_
  exact r_want (p := t_nm b L) hL h37 hr (fun _ => rfl) h
theorem r_wantc {c : Int32} {y : Int32} (hL : L ≤ 16384) (h37 : iv 37 = nI L) (hr : r.2 ≤ L) (hy : y = if t_is b L c r.2 = true then 1 else 0) (h : post (r_pr iv b L pl (t_w b L (t_is b L c) r)) b) : mwa_wp post y (r_pr iv b L pl r) b := r_want (p := t_is b L c) hL h37 hr (fun _ => hy) h
theorem t_isT {c : Int32} {i : Nat} (h : t_k b L i = c) : (1 : Int32) = if t_is b L c i = true then 1 else 0 := by
  unfold t_is
  rw [decide_eq_true h]; rfl
theorem t_isF {c : Int32} {i : Nat} (h : ¬ t_k b L i = c) : (0 : Int32) = if t_is b L c i = true then 1 else 0 := by
  unfold t_is
  rw [decide_eq_false h]; rfl
theorem r_number (hL : L ≤ 16384) (h37 : iv 37 = nI L) (hr : r.2 ≤ L) (h : post (r_pr iv b L pl (t_w b L (t_is b L 2) r)) b) : mnu_wp post (r_pr iv b L pl r) b := by
  unfold mnu_wp mnu_L14
  rw [r_prk 38 rfl]
  exact ⟨fun w => r_wantc hL h37 hr (t_isF w) h, fun w => r_wantc hL h37 hr (t_isT w) h⟩
theorem r_numbers {cm : Bool} (hL : L ≤ 16384) (h37 : iv 37 = nI L) (hr : r.2 ≤ L) (h : post (r_pr iv b L pl (t_ns b L cm r)) b) : mns_wp post (if cm = true then 1 else 0) (r_pr iv b L pl r) b := by
  have fin : ∀ r' : Bool × Nat, r'.2 ≤ L → post (r_pr iv b L pl (t_w b L (t_is b L 125) r')) b → mns_L53 post (if cm = true then 1 else 0) (r_pr iv b L pl r') b := by
    intro r' hr' h
    unfold mns_L53 mns_L68
    rw [r_prk 38 rfl]
    exact ⟨fun w => r_wantc hL h37 hr' (t_isF w) h, fun w => r_wantc hL h37 hr' (t_isT w) h⟩
  have main : ∀ (u i : Nat), i ≤ L → L - i ≤ u → post (r_pr iv b L pl (t_w b L (t_is b L 125) (true, t_lp b L cm u i))) b → mns_L18 post (u + 1) (if cm = true then 1 else 0) (r_ps iv b L i 0 pl) b := by
    intro u
    induction u with
    | zero =>
      intro i hi hu h
      have hk : t_k b L i = 0 := if_pos (by have := t_jl (b := b) hi; omega)
      have e38 : (r_ps iv b L i 0 pl) 38 = 0 := hk
      refine ⟨fun q => absurd rfl q, fun _ => ⟨fun q => absurd (e38.symm.trans q) (by decide), fun _ => ⟨fun _ => fin (true, i) hi h, fun _ => ⟨fun _ => fin (true, i) hi h, fun q => absurd (e38.symm.trans q) (by decide)⟩⟩⟩⟩
    | succ u ih =>
      intro i hi hu h
      have go : (t_is b L 2 i || (cm && t_is b L 44 i)) = true → mns_L46 (mns_L18 post (u + 1)) post (if cm = true then 1 else 0) (r_ps iv b L i 0 pl) b := by
        intro hg
        have e : t_lp b L cm (u + 1) i = t_lp b L cm u (t_e b L i) := by
          show (if _ then _ else _) = _
          rw [if_pos hg]
        rw [e] at h
        have hadv : i < t_e b L i ∧ t_e b L i ≤ L := by
          cases q : t_is b L 2 i with
          | true => exact t_isj hi (by decide) q
          | false =>
            rw [q, Bool.false_or] at hg
            have : t_is b L 44 i = true := by
              cases cm
              · exact absurd (show false = true from hg) (by decide)
              · exact hg
            exact t_isj hi (by decide) this
        exact r_nextS hL h37 hi (ih _ hadv.2 (by omega) h)
      have stop : (t_is b L 2 i || (cm && t_is b L 44 i)) = false → mns_L53 post (if cm = true then 1 else 0) (r_ps iv b L i 0 pl) b := by
        intro hg
        have e : t_lp b L cm (u + 1) i = i := by
          show (if _ then _ else _) = _
          rw [if_neg (by rw [hg]; decide)]
        rw [e] at h
        exact fin (true, i) hi h
      refine ⟨fun q => absurd rfl q, fun _ => ⟨fun q => go ?_, fun q => ⟨fun q2 => stop ?_, fun q2 => ⟨fun q3 => stop ?_, fun q3 => go ?_⟩⟩⟩⟩
      · unfold t_is
        rw [decide_eq_true (show t_k b L i = 2 from q)]; rfl
      · have : cm = false := by
          cases cm
          · rfl
          · exact absurd q2 (by decide)
        unfold t_is
        rw [decide_eq_false (show ¬ t_k b L i = 2 from q), this]; rfl
      · unfold t_is
        rw [decide_eq_false (show ¬ t_k b L i = 2 from q), decide_eq_false (show ¬ t_k b L i = 44 from q3), Bool.and_false]; rfl
      · have : cm = true := by
          cases cm
          · exact absurd rfl q2
          · rfl
        unfold t_is
        rw [decide_eq_false (show ¬ t_k b L i = 2 from q), decide_eq_true (show t_k b L i = 44 from q3), this]; rfl
  have h1 := t_wl (b := b) (p := t_is b L 123) hr
  have after : ∃ j, mns_L18 post j (if cm = true then 1 else 0) (r_pr iv b L pl (t_w b L (t_is b L 123) r)) b := by
    unfold t_ns at h
    generalize hr' : t_w b L (t_is b L 123) r = r' at *
    cases hr1 : r'.1 with
    | true =>
      rw [if_pos hr1] at h
      rw [r_prT hr1]
      exact ⟨L + 1, main L r'.2 h1 (by omega) h⟩
    | false =>
      rw [if_neg (by rw [hr1]; decide)] at h
      refine ⟨1, fun _ => fin r' h1 h, fun q => ?_⟩
      rw [r_prF hr1] at q
      exact t_10 q
  unfold mns_wp mns_L15
  rw [r_prk 38 rfl]
  exact ⟨fun w => r_wantc hL h37 hr (t_isF w) after, fun w => r_wantc hL h37 hr (t_isT w) after⟩
theorem r_edges (hL : L ≤ 16384) (h37 : iv 37 = nI L) (hr : r.2 ≤ L) (h : post (r_pr iv b L pl (t_eds b L r)) b) : med_wp post (r_pr iv b L pl r) b := by
  have fin : ∀ (x1 : Int32) (r' : Bool × Nat), r'.2 ≤ L → post (r_pr iv b L pl (t_w b L (t_is b L 125) r')) b → med_L91 post x1 (r_pr iv b L pl r') b := by
    intro x1 r' hr' h
    unfold med_L91 med_L106
    rw [r_prk 38 rfl]
    exact ⟨fun w => r_wantc hL h37 hr' (t_isF w) h, fun w => r_wantc hL h37 hr' (t_isT w) h⟩
  have stop : ∀ (r' : Bool × Nat) (k : Nat) (x1 : Int32), r'.2 ≤ L → post (r_pr iv b L pl (t_w b L (t_is b L 125) r')) b → med_L78 (med_L39 post (k + 1)) post x1 (r_pr iv b L pl r') b := by
    intro r' k x1 hr' h
    exact ⟨fun _ => ⟨fun _ => fin 0 r' hr' h, fun q => absurd rfl q⟩, fun q => absurd rfl q⟩
  have main : ∀ (u i : Nat), i ≤ L → L - i ≤ u → post (r_pr iv b L pl (t_w b L (t_is b L 125) (t_ed b L (u + 1) i))) b → med_L39 post (u + 2) 1 (r_pr iv b L pl (true, i)) b := by
    intro u
    induction u with
    | zero =>
      intro i hi hu h
      have hk : t_k b L i = 0 := if_pos (by have := t_jl (b := b) hi; omega)
      have n2 : t_is b L 2 i = false := by unfold t_is; rw [hk]; decide
      have e : t_ed b L 1 i = (false, i) := by
        show (if _ then _ else _) = _
        rw [if_neg (by rw [n2]; decide)]
      rw [e] at h
      have ew : t_w b L (t_is b L 2) (true, i) = (false, i) := by
        unfold t_w
        rw [if_pos rfl, if_neg (by show ¬ t_is b L 2 i = true; rw [n2]; decide)]
      refine ⟨fun q => absurd q (by decide), fun _ => ⟨fun q => absurd rfl q, fun _ => r_number hL h37 hi ?_⟩⟩
      rw [ew]
      refine r_number hL h37 hi ?_
      have ew2 : t_w b L (t_is b L 2) (false, i) = (false, i) := if_neg (show ¬ (false = true) by decide)
      rw [ew2]
      exact ⟨fun _ => stop (false, i) 0 _ hi h, fun q => t_10 q⟩
    | succ u ih =>
      intro i hi hu h
      refine ⟨fun q => absurd q (by decide), fun _ => ⟨fun q => absurd rfl q, fun _ => r_number hL h37 hi ?_⟩⟩
      unfold t_ed at h
      cases h2 : t_is b L 2 i with
      | false =>
        have ew : t_w b L (t_is b L 2) (true, i) = (false, i) := by
          unfold t_w
          rw [if_pos rfl, if_neg (by show ¬ t_is b L 2 i = true; rw [h2]; decide)]
        have ew2 : t_w b L (t_is b L 2) (false, i) = (false, i) := if_neg (show ¬ (false = true) by decide)
        rw [if_neg (by rw [h2]; decide)] at h
        rw [ew]
        refine r_number hL h37 hi ?_
        rw [ew2]
        exact ⟨fun _ => stop (false, i) (u + 1) _ hi h, fun q => t_10 q⟩
      | true =>
        obtain ⟨a1, a2⟩ := t_isj hi (by decide) h2
        have ew : t_w b L (t_is b L 2) (true, i) = (true, t_e b L i) := by
          unfold t_w
          rw [if_pos rfl, if_pos h2]
        rw [if_pos h2] at h
        rw [ew]
        refine r_number hL h37 a2 ?_
        cases h3 : t_is b L 2 (t_e b L i) with
        | false =>
          have ew2 : t_w b L (t_is b L 2) (true, t_e b L i) = (false, t_e b L i) := by
            unfold t_w
            rw [if_pos rfl, if_neg (by show ¬ t_is b L 2 (t_e b L i) = true; rw [h3]; decide)]
          rw [if_neg (by rw [h3]; decide)] at h
          rw [ew2]
          exact ⟨fun _ => stop (false, t_e b L i) (u + 1) _ a2 h, fun q => t_10 q⟩
        | true =>
          obtain ⟨a3, a4⟩ := t_isj a2 (by decide) h3
          have ew2 : t_w b L (t_is b L 2) (true, t_e b L i) = (true, t_e b L (t_e b L i)) := by
            unfold t_w
            rw [if_pos rfl, if_pos h3]
          rw [if_pos h3] at h
          rw [ew2]
          cases h4 : t_is b L 44 (t_e b L (t_e b L i)) with
          | false =>
            rw [if_neg (by rw [h4]; decide)] at h
            refine ⟨fun q => absurd rfl q, fun _ => ⟨fun _ => stop (true, t_e b L (t_e b L i)) (u + 1) _ a4 h, fun q => ?_⟩⟩
            have : t_is b L 44 (t_e b L (t_e b L i)) = true := decide_eq_true q
            rw [h4] at this
            exact absurd this (by decide)
          | true =>
            obtain ⟨a5, a6⟩ := t_isj a4 (by decide) h4
            rw [if_pos h4] at h
            refine ⟨fun q => absurd rfl q, fun _ => ⟨fun q => absurd (of_decide_eq_true h4) q, fun _ => ⟨fun q => absurd q (by decide), fun _ => ?_⟩⟩⟩
            exact r_nextS (i := t_e b L (t_e b L i)) hL h37 a4 (ih (t_e b L (t_e b L (t_e b L i))) a6 (by omega) h)
  have h1 := t_wl (b := b) (p := t_is b L 123) hr
  have after : (¬ (r_pr iv b L pl (t_w b L (t_is b L 123) r)) 41 = 0 → med_L37 post (r_pr iv b L pl (t_w b L (t_is b L 123) r)) b) ∧ ((r_pr iv b L pl (t_w b L (t_is b L 123) r)) 41 = 0 → (¬ (r_pr iv b L pl (t_w b L (t_is b L 123) r)) 38 = 2 → med_L37 post (r_pr iv b L pl (t_w b L (t_is b L 123) r)) b) ∧ ((r_pr iv b L pl (t_w b L (t_is b L 123) r)) 38 = 2 → med_L38 post 1 (r_pr iv b L pl (t_w b L (t_is b L 123) r)) b)) := by
    unfold t_eds at h
    generalize hr' : t_w b L (t_is b L 123) r = r' at *
    rw [r_prk 38 rfl]
    cases hr1 : r'.1 with
    | false =>
      rw [if_neg (fun q => by rw [hr1] at q; exact absurd q.1 (by decide))] at h
      refine ⟨fun _ => ⟨1, fun _ => fin 0 r' h1 h, fun q => absurd rfl q⟩, fun q => ?_⟩
      rw [r_prF hr1] at q
      exact t_10 q
    | true =>
      refine ⟨fun q => absurd (by rw [r_prT hr1]; rfl) q, fun _ => ⟨fun q => ?_, fun q => ?_⟩⟩
      · rw [if_neg (fun q2 => q (of_decide_eq_true q2.2))] at h
        exact ⟨1, fun _ => fin 0 r' h1 h, fun q => absurd rfl q⟩
      · have q2 : t_is b L 2 r'.2 = true := decide_eq_true q
        rw [if_pos ⟨hr1, q2⟩] at h
        have er : r' = (true, r'.2) := by rw [← hr1]
        have := main L r'.2 h1 (by omega) h
        rw [← er] at this
        exact ⟨L + 2, this⟩
  unfold med_wp med_L15
  rw [r_prk 38 rfl]
  exact ⟨fun w => r_wantc hL h37 hr (t_isF w) after, fun w => r_wantc hL h37 hr (t_isT w) after⟩
end RGR
