/-! PURE, the class: layGraph, layUniform -/
theorem b_ij {n i e a x : Nat} (he : e < n) (hx : x < n) : i * n + e = a * n + x ↔ i = a ∧ e = x := by
  constructor
  · intro h
    have h1 : (i * n + e) % n = e := by rw [Nat.mul_comm, Nat.mul_add_mod, Nat.mod_eq_of_lt he]
    have h2 : (a * n + x) % n = x := by rw [Nat.mul_comm, Nat.mul_add_mod, Nat.mod_eq_of_lt hx]
    have h3 : e = x := by rw [← h1, h, h2]
    refine ⟨?_, h3⟩
    have h4 : i * n = a * n := by omega
    exact Nat.eq_of_mul_eq_mul_right (by omega) h4
  · intro ⟨h1, h2⟩; rw [h1, h2]
theorem b_il {n i e V : Nat} (hi : i < V) (he : e < n) : i * n + e < V * n := by
  have : (i + 1) * n ≤ V * n := Nat.mul_le_mul_right n (by omega)
  rw [Nat.add_mul] at this
  omega
theorem b_oI : Int32.ofInt (-1) = -1 ∧ Int32.ofInt 0 = 0 ∧ Int32.ofInt 1 = 1 := ⟨rfl, rfl, rfl⟩
section CLY
variable {sv : Nat} {sg sf s2 sd sh sx sm sr se d1 d2 d3 d4 : Int32} {d5 : Option Nat} {ge gn : Nat → Int32}
theorem c_layGraph {post : Int32 → Int32 → Int32 → Int32 → Option Nat → (Nat → Int32) → Nat → Int32 → Int32 → Int32 → Int32 → Int32 → Int32 → Int32 → Int32 → Int32 → (Nat → Int32) → Prop} {n V : Nat} {vs : List Int32} (hn : n ≤ 12) (hV : V ≤ 13) (hlen : vs.length = 2 * n) (hg : ∀ j x, j < 160 → vs[j]? = some x → gn j = x) (hw : t_wi vs (nI V) = true)
    (h : ∀ g', (∀ i, i < V → ∀ e, e < n → g' (i * n + e) = Int32.ofInt (x_grA n vs i e)) → post d1 d2 d3 d4 d5 g' sv sg sf s2 sd sh sx sm sr se gn) : w253_wp post (nI n) (nI V) d1 d2 d3 d4 d5 ge sv sg sf s2 sd sh sx sm sr se gn := by
  have hVn : n * V ≤ 156 := Nat.mul_le_mul hn hV
  have hget : ∀ j, j < vs.length → ∃ c, c < V ∧ vs.getD j 0 = nI c ∧ gn j = nI c := fun j hj => by
    unfold t_wi at hw
    have h1 := of_decide_eq_true hw j hj
    obtain ⟨c, hc, e⟩ := nI_of h1.1
    refine ⟨c, ?_, e, ?_⟩
    · have h2 := h1.2
      rw [e] at h2
      exact (nI_ltI hc (by omega)).1 h2
    · rw [← e]
      refine hg j _ (by omega) ?_
      rw [List.getD_eq_getElem?_getD, List.getElem?_eq_getElem hj]; rfl
  have main : ∀ (u x : Nat) (g : Nat → Int32), x + u = n → (∀ i, i < V → ∀ e, e < n → g (i * n + e) = if e < x then Int32.ofInt (x_grA n vs i e) else 0) → w253_L14 post (u + 1) (nI n) (nI x) d1 d2 d3 d4 d5 g sv sg sf s2 sd sh sx sm sr se gn := by
    intro u
    induction u with
    | zero =>
      intro x g hx hI
      have : x = n := by omega
      subst this
      refine ⟨fun _ => h g (fun i hi e he => by rw [hI i hi e he, if_pos he]), fun w => absurd (nI_le (Nat.le_refl x) (by omega)) w⟩
    | succ u ih =>
      intro x g hx hI
      have hxn : x < n := by omega
      obtain ⟨a, a1, a2, a3⟩ := hget (2 * x) (by omega)
      obtain ⟨c, c1, c2, c3⟩ := hget (2 * x + 1) (by omega)
      have e2 : (2 : Int32) * nI x = nI (2 * x) := by rw [show (2 : Int32) = nI 2 from rfl, pk_mul]
      unfold w253_L14
      rw [e2, nI_1, nI_clamp (show 2 * x < 2 ^ 31 by omega), nI_clamp (show 2 * x + 1 < 2 ^ 31 by omega)]
      refine ⟨fun w => absurd w (nI_ge (by omega) (by omega)), fun _ => ⟨b_in (by omega) (by omega), fun z2 ez2 => ⟨b_in (by omega) (by omega), fun z3 ez3 => ?_⟩⟩⟩
      rw [a3] at ez2
      rw [c3] at ez3
      rw [ez2, ez3, pk_mul, pk_mul, nI_add, nI_add]
      have l1 := b_il (V := V) a1 hxn
      have l2 := b_il (V := V) c1 hxn
      rw [Nat.mul_comm V n] at l1 l2
      have hG : ∀ i, i < V → x_grA n vs i x = if a = c then 0 else if a = i then -1 else if c = i then 1 else 0 := fun i hi => by
        unfold x_grA
        rw [if_pos hxn, a2, c2]
        have q1 : nI a = nI c ↔ a = c := nI_eq (by omega) (by omega)
        have q2 : nI a = nI i ↔ a = i := nI_eq (by omega) (by omega)
        have q3 : nI c = nI i ↔ c = i := nI_eq (by omega) (by omega)
        simp only [q1, q2, q3]
      refine ⟨fun w z e => ?_, fun w => ⟨b_in (by omega) (by omega), b_in (by omega) (by omega), fun z ez => ?_⟩⟩
      · have w : a = c := (nI_eq (by omega) (by omega)).1 w
        rw [e, nI_1]
        refine ih (x + 1) g (by omega) (fun i hi e he => ?_)
        rw [hI i hi e he]
        by_cases q : e = x
        · rw [q, if_neg (Nat.lt_irrefl x), if_pos (Nat.lt_succ_self x), hG i hi, if_pos w]; exact b_oI.2.1.symm
        · by_cases q2 : e < x
          · rw [if_pos q2, if_pos (by omega)]
          · rw [if_neg q2, if_neg (by omega)]
      · have w : a ≠ c := fun q => w (by rw [q])
        rw [ez, nI_1]
        clear ez
        refine ih (x + 1) _ (by omega) (fun i hi e he => ?_)
        rw [nI_clamp (show a * n + x < 2 ^ 31 by omega), nI_clamp (show c * n + x < 2 ^ 31 by omega)]
        by_cases q : e = x
        · subst q
          rw [if_pos (Nat.lt_succ_self e), hG i hi, if_neg w]
          by_cases r1 : c = i
          · subst r1
            rw [if_neg w, if_pos rfl, pk_us]; exact b_oI.2.2.symm
          · rw [pk_un (fun z => r1 ((b_ij he he).1 z).1.symm)]
            by_cases r2 : a = i
            · subst r2
              rw [if_pos rfl, pk_us]; exact b_oI.1.symm
            · rw [pk_un (fun z => r2 ((b_ij he he).1 z).1.symm), if_neg r2, if_neg r1, hI i hi e he, if_neg (Nat.lt_irrefl e)]; exact b_oI.2.1.symm
        · rw [pk_un (fun z => q ((b_ij he hxn).1 z).2), pk_un (fun z => q ((b_ij he hxn).1 z).2), hI i hi e he]
          by_cases q2 : e < x
          · rw [if_pos q2, if_pos (by omega)]
          · rw [if_neg q2, if_neg (by omega)]
  unfold w253_wp
  rw [pk_mul]
  refine b_fillIr (m := n * V) (by omega) (by omega) (fun f hf _ => ⟨n + 1, main n 0 f (by omega) (fun i hi e he => ?_)⟩)
  rw [if_neg (Nat.not_lt_zero e)]
  have := b_il (V := V) hi he
  rw [Nat.mul_comm V n] at this
  exact hf _ this
theorem x_binl : ∀ e k, x_bin e k ≤ 2 ^ e
  | 0, 0 => Nat.le_refl _
  | 0, k + 1 => Nat.zero_le _
  | e + 1, 0 => by show 1 ≤ 2 ^ (e + 1); exact Nat.one_le_two_pow
  | e + 1, k + 1 => by
    show x_bin e k + x_bin e (k + 1) ≤ 2 ^ (e + 1)
    have h1 := x_binl e k
    have h2 := x_binl e (k + 1)
    rw [Nat.pow_succ]; omega
theorem x_bin0 (e : Nat) : x_bin e 0 = 1 := by cases e <;> rfl
theorem c_layUniform {post : Int32 → Int32 → Int32 → Int32 → Option Nat → (Nat → Int32) → Prop} {n r : Nat} (hn : n ≤ 12) (hr : r ≤ n)
    (h : ∀ g', (∀ i, i < r → ∀ e, e < n → g' (i * n + e) = Int32.ofInt (x_biA n i e)) → post d1 d2 d3 d4 d5 g') : w255_wp post (nI r) (nI n) d1 d2 d3 d4 d5 ge := by
  have hrn : r * n ≤ 144 := Nat.mul_le_mul (show r ≤ 12 by omega) hn
  have key : ∀ (u k : Nat) (g : Nat → Int32), k + u = r → (∀ i, i < k → ∀ e, e < n → g (i * n + e) = nI (x_bin e i)) → w255_L2 post (u + 1) (nI r) (nI n) (nI k) d1 d2 d3 d4 d5 g := by
    intro u
    induction u with
    | zero =>
      intro k g hk hI
      have : k = r := by omega
      subst this
      refine ⟨fun _ => h g (fun i hi e he => ?_), fun w => absurd (nI_le (Nat.le_refl k) (by omega)) w⟩
      rw [hI i hi e he]
      unfold x_biA
      rw [if_pos he]; rfl
    | succ u ih =>
      intro k g hk hI
      have row : ∀ (v x : Nat) (g : Nat → Int32), x + v = n → (∀ i, i < k → ∀ e, e < n → g (i * n + e) = nI (x_bin e i)) → (∀ e, e < x → g (k * n + e) = nI (x_bin e k)) → w255_L10 (w255_L2 post (u + 1)) post (v + 1) (nI r) (nI n) (nI k) (nI x) d1 d2 d3 d4 d5 g := by
        intro v
        induction v with
        | zero =>
          intro x g hx hI hJ
          have : x = n := by omega
          subst this
          refine ⟨fun _ z e => ?_, fun w => absurd (nI_le (Nat.le_refl x) (by omega)) w⟩
          rw [e, nI_1]
          refine ih (k + 1) g (by omega) (fun i hi e he => ?_)
          by_cases q : i = k
          · rw [q]; exact hJ e he
          · exact hI i (by omega) e he
        | succ v ihv =>
          intro x g hx hI hJ
          have hxn : x < n := by omega
          have l1 := b_il (V := r) (show k < r by omega) hxn
          have put : ∀ (y : Int32), y = nI (x_bin x k) → w255_L10 (w255_L2 post (u + 1)) post (v + 1) (nI r) (nI n) (nI k) (nI (x + 1)) d1 d2 d3 d4 d5 (upd g (k * n + x) y) := fun y hy => by
            refine ihv (x + 1) _ (by omega) (fun i hi e he => ?_) (fun e he => ?_)
            · rw [pk_un (fun z => by have := ((b_ij he hxn).1 z).1; omega)]; exact hI i hi e he
            · by_cases q : e = x
              · rw [q, pk_us]; exact hy
              · rw [pk_un (fun z => by omega)]; exact hJ e (by omega)
          unfold w255_L10 w255_L75 w255_L76
          refine ⟨fun w => absurd w (nI_ge (by omega) (by omega)), fun _ z ez => ?_⟩
          rw [pk_mul, nI_add] at ez
          rw [ez, nI_clamp (show k * n + x < 2 ^ 31 by omega)]
          refine ⟨fun w => ⟨fun w2 => ?_, fun w2 => ⟨b_in (by omega) (by omega), fun z e => ?_⟩⟩, fun w => ⟨b_in (by omega) (by omega), fun z e => ?_⟩⟩
          · have hk0 : k ≠ 0 := fun q => w (by rw [q]; rfl)
            have hx0 : x ≠ 0 := fun q => w2 (by rw [q]; rfl)
            obtain ⟨k', rfl⟩ : ∃ k', k = k' + 1 := ⟨k - 1, by omega⟩
            obtain ⟨x', rfl⟩ : ∃ x', x = x' + 1 := ⟨x - 1, by omega⟩
            have e0 : (k' + 1) * n = k' * n + n := Nat.succ_mul k' n
            have e1 : nI ((k' + 1) * n + (x' + 1)) - 1 = nI ((k' + 1) * n + x') := by rw [show (1 : Int32) = nI 1 from rfl, nI_subn (by omega)]; congr 1
            have e2 : nI ((k' + 1) * n + (x' + 1)) - nI n - 1 = nI (k' * n + x') := by
              rw [nI_subn (by omega), show (1 : Int32) = nI 1 from rfl, nI_subn (by omega)]
              congr 1; omega
            rw [e1, e2, nI_clamp (show (k' + 1) * n + x' < 2 ^ 31 by omega), nI_clamp (show k' * n + x' < 2 ^ 31 by omega)]
            refine ⟨b_in (by omega) (by omega), b_in (by omega) (by omega), b_in (by omega) (by omega), fun z e => ?_⟩
            rw [e, nI_1]
            refine put _ ?_
            rw [hJ x' (by omega), hI k' (by omega) x' (by omega), nI_add, Nat.add_comm]; rfl
          · rw [e, nI_1]
            have hk0 : k ≠ 0 := fun q => w (by rw [q]; rfl)
            have hx0 : x = 0 := (nI_eq (b := 0) (by omega) (by decide)).1 w2
            refine put _ ?_
            rw [hx0]
            obtain ⟨k', rfl⟩ : ∃ k', k = k' + 1 := ⟨k - 1, by omega⟩
            rfl
          · rw [e, nI_1]
            have hk0 : k = 0 := (nI_eq (b := 0) (by omega) (by decide)).1 w
            refine put _ ?_
            rw [hk0, x_bin0]; rfl
      refine ⟨fun w => absurd w (nI_ge (by omega) (by omega)), fun _ => ⟨n + 1, row n 0 g (by omega) hI (fun e he => absurd he (Nat.not_lt_zero e))⟩⟩
  exact ⟨r + 1, key r 0 ge (by omega) (fun i hi => absurd hi (Nat.not_lt_zero i))⟩
end CLY
