/-! PURE, the reference's matrix: reduce -/
/-- the first K rows cleared in column c by row r -/
def x_elk (p n : Nat) (M : Nat → Nat → Int) (r c K i : Nat) : Nat → Int := if i < K ∧ i ≠ r ∧ M i c ≠ 0 then x_tk p n (M i) (M r) c else M i
section RRE
variable {nv : Nat → px_NV} {iv gs gp : Nat → Int32} {p n R : Nat} {M : Nat → Nat → Int}
theorem r_Xm {r : Nat} (h : r_X p n R gs nv M) (hr : r ≤ R) : r_X p n r gs nv M := ⟨h.1, fun i hi j hj => h.2 i (by omega) j hj⟩
theorem r_Xc {M' : Nat → Nat → Int} (h : r_X p n R gs nv M) (e : ∀ i, i < R → ∀ j, j < n → M i j = M' i j) : r_X p n R gs nv M' := ⟨h.1, fun i hi j hj => by rw [← e i hi j hj]; exact h.2 i hi j hj⟩
theorem r_elim {K4 : Int32 → Int32 → (Nat → Int32) → (Nat → Int32) → (Nat → Int32) → (Nat → px_NV) → Prop} {post : (Nat → Int32) → (Nat → Int32) → (Nat → Int32) → (Nat → px_NV) → Prop} {r c : Nat} {x3 : Int32} (hp : p = 0 ∨ (1 < p ∧ p < 256)) (hiv : iv 12 = nI p) (hiv1 : iv 11 = nI n) (hiv0 : iv 10 = nI R) (hR : R ≤ 13) (hn : n ≤ 12) (hr : r < R) (hc : c < n) (hb : p = 0 → ∀ i, i < R → ∀ j, j < n → (M i j).natAbs < 65536 ^ 79) (hex : p ≠ 0 → ∃ b, b < p ∧ (M r c).toNat * b % p = 1)
    (h : ∀ gs' nv', r_X p n R gs' nv' (x_elk p n M r c R) → K4 (nI (r + 1)) (nI (c + 1)) iv gs' (upd gp r (nI c)) nv') : ∀ (u k : Nat) (gs1 : Nat → Int32) (nv1 : Nat → px_NV), k + u = R → r_X p n R gs1 nv1 (x_elk p n M r c k) → w55_L57 K4 post (u + 1) (nI r) (nI c) x3 (nI k) iv gs1 gp nv1 := by
  have hp256 : p < 256 := by
    rcases hp with q | q
    · rw [q]; decide
    · exact q.2
  intro u
  induction u with
  | zero =>
    intro k gs1 nv1 hk hX
    have : k = R := by omega
    subst this
    refine ⟨fun _ => ⟨b_in (by omega) (by omega), fun z9 e9 z7 e7 => ?_⟩, fun w => absurd (by rw [hiv0]; exact nI_le (Nat.le_refl k) (by omega)) w⟩
    rw [e9, e7, nI_1, nI_1, nI_clamp (by omega)]
    exact h gs1 nv1 hX
  | succ u ih =>
    intro k gs1 nv1 hk hX
    have ek : x_elk p n M r c k k = M k := by unfold x_elk; rw [if_neg (by omega)]
    have er : x_elk p n M r c k r = M r := by unfold x_elk; rw [if_neg (fun z => z.2.1 rfl)]
    have same : ¬ (k ≠ r ∧ M k c ≠ 0) → x_elk p n M r c (k + 1) = x_elk p n M r c k := by
      intro q
      funext i
      unfold x_elk
      by_cases w : i = k
      · subst w; rw [if_neg (fun z => q z.2), if_neg (fun z => q z.2)]
      · have : (i < k + 1 ∧ i ≠ r ∧ M i c ≠ 0) ↔ (i < k ∧ i ≠ r ∧ M i c ≠ 0) := by
          constructor
          · intro z; exact ⟨by omega, z.2⟩
          · intro z; exact ⟨by omega, z.2⟩
        simp only [this]
    unfold w55_L57 w55_L90
    refine ⟨fun w => absurd w (by rw [hiv0]; exact nI_ge (by omega) (by omega)), fun _ => ⟨fun w z8 e8 => ?_, fun w => ?_⟩⟩
    · have q : k = r := (nI_eq (by omega) (by omega)).1 w
      rw [e8, nI_1]
      exact ih (k + 1) gs1 nv1 (by omega) (by rw [same (fun z => z.1 q)]; exact hX)
    · have q : k ≠ r := fun q => w (by rw [q])
      refine r_isZero hX hp256 hiv hR hn (by omega) hc ⟨fun w z8 e8 => ?_, fun w => ?_⟩
      · rw [ek] at w
        have q0 : M k c = 0 := Classical.byContradiction (fun z => w (if_neg z))
        rw [e8, nI_1]
        exact ih (k + 1) gs1 nv1 (by omega) (by rw [same (fun z => z.2 q0)]; exact hX)
      · rw [ek] at w
        have q0 : M k c ≠ 0 := fun z => by rw [if_pos z] at w; exact t_10 w
        refine r_take hX hp hiv hiv1 hR hn (show k < R by omega) hr q hc (fun e => ?_) (fun e => ?_) (fun gs2 nv2 hX2 z8 e8 => ?_)
        · rw [ek, er]; exact ⟨hb e k (by omega), hb e r hr⟩
        · rw [er]; exact hex e
        · rw [e8, nI_1]
          refine ih (k + 1) gs2 nv2 (by omega) ?_
          have : x_setr (x_elk p n M r c k) k (x_tk p n (x_elk p n M r c k k) (x_elk p n M r c k r) c) = x_elk p n M r c (k + 1) := by
            rw [ek, er]
            funext i
            unfold x_setr
            by_cases w : i = k
            · subst w
              rw [if_pos rfl]
              unfold x_elk; rw [if_pos ⟨by omega, q, q0⟩]
            · rw [if_neg w]
              unfold x_elk
              have : (i < k + 1 ∧ i ≠ r ∧ M i c ≠ 0) ↔ (i < k ∧ i ≠ r ∧ M i c ≠ 0) := by
                constructor
                · intro z; exact ⟨by omega, z.2⟩
                · intro z; exact ⟨by omega, z.2⟩
              simp only [this]
          rw [this] at hX2
          exact hX2
/-- the rows settled -/
def x_all2 (p n r : Nat) (piv : Nat → Nat) (M : Nat → Nat → Int) (i : Nat) : Nat → Int := if i < r then x_stl2 p n (M i) (piv i) else M i
theorem r_settles {post : (Nat → Int32) → (Nat → Int32) → (Nat → Int32) → (Nat → px_NV) → Prop} {r : Nat} {piv : Nat → Nat} {x1 : Int32} (hp : p = 0 ∨ (1 < p ∧ p < 256)) (hiv : iv 12 = nI p) (hiv1 : iv 11 = nI n) (hiv0 : iv 10 = nI r) (hr : r ≤ 13) (hn : n ≤ 12) (hpv : ∀ i, i < r → piv i < n ∧ gp i = nI (piv i)) (hb : p = 0 → ∀ i, i < r → ∀ j, j < n → (M i j).natAbs < 65536 ^ 79) (hex : p ≠ 0 → ∀ i, i < r → ∃ b, b < p ∧ (M i (piv i)).toNat * b % p = 1)
    (h : ∀ gs' nv', r_X p n r gs' nv' (x_all2 p n r piv M) → post iv gs' gp nv') : ∀ (u k : Nat) (gs1 : Nat → Int32) (nv1 : Nat → px_NV), k + u = r → r_X p n r gs1 nv1 (x_all2 p n k piv M) → w55_L119 post (u + 1) x1 (nI k) iv gs1 gp nv1 := by
  intro u
  induction u with
  | zero =>
    intro k gs1 nv1 hk hX
    have : k = r := by omega
    subst this
    exact ⟨fun _ => h gs1 nv1 hX, fun w => absurd (by rw [hiv0]; exact nI_le (Nat.le_refl k) (by omega)) w⟩
  | succ u ih =>
    intro k gs1 nv1 hk hX
    have ek : x_all2 p n k piv M k = M k := by unfold x_all2; rw [if_neg (by omega)]
    have h79 : (65536 : Nat) ^ 79 ≤ 65536 ^ 159 := Nat.pow_le_pow_right (by decide) (by decide)
    refine ⟨fun w => absurd w (by rw [hiv0]; exact nI_ge (by omega) (by omega)), fun _ => ?_⟩
    refine r_settle (c := piv k) hX hp hiv hiv1 hr hn (by omega) (hpv k (by omega)).1 (hpv k (by omega)).2 (fun e j hj => ?_) (fun e => ?_) (fun gs2 nv2 hX2 z ez => ?_)
    · rw [ek]; exact Nat.lt_of_lt_of_le (hb e k (by omega) j hj) h79
    · rw [ek]; exact hex e k (by omega)
    · rw [ez, nI_1]
      refine ih (k + 1) gs2 nv2 (by omega) ?_
      have : x_setr (x_all2 p n k piv M) k (x_stl2 p n (x_all2 p n k piv M k) (piv k)) = x_all2 p n (k + 1) piv M := by
        rw [ek]
        funext i
        unfold x_setr x_all2
        by_cases w : i = k
        · subst w; rw [if_pos rfl, if_pos (by omega)]
        · rw [if_neg w]
          have : i < k + 1 ↔ i < k := by omega
          simp only [this]
      rw [this] at hX2
      exact hX2
/-- reduce, with whatever its steps keep -/
theorem r_reduce {post : (Nat → Int32) → (Nat → Int32) → (Nat → Int32) → (Nat → px_NV) → Prop} {Inv : Nat → Nat → (Nat → Nat) → (Nat → Nat → Int) → Prop} {piv0 : Nat → Nat} (hp : p = 0 ∨ (1 < p ∧ p < 256)) (hiv : iv 12 = nI p) (hiv1 : iv 11 = nI n) (hiv0 : iv 10 = nI R) (hR : R ≤ 13) (hn : n ≤ 12) (hX : r_X p n R gs nv M) (h0 : Inv 0 0 piv0 M)
    (hex : p ≠ 0 → ∀ a, 0 < a → a < p → ∃ b, b < p ∧ a * b % p = 1)
    (hok : ∀ r c piv M, Inv r c piv M → r ≤ R ∧ (p = 0 → ∀ i, i < R → ∀ j, j < n → (M i j).natAbs < 65536 ^ 79) ∧ ∀ i, i < r → piv i < n ∧ M i (piv i) ≠ 0)
    (hskip : ∀ r c piv M, Inv r c piv M → c < n → (∀ i, r ≤ i → i < R → M i c = 0) → Inv r (c + 1) piv M)
    (hstep : ∀ r c piv M i, Inv r c piv M → c < n → r ≤ i → i < R → M i c ≠ 0 → (∀ i', r ≤ i' → i' < i → M i' c = 0) → Inv (r + 1) (c + 1) (fun x => if x = r then c else piv x) (x_elk p n (x_swr M i r) r c R))
    (h : ∀ r piv M gs' gp' nv', Inv r n piv M → r_X p n r gs' nv' (x_all2 p n r piv M) → (∀ i, i < r → gp' i = nI (piv i)) → post (va_up iv 10 (nI r)) gs' gp' nv') : w55_wp post iv gs gp nv := by
  have main : ∀ (u c r : Nat) (piv : Nat → Nat) (M : Nat → Nat → Int) (gs gp : Nat → Int32) (nv : Nat → px_NV), c + u = n → Inv r c piv M → r_X p n R gs nv M → (∀ i, i < r → gp i = nI (piv i)) → w55_L4 post (u + 1) (nI r) (nI c) iv gs gp nv := by
    intro u
    induction u with
    | zero =>
      intro c r piv M gs gp nv hc hI hX hg
      have : c = n := by omega
      subst this
      obtain ⟨o1, o2, o3⟩ := hok _ _ _ _ hI
      refine ⟨fun _ => ⟨r + 1, ?_⟩, fun w => absurd (by rw [hiv1]; exact nI_le (Nat.le_refl c) (by omega)) w⟩
      have hXr := r_Xm hX o1
      refine r_settles (M := M) (piv := piv) hp (by rw [va_up_ne _ _ (by decide)]; exact hiv) (by rw [va_up_ne _ _ (by decide)]; exact hiv1) (va_up_self _ _ _) (by omega) hn (fun i hi => ⟨(o3 i hi).1, hg i hi⟩) (fun e i hi => o2 e i (by omega)) (fun e i hi => ?_) (fun gs' nv' hX' => h r piv M gs' gp nv' hI hX' hg) r 0 gs nv (by omega) (r_Xc hXr (fun i hi j hj => by unfold x_all2; rw [if_neg (by omega)]))
      obtain ⟨a1, a2, a3⟩ := r_XP hXr e hi (o3 i hi).1
      exact hex e _ (by have := (o3 i hi).2; omega) (by omega)
    | succ u ih =>
      intro c r piv M gs gp nv hc hI hX hg
      obtain ⟨o1, o2, o3⟩ := hok _ _ _ _ hI
      refine ⟨fun w => absurd w (by rw [hiv1]; exact nI_ge (by omega) (by omega)), fun _ => ⟨R - r + 1, ?_⟩⟩
      have find : ∀ (v i : Nat), i + v = R → r ≤ i → (∀ i', r ≤ i' → i' < i → M i' c = 0) → w55_L14 (w55_L4 post (u + 1)) post (v + 1) (nI r) (nI c) (nI i) iv gs gp nv := by
        intro v
        induction v with
        | zero =>
          intro i hi hri hz
          have : i = R := by omega
          subst this
          unfold w55_L14 w55_L37 w55_L106
          refine ⟨fun _ => ⟨fun w => absurd hiv0.symm w, fun _ z7 e7 => ?_⟩, fun w => absurd (by rw [hiv0]; exact nI_le (Nat.le_refl i) (by omega)) w⟩
          rw [e7, nI_1]
          exact ih (c + 1) r piv M gs gp nv (by omega) (hskip _ _ _ _ hI (by omega) hz) hX hg
        | succ v ihv =>
          intro i hi hri hz
          unfold w55_L14 w55_L37
          refine ⟨fun w => absurd w (by rw [hiv0]; exact nI_ge (by omega) (by omega)), fun _ => ?_⟩
          refine r_isZero hX (by omega) hiv hR hn (by omega) (by omega) ⟨fun w => ⟨fun _ => ?_, fun w' => absurd (by rw [hiv0] at w'; exact (nI_eq (by omega) (by omega)).1 w') (by omega)⟩, fun w z ez => ?_⟩
          · have q0 : M i c ≠ 0 := fun z => by rw [if_pos z] at w; exact t_10 w
            have hI' := hstep _ _ _ _ i hI (by omega) hri (by omega) q0 hz
            refine r_swapX hX hiv1 hR hn (by omega) (by omega) (fun gs2 nv2 hX2 => ⟨R + 1, ?_⟩)
            have sr : x_swr M i r r = M i := by
              unfold x_swr
              by_cases q : r = i
              · rw [if_pos q]; rw [q]
              · rw [if_neg q, if_pos rfl]
            refine r_elim (M := x_swr M i r) hp hiv hiv1 hiv0 hR hn (by omega) (by omega) (fun e i' hi' j hj => ?_) (fun e => ?_) (fun gs3 nv3 hX3 => ?_) R 0 gs2 nv2 (by omega) (r_Xc hX2 (fun i' hi' j hj => by unfold x_elk; rw [if_neg (fun z => Nat.not_lt_zero _ z.1)]))
            · unfold x_swr
              split
              · exact o2 e r (by omega) j hj
              · split
                · exact o2 e i (by omega) j hj
                · exact o2 e i' hi' j hj
            · rw [sr]
              obtain ⟨a1, a2, a3⟩ := r_XP hX e (show i < R by omega) (show c < n by omega)
              exact hex e _ (by omega) (by omega)
            · refine ih (c + 1) (r + 1) _ _ gs3 _ nv3 (by omega) hI' hX3 (fun i' hi' => ?_)
              by_cases q : i' = r
              · subst q; rw [pk_us, if_pos rfl]
              · rw [pk_un q, if_neg q]; exact hg i' (by omega)
          · have q0 : M i c = 0 := Classical.byContradiction (fun z => w (if_neg z))
            rw [ez, nI_1]
            refine ihv (i + 1) (by omega) (by omega) (fun i' h1 h2 => ?_)
            by_cases q : i' = i
            · subst q; exact q0
            · exact hz i' h1 (by omega)
      exact find (R - r) r (by omega) (Nat.le_refl r) (fun i' h1 h2 => by omega)
  exact ⟨n + 1, main n 0 0 piv0 M gs gp nv (by omega) h0 hX (fun i hi => absurd hi (Nat.not_lt_zero i))⟩
end RRE
