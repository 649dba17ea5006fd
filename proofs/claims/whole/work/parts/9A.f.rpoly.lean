/-! PURE, the reference: polynomial -/
/-- choices -/
def x_ch : Nat → Nat → Int64
  | _, 0 => 1
  | 0, _ + 1 => 0
  | n + 1, k + 1 => x_ch n (k + 1) + x_ch n k
theorem x_ch0 (n : Nat) : x_ch n 0 = 1 := by cases n <;> rfl
theorem x_chz : ∀ (n k : Nat), n < k → x_ch n k = 0
  | 0, 0, h => absurd h (Nat.lt_irrefl 0)
  | 0, k + 1, _ => rfl
  | n + 1, 0, h => absurd h (Nat.not_lt_zero _)
  | n + 1, k + 1, h => by
    show x_ch n (k + 1) + x_ch n k = 0
    rw [x_chz n (k + 1) (by omega), x_chz n k (by omega)]; rfl
/-- with its sign it is a coefficient of a power of x - 1 -/
theorem x_chc : ∀ (a i : Nat), i ≤ a → x_c Int64 a i = if (a - i) % 2 = 0 then x_ch a i else - x_ch a i
  | 0, i, h => by
    have : i = 0 := by omega
    subst this
    rfl
  | a + 1, 0, _ => by
    have ih := x_chc a 0 (Nat.zero_le _)
    show (0 : Int64) - x_c Int64 a 0 = _
    rw [ih, x_ch0, x_ch0]
    by_cases q : (a - 0) % 2 = 0
    · rw [if_pos q, if_neg (by omega)]; decide
    · rw [if_neg q, if_pos (by omega)]; decide
  | a + 1, i + 1, h => by
    have ih1 := x_chc a i (by omega)
    show x_c Int64 a i - x_c Int64 a (i + 1) = _
    have e : x_ch (a + 1) (i + 1) = x_ch a (i + 1) + x_ch a i := rfl
    rw [ih1, e, show a + 1 - (i + 1) = a - i by omega]
    by_cases hi : i + 1 ≤ a
    · have ih2 := x_chc a (i + 1) hi
      rw [ih2]
      by_cases q : (a - i) % 2 = 0
      · rw [if_pos q, if_pos q, if_neg (by omega)]; grind
      · rw [if_neg q, if_neg q, if_pos (by omega)]; grind
    · rw [x_cz a (i + 1) (by omega), x_chz a (i + 1) (by omega)]
      by_cases q : (a - i) % 2 = 0
      · rw [if_pos q, if_pos q]; grind
      · rw [if_neg q, if_neg q]; grind
theorem x_uLs {g : Nat → Int64} {i : Nat} {v : Int64} : vp_updL g i v i = v := by unfold vp_updL; exact if_pos rfl
theorem x_uLn {g : Nat → Int64} {i j : Nat} {v : Int64} (h : j ≠ i) : vp_updL g i v j = g j := by unfold vp_updL; exact if_neg h
section RPO
variable {ge gr gR go gs iv : Nat → Int32} {gc gh : Nat → Int64} {m n r : Nat} {b : Nat → Bool}
theorem r_poly {post : (Nat → Int32) → (Nat → Int32) → (Nat → Int32) → (Nat → Int32) → (Nat → Int32) → (Nat → Int64) → (Nat → Int64) → Prop} (hD : r_D ge gr gR m n r b) (hT : r_T go gs) (h : ∀ gc' gh', (∀ i j, i < 13 → j < 13 → gc' (13 * i + j) = x_T Int64 b n r i j) → post iv ge gr gR gs gc' gh') : w79_wp post (nI m) iv ge gr gR gs gc gh := by
  have hn := (r_Dn hD).1
  have hr := (r_Dn hD).2
  have hp := b_p12 hn
  have hp0 := Nat.two_pow_pos n
  have hm := hD.1
  have e13 : ∀ a c : Nat, (13 : Int32) * nI a + nI c = nI (13 * a + c) := by
    intro a c
    rw [show (13 : Int32) = nI 13 from rfl, pk_mul, nI_add]
  -- what the sets below k give
  generalize hX : (fun k i j => x_sm k (fun S => x_c Int64 (r - x_rk b S) i * x_c Int64 (x_n S - x_rk b S) j)) = X at *
  have eX0 : ∀ i j, X 0 i j = 0 := fun i j => by rw [← hX]; rfl
  have eX1 : ∀ k i j, X (k + 1) i j = X k i j + x_c Int64 (r - x_rk b k) i * x_c Int64 (x_n k - x_rk b k) j := fun k i j => by rw [← hX]; rfl
  have eXT : ∀ i j, X (2 ^ n) i j = x_T Int64 b n r i j := fun i j => by rw [← hX]; rfl
  have sets : ∀ (gh : Nat → Int64), (∀ a i, a < 13 → i < 13 → gh (13 * a + i) = x_ch a i) → ∀ (u k : Nat) (gc : Nat → Int64), k + u = 2 ^ n → (∀ i j, i < 13 → j < 13 → gc (13 * i + j) = X k i j) → w79_L108 post (u + 1) (nI m) (nI k) iv ge gr gR gs gc gh := by
    intro gh hgh u
    induction u with
    | zero =>
      intro k gc hk hx
      unfold w79_L108
      refine r_whole hD ⟨fun _ => ?_, fun w => absurd (nI_lt (show 2 ^ n - 1 < k by omega) (by omega)) w⟩
      rw [show k = 2 ^ n by omega] at hx
      exact h gc gh (fun i j hi hj => by rw [hx i j hi hj, eXT])
    | succ u ih =>
      intro k gc hk hx
      have hkl : k < 2 ^ n := by omega
      have hrk := x_rkr hD.2.2.2.1 k
      have hrn := x_rkn (b := b) k
      have hxn := x_nle k
      unfold w79_L108
      refine r_whole hD ⟨fun w => absurd w (nI_nlt (by omega) (by omega)), fun _ => ⟨b_in (by omega) (by omega), r_rank hD hkl (fun z10 e10 => ⟨b_in (by omega) (by omega), r_rank hD hkl (fun z13 e13' => ?_)⟩)⟩⟩
      rw [nI_clamp (by omega), hD.2.2.1, nI_subn hrk] at e10
      rw [nI_clamp (by omega), hT.2 k (by omega), nI_subn hrn] at e13'
      rw [e10, e13']
      generalize ha : r - x_rk b k = a at *
      generalize hc : x_n k - x_rk b k = c at *
      refine ⟨a + 2, ?_⟩
      -- rows i, columns j
      have rows : ∀ (v i : Nat) (gc : Nat → Int64), i + v = a + 1 → (∀ i' j', i' < 13 → j' < 13 → gc (13 * i' + j') = X k i' j' + (if i' < i then x_c Int64 a i' * x_c Int64 c j' else 0)) → w79_L149 (w79_L108 post (u + 1)) post (v + 1) (nI m) (nI k) (nI a) (nI c) (nI i) iv ge gr gR gs gc gh := by
        intro v
        induction v with
        | zero =>
          intro i gc hi hx
          refine ⟨fun _ z5 e5 => ?_, fun w => absurd (nI_lt (by omega) (by omega)) w⟩
          rw [e5, nI_1]
          refine ih (k + 1) gc (by omega) (fun i' j' hi' hj' => ?_)
          rw [hx i' j' hi' hj', eX1, ha, hc]
          by_cases q : i' < i
          · rw [if_pos q]
          · rw [if_neg q, x_cz a i' (by omega)]; grind
        | succ v ihv =>
          intro i gc hi hx
          refine ⟨fun w => absurd w (nI_nlt (by omega) (by omega)), fun _ => ⟨c + 2, ?_⟩⟩
          have cols : ∀ (w j : Nat) (gc : Nat → Int64), j + w = c + 1 → (∀ i' j', i' < 13 → j' < 13 → gc (13 * i' + j') = X k i' j' + (if i' < i ∨ (i' = i ∧ j' < j) then x_c Int64 a i' * x_c Int64 c j' else 0)) → w79_L158 (w79_L108 post (u + 1)) (w79_L149 (w79_L108 post (u + 1)) post (v + 1)) post (w + 1) (nI m) (nI k) (nI a) (nI c) (nI i) (nI j) iv ge gr gR gs gc gh := by
            intro w
            induction w with
            | zero =>
              intro j gc hj hx
              refine ⟨fun _ z3 e3 => ?_, fun w => absurd (nI_lt (by omega) (by omega)) w⟩
              rw [e3, nI_1]
              refine ihv (i + 1) gc (by omega) (fun i' j' hi' hj' => ?_)
              rw [hx i' j' hi' hj']
              by_cases q : i' < i
              · rw [if_pos (Or.inl q), if_pos (by omega)]
              · by_cases q2 : i' = i
                · rw [if_pos (show i' < i + 1 by omega)]
                  by_cases q3 : j' < j
                  · rw [if_pos (Or.inr ⟨q2, q3⟩)]
                  · rw [if_neg (by omega), x_cz c j' (by omega)]; grind
                · rw [if_neg (by omega), if_neg (by omega)]
            | succ w ihw =>
              intro j gc hj hx
              have hxx := hx i j (by omega) (by omega)
              rw [if_neg (by omega)] at hxx
              refine ⟨fun w => absurd w (nI_nlt (by omega) (by omega)), fun _ => ?_⟩
              rw [e13, e13, e13, nI_clamp (by omega), nI_clamp (by omega), nI_clamp (by omega), hgh a i (by omega) (by omega), hgh c j (by omega) (by omega), hxx]
              refine ⟨b_in (by omega) (by omega), b_in (by omega) (by omega), fun z4 e4 => ⟨b_in (by omega) (by omega), ?_⟩⟩
              have epar : nI a - nI i + nI c - nI j = nI (a - i + c - j) := by
                rw [nI_subn (by omega), nI_add, nI_subn (by omega)]
              rw [epar, show (2 : Int32) = nI 2 from rfl, pk_rem (by omega) (by decide) (by decide)]
              have go : ∀ y0 : Int64, y0 = x_c Int64 a i * x_c Int64 c j → w79_L230 (w79_L108 post (u + 1)) (w79_L149 (w79_L108 post (u + 1)) post (v + 1)) (w79_L158 (w79_L108 post (u + 1)) (w79_L149 (w79_L108 post (u + 1)) post (v + 1)) post (w + 1)) post (nI m) (nI k) (nI a) (nI c) (nI i) (nI j) z4 y0 (X k i j + 0) (nI (13 * i + j)) iv ge gr gR gs gc gh := by
                intro y0 ey0 z1 ez1
                refine ⟨b_in (by omega) (by omega), fun z2 ez2 => ?_⟩
                rw [ez2, nI_1, nI_clamp (by omega)]
                refine ihw (j + 1) _ (by omega) (fun i' j' hi' hj' => ?_)
                by_cases q : 13 * i' + j' = 13 * i + j
                · have q1 : i' = i := by omega
                  have q2 : j' = j := by omega
                  rw [q1, q2, x_uLs, ez1, ey0, if_pos (by omega)]
                  grind
                · rw [x_uLn q, hx i' j' hi' hj']
                  by_cases q2 : i' < i ∨ (i' = i ∧ j' < j)
                  · rw [if_pos q2, if_pos (by omega)]
                  · rw [if_neg q2, if_neg (by omega)]
              have c1 := x_chc a i (by omega)
              have c2 := x_chc c j (by omega)
              have hmod : (a - i + c - j) % 2 = ((a - i) % 2 + (c - j) % 2) % 2 := by omega
              refine ⟨fun w => go _ ?_, fun w => go _ ?_⟩
              · have hne : ¬ (a - i + c - j) % 2 = 0 := fun q => w (by rw [q]; rfl)
                rw [e4, c1, c2]
                by_cases q1 : (a - i) % 2 = 0
                · rw [if_pos q1, if_neg (by omega)]; grind
                · rw [if_neg q1, if_pos (by omega)]; grind
              · have hz : (a - i + c - j) % 2 = 0 := (nI_eq (by omega) (by omega)).1 (w.trans (show (0 : Int32) = nI 0 from rfl))
                rw [e4, c1, c2]
                by_cases q1 : (a - i) % 2 = 0
                · rw [if_pos q1, if_pos (by omega)]
                · rw [if_neg q1, if_neg (by omega)]; grind
          refine cols (c + 1) 0 gc (by omega) (fun i' j' hi' hj' => ?_)
          rw [hx i' j' hi' hj']
          by_cases q : i' < i
          · rw [if_pos q, if_pos (Or.inl q)]
          · rw [if_neg q, if_neg (by omega)]
      refine rows (a + 1) 0 gc (by omega) (fun i' j' hi' hj' => ?_)
      rw [hx i' j' hi' hj', if_neg (Nat.not_lt_zero _)]
      grind
  -- Pascal's triangle
  have tri : ∀ (gc : Nat → Int64), (∀ p, p < 169 → gc p = 0) → ∀ (u a : Nat) (gh : Nat → Int64), a + u = 13 → (∀ a' i, a' < a → i < 13 → gh (13 * a' + i) = x_ch a' i) → w79_L24 post (u + 1) (nI m) (nI a) iv ge gr gR gs gc gh := by
    intro gc hgc u
    induction u with
    | zero =>
      intro a gh ha hx
      refine ⟨fun _ => ⟨2 ^ n + 1, ?_⟩, fun w => absurd (nI_le (a := 13) (b := a) (by omega) (by omega)) w⟩
      exact sets gh (fun a' i ha' hi => hx a' i (by omega) hi) (2 ^ n) 0 gc (by omega) (fun i j hi hj => by rw [hgc _ (by omega), eX0])
    | succ u ih =>
      intro a gh ha hx
      refine ⟨fun w => absurd w (nI_ge (a := a) (b := 13) (by omega) (by omega)), fun _ => ⟨14, ?_⟩⟩
      have row : ∀ (v i : Nat) (gh : Nat → Int64), i + v = 13 → (∀ a' i', a' < a → i' < 13 → gh (13 * a' + i') = x_ch a' i') → (∀ i', i' < i → gh (13 * a + i') = x_ch a i') → w79_L32 (w79_L24 post (u + 1)) post (v + 1) (nI m) (nI a) (nI i) iv ge gr gR gs gc gh := by
        intro v
        induction v with
        | zero =>
          intro i gh hi hx hy
          refine ⟨fun _ z e => ?_, fun w => absurd (nI_le (a := 13) (b := i) (by omega) (by omega)) w⟩
          rw [e, nI_1]
          refine ih (a + 1) gh (by omega) (fun a' i' ha' hi' => ?_)
          by_cases q : a' = a
          · rw [q]; exact hy i' (by omega)
          · exact hx a' i' (by omega) hi'
        | succ v ihv =>
          intro i gh hi hx hy
          have put : ∀ y0 : Int64, y0 = x_ch a i → w79_L93 (w79_L24 post (u + 1)) (w79_L32 (w79_L24 post (u + 1)) post (v + 1)) post (nI m) (nI a) (nI i) y0 (nI (13 * a + i)) iv ge gr gR gs gc gh := by
            intro y0 ey
            refine ⟨b_in (by omega) (by omega), fun z e => ?_⟩
            rw [e, nI_1, nI_clamp (by omega)]
            refine ihv (i + 1) _ (by omega) (fun a' i' ha' hi' => by rw [x_uLn (by omega)]; exact hx a' i' ha' hi') (fun i' hi' => ?_)
            by_cases q : i' = i
            · rw [q, x_uLs, ey]
            · rw [x_uLn (by omega)]; exact hy i' (by omega)
          refine ⟨fun w => absurd w (nI_ge (a := i) (b := 13) (by omega) (by omega)), fun _ => ⟨fun wi => ⟨fun wa => ?_, fun wa => ?_⟩, fun wi => ?_⟩⟩
          · have hi0 : i ≠ 0 := fun q => wi (by rw [q]; rfl)
            have ha0 : a ≠ 0 := fun q => wa (by rw [q]; rfl)
            obtain ⟨i', rfl⟩ : ∃ i', i = i' + 1 := ⟨i - 1, by omega⟩
            obtain ⟨a', rfl⟩ : ∃ a', a = a' + 1 := ⟨a - 1, by omega⟩
            have e1 : nI (a' + 1) - 1 = nI a' := by rw [← nI_1]; exact Int32.add_sub_cancel _ _
            have e2 : nI (13 * a' + (i' + 1)) - 1 = nI (13 * a' + i') := by
              rw [show 13 * a' + (i' + 1) = (13 * a' + i') + 1 by omega, ← nI_1]; exact Int32.add_sub_cancel _ _
            rw [e1, e13, e2, e13, nI_clamp (by omega), nI_clamp (by omega), hx a' (i' + 1) (by omega) (by omega), hx a' i' (by omega) (by omega)]
            exact ⟨b_in (by omega) (by omega), b_in (by omega) (by omega), put _ rfl⟩
          · have ha0 : a = 0 := (nI_eq (by omega) (by omega)).1 (wa.trans (show (0 : Int32) = nI 0 from rfl))
            have hi0 : i ≠ 0 := fun q => wi (by rw [q]; rfl)
            rw [e13]
            refine put 0 ?_
            rw [ha0, x_chz 0 i (by omega)]
          · have hi0 : i = 0 := (nI_eq (by omega) (by omega)).1 (wi.trans (show (0 : Int32) = nI 0 from rfl))
            rw [e13]
            refine put 1 ?_
            rw [hi0, x_ch0]
      exact row 13 0 gh rfl hx (fun i' hi' => absurd hi' (Nat.not_lt_zero i'))
  -- cleared
  have clear : ∀ (u p : Nat) (gc : Nat → Int64), p + u = 169 → (∀ q, q < p → gc q = 0) → w79_L2 post (u + 1) (nI m) (nI p) iv ge gr gR gs gc gh := by
    intro u
    induction u with
    | zero =>
      intro p gc hp' hx
      refine ⟨fun _ => ⟨14, tri gc (fun q hq => hx q (by omega)) 13 0 gh rfl (fun a' i ha' => absurd ha' (Nat.not_lt_zero a'))⟩, fun w => absurd (nI_le (a := 169) (b := p) (by omega) (by omega)) w⟩
    | succ u ih =>
      intro p gc hp' hx
      refine ⟨fun w => absurd w (nI_ge (a := p) (b := 169) (by omega) (by omega)), fun _ => ⟨b_in (by omega) (by omega), fun z ez => ?_⟩⟩
      rw [ez, nI_1, nI_clamp (by omega)]
      refine ih (p + 1) _ (by omega) (fun q hq => ?_)
      by_cases w : q = p
      · rw [w, x_uLs]
      · rw [x_uLn w]; exact hx q (by omega)
  exact ⟨170, clear 169 0 gc rfl (fun q hq => absurd hq (Nat.not_lt_zero q))⟩
end RPO
