/-! PURE: the reference's numbers. k digits of base 65536, the lowest first; what the predicates of Num's methods come to -/
/-- the value of the k lowest digits -/
def pn_v (f : Nat → Int32) : Nat → Nat
  | 0 => 0
  | k + 1 => pn_v f k + (f k).toNatClampNeg * 65536 ^ k
/-- the k lowest places hold digits -/
def pn_d (f : Nat → Int32) (k : Nat) : Prop := ∀ j, j < k → ∃ d : Nat, d < 65536 ∧ f j = nI d
/-- a number: at most 160 digits, the highest is not 0, a sign only where it is not 0 -/
def pn_ok (n m : Int32) (f : Nat → Int32) : Prop := ∃ k : Nat, k ≤ 160 ∧ n = nI k ∧ pn_d f k ∧ (k = 0 ∨ ¬ f (k - 1) = 0) ∧ (m = 0 ∨ m = 1) ∧ (k = 0 → m = 0)
theorem pn_bool {m : Int32} (h : m = 0 ∨ m = 1) : narrow .boolean (.int m) = .int m ∧ fits .boolean (.int m) = true := by
  rcases h with rfl | rfl
  · exact ⟨by decide +kernel, by decide +kernel⟩
  · exact ⟨by decide +kernel, by decide +kernel⟩
/-- trim: down to the highest digit that is not 0 -/
theorem pn_trim {post : Int32 → Int32 → (Nat → Int32) → Prop} {f : Nat → Int32} {m : Int32} (hm : m = 0 ∨ m = 1) : ∀ (k : Nat), k ≤ 160 → (∀ k', k' ≤ k → (k' = 0 ∨ ¬ f (k' - 1) = 0) → (∀ j, k' ≤ j → j < k → f j = 0) → post (nI k') (if k' = 0 then 0 else m) f) → nt_L0 post (k + 1) (nI k) m f := by
  have fin : ∀ k, k ≤ 160 → post (nI k) (if k = 0 then 0 else m) f → nt_L34 post (nI k) m f := by
    intro k hk h
    unfold nt_L34 nt_L53 nt_L54
    refine ⟨fun h0 => ⟨pn_bool (Or.inl rfl), ?_⟩, fun h0 => ⟨fun h1 => ⟨pn_bool (Or.inl rfl), ?_⟩, fun h1 => ⟨pn_bool (Or.inr rfl), ?_⟩⟩⟩
    · by_cases hz : k = 0
      · rw [if_pos hz] at h; exact h
      · rw [if_neg hz, h0] at h; exact h
    · by_cases hz : k = 0
      · rw [if_pos hz] at h; exact h
      · exact absurd h1 (nI_nle (by omega) (by omega))
    · by_cases hz : k = 0
      · exact absurd (by rw [hz, nI_0]; exact Int32.le_refl 0) h1
      · rw [if_neg hz] at h
        rcases hm with rfl | rfl
        · exact absurd rfl h0
        · exact h
  intro k
  induction k with
  | zero =>
    intro hk h
    unfold nt_L0
    refine ⟨fun _ => fin 0 (by omega) (h 0 (Nat.le_refl 0) (Or.inl rfl) (fun j h1 h2 => by omega)), fun h1 => absurd (by rw [nI_0]; exact Int32.le_refl 0) h1⟩
  | succ k ih =>
    intro hk h
    unfold nt_L0
    refine ⟨fun h1 => absurd h1 (nI_nle (by omega) (by omega)), fun _ => ?_⟩
    rw [nI_pred, nI_clamp (show k < 2 ^ 31 by omega)]
    refine ⟨vp_in_nI (by omega) (by decide), fun hne => fin (k + 1) hk (h (k + 1) (Nat.le_refl _) (Or.inr hne) (fun j h1 h2 => by omega)), fun he z1 hz => ?_⟩
    rw [hz]
    refine ih (by omega) (fun k' h1 h2 h3 => h k' (by omega) h2 (fun j h4 h5 => ?_))
    by_cases hj : j = k
    · rw [hj]; exact he
    · exact h3 j h4 (by omega)
/-- copy: place after place -/
theorem pn_copyL {post : Int32 → Int32 → (Nat → Int32) → Int32 → Int32 → (Nat → Int32) → Prop} {m1 : Int32} {f1 : Nat → Int32} {k : Nat} (hk : k ≤ 160) : ∀ (r j : Nat) (f0 : Nat → Int32), j + r = k → (∀ i, i < j → f0 i = f1 i) → (∀ g : Nat → Int32, (∀ i, i < k → g i = f1 i) → post (nI k) m1 g (nI k) m1 f1) → ncp_L18 post (r + 1) (nI j) (nI k) m1 f0 (nI k) m1 f1 := by
  intro r
  induction r with
  | zero =>
    intro j f0 hj h0 h
    unfold ncp_L18
    refine ⟨fun _ => h f0 (fun i hi => h0 i (by omega)), fun h1 => absurd (nI_le (show k ≤ j by omega) (by omega)) h1⟩
  | succ r ih =>
    intro j f0 hj h0 h
    unfold ncp_L18
    refine ⟨fun h1 => absurd h1 (nI_ge (by omega) (by omega)), fun _ => ?_⟩
    rw [nI_clamp (show j < 2 ^ 31 by omega)]
    refine ⟨vp_in_nI (by omega) (by decide), fun z1 e1 => ⟨vp_in_nI (by omega) (by decide), fun z2 e2 => ?_⟩⟩
    rw [e2, nI_1]
    refine ih (j + 1) _ (by omega) (fun i hi => ?_) h
    unfold upd
    by_cases hij : i = j
    · rw [if_pos hij, e1, hij]
    · rw [if_neg hij]; exact h0 i (by omega)
theorem pn_copy {post : Int32 → Int32 → (Nat → Int32) → Int32 → Int32 → (Nat → Int32) → Prop} {n0 m0 m1 : Int32} {f0 f1 : Nat → Int32} {k : Nat} (hk : k ≤ 160) (hm : m1 = 0 ∨ m1 = 1) (h : ∀ g : Nat → Int32, (∀ i, i < k → g i = f1 i) → post (nI k) m1 g (nI k) m1 f1) : ncp_wp post n0 m0 f0 (nI k) m1 f1 := by
  unfold ncp_wp
  refine ⟨pn_bool hm, k + 1, ?_⟩
  have := pn_copyL hk k 0 f0 (by omega) (fun i hi => by omega) h
  rw [nI_0] at this
  exact this

