/-! PURE, the class: Minors: load; kept rows are kept again -/
theorem x_gkn {p n : Nat} {R : Nat → Nat → Int} (hn : n ≤ 12) : ∀ i j, j < (x_gk p n R i).1 → ∃ T, T < 2 ^ n ∧ x_n T = j + 1 ∧ x_md p (x_W (x_gk p n R i).2 (j + 1) T) ≠ 0
  | 0, j, hj => absurd hj (Nat.not_lt_zero j)
  | i + 1, j, hj => by
    by_cases q : x_gad p n (R i) (x_gk p n R i) = true
    · have e : x_gk p n R (i + 1) = ((x_gk p n R i).1 + 1, fun j => if j = (x_gk p n R i).1 then R i else (x_gk p n R i).2 j) := if_pos q
      have e1 : (x_gk p n R (i + 1)).1 = (x_gk p n R i).1 + 1 := by rw [e]
      have e2 : (x_gk p n R (i + 1)).2 = fun j => if j = (x_gk p n R i).1 then R i else (x_gk p n R i).2 j := by rw [e]
      rw [e1] at hj
      rw [e2]
      by_cases z : j = (x_gk p n R i).1
      · obtain ⟨T, t1, t2, t3⟩ := (x_gadi p n (R i) _).1 q
        refine ⟨T, t1, by rw [z]; exact t2, ?_⟩
        have e3 := x_zas (p := p) (h := (x_gk p n R i).1) hn (x_gk p n R i).2 (R i) T
        rw [show x_zn p n (x_gk p n R i).1 (R i) (x_za p n (x_gk p n R i).2 (x_gk p n R i).1) T = x_md p (x_w (R i) (x_za p n (x_gk p n R i).2 (x_gk p n R i).1) T) from if_pos ⟨t1, t2⟩] at e3
        rw [e3, show x_za p n (fun j => if j = (x_gk p n R i).1 then R i else (x_gk p n R i).2 j) ((x_gk p n R i).1 + 1) T = x_md p (x_W (fun j => if j = (x_gk p n R i).1 then R i else (x_gk p n R i).2 j) (x_n T) T) from if_pos ⟨t1, by omega⟩, t2] at t3
        rw [z]; exact t3
      · obtain ⟨T, t1, t2, t3⟩ := x_gkn (p := p) (R := R) hn i j (by omega)
        refine ⟨T, t1, t2, ?_⟩
        have e3 : x_W (fun j => if j = (x_gk p n R i).1 then R i else (x_gk p n R i).2 j) (j + 1) = x_W (x_gk p n R i).2 (j + 1) := by
          unfold x_W
          rw [x_rlc (j + 1) (fun i hi => if_neg (by omega))]
        rw [e3]; exact t3
    · have e : x_gk p n R (i + 1) = x_gk p n R i := if_neg q
      rw [e] at hj ⊢
      exact x_gkn hn i j hj
/-- rows of which each adds something are all kept -/
theorem x_gkk {p n : Nat} {K : Nat → Nat → Int} {m : Nat} (hn : n ≤ 12) (h : ∀ j, j < m → ∃ T, T < 2 ^ n ∧ x_n T = j + 1 ∧ x_md p (x_W K (j + 1) T) ≠ 0) : ∀ i, i ≤ m → (x_gk p n K i).1 = i ∧ ∀ j, j < i → (x_gk p n K i).2 j = K j
  | 0, _ => ⟨rfl, fun j hj => absurd hj (Nat.not_lt_zero j)⟩
  | i + 1, hi => by
    obtain ⟨h1, h2⟩ := x_gkk hn h i (by omega)
    obtain ⟨T, t1, t2, t3⟩ := h i (by omega)
    have q : x_gad p n (K i) (x_gk p n K i) = true := by
      refine (x_gadi p n (K i) _).2 ⟨T, t1, by rw [h1]; exact t2, ?_⟩
      have e3 := x_zas (p := p) (h := (x_gk p n K i).1) hn (x_gk p n K i).2 (K i) T
      rw [show x_zn p n (x_gk p n K i).1 (K i) (x_za p n (x_gk p n K i).2 (x_gk p n K i).1) T = x_md p (x_w (K i) (x_za p n (x_gk p n K i).2 (x_gk p n K i).1) T) from if_pos ⟨t1, by rw [h1]; exact t2⟩, show x_za p n (fun j => if j = (x_gk p n K i).1 then K i else (x_gk p n K i).2 j) ((x_gk p n K i).1 + 1) T = x_md p (x_W (fun j => if j = (x_gk p n K i).1 then K i else (x_gk p n K i).2 j) (x_n T) T) from if_pos ⟨t1, by omega⟩, t2] at e3
      have e4 : x_W (fun j => if j = (x_gk p n K i).1 then K i else (x_gk p n K i).2 j) (i + 1) = x_W K (i + 1) := by
        unfold x_W
        rw [x_rlc (i + 1) (fun j hj => ?_)]
        show (if j = (x_gk p n K i).1 then K i else (x_gk p n K i).2 j) = K j
        by_cases z : j = (x_gk p n K i).1
        · rw [if_pos z, z, h1]
        · rw [if_neg z]; exact h2 j (by omega)
      rw [e3, e4]; exact t3
    have e : x_gk p n K (i + 1) = ((x_gk p n K i).1 + 1, fun j => if j = (x_gk p n K i).1 then K i else (x_gk p n K i).2 j) := if_pos q
    refine ⟨by rw [e]; show (x_gk p n K i).1 + 1 = i + 1; rw [h1], fun j hj => ?_⟩
    rw [e]
    show (if j = (x_gk p n K i).1 then K i else (x_gk p n K i).2 j) = K j
    by_cases z : j = (x_gk p n K i).1
    · rw [if_pos z, z, h1]
    · rw [if_neg z]; exact h2 j (by omega)
theorem x_zac {p n h : Nat} {k k' : Nat → Nat → Int} (e : ∀ i, i < h → k i = k' i) (T : Nat) : x_za p n k h T = x_za p n k' h T := by
  unfold x_za
  by_cases q : T < 2 ^ n ∧ x_n T ≤ h
  · rw [if_pos q, if_pos q]
    unfold x_W
    rw [x_rlc (x_n T) (fun i hi => e i (by omega))]
  · rw [if_neg q, if_neg q]
section CML
variable {q_l q_m q_h l q_o l_o : Nat} {m_field m_size m_height : Int32} {m_loaded : Option Nat} {g_l g_m g_h : Nat → Int64} {g_o g_t g_r : Nat → Int32} {o_r : Int32} {n_r n p q mc ms m n_z1 : Nat} {K : Nat → Nat → Int}
theorem c_load {post : Nat → Nat → Nat → Nat → Nat → Nat → Int32 → Int32 → Int32 → Option Nat → (Nat → Int64) → (Nat → Int64) → (Nat → Int64) → Nat → Nat → Int32 → (Nat → Int32) → (Nat → Int32) → Int32 → Int32 → Int32 → (Nat → Int32) → Prop} (ho : o_Ok l_o o_r g_o g_t q) (hn : n ≤ 12) (hl : l ≤ 4096) (hp1 : p ≠ 1) (hp : p < 2 ^ 31) (hk : m * n ≤ n_r) (hk2 : m ≤ 12) (hnr : n_r < 2 ^ 31) (hR : ∀ i e, (K i e).natAbs ≤ 999) (hg : ∀ i, i < m → ∀ e, e < n → g_r (i * n + e) = Int32.ofInt (K i e)) (hK : ∀ j, j < m → ∃ T, T < 2 ^ n ∧ x_n T = j + 1 ∧ x_md p (x_W K (j + 1) T) ≠ 0)
    (hmc : (if 2 ^ n ≤ l then 0 else 3) + (if 2 ^ (n + 1) ≤ l_o then 0 else 1) ≤ mc) (hms : (if 2 ^ n ≤ l then 0 else 3 * 2 ^ n) + (if 2 ^ (n + 1) ≤ l_o then 0 else 2 ^ (n + 1)) ≤ ms)
    (h0 : m_loaded = some n_z1 → post q_l q_m q_h l l l m_field m_size m_height (some n_z1) g_l g_m g_h q_o l_o o_r g_o g_t (nI p) (nI n) (nI m) g_r)
    (h : ∀ q_l q_m q_h g_l g_m g_h q_o' o' g t, (∀ T, T < 2 ^ n → mn (x_za p n K m T) (g_l T) (g_m T) (g_h T)) → o_Ok (o_ln l_o n) o' g t (max q n) → post q_l q_m q_h (max l (2 ^ n)) (max l (2 ^ n)) (max l (2 ^ n)) (nI p) (nI n) (nI m) (some n_z1) g_l g_m g_h q_o' (o_ln l_o n) o' g t (nI p) (nI n) (nI m) g_r) :
    w314_wp n_r n_z1 mc ms post q_l q_m q_h l l l m_field m_size m_height m_loaded g_l g_m g_h q_o l_o o_r g_o g_t (nI p) (nI n) (nI m) g_r := by
  have h2n : 2 ^ n ≤ 2 ^ 12 := Nat.pow_le_pow_right (by decide) hn
  have hmax : n ≤ max q n := Nat.le_max_right q n
  have hkk := x_gkk (p := p) hn hK
  have body : ∀ (ml : Option Nat), ∃ m18 s18 : Nat, 0 + m18 ≤ mc ∧ 0 + s18 ≤ ms ∧ (w180_wp m18 s18 (fun v23 v24 v25 v26 v27 v28 v29 v30 v31 v32 v33 v34 v35 v36 v37 v38 v39 v40 => ∃ j23, w314_L23 n_r n_z1 mc ms post j23 0 v23 v24 v25 v26 v27 v28 v29 v30 v31 v32 v33 v34 v35 v36 v37 v38 v39 v40 (nI p) (nI n) (nI m) g_r (0 + m18) (0 + s18)) (nI p) (nI n) q_l q_m q_h l l l m_field m_size m_height ml g_l g_m g_h q_o l_o o_r g_o g_t) := by
    intro ml
    refine ⟨_, _, by rw [Nat.zero_add]; exact hmc, by rw [Nat.zero_add]; exact hms, c_clear ho hn hl hp1 (Nat.le_refl _) (Nat.le_refl _) (fun q_l q_m q_h g_l g_m g_h q_o' o' g tt hz ho' => ⟨m + 1, ?_⟩)⟩
    have main : ∀ (t i : Nat), i + t = m → ∀ (q_l q_m q_h : Nat) (g_l g_m g_h : Nat → Int64), (∀ T, T < 2 ^ n → mn (x_za p n (x_gk p n K i).2 (x_gk p n K i).1 T) (g_l T) (g_m T) (g_h T)) → ∀ (kc ks : Nat), w314_L23 n_r n_z1 mc ms post (t + 1) (nI i) q_l q_m q_h (max l (2 ^ n)) (max l (2 ^ n)) (max l (2 ^ n)) (nI p) (nI n) (nI (x_gk p n K i).1) none g_l g_m g_h q_o' (o_ln l_o n) o' g tt (nI p) (nI n) (nI m) g_r kc ks := by
      intro t
      induction t with
      | zero =>
        intro i hi q_l q_m q_h g_l g_m g_h hm kc ks
        have him : i = m := by omega
        rw [him] at hm ⊢
        obtain ⟨e1, e2⟩ := hkk m (Nat.le_refl m)
        refine ⟨fun _ => ?_, fun z => absurd (nI_le (Nat.le_refl m) (by omega)) z⟩
        rw [e1]
        refine h _ _ _ _ _ _ _ _ _ _ (fun T hT => ?_) ho'
        have := hm T hT
        rw [e1, x_zac (k' := K) e2] at this
        exact this
      | succ t ih =>
        intro i hi q_l q_m q_h g_l g_m g_h hm kc ks
        refine ⟨fun z => absurd z (nI_ge (by omega) (by omega)), fun _ => ?_⟩
        have hin : i * n + n ≤ m * n := by
          have : (i + 1) * n ≤ m * n := Nat.mul_le_mul_right n (by omega)
          rw [Nat.add_mul, Nat.one_mul] at this; exact this
        rw [pk_mul]
        refine c_addk (R := K) (i := i) ho' hmax (Nat.le_max_right l _) (by omega) (by omega) hnr hR (hg i (by omega)) hp hm (fun g_l' g_m' g_h' hm' z21 e21 => ?_)
        rw [e21, nI_1]
        exact ih (i + 1) (by omega) _ _ _ _ _ _ hm' kc ks
    exact main m 0 (by omega) _ _ _ _ _ _ (hz _) _ _
  unfold w314_wp
  refine ⟨fun z => body none, fun a ha => ⟨fun z => ?_, fun z => body (some a)⟩⟩
  rw [← z]
  exact h0 (by rw [ha, z])
end CML
