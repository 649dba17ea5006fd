/-! PURE, the class: Minors: gather, load -/
def x_gad (p n : Nat) (r : Nat → Int) (s : Nat × (Nat → Nat → Int)) : Bool := (List.range (2 ^ n)).any (fun T => decide (x_n T = s.1 + 1 ∧ x_md p (x_w r (x_za p n s.2 s.1) T) ≠ 0))
theorem x_gadi (p n : Nat) (r : Nat → Int) (s : Nat × (Nat → Nat → Int)) : x_gad p n r s = true ↔ ∃ T, T < 2 ^ n ∧ x_n T = s.1 + 1 ∧ x_md p (x_w r (x_za p n s.2 s.1) T) ≠ 0 := by
  unfold x_gad
  rw [List.any_eq_true]
  refine ⟨fun ⟨T, t1, t2⟩ => ⟨T, List.mem_range.1 t1, of_decide_eq_true t2⟩, fun ⟨T, t1, t2⟩ => ⟨T, List.mem_range.2 t1, decide_eq_true t2⟩⟩
/-- the rows that are kept of the first i -/
def x_gk (p n : Nat) (R : Nat → Nat → Int) : Nat → Nat × (Nat → Nat → Int)
  | 0 => (0, fun _ _ => 0)
  | i + 1 => if x_gad p n (R i) (x_gk p n R i) = true then ((x_gk p n R i).1 + 1, fun j => if j = (x_gk p n R i).1 then R i else (x_gk p n R i).2 j) else x_gk p n R i
theorem x_gkb {p n : Nat} {R : Nat → Nat → Int} (hn : n ≤ 12) (hR : ∀ i e, (R i e).natAbs ≤ 999) : ∀ i, (x_gk p n R i).1 ≤ n ∧ (x_gk p n R i).1 ≤ i ∧ ∀ j e, ((x_gk p n R i).2 j e).natAbs ≤ 999
  | 0 => ⟨Nat.zero_le n, Nat.le_refl 0, fun _ _ => by show (0 : Int).natAbs ≤ 999; decide⟩
  | i + 1 => by
    obtain ⟨h1, h2, h3⟩ := x_gkb (p := p) hn hR i
    unfold x_gk
    by_cases q : x_gad p n (R i) (x_gk p n R i) = true
    · rw [if_pos q]
      obtain ⟨T, t1, t2, _⟩ := (x_gadi p n (R i) _).1 q
      have := x_nlen hn t1
      refine ⟨by show (x_gk p n R i).1 + 1 ≤ n; omega, by show (x_gk p n R i).1 + 1 ≤ i + 1; omega, fun j e => ?_⟩
      show ((if j = (x_gk p n R i).1 then R i else (x_gk p n R i).2 j) e).natAbs ≤ 999
      split
      · exact hR i e
      · exact h3 j e
    · rw [if_neg q]
      exact ⟨h1, by omega, h3⟩
theorem x_gks {p n : Nat} (hn : n ≤ 12) (R : Nat → Nat → Int) (i T : Nat) (hT : T < 2 ^ n) : x_zn p n (x_gk p n R i).1 (R i) (x_za p n (x_gk p n R i).2 (x_gk p n R i).1) T = x_za p n (x_gk p n R (i + 1)).2 (x_gk p n R (i + 1)).1 T := by
  show _ = x_za p n (if x_gad p n (R i) (x_gk p n R i) = true then ((x_gk p n R i).1 + 1, fun j => if j = (x_gk p n R i).1 then R i else (x_gk p n R i).2 j) else x_gk p n R i).2 (if x_gad p n (R i) (x_gk p n R i) = true then ((x_gk p n R i).1 + 1, fun j => if j = (x_gk p n R i).1 then R i else (x_gk p n R i).2 j) else x_gk p n R i).1 T
  by_cases q : x_gad p n (R i) (x_gk p n R i) = true
  · rw [if_pos q]; exact x_zas hn _ _ T
  · rw [if_neg q]
    unfold x_zn
    by_cases z : T < 2 ^ n ∧ x_n T = (x_gk p n R i).1 + 1
    · rw [if_pos z]
      have e1 : x_za p n (x_gk p n R i).2 (x_gk p n R i).1 T = 0 := if_neg (fun k => by omega)
      rw [e1]
      exact Decidable.byContradiction (fun k => q ((x_gadi p n (R i) _).2 ⟨T, z.1, z.2, k⟩))
    · rw [if_neg z]
section CMG
variable {q_l q_m q_h l q_o l_o : Nat} {m_field m_size m_height : Int32} {m_loaded : Option Nat} {g_l g_m g_h : Nat → Int64} {g_o g_t g_r : Nat → Int32} {o_r : Int32} {n_r n p q mc ms k : Nat} {R : Nat → Nat → Int}
theorem c_addk {q_l q_m q_h L q_o l_o : Nat} {m_loaded : Option Nat} {g_l g_m g_h : Nat → Int64} {g_o g_t : Nat → Int32} {o_r : Int32} {q i : Nat} {post : Int32 → Nat → Nat → Nat → Nat → Nat → Nat → Int32 → Int32 → Int32 → Option Nat → (Nat → Int64) → (Nat → Int64) → (Nat → Int64) → Nat → Nat → Int32 → (Nat → Int32) → (Nat → Int32) → (Nat → Int32) → Prop} (ho : o_Ok l_o o_r g_o g_t q) (hq : n ≤ q) (hL : 2 ^ n ≤ L) (hL2 : L < 2 ^ 31) (hat : i * n + n ≤ n_r) (hnr : n_r < 2 ^ 31) (hR : ∀ i e, (R i e).natAbs ≤ 999) (hg : ∀ e, e < n → g_r (i * n + e) = Int32.ofInt (R i e)) (hp : p < 2 ^ 31)
    (hm : ∀ T, T < 2 ^ n → mn (x_za p n (x_gk p n R i).2 (x_gk p n R i).1 T) (g_l T) (g_m T) (g_h T))
    (hpost : ∀ g_l' g_m' g_h', (∀ T, T < 2 ^ n → mn (x_za p n (x_gk p n R (i + 1)).2 (x_gk p n R (i + 1)).1 T) (g_l' T) (g_m' T) (g_h' T)) → post (if x_gad p n (R i) (x_gk p n R i) = true then 1 else 0) q_l q_m q_h L L L (nI p) (nI n) (nI (x_gk p n R (i + 1)).1) m_loaded g_l' g_m' g_h' q_o l_o o_r g_o g_t g_r) :
    w238_wp n_r post (nI (i * n)) q_l q_m q_h L L L (nI p) (nI n) (nI (x_gk p n R i).1) m_loaded g_l g_m g_h q_o l_o o_r g_o g_t g_r := by
  have hn : n ≤ 12 := Nat.le_trans hq ho.1
  obtain ⟨h1, h2, h3⟩ := x_gkb (p := p) hn hR i
  have hb := fun T => x_zab (p := p) (n := n) (h := (x_gk p n R i).1) hn h3 hp T
  have hs := x_gks (p := p) hn R i
  refine c_adds (r := R i) (Z := x_za p n (x_gk p n R i).2 (x_gk p n R i).1) ho hq h1 hL hL hL hL2 hL2 hL2 hat hnr (fun e _ => hR i e) hg hp hm (fun T => (hb T).1) (fun hp0 T => (hb T).2 hp0) (fun hp0 T t1 t2 => ?_) (fun g_l' g_m' g_h' b d1 d2 => ?_)
  · have e1 := x_zas (p := p) (h := (x_gk p n R i).1) hn (x_gk p n R i).2 (R i) T
    rw [show x_zn p n (x_gk p n R i).1 (R i) (x_za p n (x_gk p n R i).2 (x_gk p n R i).1) T = x_md p (x_w (R i) (x_za p n (x_gk p n R i).2 (x_gk p n R i).1) T) from if_pos ⟨t1, t2⟩, show ∀ z, x_md p z = z from fun z => if_pos hp0] at e1
    rw [e1]
    refine (x_zab (p := p) hn (fun j e => ?_) hp T).1
    split
    · exact hR i e
    · exact h3 j e
  · have eb : b = x_gad p n (R i) (x_gk p n R i) := by
      have := x_gadi p n (R i) (x_gk p n R i)
      rw [← this] at d2
      exact Bool.eq_iff_iff.2 d2
    have hp2 := hpost g_l' g_m' g_h' (fun T hT => by rw [← hs T hT]; exact d1 T hT)
    have eh : (x_gk p n R (i + 1)).1 = (x_gk p n R i).1 + if b = true then 1 else 0 := by
      rw [eb]
      show (if x_gad p n (R i) (x_gk p n R i) = true then ((x_gk p n R i).1 + 1, fun j => if j = (x_gk p n R i).1 then R i else (x_gk p n R i).2 j) else x_gk p n R i).1 = _
      split <;> rfl
    rw [eh, ← eb] at hp2
    exact hp2
theorem c_gather {post : Nat → Nat → Nat → Int32 → Int32 → Int32 → (Nat → Int32) → Nat → Nat → Nat → Nat → Nat → Nat → Int32 → Int32 → Int32 → Option Nat → (Nat → Int64) → (Nat → Int64) → (Nat → Int64) → Nat → Nat → Int32 → (Nat → Int32) → (Nat → Int32) → (Nat → Int32) → Prop} (ho : o_Ok l_o o_r g_o g_t q) (hn : n ≤ 12) (hl : l ≤ 4096) (hp1 : p ≠ 1) (hp : p < 2 ^ 31) (hk : k * n ≤ n_r) (hk2 : k < 2 ^ 31) (hnr : n_r < 2 ^ 31) (hR : ∀ i e, (R i e).natAbs ≤ 999) (hg : ∀ i, i < k → ∀ e, e < n → g_r (i * n + e) = Int32.ofInt (R i e))
    (hmc : (if 2 ^ n ≤ l then 0 else 3) + (if 2 ^ (n + 1) ≤ l_o then 0 else 1) + 2 ≤ mc) (hms : (if 2 ^ n ≤ l then 0 else 3 * 2 ^ n) + (if 2 ^ (n + 1) ≤ l_o then 0 else 2 ^ (n + 1)) + min k n * n + 4 ≤ ms)
    (h : ∀ a b f q_l q_m q_h g_l g_m g_h q_o' o' g t, (∀ T, T < 2 ^ n → mn (x_za p n (x_gk p n R k).2 (x_gk p n R k).1 T) (g_l T) (g_m T) (g_h T)) → (∀ j, j < (x_gk p n R k).1 → ∀ e, e < n → f (j * n + e) = Int32.ofInt ((x_gk p n R k).2 j e)) → o_Ok (o_ln l_o n) o' g t (max q n) → post a b (min k n * n) (nI p) (nI n) (nI (x_gk p n R k).1) f q_l q_m q_h (max l (2 ^ n)) (max l (2 ^ n)) (max l (2 ^ n)) (nI p) (nI n) (nI (x_gk p n R k).1) (some a) g_l g_m g_h q_o' (o_ln l_o n) o' g t g_r) :
    w179_wp n_r mc ms post (nI p) (nI n) (nI k) q_l q_m q_h l l l m_field m_size m_height m_loaded g_l g_m g_h q_o l_o o_r g_o g_t g_r := by
  unfold w179_wp
  have h2n : 2 ^ n ≤ 2 ^ 12 := Nat.pow_le_pow_right (by decide) hn
  have hmn : min k n * n ≤ 12 * 12 := Nat.mul_le_mul (by omega) hn
  refine ⟨_, _, by rw [Nat.zero_add]; exact Nat.le_trans (by omega) hmc, by rw [Nat.zero_add]; exact Nat.le_trans (by omega) hms, c_clear ho hn hl hp1 (Nat.le_refl _) (Nat.le_refl _) (fun q_l q_m q_h g_l g_m g_h q_o' o' g tt hz ho' => ?_)⟩
  refine b_min hk2 (by omega) ?_
  rw [pk_mul, nI_clamp (show min k n * n < 2 ^ 31 by omega)]
  refine ⟨nI_pos (by omega), by omega, by omega, by omega, fun q14 => ⟨k + 1, ?_⟩⟩
  have hmax : n ≤ max q n := Nat.le_max_right q n
  have main : ∀ (t i : Nat), i + t = k → ∀ (f : Nat → Int32) (q_l q_m q_h : Nat) (g_l g_m g_h : Nat → Int64), (∀ T, T < 2 ^ n → mn (x_za p n (x_gk p n R i).2 (x_gk p n R i).1 T) (g_l T) (g_m T) (g_h T)) → (∀ j, j < (x_gk p n R i).1 → ∀ e, e < n → f (j * n + e) = Int32.ofInt ((x_gk p n R i).2 j e)) → ∀ (kc ks : Nat), kc + 1 ≤ mc → ks + 4 ≤ ms → w179_L21 n_r mc ms post (t + 1) (nI p) (nI n) (nI k) q14 (min k n * n) f (nI i) q_l q_m q_h (max l (2 ^ n)) (max l (2 ^ n)) (max l (2 ^ n)) (nI p) (nI n) (nI (x_gk p n R i).1) none g_l g_m g_h q_o' (o_ln l_o n) o' g tt g_r kc ks := by
    intro t
    induction t with
    | zero =>
      intro i hi f q_l q_m q_h g_l g_m g_h hm hf kc ks hkc hks
      have hik : i = k := by omega
      rw [hik] at hm hf ⊢
      exact ⟨fun _ => ⟨hkc, hks, fun a => h _ _ _ _ _ _ _ _ _ _ _ _ _ hm hf ho'⟩, fun z => absurd (nI_le (Nat.le_refl k) hk2) z⟩
    | succ t ih =>
      intro i hi f q_l q_m q_h g_l g_m g_h hm hf kc ks hkc hks
      refine ⟨fun z => absurd z (nI_ge (by omega) hk2), fun _ => ?_⟩
      obtain ⟨b1, b2, b3⟩ := x_gkb (p := p) hn hR i
      have hin : i * n + n ≤ k * n := by
        have : (i + 1) * n ≤ k * n := Nat.mul_le_mul_right n (by omega)
        rw [Nat.add_mul, Nat.one_mul] at this; exact this
      rw [pk_mul]
      refine c_addk (R := R) (i := i) ho' hmax (Nat.le_max_right l _) (by omega) (by omega) hnr hR (hg i (by omega)) hp hm (fun g_l' g_m' g_h' hm' => ⟨fun z => ?_, fun z => ?_⟩)
      · have hb : ¬ x_gad p n (R i) (x_gk p n R i) = true := fun k => by rw [if_pos k] at z; exact absurd z (by decide)
        have e : x_gk p n R (i + 1) = x_gk p n R i := if_neg hb
        intro z1 e1
        rw [e1, nI_1]
        refine ih (i + 1) (by omega) f _ _ _ _ _ _ hm' ?_ kc ks hkc hks
        rw [e]; exact hf
      · have hb : x_gad p n (R i) (x_gk p n R i) = true := by
          by_cases k : x_gad p n (R i) (x_gk p n R i) = true
          · exact k
          · rw [if_neg k] at z; exact absurd rfl z
        have e : x_gk p n R (i + 1) = ((x_gk p n R i).1 + 1, fun j => if j = (x_gk p n R i).1 then R i else (x_gk p n R i).2 j) := if_pos hb
        obtain ⟨c1, c2, c3⟩ := x_gkb (p := p) hn hR (i + 1)
        have e1' : (x_gk p n R (i + 1)).1 = (x_gk p n R i).1 + 1 := by rw [e]
        have e2' : (x_gk p n R (i + 1)).2 = fun j => if j = (x_gk p n R i).1 then R i else (x_gk p n R i).2 j := by rw [e]
        have hx : (x_gk p n R i).1 * n + n ≤ min k n * n := by
          have : ((x_gk p n R i).1 + 1) * n ≤ min k n * n := Nat.mul_le_mul_right n (by omega)
          rw [Nat.add_mul, Nat.one_mul] at this; exact this
        have ev : (nI (x_gk p n R (i + 1)).1 - 1) * nI n = nI ((x_gk p n R i).1 * n) := by rw [e1', nI_pred, pk_mul]
        rw [ev, nI_clamp (show i * n < 2 ^ 31 by omega), nI_clamp (show (x_gk p n R i).1 * n < 2 ^ 31 by omega), nI_clamp (show n < 2 ^ 31 by omega)]
        refine ⟨nI_pos (by omega), nI_pos (by omega), nI_pos (by omega), by omega, by omega, fun _ _ => rfl, fun g56 e56 => ?_⟩
        intro z1 ez1
        rw [ez1, nI_1]
        refine ih (i + 1) (by omega) g56 _ _ _ _ _ _ hm' (fun j hj e he => ?_) kc ks hkc hks
        rw [e56]
        unfold va_cpy
        rw [e1'] at hj
        rw [e2']
        show _ = Int32.ofInt ((if j = (x_gk p n R i).1 then R i else (x_gk p n R i).2 j) e)
        by_cases w : j = (x_gk p n R i).1
        · rw [if_pos w, if_pos (by rw [w]; omega), w, Nat.add_sub_cancel_left, hg i (by omega) e he]
        · have hjn : j * n + n ≤ (x_gk p n R i).1 * n := by
            have : (j + 1) * n ≤ (x_gk p n R i).1 * n := Nat.mul_le_mul_right n (by omega)
            rw [Nat.add_mul, Nat.one_mul] at this; exact this
          rw [if_neg w, if_neg (by omega)]
          exact hf j (by omega) e he
  exact main k 0 (by omega) _ _ _ _ _ _ _ (hz _) (fun j hj => absurd hj (Nat.not_lt_zero j)) _ _ (by omega) (by omega)
end CMG
