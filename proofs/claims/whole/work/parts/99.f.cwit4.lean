/-! PURE, the class: Witness: samePairs, sameRanks, assigns -/
section CWL
variable {cm np ns : Nat} {pa sa : Nat → Nat} {pp : Nat → px_PR} {ss : Nat → px_SR} {v1 v2 v3 v4 v5 v6 v7 v8 v9 : Int32} {q_o l_o : Nat} {o_r : Int32} {g_o g_t : Nat → Int32} {mm : Nat → px_MR} {a0 a1 n R g r q : Nat} {ρ ρ' : Nat → Nat} {nk ng : Nat}
def w_sp (gn hn : Nat → Nat → Nat) (φ : Nat → Nat) (e x : Nat) : Bool := decide (gn e e = hn x x) && decide (∀ i, i < e → gn e i = hn x (φ i))
theorem c_sameP {post : Int32 → Option Nat → Option Nat → Int32 → Int32 → Int32 → Int32 → Int32 → Int32 → Int32 → Int32 → Int32 → (Nat → Int32) → (Nat → Int32) → (Nat → Int32) → Nat → Nat → Int32 → (Nat → Int32) → (Nat → Int32) → (Nat → px_MR) → Prop} {vh vg : Option Nat} {gi gp gq : Nat → Int32} {gn hn : Nat → Nat → Nat} {φ : Nat → Nat} {e x : Nat} (hg : g ≤ 12) (he : e < g) (hx : x < g) (hgi : ∀ i, i < e → gi i = nI (φ i) ∧ φ i < g) (hgp : ∀ e f, e < g → f < g → gp (12 * e + f) = nI (gn e f)) (hgq : ∀ e f, e < g → f < g → gq (12 * e + f) = nI (hn e f)) (l1 : ∀ e f, gn e f < 2 ^ 31) (l2 : ∀ e f, hn e f < 2 ^ 31)
    (h : post (if w_sp gn hn φ e x = true then 1 else 0) vh vg v1 v2 v3 v4 v5 v6 v7 v8 v9 gi gp gq q_o l_o o_r g_o g_t mm) : w306_wp cm np ns pa sa pp ss post (nI e) (nI x) vh vg v1 v2 v3 v4 v5 v6 v7 v8 v9 gi gp gq q_o l_o o_r g_o g_t mm := by
  intro z2 ez2 z3 ez3
  have e12 : ∀ e : Nat, nI e * 12 = nI (12 * e) := by
    intro e
    rw [show (12 : Int32) = nI 12 from rfl, pk_mul, Nat.mul_comm]
  rw [e12] at ez2 ez3
  rw [ez2, ez3, nI_add, nI_add, nI_clamp (by omega), nI_clamp (by omega), hgp e e he he, hgq x x hx hx]
  have stop : ∀ x6 : Int32, w_sp gn hn φ e x = false → w306_L92 cm np ns pa sa pp ss post (nI e) (nI x) (nI (12 * e)) (nI (12 * x)) 0 x6 vh vg v1 v2 v3 v4 v5 v6 v7 v8 v9 gi gp gq q_o l_o o_r g_o g_t mm := by
    intro x6 hf
    rw [hf] at h
    exact ⟨rfl, h⟩
  have stopL : ∀ (j : Nat) (x6 : Int32), w_sp gn hn φ e x = false → w306_L41 cm np ns pa sa pp ss post (j + 1) (nI e) (nI x) (nI (12 * e)) (nI (12 * x)) 0 x6 vh vg v1 v2 v3 v4 v5 v6 v7 v8 v9 gi gp gq q_o l_o o_r g_o g_t mm := by
    intro j x6 hf
    exact ⟨fun _ => stop x6 hf, fun _ => ⟨fun _ => stop x6 hf, fun k => absurd rfl k⟩⟩
  refine ⟨b_in (by omega) (by omega), b_in (by omega) (by omega), fun w => ⟨1, stopL 0 0 ?_⟩, fun w => ⟨e + 2, ?_⟩⟩
  · unfold w_sp
    rw [decide_eq_false (fun k => w (by rw [k]))]; rfl
  · have hd : gn e e = hn x x := (nI_eq (l1 e e) (l2 x x)).1 w
    have main : ∀ (u i : Nat), i + u = e → (∀ j, j < i → gn e j = hn x (φ j)) → w306_L41 cm np ns pa sa pp ss post (u + 2) (nI e) (nI x) (nI (12 * e)) (nI (12 * x)) 1 (nI i) vh vg v1 v2 v3 v4 v5 v6 v7 v8 v9 gi gp gq q_o l_o o_r g_o g_t mm := by
      intro u
      induction u with
      | zero =>
        intro i hi hall
        refine ⟨fun _ => ⟨rfl, ?_⟩, fun w => absurd (nI_le (by omega) (by omega)) w⟩
        have : w_sp gn hn φ e x = true := by
          unfold w_sp
          rw [decide_eq_true hd, decide_eq_true (fun j hj => hall j (by omega))]; rfl
        rw [this] at h
        exact h
      | succ u ih =>
        intro i hi hall
        obtain ⟨g1, g2⟩ := hgi i (by omega)
        refine ⟨fun w => absurd w (nI_ge (by omega) (by omega)), fun _ => ⟨fun k => t_10 k, fun _ => ?_⟩⟩
        rw [nI_add (12 * e) i, nI_clamp (show i < 2 ^ 31 by omega), g1, nI_add, nI_clamp (show 12 * e + i < 2 ^ 31 by omega), nI_clamp (show 12 * x + φ i < 2 ^ 31 by omega), hgp e i he (by omega), hgq x (φ i) hx g2]
        refine ⟨b_in (by omega) (by omega), b_in (by omega) (by omega), b_in (by omega) (by omega), fun w z ez => ?_, fun w z ez => ?_⟩
        · refine stopL (u + 1) z ?_
          unfold w_sp
          have : ¬ ∀ j, j < e → gn e j = hn x (φ j) := fun hh => w (by rw [hh i (by omega)])
          rw [decide_eq_false this, Bool.and_false]
        · rw [ez, nI_1]
          refine ih (i + 1) (by omega) (fun j hj => ?_)
          by_cases q2 : j = i
          · rw [q2]; exact (nI_eq (l1 e i) (l2 x (φ i))).1 w
          · exact hall j (by omega)
    exact main e 0 (by omega) (fun j hj => absurd hj (Nat.not_lt_zero j))
/-- the ranks of the sets with a new element, and of what they leave over -/
def w_sr (ρ ρ' : Nat → Nat) (g K : Nat) (k : Nat → Nat) (c : Nat) (φ : Nat → Nat) (e x : Nat) : Bool := decide (∀ S, S < 2 ^ e → ρ (x_im e (fun i => k (φ i)) S ||| c ||| 2 ^ k x) = ρ' (S ||| 2 ^ e) + ρ c ∧ ρ (K ^^^ (x_im e (fun i => k (φ i)) S ||| c ||| 2 ^ k x)) = ρ' (x_co g (S ||| 2 ^ e)) + ρ c)
theorem c_sameR {post : Int32 → Option Nat → Option Nat → Int32 → Int32 → Int32 → Int32 → Int32 → Int32 → Int32 → Int32 → Int32 → (Nat → Int32) → (Nat → Int32) → Nat → Nat → Int32 → (Nat → Int32) → (Nat → Int32) → (Nat → px_MR) → Prop} {gk gg : Nat → Int32} {K c : Nat} {k φ : Nat → Nat} {e x : Nat} (hM : w_M cm mm a0 a1 n R g r ρ ρ') (hgk : ∀ S, S < 2 ^ g → gk S = nI (x_sd g k S)) (hk : x_kp K g k) (hK : K < 2 ^ n) (hc : c < 2 ^ n) (hgn : g ≤ n) (hnk : 2 ^ n ≤ nk) (hng : 2 ^ n ≤ ng) (he : e < g) (hx : x < g) (hφ : ∀ i, i < e → φ i < g) (hgg : ∀ S, S < 2 ^ e → gg S = nI (x_im e (fun i => k (φ i)) S ||| c))
    (h : ∀ gg', (∀ S, S < 2 ^ e → gg' S = gg S) → (w_sr ρ ρ' g K k c φ e x = true → ∀ S, S < 2 ^ e → gg' (S ||| 2 ^ e) = nI (x_im e (fun i => k (φ i)) S ||| c ||| 2 ^ k x)) → post (if w_sr ρ ρ' g K k c φ e x = true then 1 else 0) (some a0) (some a1) v1 v2 v3 v4 (nI K) (nI (ρ c)) v7 v8 v9 gk gg' q_o l_o o_r g_o g_t mm) : w307_wp nk ng cm np ns pa sa pp ss post (nI e) (nI x) (some a0) (some a1) v1 v2 v3 v4 (nI K) (nI (ρ c)) v7 v8 v9 gk gg q_o l_o o_r g_o g_t mm := by
  obtain ⟨m1, m2, m3, m4, m5, m6, m7, m8, m9, m10, m11, m12, m13, m14, m15, m16, m17, m18⟩ := hM
  have hp := b_p12 m3
  have hp2 := b_p12 m4
  have hpx : 2 ^ x < 2 ^ g := Nat.pow_lt_pow_right (by decide) hx
  have hpg : 2 ^ g ≤ 2 ^ n := Nat.pow_le_pow_right (by decide) hgn
  have hpe : 2 ^ (e + 1) ≤ 2 ^ g := Nat.pow_le_pow_right (by decide) (by omega)
  have hpe2 : 2 ^ (e + 1) = 2 * 2 ^ e := by rw [Nat.pow_succ, Nat.mul_comm]
  have esd : x_sd g k (2 ^ x) = 2 ^ k x := by
    have := x_sdt (S := 0) (j := x) hk.1 hx
    rw [x_sd0 hk.1] at this
    unfold x_t at this
    rw [Nat.zero_xor, Nat.zero_xor] at this
    exact this
  have hkn : ∀ i, i < g → k i < n := by
    intro i hi
    by_cases w : k i < n
    · exact w
    · have := hk.2.1 i hi
      rw [Nat.testBit_lt_two_pow (Nat.lt_of_lt_of_le hK (Nat.pow_le_pow_right (by decide) (by omega)))] at this
      exact absurd this (by decide)
  have himn : ∀ S, x_im e (fun i => k (φ i)) S ||| c ||| 2 ^ k x < 2 ^ n := fun S => Nat.or_lt_two_pow (Nat.or_lt_two_pow (x_iml e (fun i hi => hkn _ (hφ i hi))) hc) (Nat.pow_lt_pow_right (by decide) (hkn x hx))
  unfold w307_wp
  rw [b_sh (by omega), nI_clamp (by omega), hgk _ hpx, esd]
  refine ⟨b_in (by omega) (by omega), fun z13 e13 => ⟨2 ^ e + 2, ?_⟩⟩
  rw [e13]
  have stop : ∀ (gg' : Nat → Int32) (x5 : Int32), w_sr ρ ρ' g K k c φ e x = false → (∀ S, S < 2 ^ e → gg' S = gg S) → w307_L138 nk ng cm np ns pa sa pp ss post (nI e) (nI x) (nI (2 ^ k x)) 0 x5 (some a0) (some a1) v1 v2 v3 v4 (nI K) (nI (ρ c)) v7 v8 v9 gk gg' q_o l_o o_r g_o g_t mm := by
    intro gg' x5 hf hgg'
    have := h gg' hgg' (fun ht => by rw [hf] at ht; exact absurd ht (by decide))
    rw [hf] at this
    exact ⟨rfl, this⟩
  have stopL : ∀ (j : Nat) (gg' : Nat → Int32) (x5 : Int32), w_sr ρ ρ' g K k c φ e x = false → (∀ S, S < 2 ^ e → gg' S = gg S) → w307_L15 nk ng cm np ns pa sa pp ss post (j + 1) (nI e) (nI x) (nI (2 ^ k x)) 0 x5 (some a0) (some a1) v1 v2 v3 v4 (nI K) (nI (ρ c)) v7 v8 v9 gk gg' q_o l_o o_r g_o g_t mm := by
    intro j gg' x5 hf hgg'
    exact ⟨fun _ => stop gg' x5 hf hgg', fun _ => ⟨fun _ => stop gg' x5 hf hgg', fun k => absurd rfl k⟩⟩
  have hor : ∀ S, S < 2 ^ e → S ||| 2 ^ e = S + 2 ^ e := by
    intro S hS
    have a1 := Nat.two_pow_add_eq_or_of_lt hS 1
    rw [Nat.mul_one, Nat.or_comm] at a1
    omega
  have main : ∀ (u i : Nat) (gg' : Nat → Int32), i + u = 2 ^ e → (∀ S, S < 2 ^ e → gg' S = gg S) → (∀ S, S < i → gg' (S ||| 2 ^ e) = nI (x_im e (fun i => k (φ i)) S ||| c ||| 2 ^ k x)) → (∀ S, S < i → ρ (x_im e (fun i => k (φ i)) S ||| c ||| 2 ^ k x) = ρ' (S ||| 2 ^ e) + ρ c ∧ ρ (K ^^^ (x_im e (fun i => k (φ i)) S ||| c ||| 2 ^ k x)) = ρ' (x_co g (S ||| 2 ^ e)) + ρ c) → w307_L15 nk ng cm np ns pa sa pp ss post (u + 2) (nI e) (nI x) (nI (2 ^ k x)) 1 (nI i) (some a0) (some a1) v1 v2 v3 v4 (nI K) (nI (ρ c)) v7 v8 v9 gk gg' q_o l_o o_r g_o g_t mm := by
    intro u
    induction u with
    | zero =>
      intro i gg' hi h1 h2 h3
      refine ⟨fun _ => ⟨rfl, ?_⟩, fun w => ?_⟩
      · have ht : w_sr ρ ρ' g K k c φ e x = true := decide_eq_true (fun S hS => h3 S (by omega))
        have := h gg' h1 (fun _ S hS => h2 S (by omega))
        rw [ht] at this
        exact this
      · rw [b_sh (by omega)] at w
        exact absurd (nI_le (by omega) (by omega)) w
    | succ u ih =>
      intro i gg' hi h1 h2 h3
      have hil : i < 2 ^ e := by omega
      have e2 := hor i hil
      have him := himn i
      have hxor : K ^^^ (x_im e (fun i => k (φ i)) i ||| c ||| 2 ^ k x) < 2 ^ n := Nat.xor_lt_two_pow hK him
      have hco : x_co g (i ||| 2 ^ e) < 2 ^ g := x_col (by omega)
      have r1 := m16 (i ||| 2 ^ e)
      have r2 := m15 (x_im e (fun i => k (φ i)) i ||| c ||| 2 ^ k x)
      have r3 := m16 (x_co g (i ||| 2 ^ e))
      have r4 := m15 (K ^^^ (x_im e (fun i => k (φ i)) i ||| c ||| 2 ^ k x))
      have r5 := m15 c
      refine ⟨fun w => ?_, fun _ => ⟨fun k => t_10 k, fun _ z2 ez2 => ?_⟩⟩
      · rw [b_sh (by omega)] at w
        exact absurd w (nI_ge (by omega) (by omega))
      · rw [b_sh (by omega), b_or] at ez2
        rw [ez2, nI_clamp (by omega), h1 i hil, hgg i hil, b_or]
        refine ⟨b_in (by omega) (by omega), fun z3 ez3 => ?_⟩
        rw [ez3, nI_clamp (show i ||| 2 ^ e < 2 ^ 31 by omega)]
        have hne : ∀ S, S < 2 ^ e → S ≠ i ||| 2 ^ e := fun S hS => by omega
        have keep : ∀ S, S < 2 ^ e → (upd gg' (i ||| 2 ^ e) (nI (x_im e (fun i => k (φ i)) i ||| c ||| 2 ^ k x))) S = gg S := fun S hS => by rw [pk_un (hne S hS)]; exact h1 S hS
        have bad : ∀ y : Int32, (ρ (x_im e (fun i => k (φ i)) i ||| c ||| 2 ^ k x) = ρ' (i ||| 2 ^ e) + ρ c ∧ ρ (K ^^^ (x_im e (fun i => k (φ i)) i ||| c ||| 2 ^ k x)) = ρ' (x_co g (i ||| 2 ^ e)) + ρ c → False) → w307_L129 (w307_L15 nk ng cm np ns pa sa pp ss post (u + 2)) nk ng cm np ns pa sa pp ss post (nI e) (nI x) (nI (2 ^ k x)) 1 (nI i) (nI (i ||| 2 ^ e)) (nI (x_im e (fun i => k (φ i)) i ||| c ||| 2 ^ k x)) (some a0) (some a1) v1 v2 v3 v4 (nI K) (nI (ρ c)) v7 v8 v9 gk (upd gg' (i ||| 2 ^ e) (nI (x_im e (fun i => k (φ i)) i ||| c ||| 2 ^ k x))) q_o l_o o_r g_o g_t mm := by
          intro y hno z ez
          refine stopL (u + 1) _ z (decide_eq_false (fun hh => hno (hh i hil))) keep
        refine ⟨b_in (by omega) (by omega), fun q => by simp at q, fun a q => ?_⟩
        cases q
        refine ⟨m2, m2, b_in (by omega) (by omega), fun q => by simp at q, fun a q => ?_⟩
        cases q
        rw [nI_clamp (show x_im e (fun i => k (φ i)) i ||| c ||| 2 ^ k x < 2 ^ 31 by omega), m13 _ (show i ||| 2 ^ e < 2 ^ g by omega), m12 _ him, nI_add]
        refine ⟨m1, m1, b_in (by omega) (by omega), fun w => bad 0 (fun hh => w (by rw [hh.1])), fun w => ⟨m2, m2, c_all m2 m4 m7 ?_⟩⟩
        rw [b_xor, b_xor, show (2 ^ g - 1) ^^^ (i ||| 2 ^ e) = x_co g (i ||| 2 ^ e) from rfl, nI_clamp (show x_co g (i ||| 2 ^ e) < 2 ^ 31 by omega), nI_clamp (show K ^^^ (x_im e (fun i => k (φ i)) i ||| c ||| 2 ^ k x) < 2 ^ 31 by omega), m13 _ hco, m12 _ hxor, nI_add]
        refine ⟨rfl, m2, b_in (by omega) (by omega), m1, m1, b_in (by omega) (by omega), fun w2 => bad 0 (fun hh => w2 (by rw [hh.2])), fun w2 z ez => ?_⟩
        rw [ez, nI_1]
        refine ih (i + 1) _ (by omega) keep (fun S hS => ?_) (fun S hS => ?_)
        · by_cases q2 : S = i
          · rw [q2, pk_us]
          · have hne2 : S ||| 2 ^ e ≠ i ||| 2 ^ e := by
              rw [hor S (by omega), hor i hil]
              omega
            rw [pk_un hne2]
            exact h2 S (by omega)
        · by_cases q2 : S = i
          · rw [q2]
            exact ⟨((nI_eq (by omega) (by omega)).1 w).symm, ((nI_eq (by omega) (by omega)).1 w2).symm⟩
          · exact h3 S (by omega)
  exact main (2 ^ e) 0 gg (by omega) (fun _ _ => rfl) (fun S hS => absurd hS (Nat.not_lt_zero S)) (fun S hS => absurd hS (Nat.not_lt_zero S))
end CWL
