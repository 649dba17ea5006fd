/-! PURE, the class: Minors.load of a source in the pool -/
theorem c_m242 {P Q : Int64 → Prop} (h : ∀ r, P r → Q r) {a b : Int64} (w : w242_wp P a b) : w242_wp Q a b := ⟨w.1, fun z e => ⟨fun q => h _ ((w.2 z e).1 q), fun q => ⟨fun q2 => h _ (((w.2 z e).2 q).1 q2), fun q2 => h _ (((w.2 z e).2 q).2 q2)⟩⟩⟩
section CLP
variable {a cm np ns : Nat} {pa sa : Nat → Nat} {pp : Nat → px_PR} {ss : Nat → px_SR} {mm : Nat → px_MR}
theorem c_m243 {P Q : Int32 → Nat → Nat → Nat → Nat → Nat → Nat → Int32 → Int32 → Int32 → Option Nat → (Nat → Int64) → (Nat → Int64) → (Nat → Int64) → Prop} {x : Int32} {q_l q_m q_h l_l l_m l_h : Nat} {f s hh : Int32} {ml : Option Nat} {gl gm gh : Nat → Int64} (h : ∀ r, P r q_l q_m q_h l_l l_m l_h f s hh ml gl gm gh → Q r q_l q_m q_h l_l l_m l_h f s hh ml gl gm gh) (w : w243_wp P x q_l q_m q_h l_l l_m l_h f s hh ml gl gm gh) : w243_wp Q x q_l q_m q_h l_l l_m l_h f s hh ml gl gm gh :=
  ⟨w.1, fun q => ⟨(w.2.1 q).1, (w.2.1 q).2.1, (w.2.1 q).2.2.1, fun q2 => h _ ((w.2.1 q).2.2.2.1 q2), fun q2 => h _ ((w.2.1 q).2.2.2.2 q2)⟩, fun q => h _ (w.2.2 q)⟩
theorem c_e241 {P : Nat → Nat → Nat → Nat → Nat → Nat → Int32 → Int32 → Int32 → Option Nat → (Nat → Int64) → (Nat → Int64) → (Nat → Int64) → (Nat → Int32) → Prop} {Q : Nat → Nat → Nat → Nat → Nat → Nat → Int32 → Int32 → Int32 → Option Nat → (Nat → Int64) → (Nat → Int64) → (Nat → Int64) → Nat → Nat → Int32 → (Nat → Int32) → (Nat → Int32) → (Nat → px_MR) → Prop} {q_l q_m q_h l_l l_m l_h : Nat} {f s hh : Int32} {ml : Option Nat} {gl gm gh : Nat → Int64} {q_o l_o : Nat} {o_r : Int32} {g_o g_t : Nat → Int32} (hz : a < ns) (h : ∀ q_l q_m q_h l_l l_m l_h f s hh ml gl gm gh, P q_l q_m q_h l_l l_m l_h f s hh ml gl gm gh (ss a).2.2.2.2.2 → Q q_l q_m q_h l_l l_m l_h f s hh ml gl gm gh q_o l_o o_r g_o g_t mm) {x1 x3 : Int32} (w : w241_wp (ss a).2.2.2.2.1 P x1 x3 q_l q_m q_h l_l l_m l_h f s hh ml gl gm gh (ss a).2.2.2.2.2) : w241p_wp a cm np ns pa sa pp ss Q x1 x3 q_l q_m q_h l_l l_m l_h f s hh ml gl gm gh q_o l_o o_r g_o g_t mm := by
  have key : ∀ (k : Nat) (x4 x6 x8 : Int64) (x10 x11 : Int32), w241_L20 (ss a).2.2.2.2.1 P k x1 x3 x4 x6 x8 x10 x11 q_l q_m q_h l_l l_m l_h f s hh ml gl gm gh (ss a).2.2.2.2.2 → w241p_L20 a cm np ns pa sa pp ss Q k x1 x3 x4 x6 x8 x10 x11 q_l q_m q_h l_l l_m l_h f s hh ml gl gm gh q_o l_o o_r g_o g_t mm := by
    intro k
    induction k with
    | zero => intro x4 x6 x8 x10 x11 w; exact w
    | succ k ih =>
      intro x4 x6 x8 x10 x11 w
      refine ⟨fun q => ⟨fun q2 z2 e2 z3 e3 => ?_, fun q2 => ?_⟩, fun q => ⟨fun q2 z e => ih _ _ _ _ _ (((w.2 q).1 q2) z e), fun q2 => ?_⟩⟩
      · have a1 := ((w.1 q).1 q2) z2 e2 z3 e3
        refine ⟨a1.1, fun z4 e4 => ⟨(a1.2 z4 e4).1, fun z5 e5 => ⟨((a1.2 z4 e4).2 z5 e5).1, h _ _ _ _ _ _ _ _ _ _ _ _ _ ((a1.2 z4 e4).2 z5 e5).2⟩⟩⟩
      · exact c_m242 (fun r w => ⟨w.1, h _ _ _ _ _ _ _ _ _ _ _ _ _ w.2⟩) ((w.1 q).2 q2)
      · have a1 := (w.2 q).2 q2
        refine ⟨hz, a1.1, fun z7 e7 z8 e8 => ?_⟩
        have a2 := a1.2 z7 e7 z8 e8
        refine ⟨a2.1, fun z9 e9 => ?_⟩
        have a3 := a2.2 z9 e9
        refine ⟨a3.1, fun z10 e10 => ?_⟩
        have a4 := a3.2 z10 e10
        exact ⟨a4.1, fun z11 e11 z12 e12 z13 e13 => ih _ _ _ _ _ (a4.2 z11 e11 z12 e12 z13 e13)⟩
  intro z e
  obtain ⟨j, hj⟩ := w z e
  exact ⟨j, key j _ _ _ _ _ hj⟩
theorem c_e238 {P : Int32 → Nat → Nat → Nat → Nat → Nat → Nat → Int32 → Int32 → Int32 → Option Nat → (Nat → Int64) → (Nat → Int64) → (Nat → Int64) → Nat → Nat → Int32 → (Nat → Int32) → (Nat → Int32) → (Nat → Int32) → Prop} {Q : Int32 → Nat → Nat → Nat → Nat → Nat → Nat → Int32 → Int32 → Int32 → Option Nat → (Nat → Int64) → (Nat → Int64) → (Nat → Int64) → Nat → Nat → Int32 → (Nat → Int32) → (Nat → Int32) → (Nat → px_MR) → Prop} {q_l q_m q_h l_l l_m l_h : Nat} {f s hh : Int32} {ml : Option Nat} {gl gm gh : Nat → Int64} {q_o l_o : Nat} {o_r : Int32} {g_o g_t : Nat → Int32} {x : Int32} (hz : a < ns) (h : ∀ r q_l q_m q_h l_l l_m l_h f s hh ml gl gm gh q_o l_o o_r g_o g_t, P r q_l q_m q_h l_l l_m l_h f s hh ml gl gm gh q_o l_o o_r g_o g_t (ss a).2.2.2.2.2 → Q r q_l q_m q_h l_l l_m l_h f s hh ml gl gm gh q_o l_o o_r g_o g_t mm) (w : w238_wp (ss a).2.2.2.2.1 P x q_l q_m q_h l_l l_m l_h f s hh ml gl gm gh q_o l_o o_r g_o g_t (ss a).2.2.2.2.2) : w238p_wp a cm np ns pa sa pp ss Q x q_l q_m q_h l_l l_m l_h f s hh ml gl gm gh q_o l_o o_r g_o g_t mm := by
  have key : ∀ (k : Nat) (x3 x4 x5 : Int32) (q_l q_m q_h l_l l_m l_h : Nat) (f s hh : Int32) (ml : Option Nat) (gl gm gh : Nat → Int64) (q_o l_o : Nat) (o_r : Int32) (g_o g_t : Nat → Int32), w238_L53 (ss a).2.2.2.2.1 P k x x3 x4 x5 q_l q_m q_h l_l l_m l_h f s hh ml gl gm gh q_o l_o o_r g_o g_t (ss a).2.2.2.2.2 → w238p_L53 a cm np ns pa sa pp ss Q k x x3 x4 x5 q_l q_m q_h l_l l_m l_h f s hh ml gl gm gh q_o l_o o_r g_o g_t mm := by
    intro k
    induction k with
    | zero => intro x3 x4 x5 q_l q_m q_h l_l l_m l_h f s hh ml gl gm gh q_o l_o o_r g_o g_t w; exact w
    | succ k ih =>
      intro x3 x4 x5 q_l q_m q_h l_l l_m l_h f s hh ml gl gm gh q_o l_o o_r g_o g_t w
      refine ⟨fun q => ⟨fun q2 z e => ?_, fun q2 z e => ?_⟩, fun q => ⟨(w.2 q).1, c_e241 hz ?_ (w.2 q).2⟩⟩
      · have := ((w.1 q).1 q2) z e
        exact ⟨this.1, h _ _ _ _ _ _ _ _ _ _ _ _ _ _ _ _ _ _ _ this.2⟩
      · have := ((w.1 q).2 q2) z e
        exact ⟨this.1, h _ _ _ _ _ _ _ _ _ _ _ _ _ _ _ _ _ _ _ this.2⟩
      · intro q_l q_m q_h l_l l_m l_h f s hh ml gl gm gh w
        exact ⟨fun q2 z e => ih _ _ _ _ _ _ _ _ _ _ _ _ _ _ _ _ _ _ _ _ _ (w.1 q2 z e), fun q2 => c_m243 (fun r w => ⟨fun q3 z e => ih _ _ _ _ _ _ _ _ _ _ _ _ _ _ _ _ _ _ _ _ _ (w.1 q3 z e), fun q3 z e => ih _ _ _ _ _ _ _ _ _ _ _ _ _ _ _ _ _ _ _ _ _ (w.2 q3 z e)⟩) (w.2 q2)⟩
  refine ⟨fun q => ?_, fun q => ⟨(w.2 q).1, h _ _ _ _ _ _ _ _ _ _ _ _ _ _ _ _ _ _ _ (w.2 q).2⟩⟩
  have a1 := w.1 q
  refine ⟨a1.1, a1.2.1, ?_⟩
  obtain ⟨j, hj⟩ := a1.2.2
  exact ⟨j, key j _ _ _ _ _ _ _ _ _ _ _ _ _ _ _ _ _ _ _ _ _ hj⟩
/-- source a of the pool: p its field, n columns, the m rows K, each independent of those before -/
def c_SR (S : px_SR) (p n m : Nat) (K : Nat → Nat → Int) : Prop := S.2.1 = nI p ∧ S.2.2.1 = nI n ∧ S.2.2.2.1 = nI m ∧ n ≤ 12 ∧ m ≤ n ∧ m * n ≤ S.2.2.2.2.1 ∧ S.2.2.2.2.1 < 2 ^ 31 ∧ (∀ i e, (K i e).natAbs ≤ 999) ∧ (∀ i, i < m → ∀ e, e < n → S.2.2.2.2.2 (i * n + e) = Int32.ofInt (K i e)) ∧ (∀ j, j < m → ∃ T, T < 2 ^ n ∧ x_n T = j + 1 ∧ x_md p (x_W K (j + 1) T) ≠ 0)
theorem c_loadp {post : Nat → Nat → Nat → Nat → Nat → Nat → Int32 → Int32 → Int32 → Option Nat → (Nat → Int64) → (Nat → Int64) → (Nat → Int64) → Nat → Nat → Int32 → (Nat → Int32) → (Nat → Int32) → (Nat → px_MR) → Prop} {p n m l q_l q_m q_h q_o l_o q mc ms : Nat} {K : Nat → Nat → Int} {m_field m_size m_height o_r : Int32} {m_loaded : Option Nat} {g_l g_m g_h : Nat → Int64} {g_o g_t : Nat → Int32} (hz : a < ns) (hS : c_SR (ss a) p n m K) (ho : o_Ok l_o o_r g_o g_t q) (hl : l ≤ 4096) (hp1 : p ≠ 1) (hp : p < 2 ^ 31)
    (hmc : (if 2 ^ n ≤ l then 0 else 3) + (if 2 ^ (n + 1) ≤ l_o then 0 else 1) ≤ mc) (hms : (if 2 ^ n ≤ l then 0 else 3 * 2 ^ n) + (if 2 ^ (n + 1) ≤ l_o then 0 else 2 ^ (n + 1)) ≤ ms)
    (h0 : m_loaded = some (sa a) → px_injN ns sa → post q_l q_m q_h l l l m_field m_size m_height (some (sa a)) g_l g_m g_h q_o l_o o_r g_o g_t mm)
    (h : ∀ q_l q_m q_h g_l g_m g_h q_o' o' g t, (∀ T, T < 2 ^ n → mn (x_za p n K m T) (g_l T) (g_m T) (g_h T)) → o_Ok (o_ln l_o n) o' g t (max q n) → post q_l q_m q_h (max l (2 ^ n)) (max l (2 ^ n)) (max l (2 ^ n)) (nI p) (nI n) (nI m) (some (sa a)) g_l g_m g_h q_o' (o_ln l_o n) o' g t mm) :
    w314p_wp a cm np ns pa sa pp ss mc ms post q_l q_m q_h l l l m_field m_size m_height m_loaded g_l g_m g_h q_o l_o o_r g_o g_t mm := by
  obtain ⟨s1, s2, s3, hn, hmn, s6, s7, hR, hg, hK⟩ := hS
  have h2n : 2 ^ n ≤ 2 ^ 12 := Nat.pow_le_pow_right (by decide) hn
  have hmax : n ≤ max q n := Nat.le_max_right q n
  have hkk := x_gkk (p := p) hn hK
  have body : ∀ (ml : Option Nat), a < ns ∧ (a < ns ∧ ∃ m18 s18 : Nat, 0 + m18 ≤ mc ∧ 0 + s18 ≤ ms ∧ (w180_wp m18 s18 (fun v23 v24 v25 v26 v27 v28 v29 v30 v31 v32 v33 v34 v35 v36 v37 v38 v39 v40 => ∃ j23, w314p_L23 a cm np ns pa sa pp ss mc ms post j23 0 v23 v24 v25 v26 v27 v28 v29 v30 v31 v32 v33 v34 v35 v36 v37 v38 v39 v40 mm (0 + m18) (0 + s18)) ((ss a).2.1) ((ss a).2.2.1) q_l q_m q_h l l l m_field m_size m_height ml g_l g_m g_h q_o l_o o_r g_o g_t)) := by
    intro ml
    refine ⟨hz, hz, _, _, by rw [Nat.zero_add]; exact hmc, by rw [Nat.zero_add]; exact hms, ?_⟩
    rw [s1, s2]
    refine c_clear ho hn hl hp1 (Nat.le_refl _) (Nat.le_refl _) (fun q_l q_m q_h g_l g_m g_h q_o' o' g tt hzz ho' => ⟨m + 1, ?_⟩)
    have main : ∀ (t i : Nat), i + t = m → ∀ (q_l q_m q_h : Nat) (g_l g_m g_h : Nat → Int64), (∀ T, T < 2 ^ n → mn (x_za p n (x_gk p n K i).2 (x_gk p n K i).1 T) (g_l T) (g_m T) (g_h T)) → ∀ (kc ks : Nat), w314p_L23 a cm np ns pa sa pp ss mc ms post (t + 1) (nI i) q_l q_m q_h (max l (2 ^ n)) (max l (2 ^ n)) (max l (2 ^ n)) (nI p) (nI n) (nI (x_gk p n K i).1) none g_l g_m g_h q_o' (o_ln l_o n) o' g tt mm kc ks := by
      intro t
      induction t with
      | zero =>
        intro i hi q_l q_m q_h g_l g_m g_h hm kc ks
        have him : i = m := by omega
        rw [him] at hm ⊢
        obtain ⟨e1, e2⟩ := hkk m (Nat.le_refl m)
        unfold w314p_L23
        rw [s3]
        refine ⟨hz, fun _ => ?_, fun z => absurd (nI_le (Nat.le_refl m) (by omega)) z⟩
        rw [e1]
        refine h _ _ _ _ _ _ _ _ _ _ (fun T hT => ?_) ho'
        have := hm T hT
        rw [e1, x_zac (k' := K) e2] at this
        exact this
      | succ t ih =>
        intro i hi q_l q_m q_h g_l g_m g_h hm kc ks
        unfold w314p_L23
        rw [s3, s2]
        refine ⟨hz, fun z => absurd z (nI_ge (by omega) (by omega)), fun _ => ⟨hz, hz, ?_⟩⟩
        have hin : i * n + n ≤ m * n := by
          have : (i + 1) * n ≤ m * n := Nat.mul_le_mul_right n (by omega)
          rw [Nat.add_mul, Nat.one_mul] at this; exact this
        rw [pk_mul]
        refine c_e238 (P := fun r q_l q_m q_h l_l l_m l_h f s hh ml gl gm gh q_o l_o o_r g_o g_t _ => ∀ z21 : Int32, z21 = nI i + 1 → w314p_L23 a cm np ns pa sa pp ss mc ms post (t + 1) z21 q_l q_m q_h l_l l_m l_h f s hh ml gl gm gh q_o l_o o_r g_o g_t mm kc ks) hz (fun r q_l q_m q_h l_l l_m l_h f s hh ml gl gm gh q_o l_o o_r g_o g_t w => w) ?_
        refine c_addk (R := K) (i := i) ho' hmax (Nat.le_max_right l _) (by omega) (by omega) s7 hR (hg i (by omega)) hp hm (fun g_l' g_m' g_h' hm' z21 e21 => ?_)
        rw [e21, nI_1]
        exact ih (i + 1) (by omega) _ _ _ _ _ _ hm' kc ks
    exact main m 0 (by omega) _ _ _ _ _ _ (hzz _) _ _
  unfold w314p_wp
  refine ⟨fun z => body none, fun a' ha => ⟨fun z hinj => ?_, fun z => body (some a')⟩⟩
  rw [← z]
  exact h0 (by rw [ha, z]) hinj
end CLP
