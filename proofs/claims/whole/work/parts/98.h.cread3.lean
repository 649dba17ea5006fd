/-! PURE, texts: the class's readTail, readField, readHeads, readNames, readVerb, read -/
def t_rf (b : Nat → Int32) (L v : Nat) (r : Bool × Nat) : Bool × Nat := if v = 0 then t_w b L (t_fld b L) r else r
def t_rh (b : Nat → Int32) (L v : Nat) (r : Bool × Nat) : Bool × Nat := if v ≤ 1 then t_w b L (t_is b L 2) r else if v = 2 then t_w b L (t_is b L 2) (t_w b L (t_is b L 2) r) else r
def t_rn (b : Nat → Int32) (L v : Nat) (r : Bool × Nat) : Bool × Nat := if v ≤ 2 then r else if v = 6 ∨ v = 16 ∨ v = 19 then t_w b L (t_nm b L) (t_w b L (t_nm b L) r) else t_w b L (t_nm b L) r
def t_rt (b : Nat → Int32) (L v : Nat) (r : Bool × Nat) : Bool × Nat := if v = 0 then t_ns b L true r else if v = 1 then t_eds b L r else if v = 4 ∨ v = 5 ∨ v = 8 then t_ns b L false r else r
def t_vals (b : Nat → Int32) (L v i : Nat) : List Int32 := if v = 1 then (if t_is b L 2 (t_e b L i) = true then t_ev b L (L + 1) (t_e b L i) else []) else if v = 0 then t_vl (t_it b L true L (t_e b L i)) else t_vl (t_it b L false L (t_e b L i))
/-- what readTail leaves -/
def s_T (b : Nat → Int32) (L v i : Nat) (hd mn rw ev : Int32) (gn : Nat → Int32) : Prop := ((v = 0 ∨ v = 1 ∨ v = 4 ∨ v = 5 ∨ v = 8) → mn = nI (t_vals b L v i).length ∧ (∀ j x, j < 160 → (t_vals b L v i)[j]? = some x → gn j = x)) ∧ (v = 0 → rw = nI (t_rows hd (t_fo hd (t_it b L true L (t_e b L i)) 0 0 true)).1 ∧ ev = if (t_rows hd (t_fo hd (t_it b L true L (t_e b L i)) 0 0 true)).2 = true then 1 else 0)
theorem t_tl : ∀ v, v < 21 → px_v_tail.getD v 0 = if v = 0 then 2 else if v = 1 then 3 else if v = 4 ∨ v = 5 ∨ v = 8 then 1 else 0 := by decide
theorem t_hdv : ∀ v, v < 21 → px_v_heads.getD v 0 = if v ≤ 1 then 1 else if v = 2 then 2 else 0 := by decide
theorem t_nmv : ∀ v, v < 21 → px_v_names.getD v 0 = if v ≤ 2 then 0 else if v = 6 ∨ v = 16 ∨ v = 19 then 2 else 1 := by decide
theorem t_fdv : ∀ v, v < 21 → px_v_fielded.getD v 0 = if v = 0 then 1 else 0 := by decide
theorem t_mkv : ∀ v, v < 21 → px_v_makes.getD v 0 = if v < 8 then 1 else 0 := by decide
theorem t_wF {b : Nat → Int32} {L : Nat} {p : Nat → Bool} {r : Bool × Nat} (h : r.1 = false) : t_w b L p r = r := if_neg (by rw [h]; decide)
theorem t_wT {b : Nat → Int32} {L : Nat} {p : Nat → Bool} {i : Nat} (h : p i = true) : t_w b L p (true, i) = (true, t_e b L i) := by
  unfold t_w
  rw [if_pos rfl, if_pos h]
theorem t_wN {b : Nat → Int32} {L : Nat} {p : Nat → Bool} {i : Nat} (h : p i = false) : t_w b L p (true, i) = (false, i) := by
  unfold t_w
  rw [if_pos rfl, if_neg (show ¬ p i = true by rw [h]; decide)]
theorem t_nsF {b : Nat → Int32} {L : Nat} {cm : Bool} {r : Bool × Nat} (h : r.1 = false) : t_ns b L cm r = r := by
  unfold t_ns
  rw [t_wF h, if_neg (by rw [h]; decide), t_wF h]
theorem t_edsF {b : Nat → Int32} {L : Nat} {r : Bool × Nat} (h : r.1 = false) : t_eds b L r = r := by
  unfold t_eds
  rw [t_wF h, if_neg (fun q => by rw [h] at q; exact absurd q.1 (by decide)), t_wF h]
theorem t_nsT {b : Nat → Int32} {L i : Nat} {cm : Bool} : t_ns b L cm (true, i) = if t_is b L 123 i = true then t_w b L (t_is b L 125) (true, t_lp b L cm L (t_e b L i)) else (false, i) := by
  unfold t_ns
  cases h : t_is b L 123 i with
  | true => rw [t_wT h, if_pos rfl, if_pos rfl]
  | false => rw [t_wN h, if_neg (show ¬ false = true by decide), if_neg (show ¬ false = true by decide)]; exact t_wF rfl
theorem t_edsT {b : Nat → Int32} {L i : Nat} : t_eds b L (true, i) = if t_is b L 123 i = true then t_w b L (t_is b L 125) (if t_is b L 2 (t_e b L i) = true then t_ed b L (L + 1) (t_e b L i) else (true, t_e b L i)) else (false, i) := by
  unfold t_eds
  cases h : t_is b L 123 i with
  | true =>
    rw [t_wT h, if_pos rfl]
    congr 1
    by_cases q : t_is b L 2 (t_e b L i) = true
    · rw [if_pos ⟨rfl, q⟩, if_pos q]
    · rw [if_neg (fun k => q k.2), if_neg q]
  | false =>
    rw [t_wN h, if_neg (fun k => absurd (show false = true from k.1) (by decide)), if_neg (show ¬ false = true by decide)]; exact t_wF rfl
section CRT
variable {N L : Nat} {b : Nat → Int32} {sv : Nat} {sg sf s2 sd sh sx : Int32} {i : Nat} {tv : Int32} {gn : Nat → Int32} {post : Int32 → s_P}
theorem c_readTail (hL : L ≤ N) (hN : N < 2 ^ 31) (hL2 : L ≤ 16384) (hi : i ≤ L) (hv21 : sv < 21) (hv : t_k b L i = 2 → tv = t_v b L i)
    (h1 : (t_rt b L sv (true, i)).1 = true → ∀ mn rw ev gn', s_T b L sv i sh mn rw ev gn' → s_at b L (t_rt b L sv (true, i)).2 (fun a1 a2 a3 a4 a5 a6 => post 1 sv sg sf s2 sd sh sx mn rw ev a1 a2 a3 a4 a5 gn' a6))
    (h0 : (t_rt b L sv (true, i)).1 = false → ∀ mn rw ev gn', s_at b L (t_rt b L sv (true, i)).2 (fun a1 a2 a3 a4 a5 a6 => post 0 sv sg sf s2 sd sh sx mn rw ev a1 a2 a3 a4 a5 gn' a6)) :
    w164_wp N post sv sg sf s2 sd sh sx 0 0 1 (nI L) (nI (t_e b L i)) (nI (t_j b L i)) (t_ck (t_k b L i)) tv gn b := by
  unfold w164_wp
  rw [t_tl sv hv21]
  refine ⟨hv21, fun q0 => ?_, fun q0 => ⟨rfl, ?_⟩⟩
  · refine c_skp (c := 123) hL hN hi t_ckk.2.2.2.2.1 (fun w v1 hv1 => ⟨fun _ => ⟨hv21, fun q3 => ⟨hv21, ?_⟩, fun q3 => ?_⟩, fun q => t_10 q⟩) (fun w => ⟨fun q => absurd rfl q, fun _ => ⟨rfl, ?_⟩⟩)
    · -- rows
      have n1 : ¬ sv = 1 := fun q => q3 (by rw [t_tl sv hv21, q]; rfl)
      obtain ⟨hi2, hi3⟩ := t_isj hi (by decide) w
      have rows : ∀ cm : Bool, t_rt b L sv (true, i) = t_ns b L cm (true, i) → t_vals b L sv i = t_vl (t_it b L cm L (t_e b L i)) → (sv = 0 → cm = true) → w164_L93 N post (if cm = true then 1 else 0) sv sg sf s2 sd sh sx 0 0 1 (nI L) (nI (t_e b L (t_e b L i))) (nI (t_j b L (t_e b L i))) (t_ck (t_k b L (t_e b L i))) v1 gn b := by
        intro cm ec ev hcm
        rw [ec, t_nsT, if_pos w] at h1 h0
        refine c_readRows hL hN hL2 hi3 hv1 (fun gn' hg' v2 hv2 => ?_)
        have hlp := t_lpl (b := b) (cm := cm) L _ hi3
        refine c_skp (c := 125) hL hN hlp t_ckk.2.2.2.2.2.1 (fun w2 v3 hv3 => ⟨rfl, ?_⟩) (fun w2 => ⟨rfl, ?_⟩)
        · rw [t_wT w2] at h1
          refine h1 rfl _ _ _ gn' ⟨fun _ => by rw [ev]; exact ⟨rfl, hg'⟩, fun q => ?_⟩ v3 hv3
          rw [hcm q]; exact ⟨rfl, rfl⟩
        · rw [t_wN w2] at h0
          exact h0 rfl _ _ _ gn' v2 hv2
      refine ⟨fun q2 => rows false ?_ ?_ ?_, fun q2 => rows true ?_ ?_ (fun _ => rfl)⟩
      · have n0 : ¬ sv = 0 := fun q => q2 (by rw [t_tl sv hv21, q]; rfl)
        unfold t_rt
        rw [if_neg n0, if_neg n1]
        by_cases q : sv = 4 ∨ sv = 5 ∨ sv = 8
        · rw [if_pos q]
        · rw [if_neg n0, if_neg n1, if_neg q] at q0; exact absurd rfl q0
      · have n0 : ¬ sv = 0 := fun q => q2 (by rw [t_tl sv hv21, q]; rfl)
        unfold t_vals
        rw [if_neg n1, if_neg n0]
      · exact fun q => absurd (by rw [t_tl sv hv21, q]; rfl) q2
      · have n0 : sv = 0 := by
          by_cases q : sv = 0
          · exact q
          · rw [t_tl sv hv21, if_neg q, if_neg n1] at q2
            by_cases q5 : sv = 4 ∨ sv = 5 ∨ sv = 8
            · rw [if_pos q5] at q2; exact absurd q2 (by decide)
            · rw [if_neg q5] at q2; exact absurd q2 (by decide)
        unfold t_rt
        rw [if_pos n0]
      · have n0 : sv = 0 := by
          by_cases q : sv = 0
          · exact q
          · rw [t_tl sv hv21, if_neg q, if_neg n1] at q2
            by_cases q5 : sv = 4 ∨ sv = 5 ∨ sv = 8
            · rw [if_pos q5] at q2; exact absurd q2 (by decide)
            · rw [if_neg q5] at q2; exact absurd q2 (by decide)
        unfold t_vals
        rw [if_neg n1, if_pos n0]
    · -- edges
      have n1 : sv = 1 := by
        by_cases q : sv = 1
        · exact q
        · rw [t_tl sv hv21, if_neg q] at q3
          by_cases q4 : sv = 0
          · rw [if_pos q4] at q3; exact absurd q3 (by decide)
          · rw [if_neg q4] at q3
            by_cases q5 : sv = 4 ∨ sv = 5 ∨ sv = 8
            · rw [if_pos q5] at q3; exact absurd q3 (by decide)
            · rw [if_neg q5] at q3; exact absurd q3 (by decide)
      obtain ⟨hi2, hi3⟩ := t_isj hi (by decide) w
      have ert : t_rt b L sv (true, i) = t_eds b L (true, i) := by
        unfold t_rt
        rw [if_neg (by omega), if_pos n1]
      rw [ert, t_edsT, if_pos w] at h1 h0
      refine ⟨fun q => ?_, fun q => ?_⟩
      · have k2 : t_is b L 2 (t_e b L i) = true := decide_eq_true (t_ckk.1.1 q)
        rw [if_pos k2] at h1 h0
        have evl : t_vals b L sv i = t_ev b L (L + 1) (t_e b L i) := by
          unfold t_vals
          rw [if_pos n1, if_pos k2]
        have hel := t_edl (b := b) (L + 1) _ hi3
        refine c_readEdges hL hN hL2 hi3 hv1 (fun ht gn' hg' v2 hv2 => ⟨fun q => t_10 q, fun _ => ?_⟩) (fun hf m gn' v2 hv2 => ⟨fun _ => ⟨rfl, ?_⟩, fun q => absurd rfl q⟩)
        · have er : t_ed b L (L + 1) (t_e b L i) = (true, (t_ed b L (L + 1) (t_e b L i)).2) := by rw [← ht]
          rw [er] at h1 h0
          refine c_skp (c := 125) hL hN hel t_ckk.2.2.2.2.2.1 (fun w2 v3 hv3 => ⟨fun q => t_10 q, fun _ => ⟨rfl, ?_⟩⟩) (fun w2 => ⟨fun _ => ⟨rfl, ?_⟩, fun q => absurd rfl q⟩)
          · rw [t_wT w2] at h1
            refine h1 rfl _ _ _ gn' ⟨fun _ => by rw [evl]; exact ⟨rfl, hg'⟩, fun q => by omega⟩ v3 hv3
          · rw [t_wN w2] at h0
            exact h0 rfl _ _ _ gn' v2 hv2
        · rw [t_wF hf] at h0
          exact h0 hf _ _ _ gn' v2 hv2
      · have k2 : ¬ t_is b L 2 (t_e b L i) = true := fun q2 => q (t_ckk.1.2 (of_decide_eq_true q2))
        rw [if_neg k2] at h1 h0
        have evl : t_vals b L sv i = [] := by
          unfold t_vals
          rw [if_pos n1, if_neg k2]
        refine c_skp (c := 125) hL hN hi3 t_ckk.2.2.2.2.2.1 (fun w2 v3 hv3 => ⟨rfl, ?_⟩) (fun w2 => ⟨rfl, ?_⟩)
        · rw [t_wT w2] at h1
          refine h1 rfl _ _ _ gn ⟨fun _ => by rw [evl]; exact ⟨rfl, fun j x _ hx => by simp at hx⟩, fun q => by omega⟩ v3 hv3
        · rw [t_wN w2] at h0
          exact h0 rfl _ _ _ gn v1 hv1
    · have e : t_rt b L sv (true, i) = (false, i) := by
        have w' : ¬ t_is b L 123 i = true := by rw [w]; decide
        unfold t_rt
        by_cases c0 : sv = 0
        · rw [if_pos c0, t_nsT, if_neg w']
        · rw [if_neg c0]
          by_cases c1 : sv = 1
          · rw [if_pos c1, t_edsT, if_neg w']
          · rw [if_neg c1]
            by_cases c4 : sv = 4 ∨ sv = 5 ∨ sv = 8
            · rw [if_pos c4, t_nsT, if_neg w']
            · rw [if_neg c0, if_neg c1, if_neg c4] at q0; exact absurd rfl q0
      rw [e] at h0
      exact h0 rfl _ _ _ gn tv hv
  · have c0 : ¬ sv = 0 := fun q => by rw [if_pos q] at q0; exact absurd q0 (by decide)
    rw [if_neg c0] at q0
    have c1 : ¬ sv = 1 := fun q => by rw [if_pos q] at q0; exact absurd q0 (by decide)
    rw [if_neg c1] at q0
    have c4 : ¬ (sv = 4 ∨ sv = 5 ∨ sv = 8) := fun q => by rw [if_pos q] at q0; exact absurd q0 (by decide)
    have e : t_rt b L sv (true, i) = (true, i) := by
      unfold t_rt
      rw [if_neg c0, if_neg c1, if_neg c4]
    rw [e] at h1
    exact h1 rfl 0 0 1 gn ⟨fun q => by omega, fun q => absurd q c0⟩ tv hv
/-- a field as it is told: 0 of Q, -1 of no prime -/
def t_fdt (b : Nat → Int32) (L i : Nat) : Int32 := if t_k b L i = 1 then 0 else if t_prm (t_v b L i) = true then t_v b L i else -1
theorem t_q81 : x_str 0 = [81] := by decide +kernel
theorem c_readField {sm sr se : Int32} (hL : L ≤ N) (hN : N < 2 ^ 31) (hi : i ≤ L) (hv21 : sv < 21) (hv : t_k b L i = 2 → tv = t_v b L i)
    (h1 : (t_rf b L sv (true, i)).1 = true → ∀ fd, (sv = 0 → fd = t_fdt b L i) → s_at b L (t_rf b L sv (true, i)).2 (fun a1 a2 a3 a4 a5 a6 => post 1 sv sg sf s2 fd sh sx sm sr se a1 a2 a3 a4 a5 gn a6))
    (h0 : (t_rf b L sv (true, i)).1 = false → ∀ fd, s_at b L (t_rf b L sv (true, i)).2 (fun a1 a2 a3 a4 a5 a6 => post 0 sv sg sf s2 fd sh sx sm sr se a1 a2 a3 a4 a5 gn a6)) :
    w160_wp N post sv sg sf s2 sd sh sx sm sr se (nI L) (nI (t_e b L i)) (nI (t_j b L i)) (t_ck (t_k b L i)) tv gn b := by
  unfold w160_wp
  rw [t_fdv sv hv21]
  by_cases c0 : sv = 0
  · rw [if_pos c0]
    unfold t_rf at h1 h0
    rw [if_pos c0] at h1 h0
    have go : t_fld b L i = true → ∀ fd, fd = t_fdt b L i → w160_L68 N post sv sg sf s2 fd sh sx sm sr se (nI L) (nI (t_e b L i)) (nI (t_j b L i)) (t_ck (t_k b L i)) tv gn b := by
      intro hf fd ef
      unfold w160_L68
      rw [t_fdv sv hv21, if_pos c0]
      rw [t_wT hf] at h1
      exact ⟨hv21, fun q => t_10 q, fun _ => c_stepS hL hN hi (fun v1 hv1 => ⟨rfl, h1 rfl fd (fun _ => ef) v1 hv1⟩)⟩
    refine ⟨hv21, fun q => t_10 q, fun _ => c_isWord (i := i) (by decide) hL hN hi rfl rfl rfl ⟨fun q => ?_, fun q => ⟨fun q3 => ?_, fun q3 => ⟨rfl, ?_⟩⟩⟩⟩
    · have hq : (decide (t_k b L i = 1) && t_isw b (t_j b L i) (t_e b L i) (x_str 0)) = true := by
        cases hh : (decide (t_k b L i = 1) && t_isw b (t_j b L i) (t_e b L i) (x_str 0)) with
        | true => rfl
        | false => rw [hh] at q; exact absurd rfl q
      rw [Bool.and_eq_true] at hq
      have k1 := of_decide_eq_true hq.1
      refine go ?_ 0 (by unfold t_fdt; rw [if_pos k1])
      have h2 := hq.2
      unfold t_isw at h2
      rw [t_q81, Bool.and_eq_true] at h2
      have e1 : t_e b L i - t_j b L i = 1 := of_decide_eq_true h2.1
      have e2 : b (t_j b L i + 0) = nI 81 := of_decide_eq_true h2.2 0 (by decide)
      unfold t_fld
      rw [decide_eq_true k1, decide_eq_true (show t_e b L i = t_j b L i + 1 by omega), decide_eq_true (show b (t_j b L i) = 81 from e2)]
      exact Bool.or_true _
    · have k2 := t_ckk.1.1 q3
      have hf : t_fld b L i = true := by
        unfold t_fld
        rw [decide_eq_true k2]; rfl
      have ev := hv k2
      have n1 : ¬ t_k b L i = 1 := by rw [k2]; decide
      refine c_isPrime ⟨fun q4 => go hf _ ?_, fun q4 => go hf _ ?_⟩
      · have : ¬ t_prm tv = true := fun k => by rw [if_pos k] at q4; exact absurd q4 (by decide)
        rw [ev] at this
        unfold t_fdt
        rw [if_neg n1, if_neg this]
      · have : t_prm tv = true := by
          cases hh : t_prm tv with
          | true => rfl
          | false => rw [hh] at q4; exact absurd rfl q4
        rw [ev] at this ⊢
        unfold t_fdt
        rw [if_neg n1, if_pos this]
    · have n2 : ¬ t_k b L i = 2 := fun k => q3 (t_ckk.1.2 k)
      have hf : t_fld b L i = false := by
        unfold t_fld
        rw [decide_eq_false n2, Bool.false_or]
        cases hh : (decide (t_k b L i = 1) && decide (t_e b L i = t_j b L i + 1) && decide (b (t_j b L i) = 81)) with
        | false => rfl
        | true =>
          rw [Bool.and_eq_true, Bool.and_eq_true] at hh
          have k1 := of_decide_eq_true hh.1.1
          have k3 := of_decide_eq_true hh.1.2
          have k4 := of_decide_eq_true hh.2
          have : (decide (t_k b L i = 1) && t_isw b (t_j b L i) (t_e b L i) (x_str 0)) = true := by
            rw [decide_eq_true k1, t_q81, Bool.true_and]
            unfold t_isw
            have a1 : t_e b L i - t_j b L i = ([81] : List Nat).length := by show _ = 1; omega
            have a2 : ∀ j, j < ([81] : List Nat).length → b (t_j b L i + j) = nI (([81] : List Nat).getD j 0) := by
              intro j hj
              have : j = 0 := by
                have : ([81] : List Nat).length = 1 := rfl
                omega
              rw [this]
              exact k4
            rw [decide_eq_true a1, decide_eq_true a2]; rfl
          rw [this] at q
          exact t_10 q
      rw [t_wN hf] at h0
      exact h0 rfl 0 tv hv
  · rw [if_neg c0]
    unfold t_rf at h1
    rw [if_neg c0] at h1
    refine ⟨hv21, fun _ => ?_, fun q => absurd rfl q⟩
    unfold w160_L68
    rw [t_fdv sv hv21, if_neg c0]
    exact ⟨hv21, fun _ => ⟨rfl, h1 rfl 0 (fun q => absurd q c0) tv hv⟩, fun q => absurd rfl q⟩
theorem c_readHeads {sm sr se : Int32} (hL : L ≤ N) (hN : N < 2 ^ 31) (hi : i ≤ L) (hv21 : sv < 21) (hv : t_k b L i = 2 → tv = t_v b L i)
    (h1 : (t_rh b L sv (true, i)).1 = true → ∀ hd nx, (sv ≤ 2 → hd = t_v b L i) → (sv = 2 → nx = t_v b L (t_e b L i)) → s_at b L (t_rh b L sv (true, i)).2 (fun a1 a2 a3 a4 a5 a6 => post 1 sv sg sf s2 sd hd nx sm sr se a1 a2 a3 a4 a5 gn a6))
    (h0 : (t_rh b L sv (true, i)).1 = false → ∀ hd nx, s_at b L (t_rh b L sv (true, i)).2 (fun a1 a2 a3 a4 a5 a6 => post 0 sv sg sf s2 sd hd nx sm sr se a1 a2 a3 a4 a5 gn a6)) :
    w162_wp N post sv sg sf s2 sd sh sx sm sr se (nI L) (nI (t_e b L i)) (nI (t_j b L i)) (t_ck (t_k b L i)) tv gn b := by
  unfold w162_wp
  rw [t_hdv sv hv21]
  by_cases c0 : sv ≤ 1
  · rw [if_pos c0]
    unfold t_rh at h1 h0
    rw [if_pos c0] at h1 h0
    refine ⟨hv21, fun q => absurd q (by decide), fun _ => c_skp (c := 2) hL hN hi t_ckk.1 (fun w v1 hv1 => ⟨fun _ => ?_, fun q => t_10 q⟩) (fun w => ⟨fun q => absurd rfl q, fun _ => ⟨rfl, ?_⟩⟩)⟩
    · unfold w162_L31
      rw [t_hdv sv hv21, if_pos c0]
      rw [t_wT w] at h1
      refine ⟨hv21, fun _ => ⟨rfl, h1 rfl _ _ (fun _ => hv (of_decide_eq_true w)) (fun q => by omega) v1 hv1⟩, fun q => absurd (by decide) q⟩
    · rw [t_wN w] at h0
      exact h0 rfl _ _ tv hv
  · rw [if_neg c0]
    unfold t_rh at h1 h0
    rw [if_neg c0] at h1 h0
    by_cases c2 : sv = 2
    · rw [if_pos c2] at h1 h0 ⊢
      refine ⟨hv21, fun q => absurd q (by decide), fun _ => c_skp (c := 2) hL hN hi t_ckk.1 (fun w v1 hv1 => ⟨fun _ => ?_, fun q => t_10 q⟩) (fun w => ⟨fun q => absurd rfl q, fun _ => ⟨rfl, ?_⟩⟩)⟩
      · unfold w162_L31
        rw [t_hdv sv hv21, if_neg c0, if_pos c2]
        rw [t_wT w] at h1 h0
        obtain ⟨a1, a2⟩ := t_isj hi (by decide) w
        refine ⟨hv21, fun q => absurd q (by decide), fun _ => c_skp (c := 2) hL hN a2 t_ckk.1 (fun w2 v2 hv2 => ⟨fun q => t_10 q, fun _ => ⟨rfl, ?_⟩⟩) (fun w2 => ⟨fun _ => ⟨rfl, ?_⟩, fun q => absurd rfl q⟩)⟩
        · rw [t_wT w2] at h1
          exact h1 rfl _ _ (fun _ => hv (of_decide_eq_true w)) (fun _ => hv1 (of_decide_eq_true w2)) v2 hv2
        · rw [t_wN w2] at h0
          exact h0 rfl _ _ v1 hv1
      · rw [t_wN w, t_wF rfl] at h0
        exact h0 rfl _ _ tv hv
    · rw [if_neg c2] at h1 h0 ⊢
      refine ⟨hv21, fun _ => ?_, fun q => absurd (by decide) q⟩
      unfold w162_L31
      rw [t_hdv sv hv21, if_neg c0, if_neg c2]
      exact ⟨hv21, fun _ => ⟨rfl, h1 rfl _ _ (fun q => by omega) (fun q => absurd q c2) tv hv⟩, fun q => absurd (by decide) q⟩
theorem t_nm1 {c : Int32} (h : ¬ c < 97) : ¬ c - 97 = -1 := by
  intro q
  have : c = 96 := by
    have := congrArg (· + (97 : Int32)) q
    simp at this
    rw [this]
  rw [this] at h
  exact h (by decide)
theorem t_nmb (h : t_nm b L i = true) : ¬ b (t_j b L i) < 97 ∧ t_k b L i = 1 ∧ t_e b L i = t_j b L i + 1 := by
  unfold t_nm at h
  simp at h
  exact ⟨Int32.not_lt.2 h.2, h.1.1, h.1.2⟩
theorem t_nmj (hi : i ≤ L) (h : t_nm b L i = true) : i < t_e b L i ∧ t_e b L i ≤ L := by
  have h1 := (t_nmb h).2.1
  have h2 := t_kj (b := b) (L := L) (i := i) (by rw [h1]; decide)
  have h3 := t_el (b := b) hi
  have h4 := t_jl (b := b) hi
  have := h3.2.2 h2
  omega
theorem c_readNames {sm sr se : Int32} (hL : L ≤ N) (hN : N < 2 ^ 31) (hi : i ≤ L) (hv21 : sv < 21) (hv : t_k b L i = 2 → tv = t_v b L i)
    (h1 : (t_rn b L sv (true, i)).1 = true → ∀ fi se', (if sv ≤ 2 then fi = sf else fi = b (t_j b L i) - 97) → (if sv = 6 ∨ sv = 16 ∨ sv = 19 then se' = b (t_j b L (t_e b L i)) - 97 else se' = s2) → s_at b L (t_rn b L sv (true, i)).2 (fun a1 a2 a3 a4 a5 a6 => post 1 sv sg fi se' sd sh sx sm sr se a1 a2 a3 a4 a5 gn a6))
    (h0 : (t_rn b L sv (true, i)).1 = false → ∀ fi se', s_at b L (t_rn b L sv (true, i)).2 (fun a1 a2 a3 a4 a5 a6 => post 0 sv sg fi se' sd sh sx sm sr se a1 a2 a3 a4 a5 gn a6)) :
    w163_wp N post sv sg sf s2 sd sh sx sm sr se (nI L) (nI (t_e b L i)) (nI (t_j b L i)) (t_ck (t_k b L i)) tv gn b := by
  unfold w163_wp
  rw [t_nmv sv hv21]
  by_cases c0 : sv ≤ 2
  · rw [if_pos c0]
    have c6 : ¬ (sv = 6 ∨ sv = 16 ∨ sv = 19) := by omega
    unfold t_rn at h1
    rw [if_pos c0] at h1
    refine ⟨hv21, fun _ => ?_, fun q => absurd (by decide) q⟩
    unfold w163_L38
    rw [t_nmv sv hv21, if_pos c0]
    exact ⟨hv21, fun _ => ⟨rfl, h1 rfl _ _ (by rw [if_pos c0]) (by rw [if_neg c6]) tv hv⟩, fun q => absurd (by decide) q⟩
  · rw [if_neg c0]
    unfold t_rn at h1 h0
    rw [if_neg c0] at h1 h0
    have pos : ¬ (if sv = 6 ∨ sv = 16 ∨ sv = 19 then (2 : Int32) else 1) ≤ 0 := by
      split <;> decide
    refine ⟨hv21, fun q => absurd q pos, fun _ => c_letter (i := i) hL hN hi rfl rfl rfl ⟨fun q => ?_, fun q => ⟨rfl, ?_⟩⟩⟩
    · have hn : t_nm b L i = true := by
        cases hh : t_nm b L i with
        | true => rfl
        | false => rw [hh] at q; exact absurd rfl q
      obtain ⟨a1, a2⟩ := t_nmj hi hn
      rw [t_wT hn] at h1 h0
      rw [if_pos hn] at q ⊢
      refine c_stepS hL hN hi (fun v1 hv1 => ?_)
      unfold w163_L38
      rw [t_nmv sv hv21, if_neg c0]
      by_cases c6 : sv = 6 ∨ sv = 16 ∨ sv = 19
      · rw [if_pos c6] at h1 h0 ⊢
        refine ⟨hv21, fun q => absurd q (by decide), fun _ => c_letter (i := t_e b L i) hL hN a2 rfl rfl rfl ⟨fun q2 => ?_, fun q2 => ⟨rfl, ?_⟩⟩⟩
        · have hn2 : t_nm b L (t_e b L i) = true := by
            cases hh : t_nm b L (t_e b L i) with
            | true => rfl
            | false => rw [hh] at q2; exact absurd rfl q2
          rw [t_wT hn2] at h1
          rw [if_pos hn2]
          refine c_stepS hL hN a2 (fun v2 hv2 => ⟨rfl, h1 rfl _ _ (by rw [if_neg c0]) ?_ v2 hv2⟩)
          rw [if_pos c6]
        · have hn2 : t_nm b L (t_e b L i) = false := by
            cases hh : t_nm b L (t_e b L i) with
            | false => rfl
            | true => rw [if_pos hh] at q2; exact absurd q2 (t_nm1 (t_nmb hh).1)
          rw [t_wN hn2] at h0
          exact h0 rfl _ _ v1 hv1
      · rw [if_neg c6] at h1 h0 ⊢
        exact ⟨hv21, fun _ => ⟨rfl, h1 rfl _ _ (by rw [if_neg c0]) (by rw [if_neg c6]) v1 hv1⟩, fun q => absurd (by decide) q⟩
    · have hn : t_nm b L i = false := by
        cases hh : t_nm b L i with
        | false => rfl
        | true => rw [if_pos hh] at q; exact absurd q (t_nm1 (t_nmb hh).1)
      have e : (if sv = 6 ∨ sv = 16 ∨ sv = 19 then t_w b L (t_nm b L) (t_w b L (t_nm b L) (true, i)) else t_w b L (t_nm b L) (true, i)) = (false, i) := by
        rw [t_wN hn, t_wF rfl]
        split <;> rfl
      rw [e] at h0
      exact h0 rfl _ _ tv hv
end CRT
