/-! PURE, the class: matroidAt, obstacle -/
def t_la (lm : Nat → Option Nat) (x : Int32) : Option Nat := if x < 0 then none else if x < 26 then lm x.toNatClampNeg else none
def t_o2 (v a c : Nat) (sz : Nat → Nat) (fp : Nat → Int32) : Int32 := if v = 6 ∧ 12 < sz a + sz c then 3 else if v = 6 ∧ ¬ fp a = fp c then 4 else if v = 16 ∧ ¬ sz a = sz c then 6 else 0
def t_ob (v : Nat) (fi se : Option Nat) (sz : Nat → Nat) (fp : Nat → Int32) (bad : Nat → Bool) : Int32 :=
  if (2 < v ∧ fi = none) ∨ ((v = 6 ∨ v = 16 ∨ v = 19) ∧ se = none) then 1
  else match fi, se with
    | none, _ => if bad 0 = true then 2 else 0
    | some a, none => if bad (sz a) = true then 2 else if (v = 17 ∨ v = 18) ∧ ¬ fp a = 0 then 5 else 0
    | some a, some c => if bad (sz a) = true then 2 else t_o2 v a c sz fp
section COB
variable {lm : Nat → Option Nat} {cm np ns : Nat} {pa sa : Nat → Nat} {pp : Nat → px_PR} {ss : Nat → px_SR} {d1 d2 d3 d4 : Int32} {d5 : Option Nat} {q_o l_o : Nat} {o_r : Int32} {g_o g_t : Nat → Int32} {mm : Nat → px_MR}
theorem c_at26 {post : Option Nat → Int32 → Int32 → Int32 → Int32 → Option Nat → Nat → Nat → Int32 → (Nat → Int32) → (Nat → Int32) → (Nat → px_MR) → Prop} {x : Int32} (h : post (t_la lm x) d1 d2 d3 d4 d5 q_o l_o o_r g_o g_t mm) : w170_wp lm cm np ns pa sa pp ss post x d1 d2 d3 d4 d5 q_o l_o o_r g_o g_t mm := by
  unfold t_la at h
  unfold w170_wp w170_L10 w170_L20
  refine ⟨fun q => ⟨fun _ => ?_, fun a e => by simp at e⟩, fun q => ⟨fun q2 => ⟨?_, fun q3 => ⟨fun _ => ?_, fun a e => by simp at e⟩, fun k q3 => ⟨fun e => by simp at e, fun a e => ?_⟩⟩, fun q2 => ⟨fun _ => ?_, fun a e => by simp at e⟩⟩⟩
  · rw [if_pos q] at h; exact h
  · obtain ⟨j, hj, e⟩ := nI_of q
    rw [e] at q2 ⊢
    exact b_in ((nI_ltI (b := 26) hj (by omega)).1 q2) hj
  · rw [if_neg q, if_pos q2, q3] at h; exact h
  · rw [if_neg q, if_pos q2, q3] at h
    cases e; exact h
  · rw [if_neg q, if_neg q2] at h; exact h
theorem c_ob2 {post : Int32 → (Nat → px_MR) → Prop} {v a c : Nat} {sz : Nat → Nat} {fp : Nat → Int32} (hv : v < 21) (ha : a < cm) (hc : c < cm) (e1 : (mm a).2.1 13 = nI (sz a)) (e2 : (mm c).2.1 13 = nI (sz c)) (e3 : (mm a).2.1 12 = fp a) (e4 : (mm c).2.1 12 = fp c) (l1 : sz a ≤ 12) (l2 : sz c ≤ 12) (h : post (t_o2 v a c sz fp) mm) : w175_wp cm np ns pa sa pp ss v a c post mm := by
  have l43 : ¬ (v = 6 ∧ 12 < sz a + sz c) → ¬ (v = 6 ∧ ¬ fp a = fp c) → w175_L43 cm np ns pa sa pp ss v a c post mm := by
    intro n1 n2
    unfold t_o2 at h
    rw [if_neg n1, if_neg n2] at h
    unfold w175_L43
    rw [e1, e2]
    refine ⟨hv, fun q => ⟨ha, hc, fun q2 => ?_, fun q2 => ?_⟩, fun q => ?_⟩
    · have := (nI_eq (by omega) (by omega)).1 q2
      rw [if_neg (fun k => k.2 this)] at h
      exact h
    · rw [if_pos ⟨q, fun k => q2 (by rw [k])⟩] at h
      exact h
    · rw [if_neg (fun k => q k.1)] at h
      exact h
  have l23 : ¬ (v = 6 ∧ 12 < sz a + sz c) → w175_L23 cm np ns pa sa pp ss v a c post mm := by
    intro n1
    unfold w175_L23
    rw [e3, e4]
    refine ⟨hv, fun q => ⟨ha, hc, fun q2 => l43 n1 (fun k => k.2 q2), fun q2 => ?_⟩, fun q => l43 n1 (fun k => q k.1)⟩
    unfold t_o2 at h
    rw [if_neg n1, if_pos ⟨q, q2⟩] at h
    exact h
  unfold w175_wp
  rw [e1, e2, nI_add]
  refine ⟨hv, fun q => ⟨ha, hc, fun q2 => l23 (fun k => ?_), fun q2 => ?_⟩, fun q => l23 (fun k => q k.1)⟩
  · have := (nI_leI (b := 12) (by omega) (by omega)).1 q2
    omega
  · have : 12 < sz a + sz c := by
      by_cases w : 12 < sz a + sz c
      · exact w
      · exact absurd (nI_le (b := 12) (by omega) (by omega)) q2
    unfold t_o2 at h
    rw [if_pos ⟨q, this⟩] at h
    exact h
theorem c_obst {post : Int32 → Int32 → Int32 → Int32 → Int32 → Option Nat → Nat → Nat → Int32 → (Nat → Int32) → (Nat → Int32) → Nat → Int32 → Int32 → Int32 → Int32 → Int32 → Int32 → Int32 → Int32 → Int32 → (Nat → Int32) → (Nat → px_MR) → Prop} {sv : Nat} {sg sf s2 sd sh sx sm sr se : Int32} {gn : Nat → Int32} {vs : List Int32} {sz : Nat → Nat} {fp : Nat → Int32} (hv : sv < 21) (hA : ∀ x a, t_la lm x = some a → a < cm ∧ (mm a).2.1 13 = nI (sz a) ∧ (mm a).2.1 12 = fp a ∧ sz a ≤ 12) (hmn : (sv = 1 ∨ sv = 4 ∨ sv = 5 ∨ sv = 8) → sm = nI vs.length ∧ (∀ j x, j < 160 → vs[j]? = some x → gn j = x)) (hlen : vs.length < 2 ^ 31)
    (h : post (t_ob sv (t_la lm sf) (t_la lm s2) sz fp (fun n => t_bad sv sd sh sx vs sr se (nI n))) d1 d2 d3 d4 d5 q_o l_o o_r g_o g_t sv sg sf s2 sd sh sx sm sr se gn mm) : w169_wp lm cm np ns pa sa pp ss post d1 d2 d3 d4 d5 q_o l_o o_r g_o g_t sv sg sf s2 sd sh sx sm sr se gn mm := by
  have nm := t_nmv sv hv
  have nm0 : px_v_names.getD sv 0 ≤ 0 ↔ sv ≤ 2 := by
    rw [nm]
    by_cases q : sv ≤ 2
    · rw [if_pos q]; exact ⟨fun _ => q, fun _ => by decide⟩
    · rw [if_neg q]
      constructor
      · intro k
        split at k <;> exact absurd k (by decide)
      · intro k; exact absurd k q
  have nm1 : px_v_names.getD sv 0 ≤ 1 ↔ ¬ (sv = 6 ∨ sv = 16 ∨ sv = 19) := by
    rw [nm]
    by_cases q : sv ≤ 2
    · rw [if_pos q]; exact ⟨fun _ => by omega, fun _ => by decide⟩
    · rw [if_neg q]
      by_cases q2 : sv = 6 ∨ sv = 16 ∨ sv = 19
      · rw [if_pos q2]; exact ⟨fun k => absurd k (by decide), fun k => absurd q2 k⟩
      · rw [if_neg q2]; exact ⟨fun _ => q2, fun _ => by decide⟩
  have l55 : ((2 < sv ∧ t_la lm sf = none) ∨ ((sv = 6 ∨ sv = 16 ∨ sv = 19) ∧ t_la lm s2 = none)) → w169_L55 lm cm np ns pa sa pp ss post d1 d2 d3 d4 d5 q_o l_o o_r g_o g_t sv sg sf s2 sd sh sx sm sr se gn mm := by
    intro q
    unfold t_ob at h
    rw [if_pos q] at h
    exact h
  unfold w169_wp
  refine c_at26 ⟨fun e1 => c_at26 ⟨fun e2 => ?_, fun c e2 => ?_⟩, fun a e1 => c_at26 ⟨fun e2 => ?_, fun c e2 => ?_⟩⟩
  · refine ⟨hv, fun q => ?_, fun q => l55 (Or.inl ⟨by rw [nm0] at q; omega, e1⟩)⟩
    rw [nm0] at q
    refine ⟨fun _ => ⟨fun _ => ⟨hv, fun q2 => ?_, fun q2 => l55 (Or.inr ⟨by rw [nm1] at q2; omega, e2⟩)⟩, fun x k => by simp at k⟩, fun x k => by simp at k⟩
    rw [nm1] at q2
    have hn : ¬ ((2 < sv ∧ t_la lm sf = none) ∨ ((sv = 6 ∨ sv = 16 ∨ sv = 19) ∧ t_la lm s2 = none)) := by
      intro k
      rcases k with k | k
      · omega
      · exact q2 k.1
    unfold t_ob at h
    rw [if_neg hn, e1] at h
    refine ⟨fun _ => ⟨fun _ => ⟨fun _ => ⟨fun _ => ?_, fun x k => by simp at k⟩, fun x k => by simp at k⟩, fun x k => by simp at k⟩, fun x k => by simp at k⟩
    refine c_wrong (size := 0) (by omega) hv hmn hlen ⟨fun q3 => ?_, fun q3 => ?_⟩
    · have hb : ¬ t_bad sv sd sh sx vs sr se (nI 0) = true := fun k => by rw [if_pos k] at q3; exact t_10 q3
      rw [if_neg hb] at h
      refine ⟨fun _ => ⟨hv, fun k => by omega, fun _ => ⟨hv, fun k => by omega, fun _ => ⟨fun _ => ⟨fun _ => h, fun k => absurd rfl k⟩, fun x k => by simp at k⟩⟩⟩, fun x k => by simp at k⟩
    · have hb : t_bad sv sd sh sx vs sr se (nI 0) = true := by
        cases w : t_bad sv sd sh sx vs sr se (nI 0)
        · rw [w] at q3; exact absurd rfl q3
        · rfl
      rw [if_pos hb] at h
      exact h
  · refine ⟨hv, fun q => ?_, fun q => l55 (Or.inl ⟨by rw [nm0] at q; omega, e1⟩)⟩
    rw [nm0] at q
    have hn : ¬ ((2 < sv ∧ t_la lm sf = none) ∨ ((sv = 6 ∨ sv = 16 ∨ sv = 19) ∧ t_la lm s2 = none)) := by
      intro k
      rcases k with k | k
      · omega
      · omega
    unfold t_ob at h
    rw [if_neg hn, e1] at h
    have l57 : w169_L57 lm cm np ns pa sa pp ss post sv none (some c) d1 d2 d3 d4 d5 q_o l_o o_r g_o g_t sv sg sf s2 sd sh sx sm sr se gn mm := by
      refine ⟨fun _ => ⟨fun k => by simp at k, fun x k => ⟨fun _ => ⟨fun k => by simp at k, fun x k => ?_⟩, fun x k => by simp at k⟩⟩, fun x k => by simp at k⟩
      refine c_wrong (size := 0) (by omega) hv hmn hlen ⟨fun q3 => ?_, fun q3 => ?_⟩
      · have hb : ¬ t_bad sv sd sh sx vs sr se (nI 0) = true := fun k => by rw [if_pos k] at q3; exact t_10 q3
        rw [if_neg hb] at h
        refine ⟨fun _ => ⟨hv, fun k => by omega, fun _ => ⟨hv, fun k => by omega, fun _ => ⟨fun _ => ⟨fun _ => h, fun k => absurd rfl k⟩, fun x k => by simp at k⟩⟩⟩, fun x k => by simp at k⟩
      · have hb : t_bad sv sd sh sx vs sr se (nI 0) = true := by
          cases w : t_bad sv sd sh sx vs sr se (nI 0)
          · rw [w] at q3; exact absurd rfl q3
          · rfl
        rw [if_pos hb] at h
        exact h
    exact ⟨fun _ => ⟨fun k => by simp at k, fun x k => by cases k; exact ⟨hv, fun _ => l57, fun _ => l57⟩⟩, fun x k => by simp at k⟩
  · obtain ⟨a1, a2, a3, a4⟩ := hA sf a e1
    have l43 : w169_L43 lm cm np ns pa sa pp ss post sv (some a) none d1 d2 d3 d4 d5 q_o l_o o_r g_o g_t sv sg sf s2 sd sh sx sm sr se gn mm := by
      refine ⟨fun k => by simp at k, fun x k => ?_⟩
      cases k
      refine ⟨fun _ => ⟨hv, fun q2 => ?_, fun q2 => l55 (Or.inr ⟨by rw [nm1] at q2; omega, e2⟩)⟩, fun x k => by simp at k⟩
      rw [nm1] at q2
      have hn : ¬ ((2 < sv ∧ t_la lm sf = none) ∨ ((sv = 6 ∨ sv = 16 ∨ sv = 19) ∧ t_la lm s2 = none)) := by
        intro k
        rcases k with k | k
        · rw [e1] at k; simp at k
        · exact q2 k.1
      unfold t_ob at h
      rw [if_neg hn, e1, e2] at h
      refine ⟨fun k => by simp at k, fun x k => ?_⟩
      cases k
      refine ⟨fun _ => ⟨a1, fun k => by simp at k, fun x k => ?_⟩, fun x k => by simp at k⟩
      cases k
      refine ⟨fun _ => ?_, fun x k => by simp at k⟩
      rw [a2]
      refine c_wrong (size := sz a) a4 hv hmn hlen ⟨fun q3 => ?_, fun q3 => ?_⟩
      · have hb : ¬ t_bad sv sd sh sx vs sr se (nI (sz a)) = true := fun k => by rw [if_pos k] at q3; exact t_10 q3
        have h : post (if (sv = 17 ∨ sv = 18) ∧ ¬ fp a = 0 then 5 else 0) d1 d2 d3 d4 d5 q_o l_o o_r g_o g_t sv sg sf s2 sd sh sx sm sr se gn mm := by
          have h' := h
          simp only [] at h'
          rw [if_neg hb] at h'
          exact h'
        have l110 : (sv = 17 ∨ sv = 18) → w169_L110 lm cm np ns pa sa pp ss post (some a) d1 d2 d3 d4 d5 q_o l_o o_r g_o g_t sv sg sf s2 sd sh sx sm sr se gn mm := by
          intro w
          refine ⟨fun k => by simp at k, fun x k => ?_⟩
          cases k
          refine ⟨fun k => by simp at k, fun x k => ?_⟩
          cases k
          refine ⟨fun k => t_10 k, fun _ => ⟨a1, fun k => ?_, fun k => ?_⟩⟩
          · rw [a3] at k
            rw [if_neg (fun q => q.2 k)] at h; exact h
          · rw [a3] at k
            rw [if_pos ⟨w, k⟩] at h; exact h
        refine ⟨fun k => by simp at k, fun x k => ?_⟩
        cases k
        refine ⟨hv, fun w => l110 (Or.inl w), fun w => ⟨hv, fun w2 => l110 (Or.inr w2), fun w2 => ?_⟩⟩
        rw [if_neg (fun q => q.1.elim w w2)] at h
        refine ⟨fun k => by simp at k, fun x k => ?_⟩
        exact ⟨fun _ => h, fun k => absurd rfl k⟩
      · have hb : t_bad sv sd sh sx vs sr se (nI (sz a)) = true := by
          cases w : t_bad sv sd sh sx vs sr se (nI (sz a))
          · rw [w] at q3; exact absurd rfl q3
          · rfl
        have h' := h
        simp only [] at h'
        rw [if_pos hb] at h'
        exact h'
    exact ⟨hv, fun _ => l43, fun _ => l43⟩
  · obtain ⟨a1, a2, a3, a4⟩ := hA sf a e1
    obtain ⟨c1, c2, c3, c4⟩ := hA s2 c e2
    have hn : ¬ ((2 < sv ∧ t_la lm sf = none) ∨ ((sv = 6 ∨ sv = 16 ∨ sv = 19) ∧ t_la lm s2 = none)) := by
      intro k
      rcases k with k | k
      · rw [e1] at k; simp at k
      · rw [e2] at k; simp at k
    unfold t_ob at h
    rw [if_neg hn, e1, e2] at h
    have l57 : w169_L57 lm cm np ns pa sa pp ss post sv (some a) (some c) d1 d2 d3 d4 d5 q_o l_o o_r g_o g_t sv sg sf s2 sd sh sx sm sr se gn mm := by
      refine ⟨fun k => by simp at k, fun x k => ?_⟩
      cases k
      refine ⟨fun k => by simp at k, fun x k => ?_⟩
      cases k
      refine ⟨a1, fun k => by simp at k, fun x k => ?_⟩
      cases k
      refine ⟨fun k => by simp at k, fun x k => ?_⟩
      cases k
      rw [a2]
      refine c_wrong (size := sz a) a4 hv hmn hlen ⟨fun q3 => ?_, fun q3 => ?_⟩
      · have hb : ¬ t_bad sv sd sh sx vs sr se (nI (sz a)) = true := fun k => by rw [if_pos k] at q3; exact t_10 q3
        have h' := h
        simp only [] at h'
        rw [if_neg hb] at h'
        exact c_ob2 hv a1 c1 a2 c2 a3 c3 a4 c4 h'
      · have hb : t_bad sv sd sh sx vs sr se (nI (sz a)) = true := by
          cases w : t_bad sv sd sh sx vs sr se (nI (sz a))
          · rw [w] at q3; exact absurd rfl q3
          · rfl
        have h' := h
        simp only [] at h'
        rw [if_pos hb] at h'
        exact h'
    have l43 : w169_L43 lm cm np ns pa sa pp ss post sv (some a) (some c) d1 d2 d3 d4 d5 q_o l_o o_r g_o g_t sv sg sf s2 sd sh sx sm sr se gn mm := by
      refine ⟨fun k => by simp at k, fun x k => ?_⟩
      cases k
      refine ⟨fun k => by simp at k, fun x k => ?_⟩
      cases k
      exact ⟨hv, fun _ => l57, fun _ => l57⟩
    exact ⟨hv, fun _ => l43, fun _ => l43⟩
end COB
