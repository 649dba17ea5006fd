/-! PURE: x - 1 for x; the class's lowerVariable -/
def x_c (R : Type) [Lean.Grind.CommRing R] : Nat → Nat → R
  | 0, i => if i = 0 then 1 else 0
  | a + 1, i => (if i = 0 then 0 else x_c R a (i - 1)) - x_c R a i
theorem x_cz {R : Type} [Lean.Grind.CommRing R] : ∀ (a i : Nat), a < i → x_c R a i = 0
  | 0, i, h => by show (if i = 0 then (1 : R) else 0) = 0; rw [if_neg (by omega)]
  | a + 1, i, h => by
    show (if i = 0 then (0 : R) else x_c R a (i - 1)) - x_c R a i = 0
    rw [if_neg (by omega), x_cz a (i - 1) (by omega), x_cz a i (by omega)]; grind
/-- one pass from the top: t places -/
def x_uu {R : Type} [Lean.Grind.CommRing R] (v : Nat → R) (d : Nat) : Nat → R
  | 0 => v d
  | t + 1 => v (d - (t + 1)) - x_uu v d t
/-- the sum from m to d -/
def x_sf {R : Type} [Lean.Grind.CommRing R] (m d : Nat) (f : Nat → R) : R := x_sm (d + 1 - m) (fun l => f (m + l))
/-- what the passes keep -/
def x_ki {R : Type} [Lean.Grind.CommRing R] (d m : Nat) (v v0 : Nat → R) : Prop := (∀ k, k < m → v k = x_sf 0 d (fun l => v0 l * x_c R l k)) ∧ (∀ k, m ≤ k → x_sf m d (fun l => v l * x_c R (l - m) (k - m)) = x_sf 0 d (fun l => v0 l * x_c R l k))
theorem x_ki0 {R : Type} [Lean.Grind.CommRing R] (d : Nat) (v0 : Nat → R) : x_ki d 0 v0 v0 := ⟨fun k hk => by omega, fun k _ => by simp only [Nat.sub_zero]⟩
theorem x_sml {R : Type} [Lean.Grind.CommRing R] (f : Nat → R) : ∀ (n : Nat), x_sm (n + 1) f = f 0 + x_sm n (fun i => f (i + 1))
  | 0 => by show (0 : R) + f 0 = f 0 + 0; grind
  | n + 1 => by
    show x_sm (n + 1) f + f (n + 1) = f 0 + (x_sm n (fun i => f (i + 1)) + f (n + 1))
    rw [x_sml f n]; grind
theorem x_ki1 {R : Type} [Lean.Grind.CommRing R] {d m : Nat} {v v0 w : Nat → R} (hm : m < d) (h : x_ki d m v v0) (h1 : ∀ k, k < m → w k = v k) (h2 : ∀ l, m ≤ l → l < d → v l = w l + w (l + 1)) (h3 : v d = w d) : x_ki d (m + 1) w v0 := by
  have key : ∀ k, m ≤ k → x_sf m d (fun l => v l * x_c R (l - m) (k - m)) = (if k = m then w m else 0) + x_sf (m + 1) d (fun l => w l * (if k = m then 0 else x_c R (l - (m + 1)) (k - (m + 1)))) := by
    intro k hk
    -- the sum up to m + t
    have go : ∀ t, m + t ≤ d → x_sm t (fun l => v (m + l) * x_c R (m + l - m) (k - m)) + w (m + t) * x_c R t (k - m) = (if k = m then w m else 0) + x_sm t (fun l => w (m + 1 + l) * (if k = m then 0 else x_c R (m + 1 + l - (m + 1)) (k - (m + 1)))) := by
      intro t
      induction t with
      | zero =>
        intro _
        show (0 : R) + w (m + 0) * (if k - m = 0 then (1 : R) else 0) = (if k = m then w m else 0) + 0
        by_cases q : k = m
        · rw [if_pos (by omega), if_pos q, Nat.add_zero]; grind
        · rw [if_neg (by omega), if_neg q]; grind
      | succ t ih =>
        intro ht
        have ih := ih (by omega)
        show x_sm t (fun l => v (m + l) * x_c R (m + l - m) (k - m)) + v (m + t) * x_c R (m + t - m) (k - m) + w (m + (t + 1)) * x_c R (t + 1) (k - m) = (if k = m then w m else 0) + (x_sm t (fun l => w (m + 1 + l) * (if k = m then 0 else x_c R (m + 1 + l - (m + 1)) (k - (m + 1)))) + w (m + 1 + t) * (if k = m then 0 else x_c R (m + 1 + t - (m + 1)) (k - (m + 1))))
        rw [h2 (m + t) (by omega) (by omega), show m + t - m = t by omega, show m + 1 + t - (m + 1) = t by omega, show m + (t + 1) = m + t + 1 by omega, show m + 1 + t = m + t + 1 by omega]
        have hc : x_c R (t + 1) (k - m) = (if k - m = 0 then (0 : R) else x_c R t (k - m - 1)) - x_c R t (k - m) := rfl
        rw [hc]
        by_cases q : k = m
        · rw [if_pos (show k - m = 0 by omega)]
          simp only [if_pos q] at ih ⊢
          grind
        · rw [if_neg (show ¬ k - m = 0 by omega), show k - m - 1 = k - (m + 1) by omega]
          simp only [if_neg q] at ih ⊢
          grind
    have g := go (d - m) (by omega)
    unfold x_sf
    rw [show d + 1 - m = (d - m) + 1 by omega, show d + 1 - (m + 1) = d - m by omega]
    show x_sm (d - m) (fun l => v (m + l) * x_c R (m + l - m) (k - m)) + v (m + (d - m)) * x_c R (m + (d - m) - m) (k - m) = _
    rw [show m + (d - m) - m = d - m by omega, show m + (d - m) = d by omega] at *
    rw [h3]
    exact g
  constructor
  · intro k hk
    by_cases q : k = m
    · have := key m (Nat.le_refl m)
      rw [h.2 m (Nat.le_refl m)] at this
      simp only [if_true] at this
      rw [q, this]
      have z : x_sf (m + 1) d (fun l => w l * (0 : R)) = 0 := x_sm0 _ (fun i _ => by grind)
      rw [z]; grind
    · rw [h1 k (by omega)]; exact h.1 k (by omega)
  · intro k hk
    have := key k (by omega)
    rw [h.2 k (by omega)] at this
    have hkm : k ≠ m := by omega
    simp only [if_neg hkm] at this
    rw [this]; grind
theorem x_kie {R : Type} [Lean.Grind.CommRing R] {d : Nat} {v v0 : Nat → R} (h : x_ki d d v v0) : ∀ k, k ≤ d → v k = x_sm (d + 1) (fun l => v0 l * x_c R l k) := by
  intro k hk
  have e : x_sf 0 d (fun l => v0 l * x_c R l k) = x_sm (d + 1) (fun l => v0 l * x_c R l k) := by
    unfold x_sf
    rw [Nat.sub_zero]
    exact x_smc _ (fun i _ => by rw [Nat.zero_add])
  rw [← e]
  by_cases q : k = d
  · have := h.2 k (by omega)
    rw [← this]
    unfold x_sf
    rw [show d + 1 - d = 1 by omega]
    show v k = 0 + v (d + 0) * x_c R (d + 0 - d) (k - d)
    rw [q, Nat.sub_self, show d + 0 - d = 0 by omega]
    show v d = 0 + v (d + 0) * 1
    rw [Nat.add_zero]; grind
  · exact h.1 k (by omega)
theorem x_uus {R : Type} [Lean.Grind.CommRing R] (v : Nat → R) {d l : Nat} (h : l < d) : v l = x_uu v d (d - l) + x_uu v d (d - (l + 1)) := by
  obtain ⟨t, ht⟩ : ∃ t, d - l = t + 1 := ⟨d - l - 1, by omega⟩
  rw [ht, show d - (l + 1) = t by omega]
  show _ = v (d - (t + 1)) - x_uu v d t + x_uu v d t
  rw [show d - (t + 1) = l by omega]; grind
section CLV
variable {a cm np ns : Nat} {pa sa : Nat → Nat} {pp : Nat → px_PR} {ss : Nat → px_SR} {q_o l_o : Nat} {o_r : Int32} {g_o g_t : Nat → Int32} {mm : Nat → px_MR} {M : px_MR}
/-- a matroid with another polynomial -/
def c_pol (M : px_MR) (p : Nat → Int64) : px_MR := (M.1, M.2.1, M.2.2.1, M.2.2.2.1, p, M.2.2.2.2.2)
theorem c_polu {p F : Nat → Int64} {mm' : Nat → px_MR} (e : mm' = va_up (va_up mm a (c_pol M p)) a (((va_up mm a (c_pol M p)) a).1, ((va_up mm a (c_pol M p)) a).2.1, ((va_up mm a (c_pol M p)) a).2.2.1, ((va_up mm a (c_pol M p)) a).2.2.2.1, F, ((va_up mm a (c_pol M p)) a).2.2.2.2.2)) : mm' = va_up mm a (c_pol M F) := by
  rw [e, b_upup, va_up_self]; rfl
theorem b_lt1 {s : Nat} (hs : s < 1000) : nI s - 1 < nI s := by
  by_cases q : s = 0
  · rw [q]; decide
  · obtain ⟨k, rfl⟩ : ∃ k, s = k + 1 := ⟨s - 1, by omega⟩
    rw [nI_pred]; exact nI_lt (by omega) (by omega)
theorem c_low14 {post : Nat → Nat → Int32 → (Nat → Int32) → (Nat → Int32) → (Nat → px_MR) → Prop} {K3 : Int32 → Int32 → Int32 → Int32 → Nat → Nat → Int32 → (Nat → Int32) → (Nat → Int32) → (Nat → px_MR) → Prop} {at_ ap d m : Nat} {p0 : Nat → Int64} (ha : a < cm) (hap : 1 ≤ ap) (hap2 : ap ≤ 13) (hd : d ≤ 12) (hat : at_ + d * ap < 169) (hl : M.2.2.1 8 = 169) (hm : m < d)
    (hK : ∀ p, (∀ l, m ≤ l → l ≤ d → p (at_ + l * ap) = x_uu (fun l => p0 (at_ + l * ap)) d (d - l)) → (∀ i, (∀ l, m ≤ l → l ≤ d → i ≠ at_ + l * ap) → p i = p0 i) → K3 (nI at_) (nI ap) (nI d) (nI (m + 1)) q_o l_o o_r g_o g_t (va_up mm a (c_pol M p))) :
    ∀ (u s : Nat) (p : Nat → Int64), m + u = s → s ≤ d → (∀ l, s ≤ l → l ≤ d → p (at_ + l * ap) = x_uu (fun l => p0 (at_ + l * ap)) d (d - l)) → (∀ i, (∀ l, s ≤ l → l ≤ d → i ≠ at_ + l * ap) → p i = p0 i) → w283_L14 K3 a cm np ns pa sa pp ss post (u + 1) (nI at_) (nI ap) (nI d) (nI m) (nI s - 1) q_o l_o o_r g_o g_t (va_up mm a (c_pol M p)) := by
  have inj : ∀ l k, at_ + l * ap = at_ + k * ap → l = k := fun l k e => Nat.eq_of_mul_eq_mul_right (show 0 < ap by omega) (by omega)
  have mon : ∀ l, l ≤ d → l * ap ≤ d * ap := fun l h => Nat.mul_le_mul_right ap h
  intro u
  induction u with
  | zero =>
    intro s p hs hsd h1 h2
    have : s = m := by omega
    subst this
    unfold w283_L14
    refine ⟨fun _ z e => ?_, fun z => absurd (b_lt1 (by omega)) z⟩
    rw [e, nI_1]
    exact hK p h1 h2
  | succ u ih =>
    intro s p hs hsd h1 h2
    obtain ⟨t, rfl⟩ : ∃ t, s = t + 1 := ⟨s - 1, by omega⟩
    have m1 := mon t (by omega)
    have m2 := mon (t + 1) hsd
    unfold w283_L14
    rw [nI_pred, nI_1 t, pk_mul, nI_add, pk_mul, nI_add, nI_clamp (show at_ + t * ap < 2 ^ 31 by omega), nI_clamp (show at_ + (t + 1) * ap < 2 ^ 31 by omega)]
    have e8 : ((va_up mm a (c_pol M p)) a).2.2.1 8 = 169 := by rw [va_up_self]; exact hl
    have ep : ((va_up mm a (c_pol M p)) a).2.2.2.2.1 = p := by rw [va_up_self]; rfl
    refine ⟨fun z => absurd z (nI_nlt (by omega) (by omega)), fun _ => ⟨ha, ha, by rw [e8]; exact b_in (by omega) (by omega), ha, ha, by rw [e8]; exact b_in (by omega) (by omega), fun z2 e2 => ⟨ha, by rw [e8]; exact b_in (by omega) (by omega), fun mm3 e3 z4 e4 => ?_⟩⟩⟩
    rw [c_polu e3, e4, ep]
    have e5 : nI t + -1 = nI t - 1 := by rw [Int32.sub_eq_add_neg]
    rw [e5]
    rw [ep] at e2
    refine ih t _ (by omega) (by omega) (fun l hl1 hl2 => ?_) (fun i hi => ?_)
    · by_cases z : l = t
      · subst z
        rw [pk_uLs, e2, h1 (l + 1) (Nat.le_refl _) hsd, h2 (at_ + l * ap) (fun k hk1 hk2 e => by have := inj _ _ e; omega)]
        obtain ⟨t', ht⟩ : ∃ t', d - l = t' + 1 := ⟨d - l - 1, by omega⟩
        rw [ht, show d - (l + 1) = t' by omega]
        show _ = p0 (at_ + (d - (t' + 1)) * ap) - _
        rw [show d - (t' + 1) = l by omega]
      · rw [pk_uLn (fun e => z (inj _ _ e))]
        exact h1 l (by omega) hl2
    · rw [pk_uLn (hi t (by omega) (by omega))]
      exact h2 i (fun l hl1 hl2 => hi l (by omega) hl2)
theorem c_low {post : Nat → Nat → Int32 → (Nat → Int32) → (Nat → Int32) → (Nat → px_MR) → Prop} {at_ ap d : Nat} {p0 : Nat → Int64} (ha : a < cm) (hap : 1 ≤ ap) (hap2 : ap ≤ 13) (hd : d ≤ 12) (hat : at_ + d * ap < 169) (hl : M.2.2.1 8 = 169)
    (h : ∀ p, (∀ k, k ≤ d → p (at_ + k * ap) = x_sm (d + 1) (fun l => p0 (at_ + l * ap) * x_c Int64 l k)) → (∀ i, (∀ l, l ≤ d → i ≠ at_ + l * ap) → p i = p0 i) → post q_o l_o o_r g_o g_t (va_up mm a (c_pol M p))) : w283_wp a cm np ns pa sa pp ss post (nI at_) (nI ap) (nI d) q_o l_o o_r g_o g_t (va_up mm a (c_pol M p0)) := by
  have inj : ∀ l k, at_ + l * ap = at_ + k * ap → l = k := fun l k e => Nat.eq_of_mul_eq_mul_right (show 0 < ap by omega) (by omega)
  have main : ∀ (u m : Nat) (p : Nat → Int64), m + u = d → x_ki d m (fun l => p (at_ + l * ap)) (fun l => p0 (at_ + l * ap)) → (∀ i, (∀ l, l ≤ d → i ≠ at_ + l * ap) → p i = p0 i) → w283_L3 a cm np ns pa sa pp ss post (u + 1) (nI at_) (nI ap) (nI d) (nI m) q_o l_o o_r g_o g_t (va_up mm a (c_pol M p)) := by
    intro u
    induction u with
    | zero =>
      intro m p hm hk ho
      have : m = d := by omega
      subst this
      unfold w283_L3
      exact ⟨fun _ => h p (x_kie hk) ho, fun z => absurd (nI_le (Nat.le_refl m) (by omega)) z⟩
    | succ u ih =>
      intro m p hm hk ho
      unfold w283_L3
      refine ⟨fun z => absurd z (nI_ge (by omega) (by omega)), fun _ z5 e5 => ⟨d - m + 1, ?_⟩⟩
      rw [e5]
      refine c_low14 (p0 := p) ha hap hap2 hd hat hl (by omega) (fun p' g1 g2 => ih (m + 1) p' (by omega) (x_ki1 (by omega) hk (fun k hkm => ?_) (fun l hl1 hl2 => ?_) ?_) (fun i hi => ?_)) (d - m) d p (by omega) (Nat.le_refl d) (fun l hl1 hl2 => ?_) (fun i _ => rfl)
      · exact g2 _ (fun l hl1 hl2 e => by have := inj _ _ e; omega)
      · show p (at_ + l * ap) = p' (at_ + l * ap) + p' (at_ + (l + 1) * ap)
        rw [g1 l hl1 (by omega), g1 (l + 1) (by omega) (by omega)]
        exact x_uus (fun l => p (at_ + l * ap)) hl2
      · show p (at_ + d * ap) = p' (at_ + d * ap)
        rw [g1 d (by omega) (Nat.le_refl d), Nat.sub_self]; rfl
      · rw [g2 i (fun l _ hl2 => hi l hl2)]; exact ho i hi
      · have : l = d := by omega
        rw [this, Nat.sub_self]; rfl
  unfold w283_wp
  refine ⟨d + 1, ?_⟩
  have := main d 0 p0 (by omega) (x_ki0 d _) (fun i _ => rfl)
  rw [nI_0] at this
  exact this
end CLV
