/-! PURE, the reference: become, whole -/
section RBC
variable {p n r m : Nat} {K : Nat → Nat → Int} {piv : Nat → Nat} {iv gs gp fr fc gm gth ge gf gr gk gq gw gR gS go gz : Nat → Int32} {nv : Nat → px_NV}
/-- Q, or a prime to 251 -/
def x_pm (p : Nat) : Prop := p = 0 ∨ (1 < p ∧ p < 252 ∧ ∀ a, 0 < a → a < p → ∃ b, b < p ∧ a * b % p = 1)
/-- rows that are kept -/
def x_KK (p n r : Nat) (piv : Nat → Nat) (K : Nat → Nat → Int) : Prop := r ≤ n ∧ n ≤ 12 ∧ (∀ i, i < r → piv i < n ∧ 0 < K i (piv i)) ∧ (∀ i i', i < r → i' < r → i' ≠ i → K i' (piv i) = 0) ∧ (∀ i i', i < i' → i' < r → piv i < piv i') ∧ (∀ i, i < r → ∀ j, j < piv i → K i j = 0) ∧ (∀ i, i < r → x_z0 n (K i)) ∧ (p = 0 → ∀ i, i < r → x_gc (K i) n = 1 ∧ ∀ j, j < n → (K i j).natAbs ≤ 2 ^ 142) ∧ (p ≠ 0 → ∀ i, i < r → x_rg p (K i) ∧ K i (piv i) = 1)
/-- bases and signs of rows -/
def x_bm (p r : Nat) (K : Nat → Nat → Int) (S : Nat) : Bool := !decide (x_md p (x_W K r S) = 0)
def x_Fm (p r : Nat) (K : Nat → Nat → Int) (S : Nat) : Int32 := if p = 0 then x_sg (x_W K r S) else if x_md p (x_W K r S) = 0 then 0 else 1
theorem x_KKi (h : x_KK p n r piv K) : ∀ i i', i < r → i' < r → piv i = piv i' → i = i' := fun i i' q1 q2 q3 => by
  rcases Nat.lt_trichotomy i i' with w | w | w
  · have := h.2.2.2.2.1 i i' w q2; omega
  · exact w
  · have := h.2.2.2.2.1 i' i w q1; omega
theorem x_mdz [NeZero p] (z : Int) : x_md p z = 0 ↔ x_fp p z = 0 := by
  unfold x_md
  rw [if_neg (NeZero.ne p), x_fpz]
theorem x_bmM (hp : x_pm p) (h : x_KK p n r piv K) : x_M n r (x_bm p r K) := by
  obtain ⟨h1, h2, h3, h4, h5, h6, h7, h8, h9⟩ := h
  have hne : ∀ i i', i < i' → i' < r → piv i ≠ piv i' := fun i i' q1 q2 w => by have := h5 i i' q1 q2; omega
  rcases hp with q | ⟨p1, p2, p3⟩
  · subst q
    refine x_WM x_domI (p := K) h2 (fun i hi j _ hj => h7 i hi j hj) (fun S => ?_) ⟨_, x_psW x_domI r hne (fun i hi => ⟨by have := (h3 i hi).1; omega, by have := (h3 i hi).2; omega⟩) h4⟩
    unfold x_bm x_md
    rw [if_pos rfl, Bool.not_eq_true', decide_eq_false_iff_not]
  · haveI : NeZero p := ⟨by omega⟩
    have hdom := x_fdom p1 p3
    refine x_WM hdom (p := fun i j => x_fp p (K i j)) h2 (fun i hi j _ hj => by show x_fp p (K i j) = 0; rw [h7 i hi j hj, x_fp0]) (fun S => ?_) ⟨_, x_psW hdom r hne (fun i hi => ⟨by have := (h3 i hi).1; omega, ?_⟩) (fun i i' q1 q2 q3 => by show x_fp p (K i' (piv i)) = 0; rw [h4 i i' q1 q2 q3, x_fp0])⟩
    · unfold x_bm
      rw [Bool.not_eq_true', decide_eq_false_iff_not, x_mdz, x_fpW]
    · show ¬ x_fp p (K i (piv i)) = 0
      rw [(h9 (by omega) i hi).2, x_fp1]
      exact hdom.2
/-- letter m of the reference -/
def r_L (m p n r : Nat) (piv : Nat → Nat) (K : Nat → Nat → Int) (gth ge gf gr gk gq gR gS : Nat → Int32) : Prop := m < 26 ∧ gth m = 1 ∧ ge m = nI n ∧ gf m = nI p ∧ gr m = nI r ∧ x_pm p ∧ x_KK p n r piv K ∧ (∀ i, i < r → ∀ j, j < n → r_ke p gk gq (144 * m + 12 * i + j) (K i j)) ∧ (∀ S, S < 2 ^ n → gR (4096 * m + S) = nI (x_rk (x_bm p r K) S)) ∧ (∀ S, S < 2 ^ n → gS (4096 * m + S) = x_sgn2 p n r (x_Fm p r K) S)
theorem r_LD (h : r_L m p n r piv K gth ge gf gr gk gq gR gS) : r_D ge gr gR m n r (x_bm p r K) := ⟨h.1, h.2.2.1, h.2.2.2.2.1, x_bmM h.2.2.2.2.2.1 h.2.2.2.2.2.2.1, h.2.2.2.2.2.2.2.2.1⟩
/-- what become leaves as it was -/
def r_kf (m : Nat) (gk gq gw gR gS gk' gq' gw' gR' gS' : Nat → Int32) : Prop := (∀ q, (q < 3456 * m ∨ 3456 * m + 3456 ≤ q) → gk' q = gk q) ∧ (∀ q, (q < 144 * m ∨ 144 * m + 144 ≤ q) → gq' q = gq q) ∧ (∀ q, (q < 12 * m ∨ 12 * m + 12 ≤ q) → gw' q = gw q) ∧ (∀ q, (q < 4096 * m ∨ 4096 * m + 4096 ≤ q) → gR' q = gR q) ∧ (∀ q, (q < 4096 * m ∨ 4096 * m + 4096 ≤ q) → gS' q = gS q)
theorem r_kec {gk gq gk' gq' : Nat → Int32} {d : Nat} {z : Int} (h1 : ∀ x, x < 24 → gk' (24 * d + x) = gk (24 * d + x)) (h2 : gq' d = gq d) (h : r_ke p gk gq d z) : r_ke p gk' gq' d z := by
  unfold r_ke at *
  by_cases q : p = 0
  · rw [if_pos q] at *
    obtain ⟨k, k1, k2, k3, k4, k5⟩ := h
    have e : ∀ j, j < k → gk' (24 * d + 1 + j) = gk (24 * d + 1 + j) := fun j hj => by
      rw [Nat.add_assoc]; exact h1 (1 + j) (by omega)
    refine ⟨k, k1, by have := h1 0 (by omega); rw [Nat.add_zero] at this; rw [this]; exact k2, fun j hj => ?_, ?_, ?_⟩
    · obtain ⟨x, a1, a2⟩ := k3 j hj
      exact ⟨x, a1, by show gk' (24 * d + 1 + j) = nI x; rw [e j hj]; exact a2⟩
    · rcases k4 with w | w
      · exact Or.inl w
      · by_cases z0 : k = 0
        · exact Or.inl z0
        · exact Or.inr (by rw [e (k - 1) (by omega)]; exact w)
    · rw [← k5]
      exact pn_v_congr k (fun j hj => e j hj)
  · rw [if_neg q] at *
    rw [h2]; exact h
/-- other letters stay -/
theorem r_Lf {m' : Nat} {gth' ge' gf' gr' gk' gq' gw' gR' gS' : Nat → Int32} (hm : m' ≠ m) (h1 : gth' m' = gth m') (h2 : ge' m' = ge m') (h3 : gf' m' = gf m') (h4 : gr' m' = gr m') (hf : r_kf m gk gq gw gR gS gk' gq' gw' gR' gS') (h : r_L m' p n r piv K gth ge gf gr gk gq gR gS) : r_L m' p n r piv K gth' ge' gf' gr' gk' gq' gR' gS' := by
  obtain ⟨f1, f2, f3, f4, f5⟩ := hf
  obtain ⟨a1, a2, a3, a4, a5, a6, a7, a8, a9, a10⟩ := h
  have hn := a7.2.1
  have hr := a7.1
  have hp : 2 ^ n ≤ 2 ^ 12 := Nat.pow_le_pow_right (by decide) hn
  have hp : 2 ^ n ≤ 4096 := hp
  refine ⟨a1, by rw [h1]; exact a2, by rw [h2]; exact a3, by rw [h3]; exact a4, by rw [h4]; exact a5, a6, a7, fun i hi j hj => r_kec (fun x hx => f1 _ ?_) (f2 _ ?_) (a8 i hi j hj), fun S hS => ?_, fun S hS => ?_⟩
  · omega
  · omega
  · rw [f4 _ (by omega)]; exact a9 S hS
  · rw [f5 _ (by omega)]; exact a10 S hS
/-- become: whatever reduce (hred) makes of the rows, is kept and measured -/
theorem r_become {post : (Nat → Int32) → (Nat → Int32) → (Nat → Int32) → (Nat → Int32) → (Nat → Int32) → (Nat → Int32) → (Nat → Int32) → (Nat → Int32) → (Nat → Int32) → (Nat → Int32) → (Nat → Int32) → (Nat → Int32) → (Nat → Int32) → (Nat → Int32) → (Nat → Int32) → (Nat → Int32) → (Nat → Int32) → (Nat → px_NV) → Prop} {G : Nat → (Nat → Nat) → (Nat → Nat → Int) → Prop} (hp : x_pm p) (hm : m < 26) (hiv1 : iv 11 = nI n) (hiv2 : iv 12 = nI p) (hT : r_T go gz) (hG : ∀ r piv K, G r piv K → x_KK p n r piv K)
    (hred : ∀ post' : (Nat → Int32) → (Nat → Int32) → (Nat → Int32) → (Nat → px_NV) → Prop, (∀ r piv K gs' gp' nv', G r piv K → r_X p n r gs' nv' K → (∀ i, i < r → gp' i = nI (piv i)) → post' (va_up iv 10 (nI r)) gs' gp' nv') → w55_wp post' iv gs gp nv)
    (h : ∀ r piv K gs' gp' fr' fc' gm' gk' gq' gw' gR' gS' nv', G r piv K → r_V nv' → r_L m p n r piv K (upd gth m 1) (upd ge m (nI n)) (upd gf m (nI p)) (upd gr m (nI r)) gk' gq' gR' gS' → (∀ e, e < 12 → gw' (12 * m + e) = 0) → r_kf m gk gq gw gR gS gk' gq' gw' gR' gS' → post (va_up iv 10 (nI r)) gs' gp' fr' fc' gm' (upd gth m 1) (upd ge m (nI n)) (upd gf m (nI p)) (upd gr m (nI r)) gk' gq' gw' gR' gS' go gz nv') : w66_wp post (nI m) iv gs gp fr fc gm gth ge gf gr gk gq gw gR gS go gz nv := by
  have hp256 : p < 256 := by
    rcases hp with q | q
    · rw [q]; decide
    · have := q.2.1; omega
  refine hred _ (fun r piv K gs' gp' nv' hg hX hpv => ?_)
  have hK := hG r piv K hg
  obtain ⟨k1, k2, k3, k4, k5, k6, k7, k8, k9⟩ := hK
  have hinj := x_KKi (hG r piv K hg)
  have hi : vp_in (nI m) 26 := b_in (by omega) (by omega)
  have i11 : (va_up iv 10 (nI r)) 11 = nI n := by rw [va_up_ne _ _ (by decide)]; exact hiv1
  have i12 : (va_up iv 10 (nI r)) 12 = nI p := by rw [va_up_ne _ _ (by decide)]; exact hiv2
  have i10 : (va_up iv 10 (nI r)) 10 = nI r := va_up_self _ _ _
  refine ⟨hi, fun z29 e29 => ⟨hi, fun z30 e30 => ⟨hi, fun z31 e31 => ⟨hi, ?_⟩⟩⟩⟩
  rw [e29, e30, e31, i10, i11, i12, nI_clamp (show m < 2 ^ 31 by omega)]
  have hbM := x_bmM hp (hG r piv K hg)
  have h142 : (2 : Nat) ^ 142 < 65536 ^ 9 := by decide +kernel
  have h23 : (65536 : Nat) ^ 9 ≤ 65536 ^ 23 := by decide +kernel
  refine r_keep (K := K) hp256 hm k2 (by omega) i10 i11 i12 hX (fun e i hi j hj => Nat.lt_of_le_of_lt ((k8 e i hi).2 j hj) (Nat.lt_of_lt_of_le h142 h23)) (fun gk' gq' gw' a1 a2 a3 a4 a5 => ?_)
  have hp12 : 2 ^ n ≤ 2 ^ 12 := Nat.pow_le_pow_right (by decide) k2
  have hp12 : 2 ^ n ≤ 4096 := hp12
  refine r_measure (b := x_bm p r K) (F := x_Fm p r K) hp256 hbM hm i11 i10 i12 hT (fun S => ?_) (fun S hS => ?_) (fun S hS hSr fr1 fc1 gm1 nv1 hnv post1 hpost => ?_) (fun fr' fc' gm' gR' gS' nv2 hnv c1 c2 c3 c4 => ?_)
  · unfold x_Fm
    split
    · exact x_sg3 _
    · split
      · exact Or.inr (Or.inl rfl)
      · exact Or.inr (Or.inr rfl)
  · constructor
    · intro q
      refine ⟨(hbM.2.2.1 S q).2, ?_⟩
      unfold x_bm at q
      rw [Bool.not_eq_true', decide_eq_false_iff_not] at q
      unfold x_Fm
      by_cases p0 : p = 0
      · rw [if_pos p0]
        unfold x_md at q
        rw [if_pos p0] at q
        unfold x_sg
        split
        · decide
        · decide
      · rw [if_neg p0, if_neg q]; decide
    · intro ⟨_, q⟩
      unfold x_bm
      rw [Bool.not_eq_true', decide_eq_false_iff_not]
      intro w
      refine q ?_
      unfold x_Fm
      by_cases p0 : p = 0
      · unfold x_md at w
        rw [if_pos p0] at w
        rw [if_pos p0, w]; rfl
      · rw [if_neg p0, if_pos w]
  · by_cases p0 : p = 0
    · have hX1 : r_X 0 n r gs' nv1 K := by
        subst p0
        refine ⟨fun c hc => ?_, fun i hi j hj => ?_⟩
        · rw [hnv c hc]; exact hX.1 c hc
        · rw [if_pos rfl, hnv _ (by omega)]
          have := hX.2 i hi j hj
          rw [if_pos rfl] at this; exact this
      refine r_minorQ (M := K) k2 k1 i10 i11 (by rw [i12, p0]; rfl) hS hSr hX1 (fun i hi => ⟨(k3 i hi).1, hpv i hi⟩) hinj (fun i hi => (k3 i hi).2) k4 (fun i hi j hj => Nat.lt_of_le_of_lt ((k8 p0 i hi).2 j hj) h142) (fun fr' fc' nv' hk => ?_)
      have e : x_Fm p r K S = x_sg (x_W K r S) := by unfold x_Fm; rw [if_pos p0]
      rw [← e]
      exact hpost fr' fc' gm1 nv' (fun d hd => by rw [hk d hd, hnv d hd])
    · obtain ⟨p1, p2, p3⟩ := hp.resolve_left p0
      haveI : NeZero p := ⟨p0⟩
      have hdom := x_fdom p1 p3
      refine r_minorP (M := fun i j => x_fp p (K i j)) p1 hp256 p3 k2 k1 i10 i11 i12 hS hSr (fun i hi j hj => ?_) (fun i hi => ⟨(k3 i hi).1, hpv i hi⟩) hinj (fun i hi => ?_) (fun i i' q1 q2 q3 => by show x_fp p (K i' (piv i)) = 0; rw [k4 i i' q1 q2 q3, x_fp0]) (fun fr' fc' gm' => ?_)
      · obtain ⟨b1, b2, b3⟩ := r_XP hX p0 hi hj
        rw [b1]
        show nI (K i j).toNat = nI (K i j % (p : Int)).toNat
        rw [Int.emod_eq_of_lt b2 b3]
      · show ¬ x_fp p (K i (piv i)) = 0
        rw [(k9 p0 i hi).2, x_fp1]
        exact hdom.2
      · have e : (if x_W (fun i j => x_fp p (K i j)) r S = 0 then (0 : Int32) else 1) = x_Fm p r K S := by
          unfold x_Fm
          rw [if_neg p0]
          simp only [x_mdz, x_fpW]
        rw [e]
        exact hpost fr' fc' gm' nv1 (fun d hd => hnv d hd)
  · refine h r piv K gs' gp' fr' fc' gm' gk' gq' gw' gR' gS' nv2 hg (fun c hc => ?_) ⟨hm, pk_us, pk_us, pk_us, pk_us, hp, hG r piv K hg, a1, c1, c3⟩ a4 ⟨a2, a3, a5, fun q hq => c2 q (by omega), fun q hq => c4 q (by omega)⟩
    rw [hnv c hc]; exact hX.1 c hc
end RBC
