/-! PURE, the class: Wide: takeCommon -/
section CWG
variable {lo1 mi1 hi1 lo2 mi2 hi2 : Int64}
theorem b_wodd {v : Nat} {lo mi hi : Int64} (hw : wd v lo mi hi) : lg_cmp (lo &&& 1) 0 = 0 ↔ v % 2 = 0 := by
  rw [hw.1, show (1 : Int64) = nL (2 ^ 1 - 1) from rfl, nL_low _ 1 (by decide), show (0 : Int64) = nL 0 from rfl, nL_eq (by omega) (by decide)]
  omega
theorem c_gc169 {post : Int64 → Int64 → Int64 → Int64 → Int64 → Int64 → Int64 → Int64 → Int64 → Int64 → Int64 → Int64 → Prop} {lo3 mi3 hi3 : Int64} {x k : Nat} (hG : 2 ^ k * x < 2 ^ 144) (hk : k < 1000) (h : ∀ lo mi hi, wd (2 ^ k * x) lo mi hi → post lo mi hi lo1 mi1 hi1 lo2 mi2 hi2 lo3 mi3 hi3) :
    ∀ t j, j + t = k → ∀ lo mi hi, wd (2 ^ j * x) lo mi hi → w319_L169 post (t + 1) (nI k) (nI j) lo mi hi lo1 mi1 hi1 lo2 mi2 hi2 lo3 mi3 hi3 := by
  intro t
  induction t with
  | zero =>
    intro j hj lo mi hi hw
    refine ⟨fun _ => h _ _ _ ?_, fun z => absurd (nI_le (by omega) (by omega)) z⟩
    rw [show k = j by omega]; exact hw
  | succ t ih =>
    intro j hj lo mi hi hw
    refine ⟨fun z => absurd z (nI_ge (by omega) (by omega)), fun _ => ?_⟩
    have hle : 2 ^ j * x ≤ 2 ^ k * x := Nat.mul_le_mul_right _ (Nat.pow_le_pow_right (by decide) (by omega))
    refine c_twice (bit := 0) hw (by omega) (by decide) (fun lo' mi' hi' hw' z4 e4 => ?_)
    rw [e4, nI_1]
    refine ih (j + 1) (by omega) _ _ _ ?_
    rw [Nat.pow_succ, Nat.mul_comm (2 ^ j) 2, Nat.mul_assoc]; exact hw'
theorem c_gc43 {post : Int64 → Int64 → Int64 → Int64 → Int64 → Int64 → Int64 → Int64 → Int64 → Int64 → Int64 → Int64 → Prop} {G : Nat} (hG : G < 2 ^ 144) (h : ∀ lo mi hi a b c, wd G lo mi hi → post lo mi hi lo1 mi1 hi1 lo2 mi2 hi2 a b c) :
    ∀ (t i k x y p q : Nat) (lo mi hi lo3 mi3 hi3 : Int64), 1 ≤ x → x < 2 ^ p → y < 2 ^ q → x < 2 ^ 144 → y < 2 ^ 144 → 2 ^ k * Nat.gcd x y = G → 2 * (p + q) + (if x % 2 = 1 ∧ y % 2 = 1 then 1 else 0) ≤ t → i + t ≤ 768 → k ≤ i → wd x lo mi hi → wd y lo3 mi3 hi3 → w319_L43 post (t + 1) (nI k) (nI i) lo mi hi lo1 mi1 hi1 lo2 mi2 hi2 lo3 mi3 hi3 := by
  intro t
  induction t with
  | zero =>
    intro i k x y p q lo mi hi lo3 mi3 hi3 h1 h2 h3 h4 h5 h6 h7 h8 h9 hw hw3
    have : p = 0 := by omega
    rw [this, Nat.pow_zero] at h2
    omega
  | succ t ih =>
    intro i k x y p q lo mi hi lo3 mi3 hi3 h1 h2 h3 h4 h5 h6 h7 h8 h9 hw hw3
    refine ⟨fun z => absurd z (nI_ge (b := 768) (by omega) (by decide)), fun _ => ?_⟩
    refine c_wzero hw3 ⟨fun z => ?_, fun z => ?_⟩
    · have hy : y = 0 := by
        by_cases k : y = 0
        · exact k
        · rw [if_neg k] at z; exact absurd rfl z
      rw [hy, Nat.gcd_zero_right] at h6
      unfold w319_L166
      refine ⟨k + 1, c_gc169 (x := x) (by rw [h6]; exact hG) (by omega) (fun lo mi hi hw => h _ _ _ _ _ _ (by rw [← h6]; exact hw)) k 0 (by omega) _ _ _ ?_⟩
      rw [Nat.pow_zero, Nat.one_mul]; exact hw
    · have hy : y ≠ 0 := fun k => by rw [if_pos k] at z; exact absurd z (by decide)
      have hq : q ≠ 0 := fun k => by rw [k, Nat.pow_zero] at h3; omega
      have hp : p ≠ 0 := fun k => by rw [k, Nat.pow_zero] at h2; omega
      obtain ⟨p', rfl⟩ : ∃ p', p = p' + 1 := ⟨p - 1, by omega⟩
      obtain ⟨q', rfl⟩ : ∃ q', q = q' + 1 := ⟨q - 1, by omega⟩
      have hx2 : x / 2 < 2 ^ p' := by rw [Nat.pow_succ] at h2; omega
      have hy2 : y / 2 < 2 ^ q' := by rw [Nat.pow_succ] at h3; omega
      have ei : ∀ (a b : Nat), (if a % 2 = 1 ∧ b % 2 = 1 then 1 else 0) ≤ 1 := fun a b => by split <;> omega
      have odd2 : ∀ b, b % 2 = 1 → Nat.Coprime 2 b := fun b hb => by
        have e : Nat.gcd 2 b = Nat.gcd (b % 2) 2 := Nat.gcd_rec 2 b
        show Nat.gcd 2 b = 1
        rw [e, hb, Nat.gcd_one_left]
      have go : ∀ (k' x' y' p2 q2 : Nat) (x6 x7 : Int32) (a b c a3 b3 c3 : Int64), wd x' a b c → wd y' a3 b3 c3 → 1 ≤ x' → x' < 2 ^ p2 → y' < 2 ^ q2 → x' < 2 ^ 144 → y' < 2 ^ 144 → 2 ^ k' * Nat.gcd x' y' = G → 2 * (p2 + q2) + (if x' % 2 = 1 ∧ y' % 2 = 1 then 1 else 0) ≤ t → k' ≤ i + 1 → w319_L160 (w319_L43 post (t + 1)) post (nI k') (nI i) x6 x7 a b c lo1 mi1 hi1 lo2 mi2 hi2 a3 b3 c3 := by
        intro k' x' y' p2 q2 x6 x7 a b c a3 b3 c3 g1 g2 g3 g4 g5 g6 g7 g8 g9 g10
        intro z5 e5
        rw [e5, nI_1]
        exact ih (i + 1) k' x' y' p2 q2 _ _ _ _ _ _ g3 g4 g5 g6 g7 g8 g9 (by omega) (by omega) g1 g2
      have p0 : ∀ m : Nat, nI m + 0 = nI m := fun m => Int32.add_zero _
      by_cases ox : x % 2 = 0
      · refine ⟨fun z => absurd ((b_wodd hw).2 ox) z, fun _ => ?_⟩
        by_cases oy : y % 2 = 0
        · refine ⟨fun z => absurd ((b_wodd hw3).2 oy) z, fun _ => ⟨fun z => absurd z (by decide), fun _ => c_halve hw (fun a b c hw' => ?_)⟩⟩
          refine ⟨fun z => absurd z (by decide), fun _ => c_halve hw3 (fun a3 b3 c3 hw3' => ?_)⟩
          refine ⟨fun z => absurd z (by decide), fun _ => ⟨fun z => absurd z (by decide), fun _ z12 e12 => ?_⟩⟩
          rw [e12, nI_1]
          refine ⟨fun _ => ?_, fun z => absurd z (by decide)⟩
          refine go (k + 1) (x / 2) (y / 2) p' q' _ _ _ _ _ _ _ _ hw' hw3' (by omega) hx2 hy2 (by omega) (by omega) ?_ (by have := ei (x / 2) (y / 2); omega) (by omega)
          have e : Nat.gcd x y = 2 * Nat.gcd (x / 2) (y / 2) := by
            rw [← Nat.gcd_mul_left, show 2 * (x / 2) = x by omega, show 2 * (y / 2) = y by omega]
          rw [← h6, e, Nat.pow_succ, Nat.mul_assoc]
        · refine ⟨fun _ => ⟨fun z => absurd z (by decide), fun _ => c_halve hw (fun a b c hw' => ?_)⟩, fun z => absurd ((b_wodd hw3).1 z) oy⟩
          refine ⟨fun _ => ⟨fun z => absurd z (by decide), fun _ => ⟨fun _ => ?_, fun z => absurd rfl z⟩⟩, fun z => absurd rfl z⟩
          intro z12 e12
          rw [e12, p0]
          refine ⟨fun _ => ?_, fun z => absurd z (by decide)⟩
          refine go k (x / 2) y p' (q' + 1) _ _ _ _ _ _ _ _ hw' hw3 (by omega) hx2 h3 (by omega) h5 ?_ (by have := ei (x / 2) y; omega) (by omega)
          rw [← h6]
          have e := (odd2 y (by omega)).gcd_mul_left_cancel (x / 2)
          rw [show 2 * (x / 2) = x by omega] at e
          rw [e]
      · refine ⟨fun _ => ?_, fun z => absurd ((b_wodd hw).1 z) ox⟩
        by_cases oy : y % 2 = 0
        · refine ⟨fun z => absurd ((b_wodd hw3).2 oy) z, fun _ => ⟨fun _ => ?_, fun z => absurd rfl z⟩⟩
          refine ⟨fun z => absurd z (by decide), fun _ => c_halve hw3 (fun a3 b3 c3 hw3' => ?_)⟩
          refine ⟨fun _ => ?_, fun z => absurd rfl z⟩
          intro z12 e12
          rw [e12, p0]
          refine ⟨fun z => absurd rfl z, fun _ => ⟨fun _ => ?_, fun z => absurd z (by decide)⟩⟩
          refine go k x (y / 2) (p' + 1) q' _ _ _ _ _ _ _ _ hw hw3' h1 h2 hy2 h4 (by omega) ?_ (by have := ei x (y / 2); omega) (by omega)
          rw [← h6]
          have e := (odd2 x (by omega)).gcd_mul_left_cancel (y / 2)
          rw [show 2 * (y / 2) = y by omega] at e
          rw [Nat.gcd_comm x (y / 2), Nat.gcd_comm x y, e]
        · refine ⟨fun _ => ⟨fun _ => ?_, fun z => absurd rfl z⟩, fun z => absurd ((b_wodd hw3).1 z) oy⟩
          refine ⟨fun _ => ⟨fun _ => ?_, fun z => absurd rfl z⟩, fun z => absurd rfl z⟩
          intro z12 e12
          rw [e12, p0]
          refine ⟨fun z => absurd rfl z, fun _ => ⟨fun z => absurd rfl z, fun _ => ?_⟩⟩
          rw [if_pos ⟨by omega, by omega⟩] at h7
          refine c_wcmp hw hw3 ⟨fun z => ?_, fun z => ?_⟩
          · have hle : x ≤ y := by
              unfold x_cmp at z
              by_cases k1 : x < y
              · omega
              · rw [if_neg k1] at z
                by_cases k2 : x = y
                · omega
                · rw [if_neg k2] at z; exact absurd z (by decide)
            refine c_wsub hw3 hw hle (fun a3 b3 c3 hs => ?_)
            refine go k x (y - x) (p' + 1) (q' + 1) _ _ _ _ _ _ _ _ hw hs h1 h2 (by omega) h4 (by omega) ?_ (by rw [if_neg (by omega)]; omega) (by omega)
            rw [← h6, Nat.gcd_sub_self_right hle]
          · have hlt : y < x := by
              unfold x_cmp at z
              by_cases k1 : x < y
              · rw [if_pos k1] at z; exact absurd (by decide) z
              · rw [if_neg k1] at z
                by_cases k2 : x = y
                · rw [if_pos k2] at z; exact absurd (by decide) z
                · omega
            unfold w327_wp
            refine c_wsub hw hw3 (by omega) (fun a3 b3 c3 hs => ?_)
            refine go k y (x - y) (q' + 1) (p' + 1) _ _ _ _ _ _ _ _ hw3 hs (by omega) h3 (by omega) h5 (by omega) ?_ (by rw [if_neg (by omega)]; omega) (by omega)
            rw [← h6, Nat.gcd_sub_self_right (by omega), Nat.gcd_comm]
theorem c_common2 {post : Int64 → Int64 → Int64 → Int64 → Int64 → Int64 → Int64 → Int64 → Int64 → Int64 → Int64 → Int64 → Prop} {lo mi hi lo3 mi3 hi3 : Int64} {A B : Nat} (hA : 0 < A) (hB : 0 < B) (hA2 : A < 2 ^ 144) (hB2 : B < 2 ^ 144) (hw1 : wd A lo1 mi1 hi1) (hw2 : wd B lo2 mi2 hi2) (h : ∀ lo mi hi a b c, wd (Nat.gcd A B) lo mi hi → post lo mi hi lo1 mi1 hi1 lo2 mi2 hi2 a b c) :
    w319_wp post lo mi hi lo1 mi1 hi1 lo2 mi2 hi2 lo3 mi3 hi3 := by
  have hG : Nat.gcd A B < 2 ^ 144 := Nat.lt_of_le_of_lt (Nat.gcd_le_left B hA) hA2
  have h27 : w319_L27 post lo mi hi lo1 mi1 hi1 lo2 mi2 hi2 lo3 mi3 hi3 := by
    unfold w319_L27 w323_wp
    refine ⟨768 + 1, c_gc43 (G := Nat.gcd A B) hG h 768 0 0 A B 144 144 _ _ _ _ _ _ hA hA2 hB2 hA2 hB2 (by rw [Nat.pow_zero, Nat.one_mul]) (by split <;> omega) (by omega) (by omega) hw1 hw2⟩
  unfold w319_wp
  refine c_wshort hw1 ⟨fun _ => h27, fun z => ?_⟩
  have z1 : A < 2 ^ 63 := by
    by_cases k : A < 2 ^ 63
    · exact k
    · rw [if_neg k] at z; exact absurd rfl z
  refine c_wshort hw2 ⟨fun _ => h27, fun z => ?_⟩
  have z2 : B < 2 ^ 63 := by
    by_cases k : B < 2 ^ 63
    · exact k
    · rw [if_neg k] at z; exact absurd rfl z
  refine c_wlong hw1 z1 (c_wlong hw2 z2 ?_)
  exact c_short z1 z2 (fun lo' mi' hi' hw => h _ _ _ _ _ _ hw) hA
end CWG
