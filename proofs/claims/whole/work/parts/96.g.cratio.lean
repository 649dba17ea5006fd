/-! PURE, the class: Minors.writeRatio -/
def x_inv (p a : Nat) : Nat := ((List.range p).find? (fun b => decide (a * b % p = 1))).getD 0
/-- a ratio over Q, as it is written -/
def x_rt0 (neg : Bool) (A B : Int) : List Nat := if A = 0 ∨ B = 0 then [48] else x_str (if ((neg ^^ decide (A < 0)) ^^ decide (B < 0)) = true then 6 else 1) ++ (x_dg (A.natAbs / Nat.gcd A.natAbs B.natAbs) ++ (if B.natAbs / Nat.gcd A.natAbs B.natAbs = 1 then [] else [47] ++ x_dg (B.natAbs / Nat.gcd A.natAbs B.natAbs)))
theorem b_x01 (a b : Bool) : (if a = true then (1 : Int32) else 0) ^^^ (if b = true then 1 else 0) = if (a ^^ b) = true then 1 else 0 := by cases a <;> cases b <;> decide
theorem b_if01 (a : Bool) : ((if a = true then (1 : Int32) else 0) = 0) ↔ a = false := by cases a <;> decide
section CRT
variable {q_l q_m q_h l q_b l_b M T mc ms : Nat} {m_size m_height pl pf : Int32} {m_loaded : Option Nat} {g_l g_m g_h : Nat → Int64} {g_b g_d : Nat → Int32} {U : List Nat} {A B : Int} {S i j : Nat} {minus : Bool}
abbrev px_RT := Nat → Nat → Nat → Nat → Nat → Nat → Int32 → Int32 → Int32 → Option Nat → (Nat → Int64) → (Nat → Int64) → (Nat → Int64) → Int64 → Int64 → Int64 → Int64 → Int64 → Int64 → Int64 → Int64 → Int64 → Int64 → Int64 → Int64 → pr_P
theorem c_take2 {post : Int32 → Int64 → Int64 → Int64 → Prop} {z : Int} {lo mi hi a b c : Int64} (hz : z.natAbs < 2 ^ 144) (hm : mn z a b c) (h : ∀ lo' mi' hi', wd z.natAbs lo' mi' hi' → post (if decide (z < 0) = true then 1 else 0) lo' mi' hi') : w317_wp post a b c lo mi hi := by
  obtain ⟨e1, e2, e3⟩ := hm
  rw [e1, e2, e3]
  have hs : z / 2 ^ 96 * 2 ^ 96 + z / 2 ^ 48 % 2 ^ 48 * 2 ^ 48 + z % 2 ^ 48 = z := by omega
  refine c_take (by omega) (by omega) (by omega) (by omega) (by omega) (by omega) ?_ (fun lo' mi' hi' hw => ?_)
  · rw [hs]
    by_cases q : z / 2 ^ 96 < 0
    · rw [if_pos q]; omega
    · rw [if_neg q]; omega
  · rw [hs] at hw
    have e : (if z / 2 ^ 96 < 0 then (1 : Int32) else 0) = if decide (z < 0) = true then 1 else 0 := by
      by_cases q : z < 0
      · rw [if_pos (by omega), decide_eq_true q]; rfl
      · rw [if_neg (by omega), decide_eq_false q]; rfl
    rw [e]
    exact h _ _ _ hw
theorem c_ratio0 (hS : S < 4096) (hi : i < 12) (hj : j < 12) (hij : i < j) (hl1 : S < l) (hl2 : S ^^^ (2 ^ i ||| 2 ^ j) < l) (hl : l < 2 ^ 31) (hA : mn A (g_l (S ^^^ (2 ^ i ||| 2 ^ j))) (g_m (S ^^^ (2 ^ i ||| 2 ^ j))) (g_h (S ^^^ (2 ^ i ||| 2 ^ j)))) (hB : mn B (g_l S) (g_m S) (g_h S)) (hA2 : A.natAbs < 2 ^ 144) (hB2 : B.natAbs < 2 ^ 144) {w1 w2 w3 w4 w5 w6 w7 w8 w9 w10 w11 w12 : Int64} :
    pr_S (fun _ _ => True) (x_rt0 (minus ^^ x_cr S i j) A B) (fun mc ms post q_b l_b pl pf g_b g_d => ∀ Post : px_RT, (∀ w1 w2 w3 w4 w5 w6 w7 w8 w9 w10 w11 w12 q_b l_b pl pf g_b g_d, post q_b l_b pl pf g_b g_d → Post q_l q_m q_h l l l 0 m_size m_height m_loaded g_l g_m g_h w1 w2 w3 w4 w5 w6 w7 w8 w9 w10 w11 w12 q_b l_b pl pf g_b g_d) → w315_wp mc ms Post (nI S) (nI (2 ^ i ||| 2 ^ j)) (if minus = true then 1 else 0) q_l q_m q_h l l l 0 m_size m_height m_loaded g_l g_m g_h w1 w2 w3 w4 w5 w6 w7 w8 w9 w10 w11 w12 q_b l_b pl pf g_b g_d) := by
  intro mc ms post q_b l_b pl pf g_b g_d M T U hI hb hM h Post hP
  unfold w315_wp
  refine c_crosses hS hi hj hij (fun z60 e60 z61 e61 => ⟨fun _ => ?_, fun z => absurd rfl z⟩)
  rw [b_x01] at e60
  rw [b_xor] at e61
  rw [e61, e60, nI_clamp (show S ^^^ (2 ^ i ||| 2 ^ j) < 2 ^ 31 by omega), nI_clamp (show S < 2 ^ 31 by omega)]
  refine ⟨b_in hl2 (by omega), b_in hl2 (by omega), b_in hl2 (by omega), c_take2 hA2 hA (fun a1 a2 a3 hwa z66 e66 => ⟨b_in hl1 (by omega), b_in hl1 (by omega), b_in hl1 (by omega), c_take2 hB2 hB (fun b1 b2 b3 hwb z71 e71 => ?_)⟩)⟩
  rw [b_x01] at e66
  rw [e66, b_x01] at e71
  rw [e71]
  have h157 : ∀ (x2 x3 x4 x5 x6 : Int32) (w1 w2 w3 w4 w5 w6 w7 w8 w9 w10 w11 w12 : Int64), A = 0 ∨ B = 0 → w315_L157 mc ms Post x2 x3 x4 x5 x6 q_l q_m q_h l l l 0 m_size m_height m_loaded g_l g_m g_h w1 w2 w3 w4 w5 w6 w7 w8 w9 w10 w11 w12 q_b l_b pl pf g_b g_d 0 0 := by
    intro x2 x3 x4 x5 x6 w1 w2 w3 w4 w5 w6 w7 w8 w9 w10 w11 w12 hz
    unfold w315_L157
    rw [show x_rt0 (minus ^^ x_cr S i j) A B = [48] from if_pos hz] at hM h
    exact c_sub (V := [48]) (P := fun mc ms post => w270_wp mc ms post 48) (post := fun _ _ v43 v44 v45 v46 v47 v48 => Post q_l q_m q_h l l l 0 m_size m_height m_loaded g_l g_m g_h w1 w2 w3 w4 w5 w6 w7 w8 w9 w10 w11 w12 v43 v44 v45 v46 v47 v48) (c_pput (c := 48) (by decide)) hI hb hM (fun _ _ _ _ _ _ _ _ a _ _ => hP _ _ _ _ _ _ _ _ _ _ _ _ _ _ _ _ _ _ (h _ _ _ _ _ _ a trivial))
  refine c_wzero hwa ⟨fun z => h157 _ _ _ _ _ _ _ _ _ _ _ _ _ _ _ _ _ (Or.inl ?_), fun z => c_wzero hwb ⟨fun z2 => ?_, fun z2 => h157 _ _ _ _ _ _ _ _ _ _ _ _ _ _ _ _ _ (Or.inr ?_)⟩⟩
  · by_cases k : A.natAbs = 0
    · omega
    · rw [if_neg k] at z; exact absurd rfl z
  · have hA0 : A ≠ 0 := fun k => by rw [k] at z; exact absurd z (by decide)
    have hB0 : B ≠ 0 := fun k => by rw [k] at z2; exact absurd z2 (by decide)
    have hg0 : 0 < Nat.gcd A.natAbs B.natAbs := Nat.gcd_pos_of_pos_left _ (by omega)
    have hg1 : Nat.gcd A.natAbs B.natAbs < 2 ^ 144 := Nat.lt_of_le_of_lt (Nat.gcd_le_left _ (by omega)) hA2
    refine c_common2 (by omega) (by omega) hA2 hB2 hwa hwb (fun d1 d2 d3 r1 r2 r3 hwd => ?_)
    refine c_divide hg0 hg1 hA2 hwa hwd (fun e1 e2 e3 r4 r5 r6 hwe => c_divide hg0 hg1 hB2 hwb hwd (fun f1 f2 f3 r7 r8 r9 hwf => ?_))
    rw [show x_rt0 (minus ^^ x_cr S i j) A B = x_str (if (((minus ^^ x_cr S i j) ^^ decide (A < 0)) ^^ decide (B < 0)) = true then 6 else 1) ++ (x_dg (A.natAbs / Nat.gcd A.natAbs B.natAbs) ++ (if B.natAbs / Nat.gcd A.natAbs B.natAbs = 1 then [] else [47] ++ x_dg (B.natAbs / Nat.gcd A.natAbs B.natAbs))) from if_neg (fun k => k.elim hA0 hB0)] at hM h
    generalize (((minus ^^ x_cr S i j) ^^ decide (A < 0)) ^^ decide (B < 0)) = neg at *
    have hAg : A.natAbs / Nat.gcd A.natAbs B.natAbs < 2 ^ 144 := Nat.lt_of_le_of_lt (Nat.div_le_self _ _) hA2
    have hBg : B.natAbs / Nat.gcd A.natAbs B.natAbs < 2 ^ 144 := Nat.lt_of_le_of_lt (Nat.div_le_self _ _) hB2
    generalize A.natAbs / Nat.gcd A.natAbs B.natAbs = Ag at *
    generalize B.natAbs / Nat.gcd A.natAbs B.natAbs = Bg at *
    have h226 : ∀ (x2 x3 x4 x5 x6 : Int32) (w7 w8 w9 w10 w11 w12 : Int64), w315_L226 mc ms Post x2 x3 x4 x5 x6 (if neg = true then 6 else 1) q_l q_m q_h l l l 0 m_size m_height m_loaded g_l g_m g_h e1 e2 e3 f1 f2 f3 w7 w8 w9 w10 w11 w12 q_b l_b pl pf g_b g_d 0 0 := by
      intro x2 x3 x4 x5 x6 w7 w8 w9 w10 w11 w12
      unfold w315_L226
      refine c_sub2 (V := x_str (if neg = true then 6 else 1)) (P := fun mc ms post => w278_wp mc ms (if neg = true then 6 else 1) post) (c_text (by split <;> decide)) hI hb hM (fun m s q1 l1 pl1 pf1 g1 gd1 hI hM hb => ?_)
      obtain ⟨m2, s2, k1, k2, k3⟩ := c_sub2 (post := fun m s q' l' pl' pf' g' gd' => pr_I M T l' pl' pf' g' ((U ++ x_str (if neg = true then 6 else 1)) ++ x_dg Ag) ∧ pr_b (0 + _ + m) (0 + _ + s) l' T mc ms) (c_wide hAg hwe) hI hb hM (fun m s q' l' pl' pf' g' gd' hI hM hb => ⟨hI, hb⟩)
      have hM2 : min 65536 (((U ++ x_str (if neg = true then 6 else 1)) ++ x_dg Ag).length + (if Bg = 1 then [] else [47] ++ x_dg Bg).length) ≤ M := by
        simp only [List.length_append] at hM ⊢
        omega
      refine ⟨m2, s2, k1, k2, k3 _ (fun q2 l2 pl2 pf2 g2 gd2 a b c ⟨hI, hb⟩ => c_wone hwf ⟨fun z => ?_, fun z => ?_⟩)⟩
      · have hB1 : Bg = 1 := by
          by_cases k : Bg = 1
          · exact k
          · rw [if_neg k] at z; exact absurd rfl z
        refine hP _ _ _ _ _ _ _ _ _ _ _ _ _ _ _ _ _ _ (h _ _ _ _ _ _ ?_ trivial)
        rw [if_pos hB1, List.append_nil, ← List.append_assoc]
        exact hI
      · have hB1 : ¬ Bg = 1 := fun k => by rw [if_pos k] at z; exact absurd z (by decide)
        rw [if_neg hB1] at hM2 h
        refine c_sub2 (V := [47]) (P := fun mc ms post => w270_wp mc ms post 47) (c_pput (c := 47) (by decide)) hI hb hM2 (fun m s q1 l1 pl1 pf1 g1 gd1 hI hM hb => ?_)
        obtain ⟨m3, s3, k1, k2, k3⟩ := c_sub (post := fun _ _ q' l' pl' pf' g' gd' => pr_I M T l' pl' pf' g' ((((U ++ x_str (if neg = true then 6 else 1)) ++ x_dg Ag) ++ [47]) ++ x_dg Bg)) (c_wide hBg hwf) hI hb hM (fun m s q' l' pl' pf' g' gd' hI _ hb => hI)
        refine ⟨m3, s3, k1, k2, k3 _ (fun q2 l2 pl2 pf2 g2 gd2 a b c hI => hP _ _ _ _ _ _ _ _ _ _ _ _ _ _ _ _ _ _ (h _ _ _ _ _ _ ?_ trivial))⟩
        rw [List.append_assoc, List.append_assoc, List.append_assoc] at hI
        exact hI
    refine ⟨fun w => ?_, fun w => ?_⟩
    · have := h226 (nI S) (nI (2 ^ i ||| 2 ^ j)) (if minus = true then 1 else 0) (if neg = true then 1 else 0) (nI (S ^^^ (2 ^ i ||| 2 ^ j))) d1 d2 d3 r7 r8 r9
      rw [show (if neg = true then 6 else 1) = 1 by rw [(b_if01 neg).1 w]; rfl] at this
      exact this
    · have := h226 (nI S) (nI (2 ^ i ||| 2 ^ j)) (if minus = true then 1 else 0) (if neg = true then 1 else 0) (nI (S ^^^ (2 ^ i ||| 2 ^ j))) d1 d2 d3 r7 r8 r9
      have hneg : neg = true := by
        cases neg with
        | true => rfl
        | false => exact absurd ((b_if01 false).2 rfl) w
      rw [show (if neg = true then 6 else 1) = 6 by rw [hneg]; rfl] at this
      exact this
  · by_cases k : B.natAbs = 0
    · omega
    · rw [if_neg k] at z2; exact absurd rfl z2
end CRT
