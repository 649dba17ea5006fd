/-! PURE: what the class uses of a set that goes -/
theorem x_bgT {p : Nat} {g : Nat → Int} {T : Nat} : x_bg p g T = true ↔ ¬ x_md p (g T) = 0 := by
  unfold x_bg
  by_cases q : x_md p (g T) = 0
  · rw [decide_eq_true q]; exact ⟨fun w => Bool.noConfusion w, fun w => absurd q w⟩
  · rw [decide_eq_false q]; exact ⟨fun _ => q, fun _ => rfl⟩
theorem x_sbe {A B : Nat} (h : x_n A ≤ x_n (A &&& B)) : ∀ i, i < 12 → A.testBit i = true → B.testBit i = true := fun i hi w => by
  have e := x_cneq (f := fun i => A.testBit i && B.testBit i) (g := fun i => A.testBit i) 12 (fun i _ w => (Bool.and_eq_true_iff.1 w).1) (by
    have a1 : x_cn 12 (fun i => A.testBit i && B.testBit i) = x_n (A &&& B) := (x_nand _ _).symm
    have a2 : x_cn 12 (fun i => A.testBit i) = x_n A := rfl
    have a6 := x_nandr (S := A) (B := B)
    omega) i hi
  have e2 : (A.testBit i && B.testBit i) = A.testBit i := e
  rw [w, Bool.true_and] at e2
  exact e2
theorem x_lt12 {n S e : Nat} (hn : n ≤ 12) (hS : S < 2 ^ n) (h : S.testBit e = true) : e < n := by
  refine Classical.byContradiction (fun q => ?_)
  rw [Nat.testBit_lt_two_pow (Nat.lt_of_lt_of_le hS (Nat.pow_le_pow_right (by decide) (by omega)))] at h
  exact Bool.noConfusion h
theorem x_UcR {p n r S : Nat} {g : Nat → Int} (hM : x_M n r (x_bg p g)) (hS : S < 2 ^ n) : x_Uc p n g S (x_ra (x_bg p g) S n 0 &&& S) := by
  have hn := hM.1
  have hb : ∀ i, (x_ra (x_bg p g) S n 0).testBit i = true → S.testBit i = true := fun i w => by
    rcases x_rab n i w with z | z
    · rw [Nat.zero_testBit] at z; exact Bool.noConfusion z
    · exact z.2
  have he : x_ra (x_bg p g) S n 0 &&& S = x_ra (x_bg p g) S n 0 := by
    refine Nat.eq_of_testBit_eq (fun i => ?_)
    rw [Nat.testBit_and]
    cases q : (x_ra (x_bg p g) S n 0).testBit i
    · rfl
    · rw [hb i q]; rfl
  rw [he]
  have h1 := x_rar hM (set := S) (g := 0) n hn
  have h0 : x_n 0 = 0 := by decide
  have h00 : x_rk (x_bg p g) 0 = 0 := by have := x_rkn (b := x_bg p g) 0; omega
  have h2 := x_rac hM (set := S) (g := 0) n hn
  have hlt : x_ra (x_bg p g) S n 0 < 2 ^ n := by
    refine Nat.lt_of_le_of_lt (m := S) ?_ hS
    rw [← he]; exact Nat.and_le_right
  generalize x_ra (x_bg p g) S n 0 = G at *
  have hi : x_rk (x_bg p g) G = x_n G := by omega
  have key : ∀ T c, ¬ x_md p (g T) = 0 → (∀ e, G.testBit e = true → T.testBit e = true) → S.testBit c = true → c < 12 → T.testBit c = true → G.testBit c = true := fun T c t1 t2 t3 t4 t5 => by
    cases q : G.testBit c
    · have hcn := x_lt12 hn hS t3
      have a1 := h2 c hcn t3 q
      have a2 := x_indr hM (x_bgT.2 t1) (S := x_t G c) (fun i _ w => by
        by_cases z : i = c
        · rw [z]; exact t5
        · rw [x_tbn z] at w; exact t2 i w)
      have a3 := x_nt0 (S := G) t4 q
      omega
    · rfl
  refine ⟨hlt, hb, ?_, key⟩
  obtain ⟨T, t1, t2⟩ := x_ind hM hi
  have t2' : ∀ e, G.testBit e = true → T.testBit e = true := fun e w => t2 e (by have := x_lt12 hn hlt w; omega) w
  refine ⟨T, x_bgT.1 t1, t2', fun e w => ?_⟩
  cases q : S.testBit e
  · exact Or.inr rfl
  · have := x_lt12 hn hS q
    exact Or.inl (key T e (x_bgT.1 t1) t2' q (by omega) w)
theorem x_UdR {p n r S : Nat} {g : Nat → Int} (hM : x_M n r (x_bg p g)) (hS : S < 2 ^ n) : x_Ud p n g S (x_ra (x_bg p g) S n (x_co n S) &&& S) := by
  have hn := hM.1
  have hcob := fun e => x_cobS (n := n) (S := S) (e := e) hS
  have hco12 : x_co n S < 2 ^ 12 := by
    have hco : x_co n S < 2 ^ n := Nat.xor_lt_two_pow (by have : 0 < 2 ^ n := Nat.two_pow_pos n; omega) hS
    exact Nat.lt_of_lt_of_le hco (Nat.pow_le_pow_right (by decide) hn)
  have hras : ∀ i, (x_co n S).testBit i = true → (x_ra (x_bg p g) S n (x_co n S)).testBit i = true := fun i => x_ras n i
  have hrab : ∀ i, (x_ra (x_bg p g) S n (x_co n S)).testBit i = true → (x_co n S).testBit i = true ∨ (i < n ∧ S.testBit i = true) := fun i => x_rab n i
  have h1 := x_rar hM (set := S) (g := x_co n S) n hn
  have h2 := x_rac hM (set := S) (g := x_co n S) n hn
  generalize x_ra (x_bg p g) S n (x_co n S) = G at *
  have hU : (G &&& S) < 2 ^ n := Nat.lt_of_le_of_lt Nat.and_le_right hS
  have hUb : ∀ i, (G &&& S).testBit i = true ↔ G.testBit i = true ∧ S.testBit i = true := fun i => by rw [Nat.testBit_and, Bool.and_eq_true_iff]
  -- the rank of G is all
  have hall : x_rk (x_bg p g) (2 ^ n - 1) = r := x_rkall hM (fun i hi => by rw [Nat.testBit_two_pow_sub_one]; exact decide_eq_true hi)
  have hG : x_rk (x_bg p g) G = r := by
    rw [← hall]
    refine (x_span hM (set := S) (G := G) (fun e he w1 w2 => ?_) _ (2 ^ n - 1) rfl (fun i hi w => ?_) (fun i hi w => ?_)).symm
    · exact h2 e (x_lt12 hn hS w1) w1 w2
    · rw [Nat.testBit_two_pow_sub_one]
      rcases hrab i w with z | z
      · exact decide_eq_true ((hcob i).1 z).1
      · exact decide_eq_true z.1
    · rw [Nat.testBit_two_pow_sub_one] at w
      have w := of_decide_eq_true w
      cases q : S.testBit i
      · exact Or.inl (hras i ((hcob i).2 ⟨w, q⟩))
      · exact Or.inr rfl
  -- G is its part in S and all else
  have hcnt : ∀ T : Nat, x_n (G &&& T) = x_n (x_co n S &&& T) + x_n ((G &&& S) &&& T) := fun T => by
    rw [x_nand, x_nand, x_nand]
    have gen : ∀ k, k ≤ 12 → x_cn k (fun i => G.testBit i && T.testBit i) = x_cn k (fun i => (x_co n S).testBit i && T.testBit i) + x_cn k (fun i => (G &&& S).testBit i && T.testBit i) := fun k => by
      induction k with
      | zero => intro _; rfl
      | succ k ih =>
        intro hk
        show x_cn k (fun i => G.testBit i && T.testBit i) + (if (G.testBit k && T.testBit k) = true then 1 else 0) = (x_cn k (fun i => (x_co n S).testBit i && T.testBit i) + (if ((x_co n S).testBit k && T.testBit k) = true then 1 else 0)) + (x_cn k (fun i => (G &&& S).testBit i && T.testBit i) + (if ((G &&& S).testBit k && T.testBit k) = true then 1 else 0))
        rw [ih (by omega)]
        have e : (if (G.testBit k && T.testBit k) = true then 1 else 0) = (if ((x_co n S).testBit k && T.testBit k) = true then 1 else 0) + (if ((G &&& S).testBit k && T.testBit k) = true then 1 else 0) := by
          rw [Nat.testBit_and]
          cases q : (x_co n S).testBit k with
          | true =>
            have q1 := hras k q
            have q2 := ((hcob k).1 q).2
            rw [q1, q2]
            cases T.testBit k <;> rfl
          | false =>
            cases q1 : G.testBit k with
            | true =>
              have q2 := (hrab k q1).resolve_left (by rw [q]; exact Bool.noConfusion)
              rw [q2.2]
              cases T.testBit k <;> rfl
            | false => cases T.testBit k <;> rfl
        omega
    exact gen 12 (Nat.le_refl _)
  have hnG : x_n G = x_n (x_co n S) + x_n (G &&& S) := by
    have hGlt : G < 2 ^ 12 := by
      refine Nat.lt_pow_two_of_testBit G (fun i hi => ?_)
      cases q : G.testBit i
      · rfl
      · rcases hrab i q with z | z
        · have := ((hcob i).1 z).1; omega
        · omega
    have := hcnt (2 ^ 12 - 1)
    rw [Nat.and_two_pow_sub_one_of_lt_two_pow hGlt, Nat.and_two_pow_sub_one_of_lt_two_pow hco12, Nat.and_two_pow_sub_one_of_lt_two_pow (Nat.lt_of_le_of_lt Nat.and_le_left hGlt)] at this
    exact this
  have hrc : x_rk (x_bg p g) (x_co n S) + x_n (G &&& S) = r := by omega
  have key : ∀ T u, ¬ x_md p (g T) = 0 → (∀ e, e < 12 → T.testBit e = true → (G &&& S).testBit e = true ∨ S.testBit e = false) → u < 12 → (G &&& S).testBit u = true → T.testBit u = true := fun T u t1 t2 hu hbu => by
    have tb := x_bgT.2 t1
    have tn := (hM.2.2.1 T tb).2
    have tl := (hM.2.2.1 T tb).1
    have a1 : x_n (G &&& T) = x_n T := by
      rw [x_nand]
      exact x_cnc 12 (fun i hi => by
        cases w : T.testBit i
        · rw [Bool.and_false]
        · have : G.testBit i = true := by
            rcases t2 i hi w with z | z
            · exact ((hUb i).1 z).1
            · exact hras i ((hcob i).2 ⟨x_lt12 hn tl w, z⟩)
          rw [this]; rfl)
    have a2 := hcnt T
    have a3 := x_rkle hM (x_co n S) tb
    exact x_sbe (by omega) u hu hbu
  refine ⟨hU, fun e w => ((hUb e).1 w).2, ?_, key⟩
  obtain ⟨T, t1, t2⟩ := x_rkex hM G
  have tn := (hM.2.2.1 T t1).2
  have tl := (hM.2.2.1 T t1).1
  have tsub : ∀ i, i < 12 → T.testBit i = true → G.testBit i = true := x_sbe (by rw [Nat.and_comm]; omega)
  have t3 : ∀ e, e < 12 → T.testBit e = true → (G &&& S).testBit e = true ∨ S.testBit e = false := fun e he w => by
    cases q : S.testBit e
    · exact Or.inr rfl
    · exact Or.inl ((hUb e).2 ⟨tsub e he w, q⟩)
  refine ⟨T, x_bgT.1 t1, fun e w => ?_, fun e w => t3 e (by have := x_lt12 hn tl w; omega) w⟩
  exact key T e (x_bgT.1 t1) t3 (by have := x_lt12 hn hU w; omega) w
