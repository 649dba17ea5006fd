/-! PURE, the class: feed, end, place, why, printed, out -/
/-- the byte of v that a shift by k gives -/
def x_byt (v k : Int32) : Int32 := vp_nar .byte (v >>> (k &&& 31)).toInt8.toInt32
theorem b_nar256 : ∀ k, k < 256 → vp_nar .byte (Int8.ofBitVec (BitVec.ofNat 8 k)).toInt32 = (Int8.ofBitVec (BitVec.ofNat 8 k)).toInt32 ∧ fits .byte (.int (Int8.ofBitVec (BitVec.ofNat 8 k)).toInt32) = true := by decide +kernel
theorem b_naI8 (i : Int8) : vp_nar .byte i.toInt32 = i.toInt32 ∧ fits .byte (.int i.toInt32) = true := by
  have h := b_nar256 i.toBitVec.toNat i.toBitVec.isLt
  rw [BitVec.ofNat_toNat, BitVec.setWidth_eq] at h
  exact h
theorem x_bytf (v k : Int32) : fits .byte (.int (x_byt v k)) = true := by
  unfold x_byt
  rw [(b_naI8 _).1]; exact (b_naI8 _).2
theorem x_bytn (v k : Int32) : vp_nar .byte (x_byt v k) = x_byt v k := by
  unfold x_byt
  rw [(b_naI8 _).1]; exact (b_naI8 _).1
/-- four bytes more, twenty bytes more -/
def x_f4 (b : Nat → Int32) (L : Nat) (v : Int32) : Nat → Int32 := upd (upd (upd (upd b L (x_byt v 24)) (L + 1) (x_byt v 16)) (L + 2) (x_byt v 8)) (L + 3) (x_byt v 0)
def x_f20 (b : Nat → Int32) (L : Nat) (v1 v2 v3 v4 v5 : Int32) : Nat → Int32 := x_f4 (x_f4 (x_f4 (x_f4 (x_f4 b L v1) (L + 4) v2) (L + 8) v3) (L + 12) v4) (L + 16) v5
theorem x_f4c {b b' : Nat → Int32} {L : Nat} {v : Int32} (h : ∀ i, i < L → b i = b' i) : ∀ i, i < L + 4 → x_f4 b L v i = x_f4 b' L v i := by
  intro i hi
  unfold x_f4 upd
  split
  · rfl
  · split
    · rfl
    · split
      · rfl
      · split
        · rfl
        · exact h i (by omega)
theorem x_f20c {b b' : Nat → Int32} {L : Nat} {v1 v2 v3 v4 v5 : Int32} (h : ∀ i, i < L → b i = b' i) : ∀ i, i < L + 20 → x_f20 b L v1 v2 v3 v4 v5 i = x_f20 b' L v1 v2 v3 v4 v5 i :=
  x_f4c (x_f4c (x_f4c (x_f4c (x_f4c h))))
theorem x_f4P {P : Int32 → Prop} {b : Nat → Int32} {L : Nat} {v : Int32} (hP : ∀ v k, P (x_byt v k)) (h : ∀ i, i < L → P (b i)) : ∀ i, i < L + 4 → P (x_f4 b L v i) := by
  intro i hi
  unfold x_f4 upd
  split
  · exact hP _ _
  · split
    · exact hP _ _
    · split
      · exact hP _ _
      · split
        · exact hP _ _
        · exact h i (by omega)
theorem x_f20P {P : Int32 → Prop} {b : Nat → Int32} {L : Nat} {v1 v2 v3 v4 v5 : Int32} (hP : ∀ v k, P (x_byt v k)) (h : ∀ i, i < L → P (b i)) : ∀ i, i < L + 20 → P (x_f20 b L v1 v2 v3 v4 v5 i) :=
  x_f4P hP (x_f4P hP (x_f4P hP (x_f4P hP (x_f4P hP h))))
theorem b_copyB0 {l N mc ms : Nat} {post : Nat → Nat → (Nat → Int32) → (Nat → Int32) → Prop} {g : Nat → Int32} (hl : l < N) (hN : N ≤ 134217728) (hg : ∀ i, i < l → fits .byte (.int (g i)) = true) (hmc : 1 ≤ mc) (hms : N ≤ ms) (h : ∀ q f, (∀ i, i < l → f i = g i) → (∀ i, l ≤ i → f i = 0) → post q N f g) : w200_wp l mc ms post (nI N) g := by
  unfold w200_wp
  rw [nI_clamp (show N < 2 ^ 31 by omega)]
  refine ⟨fun _ => ⟨nI_pos (by omega), by omega, by omega, by omega, fun q => b_min (by omega) (by omega) ?_⟩, fun e => by rw [nI_eq (by omega) (by omega)] at e; omega⟩
  rw [show min l N = l by omega, nI_clamp (show l < 2 ^ 31 by omega)]
  have z0 : Int32.toNatClampNeg 0 = 0 := by decide +kernel
  rw [z0]
  refine ⟨by decide, by decide, nI_pos (by omega), by omega, by omega, fun i hi => by rw [Nat.zero_add]; exact hg i hi, fun f ef => h q f (fun i hi => ?_) (fun i hi => ?_)⟩
  · rw [ef]
    unfold va_cpy
    rw [if_pos (by omega)]
    congr 1
    omega
  · rw [ef]
    unfold va_cpy
    rw [if_neg (by omega)]
section CFD
variable {mc ms : Nat} {lm : Nat → Option Nat} {d2 d3 d4 : Int32} {d5 : Option Nat} {q_y l_y : Nat} {b : Nat → Int32} {q_o l_o : Nat} {o_r : Int32} {g_o g_t : Nat → Int32} {cm np ns : Nat} {pa sa : Nat → Nat} {pp : Nat → px_PR} {ss : Nat → px_SR} {mm : Nat → px_MR} {L : Nat}
theorem c_tk4 {post : Int32 → Int32 → Int32 → Int32 → Option Nat → (Nat → Int32) → Nat → Nat → Int32 → (Nat → Int32) → (Nat → Int32) → (Nat → px_MR) → Prop} {v : Int32} (h1 : L + 4 ≤ l_y) (h2 : L + 4 ≤ 16384) (h : post (nI (L + 4)) d2 d3 d4 d5 (x_f4 b L v) q_o l_o o_r g_o g_t mm) : w358_wp lm l_y cm np ns pa sa pp ss post v (nI L) d2 d3 d4 d5 b q_o l_o o_r g_o g_t mm := by
  refine ⟨5, ?_⟩
  refine ⟨fun z => absurd z (by decide), fun _ z1 e1 => ⟨b_in (by omega) (by omega), fun z2 e2 z3 e3 => ?_⟩⟩
  rw [nI_clamp (show L < 2 ^ 31 by omega)]
  rw [show nI L + 1 = nI (L + 1) from nI_1 L] at e2
  subst e1 e2
  rw [show (24 : Int32) + (-8) = 16 by decide] at e3
  subst e3
  refine ⟨fun z => absurd z (by decide), fun _ z1 e1 => ⟨b_in (by omega) (by omega), fun z2 e2 z3 e3 => ?_⟩⟩
  rw [nI_clamp (show L + 1 < 2 ^ 31 by omega)]
  rw [show nI (L + 1) + 1 = nI (L + 2) from nI_1 (L + 1)] at e2
  subst e1 e2
  rw [show (16 : Int32) + (-8) = 8 by decide] at e3
  subst e3
  refine ⟨fun z => absurd z (by decide), fun _ z1 e1 => ⟨b_in (by omega) (by omega), fun z2 e2 z3 e3 => ?_⟩⟩
  rw [nI_clamp (show L + 2 < 2 ^ 31 by omega)]
  rw [show nI (L + 2) + 1 = nI (L + 3) from nI_1 (L + 2)] at e2
  subst e1 e2
  rw [show (8 : Int32) + (-8) = 0 by decide] at e3
  subst e3
  refine ⟨fun z => absurd z (by decide), fun _ z1 e1 => ⟨b_in (by omega) (by omega), fun z2 e2 z3 e3 => ?_⟩⟩
  rw [nI_clamp (show L + 3 < 2 ^ 31 by omega)]
  rw [show nI (L + 3) + 1 = nI (L + 4) from nI_1 (L + 3)] at e2
  subst e1 e2
  rw [show (0 : Int32) + (-8) = -8 by decide] at e3
  subst e3
  exact ⟨fun _ => h, fun z => absurd (by decide) z⟩
/-- the length of the bytes' array, after a feed -/
def x_by2 (l L : Nat) : Nat := if L + 20 ≤ l then l else 2 * l
theorem c_feed {post : Int32 → Int32 → Int32 → Int32 → Option Nat → Nat → Nat → (Nat → Int32) → Nat → Nat → Int32 → (Nat → Int32) → (Nat → Int32) → (Nat → px_MR) → Prop} {v1 v2 v3 v4 v5 : Int32} (hL : L + 20 ≤ 16384) (hly : L ≤ l_y) (hl5 : 512 ≤ l_y) (hl6 : l_y ≤ 16384) (hfit : ∀ i, i < l_y → fits .byte (.int (b i)) = true) (hmc : ¬ L + 20 ≤ l_y → 1 ≤ mc ∧ 2 * l_y ≤ ms)
    (h : ∀ q_y' b', (∀ i, i < L → b' i = b i) → (∀ i, i < l_y → b' i = b i) → (¬ L + 20 ≤ l_y → ∀ i, l_y ≤ i → b' i = 0) → post (nI (L + 20)) d2 d3 d4 d5 q_y' (x_by2 l_y L) (x_f20 b' L v1 v2 v3 v4 v5) q_o l_o o_r g_o g_t mm) :
    w356_wp lm cm np ns pa sa pp ss mc ms post v1 v2 v3 v4 v5 (nI L) d2 d3 d4 d5 q_y l_y b q_o l_o o_r g_o g_t mm := by
  have e20 : nI L + 20 = nI (L + 20) := by
    rw [show (20 : Int32) = nI 20 by decide]; exact nI_add L 20
  unfold w356_wp
  rw [e20]
  have key : ∀ q l b' kc ks, L + 20 ≤ l → post (nI (L + 20)) d2 d3 d4 d5 q l (x_f20 b' L v1 v2 v3 v4 v5) q_o l_o o_r g_o g_t mm → w356_L56 lm cm np ns pa sa pp ss mc ms post v1 v2 v3 v4 v5 (nI L) d2 d3 d4 d5 q l b' q_o l_o o_r g_o g_t mm kc ks := by
    intro q l b' kc ks hl hp
    unfold w356_L56
    refine c_tk4 (by omega) (by omega) (c_tk4 (by omega) (by omega) (c_tk4 (L := L + 8) (by omega) (by omega) (c_tk4 (L := L + 12) (by omega) (by omega) (c_tk4 (L := L + 16) (by omega) (by omega) ?_))))
    exact hp
  refine ⟨fun _ => ⟨fun z => ?_, fun z => ?_⟩, fun z => absurd ((nI_leI (by omega) (by omega)).2 hL) z⟩
  · have hz := (nI_leI (show L + 20 < 2 ^ 31 by omega) (show l_y < 2 ^ 31 by omega)).1 z
    have := h q_y b (fun _ _ => rfl) (fun _ _ => rfl) (fun w => absurd hz w)
    unfold x_by2 at this
    rw [if_pos hz] at this
    exact key _ _ _ _ _ hz this
  · have hz : ¬ L + 20 ≤ l_y := fun w => z ((nI_leI (by omega) (by omega)).2 w)
    obtain ⟨m1, m2⟩ := hmc hz
    refine ⟨mc, ms, by omega, by omega, ?_⟩
    rw [show 2 * nI l_y = nI (2 * l_y) by rw [show (2 : Int32) = nI 2 from rfl, pk_mul]]
    refine b_copyB0 (by omega) (by omega) hfit (by omega) (by omega) (fun q f hf hf0 => key _ _ _ _ _ (by omega) ?_)
    have := h q f (fun i hi => hf i (by omega)) hf (fun _ => hf0)
    unfold x_by2 at this
    rw [if_neg hz] at this
    exact this
theorem c_end {post : Int32 → Int32 → Int32 → Int32 → Int32 → Option Nat → Prop} {x : Int32} (h0 : ¬ x < 0) (h1 : x ≤ d2) {d1 : Int32} (h : post d2 x d1 d3 d4 d5) : w360_wp post x d2 d1 d3 d4 d5 := ⟨fun z => absurd z h0, fun _ => ⟨fun _ => h, fun z => absurd h1 z⟩⟩
theorem c_out {l_b : Nat} {pl pf d1 : Int32} {gb : Nat → Int32} {U : List Nat} {x : Int32} {post : Int32 → Int32 → Int32 → Int32 → Int32 → Option Nat → Int32 → Int32 → (Nat → Int32) → Nat → Nat → Int32 → (Nat → Int32) → (Nat → Int32) → (Nat → px_MR) → Prop} (hJ : pr_J l_b pl pf gb U)
    (h : post (if x < 0 then -1 else match U[x.toNatClampNeg]? with | none => -1 | some v => nI v) d1 d2 d3 d4 d5 pl pf gb q_o l_o o_r g_o g_t mm) : w337_wp lm l_b cm np ns pa sa pp ss post x d1 d2 d3 d4 d5 pl pf gb q_o l_o o_r g_o g_t mm := by
  obtain ⟨_, j2, j3, j4, j5, j6⟩ := hJ
  refine ⟨fun z => ?_, fun z => ?_⟩
  · rw [if_pos z] at h; exact h
  · rw [if_neg z] at h
    obtain ⟨k, hk, ek⟩ := nI_of z
    subst ek
    rw [nI_clamp hk] at h ⊢
    rw [j4]
    refine ⟨fun w => ?_, fun w => ?_⟩
    · have hw := (nI_ltI hk (show U.length < 2 ^ 31 by omega)).1 w
      have e := List.getElem?_eq_getElem hw
      rw [e] at h
      refine ⟨b_in (by omega) hk, ?_⟩
      rw [(j6 k _ e).1, ← j4]
      exact h
    · have hw : ¬ k < U.length := fun y => w ((nI_ltI hk (by omega)).2 y)
      rw [List.getElem?_eq_none (by omega)] at h
      rw [← j4]
      exact h
end CFD
