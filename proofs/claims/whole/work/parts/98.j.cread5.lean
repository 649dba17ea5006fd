/-! PURE, texts: the class's read -/
theorem t_mkrv {b : Nat → Int32} {L v : Nat} {r : Bool × Nat} (hv : v < 8) : t_mkr b L (nI v) r = t_rt b L v (t_rn b L v (t_rh b L v (t_rf b L v r))) := by
  have : v = 0 ∨ v = 1 ∨ v = 2 ∨ v = 3 ∨ v = 4 ∨ v = 5 ∨ v = 6 ∨ v = 7 := by omega
  rcases this with h | h | h | h | h | h | h | h <;> subst h <;> rfl
theorem t_othv {b : Nat → Int32} {L v : Nat} {r : Bool × Nat} (h8 : 8 ≤ v) (hv : v < 21) : t_oth b L (nI (v - 8)) r = t_rt b L v (t_rn b L v (t_rh b L v (t_rf b L v r))) := by
  have : v = 8 ∨ v = 9 ∨ v = 10 ∨ v = 11 ∨ v = 12 ∨ v = 13 ∨ v = 14 ∨ v = 15 ∨ v = 16 ∨ v = 17 ∨ v = 18 ∨ v = 19 ∨ v = 20 := by omega
  rcases this with h | h | h | h | h | h | h | h | h | h | h | h | h <;> subst h <;> rfl
theorem t_mkrF {b : Nat → Int32} {L : Nat} {k : Int32} {r : Bool × Nat} (h : r.1 = false) : t_mkr b L k r = r := by
  unfold t_mkr
  rw [t_wF h, t_wF h, t_nsF h, t_wF h, t_edsF h, t_wF h, t_nsF h, t_wF h]
  split
  · rfl
  · split
    · rfl
    · split
      · rfl
      · split
        · rfl
        · split <;> rfl
theorem t_othF {b : Nat → Int32} {L : Nat} {k : Int32} {r : Bool × Nat} (h : r.1 = false) : t_oth b L k r = r := by
  unfold t_oth
  rw [t_wF h, t_nsF h, t_wF h]
  split
  · rfl
  · split <;> rfl
theorem t_rvF {b : Nat → Int32} {L i : Nat} (h : (t_rv b L i).1 = false) : t_st b L i = t_rv b L i := by
  unfold t_st
  unfold t_rv at h ⊢
  by_cases q : t_nm b L i = true
  · rw [if_pos q] at h
    rw [if_pos q, if_pos q, t_mkrF h, t_wF h]
  · rw [if_neg q] at h
    rw [if_neg q, if_neg q, t_othF h, t_wF h]
/-- behind the verb -/
def t_ia (b : Nat → Int32) (L i : Nat) : Nat := t_e b L (t_iw b L i)
theorem t_rvT {b : Nat → Int32} {L i : Nat} (h : (t_rv b L i).1 = true) : t_rv b L i = (true, t_ia b L i) := by
  unfold t_ia t_iw
  unfold t_rv at h ⊢
  by_cases q : t_nm b L i = true
  · rw [if_pos q] at h
    rw [if_pos q, if_pos q]
    cases w : t_is b L 61 (t_e b L i) with
    | true =>
      rw [t_wT w] at h ⊢
      cases w2 : t_word b L 0 8 (t_e b L (t_e b L i)) with
      | true => rw [t_wT w2]
      | false => rw [t_wN w2] at h; exact absurd (show false = true from h) (by decide)
    | false =>
      rw [t_wN w, t_wF rfl] at h
      exact absurd (show false = true from h) (by decide)
  · rw [if_neg q] at h
    rw [if_neg q, if_neg q]
    cases w2 : t_word b L 8 13 i with
    | true => rw [t_wT w2]
    | false => rw [t_wN w2] at h; exact absurd (show false = true from h) (by decide)
theorem t_stv {b : Nat → Int32} {L i v : Nat} {tg : Int32} (h : (t_rv b L i).1 = true) (hV : s_V b L i v tg) : t_st b L i = t_w b L (t_is b L 59) (t_rt b L v (t_rn b L v (t_rh b L v (t_rf b L v (true, t_ia b L i))))) := by
  have e := t_rvT h
  unfold t_st
  obtain ⟨h1, h2⟩ := hV
  by_cases q : t_nm b L i = true
  · rw [if_pos q] at h2
    obtain ⟨a1, a2, a3⟩ := h2
    unfold t_rv at e h
    rw [if_pos q] at e h
    rw [if_pos q, e]
    have e61 : (t_w b L (t_is b L 61) (true, t_e b L i)).2 = t_iw b L i := by
      unfold t_iw
      rw [if_pos q]
      cases w : t_is b L 61 (t_e b L i) with
      | true => rw [t_wT w]
      | false =>
        rw [t_wN w, t_wF rfl] at h
        exact absurd (show false = true from h) (by decide)
    rw [e61, a3, t_mkrv a1]
  · rw [if_neg q] at h2
    obtain ⟨a1, a2, a3⟩ := h2
    unfold t_rv at e
    rw [if_neg q] at e
    rw [if_neg q, e, a3, t_othv a1 h1]
def t_ib (b : Nat → Int32) (L i v : Nat) : Nat := (t_rf b L v (true, t_ia b L i)).2
def t_ic (b : Nat → Int32) (L i v : Nat) : Nat := (t_rh b L v (true, t_ib b L i v)).2
def t_id (b : Nat → Int32) (L i v : Nat) : Nat := (t_rn b L v (true, t_ic b L i v)).2
/-- what read leaves -/
def s_ok (b : Nat → Int32) (L i v : Nat) (tg fi se fd hd nx mn rw ev : Int32) (gn : Nat → Int32) : Prop := s_V b L i v tg ∧ (v = 0 → fd = t_fdt b L (t_ia b L i)) ∧ (v ≤ 2 → hd = t_v b L (t_ib b L i v)) ∧ (v = 2 → nx = t_v b L (t_e b L (t_ib b L i v))) ∧ (if v ≤ 2 then fi = -1 else fi = b (t_j b L (t_ic b L i v)) - 97) ∧ (if v = 6 ∨ v = 16 ∨ v = 19 then se = b (t_j b L (t_e b L (t_ic b L i v))) - 97 else se = -1) ∧ s_T b L v (t_id b L i v) hd mn rw ev gn
theorem t_rfl {b : Nat → Int32} {L v : Nat} {r : Bool × Nat} (h : r.2 ≤ L) : (t_rf b L v r).2 ≤ L := by
  unfold t_rf
  split
  · exact t_wl h
  · exact h
theorem t_rhl {b : Nat → Int32} {L v : Nat} {r : Bool × Nat} (h : r.2 ≤ L) : (t_rh b L v r).2 ≤ L := by
  unfold t_rh
  split
  · exact t_wl h
  · split
    · exact t_wl (t_wl h)
    · exact h
theorem t_rnl {b : Nat → Int32} {L v : Nat} {r : Bool × Nat} (h : r.2 ≤ L) : (t_rn b L v r).2 ≤ L := by
  unfold t_rn
  split
  · exact h
  · split
    · exact t_wl (t_wl h)
    · exact t_wl h
theorem t_rtl {b : Nat → Int32} {L v : Nat} {r : Bool × Nat} (h : r.2 ≤ L) : (t_rt b L v r).2 ≤ L := by
  unfold t_rt
  split
  · exact t_nsl h
  · split
    · exact t_edsl h
    · split
      · exact t_nsl h
      · exact h
theorem t_rhF {b : Nat → Int32} {L v : Nat} {r : Bool × Nat} (h : r.1 = false) : t_rh b L v r = r := by
  unfold t_rh
  rw [t_wF h, t_wF h]
  split
  · rfl
  · split <;> rfl
theorem t_rnF {b : Nat → Int32} {L v : Nat} {r : Bool × Nat} (h : r.1 = false) : t_rn b L v r = r := by
  unfold t_rn
  rw [t_wF h, t_wF h]
  split
  · rfl
  · split <;> rfl
theorem t_rtF {b : Nat → Int32} {L v : Nat} {r : Bool × Nat} (h : r.1 = false) : t_rt b L v r = r := by
  unfold t_rt
  rw [t_nsF h, t_edsF h, t_nsF h]
  split
  · rfl
  · split
    · rfl
    · split <;> rfl
theorem t_p2 {r : Bool × Nat} (h : r.1 = true) : r = (true, r.2) := by rw [← h]
section CRA
variable {N L : Nat} {b : Nat → Int32} {sv : Nat} {sg sf s2 sd sh sx sm sr se : Int32} {i : Nat} {tv : Int32} {gn : Nat → Int32} {post : Int32 → s_P}
theorem c_read (hL : L ≤ N) (hN : N < 2 ^ 31) (hL2 : L ≤ 16384) (hi : i ≤ L) (hv21 : sv < 21) (hv : t_k b L i = 2 → tv = t_v b L i)
    (h1 : (t_st b L i).1 = true → ∀ v tg fi se fd hd nx mn rw ev gn', s_ok b L i v tg fi se fd hd nx mn rw ev gn' → s_at b L (t_st b L i).2 (fun a1 a2 a3 a4 a5 a6 => post 1 v tg fi se fd hd nx mn rw ev a1 a2 a3 a4 a5 gn' a6))
    (h0 : (t_st b L i).1 = false → ∀ v tg fi se fd hd nx mn rw ev gn', v < 21 → s_at b L (t_st b L i).2 (fun a1 a2 a3 a4 a5 a6 => post 0 v tg fi se fd hd nx mn rw ev a1 a2 a3 a4 a5 gn' a6)) :
    w144_wp N post sv sg sf s2 sd sh sx sm sr se (nI L) (nI (t_e b L i)) (nI (t_j b L i)) (t_ck (t_k b L i)) tv gn b := by
  unfold w144_wp
  refine c_readVerb hL hN hi hv21 hv (fun ht v tg hV v1 hv1 => ⟨fun q => t_10 q, fun _ => ?_⟩) (fun hf v tg hv' v1 hv1 => ⟨fun _ => ⟨rfl, ?_⟩, fun q => absurd rfl q⟩)
  · have e := t_rvT ht
    have est := t_stv ht hV
    have ila : t_ia b L i ≤ L := by
      have : (t_rv b L i).2 ≤ L := by
        unfold t_rv
        split
        · exact t_wl (t_wl (show ((true, t_e b L i) : Bool × Nat).2 ≤ L from (t_el hi).2.1))
        · exact t_wl (show ((true, i) : Bool × Nat).2 ≤ L from hi)
      rw [e] at this
      exact this
    rw [e] at hv1 ⊢
    have hv21' := hV.1
    rw [est] at h1 h0
    refine c_readField hL hN ila hv21' hv1 (fun ht2 fd hfd v2 hv2 => ⟨fun q => t_10 q, fun _ => ?_⟩) (fun hf2 fd v2 hv2 => ⟨fun _ => ⟨rfl, ?_⟩, fun q => absurd rfl q⟩)
    · have ib : t_rf b L v (true, t_ia b L i) = (true, t_ib b L i v) := t_p2 ht2
      have ilb : t_ib b L i v ≤ L := t_rfl (show ((true, t_ia b L i) : Bool × Nat).2 ≤ L from ila)
      rw [ib] at h1 h0 hv2 ⊢
      refine c_readHeads hL hN ilb hv21' hv2 (fun ht3 hd nx hhd hnx v3 hv3 => ⟨fun q => t_10 q, fun _ => ?_⟩) (fun hf3 hd nx v3 hv3 => ⟨fun _ => ⟨rfl, ?_⟩, fun q => absurd rfl q⟩)
      · have ic : t_rh b L v (true, t_ib b L i v) = (true, t_ic b L i v) := t_p2 ht3
        have ilc : t_ic b L i v ≤ L := t_rhl (show ((true, t_ib b L i v) : Bool × Nat).2 ≤ L from ilb)
        rw [ic] at h1 h0 hv3 ⊢
        refine c_readNames hL hN ilc hv21' hv3 (fun ht4 fi se' hfi hse v4 hv4 => ⟨fun q => t_10 q, fun _ => ?_⟩) (fun hf4 fi se' v4 hv4 => ⟨fun _ => ⟨rfl, ?_⟩, fun q => absurd rfl q⟩)
        · have id' : t_rn b L v (true, t_ic b L i v) = (true, t_id b L i v) := t_p2 ht4
          have ild : t_id b L i v ≤ L := t_rnl (show ((true, t_ic b L i v) : Bool × Nat).2 ≤ L from ilc)
          rw [id'] at h1 h0 hv4 ⊢
          refine c_readTail hL hN hL2 ild hv21' hv4 (fun ht5 mn rw ev gn' hT v5 hv5 => ⟨fun q => t_10 q, fun _ => ?_⟩) (fun hf5 mn rw ev gn' v5 hv5 => ⟨fun _ => ⟨rfl, ?_⟩, fun q => absurd rfl q⟩)
          · have ie := t_p2 ht5
            have ile : (t_rt b L v (true, t_id b L i v)).2 ≤ L := t_rtl (show ((true, t_id b L i v) : Bool × Nat).2 ≤ L from ild)
            rw [ie] at h1 h0
            refine c_skp (c := 59) hL hN ile t_ckk.2.2.2.1 (fun w v6 hv6 => ⟨fun q => t_10 q, fun _ => ⟨rfl, ?_⟩⟩) (fun w => ⟨fun _ => ⟨rfl, ?_⟩, fun q => absurd rfl q⟩)
            · rw [t_wT w] at h1
              exact h1 rfl v tg fi se' fd hd nx mn rw ev gn' ⟨hV, hfd, hhd, hnx, hfi, hse, hT⟩ v6 hv6
            · rw [t_wN w] at h0
              exact h0 rfl v tg fi se' fd hd nx mn rw ev gn' hv21' v5 hv5
          · rw [t_wF hf5] at h0
            exact h0 hf5 v tg fi se' fd hd nx mn rw ev gn' hv21' v5 hv5
        · rw [t_rtF hf4, t_wF hf4] at h0
          exact h0 hf4 v tg fi se' fd hd nx 0 0 1 gn hv21' v4 hv4
      · rw [t_rnF hf3, t_rtF hf3, t_wF hf3] at h0
        exact h0 hf3 v tg (-1) (-1) fd hd nx 0 0 1 gn hv21' v3 hv3
    · rw [t_rhF hf2, t_rnF hf2, t_rtF hf2, t_wF hf2] at h0
      exact h0 hf2 v tg (-1) (-1) fd sh sx 0 0 1 gn hv21' v2 hv2
  · rw [t_rvF hf] at h0
    exact h0 hf v tg (-1) (-1) sd sh sx 0 0 1 gn hv' v1 hv1
end CRA
