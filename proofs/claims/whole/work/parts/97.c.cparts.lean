/-! PURE, the class: Matroid.takeParts, its steps -/
section CTP
variable {a0 cm ns a1 mc ms : Nat} {sa : Nat → Nat} {ss : Nat → px_SR} {post : Nat → Nat → Int32 → (Nat → Int32) → (Nat → Int32) → (Nat → px_MR) → Nat → (Nat → Nat) → (Nat → px_PR) → Prop} {K12 : Int32 → Int32 → Int32 → Int32 → (Option Nat) → (Option Nat) → Int32 → Int32 → Nat → Nat → Int32 → (Nat → Int32) → (Nat → Int32) → (Nat → px_MR) → Nat → (Nat → Nat) → (Nat → px_PR) → Nat → Nat → Prop} {x2 x3 x4 x5 x8 : Int32} {x6 x7 : Option Nat} {q_o l_o : Nat} {o_r : Int32} {g_o g_t : Nat → Int32} {mm : Nat → px_MR} {np : Nat} {pa : Nat → Nat} {pp : Nat → px_PR} {kc ks e to : Nat}
theorem c_tp131 (h : K12 x2 x3 x4 x5 x6 x7 x8 (nI (e + 1)) q_o l_o o_r g_o g_t mm np pa pp kc ks) : w259_L131 K12 a0 cm ns sa ss a1 mc ms post x2 x3 x4 x5 x6 x7 x8 (nI e) q_o l_o o_r g_o g_t mm np pa pp kc ks := by
  rw [← nI_1] at h
  unfold w259_L131
  cases x6 with
  | none =>
    cases x7 with
    | none => exact ⟨fun _ => ⟨fun _ z e => by rw [e]; exact h, fun a w => by simp at w⟩, fun a w => by simp at w⟩
    | some b => exact ⟨fun _ => ⟨fun w => by simp at w, fun a w z e => by cases w; rw [e]; exact h⟩, fun a w => by simp at w⟩
  | some c =>
    cases x7 with
    | none => exact ⟨fun w => by simp at w, fun a w => by cases w; exact ⟨fun _ z e => by rw [e]; exact h, fun a w => by simp at w⟩⟩
    | some b => exact ⟨fun w => by simp at w, fun a w => by cases w; exact ⟨fun w => by simp at w, fun a w z e => by cases w; rw [e]; exact h⟩⟩
theorem c_tpu {mm1 mm2 : Nat → px_MR} {y : Option Nat} {z : Int32} (ha : a0 ≠ a1) (e1 : mm1 = va_up mm a0 ((mm a0).1, (mm a0).2.1, (mm a0).2.2.1, (mm a0).2.2.2.1, (mm a0).2.2.2.2.1, va_up (mm a0).2.2.2.2.2 to y)) (ez : z = ((mm1 a1).2.2.2.1 2) e) (e2 : mm2 = va_up mm1 a0 ((mm1 a0).1, (mm1 a0).2.1, (mm1 a0).2.2.1, va_up (mm1 a0).2.2.2.1 2 (upd ((mm1 a0).2.2.2.1 2) to z), (mm1 a0).2.2.2.2)) : mm2 = va_up mm a0 (c_pt (mm a0) (upd ((mm a0).2.2.2.1 2) to ((mm a1).2.2.2.1 2 e)) (va_up (mm a0).2.2.2.2.2 to y)) := by
  have e3 : mm1 a1 = mm a1 := by rw [e1, va_up_ne _ _ (fun k => ha k.symm)]
  rw [e3] at ez
  rw [e2, ez, e1, va_up_self, b_upup]
  rfl
theorem c_tp105 (ha : a0 < cm) (ha1 : a1 < cm) (hne : a0 ≠ a1) (hto : to < 12) (he : e < 12) (hx7 : ∀ k, x7 = some k → k < np)
    (h : K12 x2 x3 x4 x5 x6 x7 (nI (to + 1)) (nI (e + 1)) q_o l_o o_r g_o g_t (va_up mm a0 (c_pt (mm a0) (upd ((mm a0).2.2.2.1 2) to ((mm a1).2.2.2.1 2 e)) (va_up (mm a0).2.2.2.2.2 to x7))) np pa pp kc ks) : w259_L105 K12 a0 cm ns sa ss a1 mc ms post x2 x3 x4 x5 x6 x7 (nI to) (nI e) q_o l_o o_r g_o g_t mm np pa pp kc ks := by
  unfold w259_L105
  rw [nI_clamp (show to < 2 ^ 31 by omega), nI_clamp (show e < 2 ^ 31 by omega)]
  have b1 := b_in (n := to) (N := 12) hto (by omega)
  have b2 := b_in (n := e) (N := 12) he (by omega)
  cases x6 with
  | none =>
    cases x7 with
    | none => exact ⟨fun _ => ⟨fun _ => ⟨ha, ha, b1, fun m1 e1 => ⟨ha, ha1, ha1, b2, fun z ez => ⟨ha, b1, fun m2 e2 w ew => by rw [ew, nI_1, c_tpu hne e1 ez e2]; exact c_tp131 h⟩⟩⟩, fun a w => by simp at w⟩, fun a w => by simp at w⟩
    | some b => exact ⟨fun _ => ⟨fun w => by simp at w, fun a w => by cases w; exact ⟨ha, ha, b1, hx7 b rfl, fun m1 e1 => ⟨ha, ha1, ha1, b2, fun z ez => ⟨ha, b1, fun m2 e2 w ew => by rw [ew, nI_1, c_tpu hne e1 ez e2]; exact c_tp131 h⟩⟩⟩⟩, fun a w => by simp at w⟩
  | some c =>
    cases x7 with
    | none => exact ⟨fun w => by simp at w, fun a w => by cases w; exact ⟨fun _ => ⟨ha, ha, b1, fun m1 e1 => ⟨ha, ha1, ha1, b2, fun z ez => ⟨ha, b1, fun m2 e2 w ew => by rw [ew, nI_1, c_tpu hne e1 ez e2]; exact c_tp131 h⟩⟩⟩, fun a w => by simp at w⟩⟩
    | some b => exact ⟨fun w => by simp at w, fun a w => by cases w; exact ⟨fun w => by simp at w, fun a w => by cases w; exact ⟨ha, ha, b1, hx7 b rfl, fun m1 e1 => ⟨ha, ha1, ha1, b2, fun z ez => ⟨ha, b1, fun m2 e2 w ew => by rw [ew, nI_1, c_tpu hne e1 ez e2]; exact c_tp131 h⟩⟩⟩⟩⟩
end CTP
