theorem px_ex {t : Term} {C : String} {a : Array Value} {s : State} (h : (Cond.exactly t C).before a s = true) : ∃ q : Nat, t.eval a s none [] s = some (.ref q) := by
  cases hv : t.eval a s none [] s with
  | none => simp [Cond.before, Cond.holds, Cond.value, hv] at h
  | some v =>
    cases v with
    | ref q => exact ⟨q, rfl⟩
    | _ =>
      simp [Cond.before, Cond.holds, Cond.value, hv] at h
      try (cases hc : s.vm.findClass C <;> simp [hc] at h)
theorem px_own_in : ∀ w ∈ px_own, px_isH w = false → w ∈ lw_tbl := by decide +kernel
theorem px_nf_in : ∀ q ∈ px_nf, Cond.fieldLinkNest q.1 q.2.1 q.2.2.1 q.2.2.2.1 q.2.2.2.2.1 q.2.2.2.2.2 ∈ lw_tbl := by decide +kernel
theorem px_nm_in : ∀ q ∈ px_nm, Cond.methodLinkNest q.1 q.2.1 q.2.2.1 q.2.2.2 ∈ lw_tbl := by decide +kernel
theorem px_ao_in : ∀ C ∈ px_ao, Cond.arrayOver (.object C) ∈ lw_tbl := by decide +kernel
theorem px_X0 {a : Array Value} {s : State} (h : ∀ w ∈ lw_tbl, w.before a s = true) : px_X s := fun w hw hf A => by
  have h1 := h w (px_own_in w hw hf)
  have h2 : s.setVm s.vm = s := State.setVm_self s
  rw [← h2, Cond.onTables_vm (A' := A) (U' := s) s.vm w (px_own_on w hw hf), h2] at h1
  exact h1
theorem px_H0 {a : Array Value} {s : State} (h : ∀ w ∈ lw_tbl, w.before a s = true) (hgv : (Jvm.Cond.and given_1 narrow_1).before a s = true) : px_H s := fun w hw ht A => by
  have hs1 := h (.laysStatic "java/lang/Throwable" "UNASSIGNED_STACK" "[Ljava/lang/StackTraceElement;") (by decide +kernel)
  have hs2 := h (.laysStatic "java/lang/Throwable" "SUPPRESSED_SENTINEL" "Ljava/util/List;") (by decide +kernel)
  have hf := flat_of_before _ hgv
  rcases px_own_H w hw ht with rfl | rfl | rfl | rfl
  · exact px_sta (Vm.Alike.refl s.vm) (fun _ _ => rfl) hs1
  · exact px_sta (Vm.Alike.refl s.vm) (fun _ _ => rfl) hs2
  · exact px_str (Vm.Alike.refl s.vm) (fun _ _ => rfl) (hf _ (by decide +kernel)) hs1
  · exact px_str (Vm.Alike.refl s.vm) (fun _ _ => rfl) (hf _ (by decide +kernel)) hs2
