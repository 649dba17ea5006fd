/-! the exception that end throws: the words that the library's law of 'throw new X(message)' asks, and how they ride to a later state -/
def px_iae : String := "java/lang/IllegalArgumentException"
def px_up : List String := ["java/lang/RuntimeException", "java/lang/Exception"]
abbrev px_own : List Cond := Jvm.Bundle.ownAtoms "MatroidDesk" 107 "java/lang/IllegalArgumentException" px_up
def px_isH : Cond → Bool
  | .laysStatic .. => true
  | .isRef _ => true
  | _ => false
/-- those that the tables alone decide -/
def px_X (U : State) : Prop := ∀ w ∈ px_own, px_isH w = false → ∀ A : Array Value, w.before A U = true
/-- those that speak of Throwable's two statics -/
def px_H (U : State) : Prop := ∀ w ∈ px_own, px_isH w = true → ∀ A : Array Value, w.before A U = true
theorem px_own_on : ∀ w ∈ px_own, px_isH w = false → w.onTables = true := by decide +kernel
theorem px_X.warm {s U : State} (h : px_X s) (hW : s.WarmedH U.vm) : px_X U := fun w hw hf A => by
  have h1 : w.before #[] (s.setVm U.vm) = true := Cond.before_shiftedFace (State.Shifted.of_warmed hW) w (Jvm.Bundle.ownAtoms_keepsFace w hw) (h w hw hf #[])
  rw [Cond.onTables_vm (A' := A) (U' := U) U.vm w (px_own_on w hw hf)] at h1
  exact h1
theorem px_X.same {u U : State} (h : px_X u) (hv : u.vm = U.vm) : px_X U := fun w hw hf A => by
  have h1 := h w hw hf #[]
  have h2 : u.setVm U.vm = u := by rw [← hv]; rfl
  rw [← h2, Cond.onTables_vm (A' := A) (U' := U) U.vm w (px_own_on w hw hf)] at h1
  exact h1
theorem px_sta {s U : State} (hvm : s.vm.Alike U.vm) (hh : ∀ q : Nat, q < s.heap.size → U.heap[q]? = s.heap[q]?) {C n d : String} {A A' : Array Value} (h : (Cond.laysStatic C n d).before A s = true) : (Cond.laysStatic C n d).before A' U = true := by
  obtain ⟨c, k, i, f, a, cell, h1, h2, h3, h4, h5, h6, h7, h8, h9⟩ := Cond.laysStatic_spec h
  obtain ⟨k', hi', he⟩ := State.fieldFound?_setVm hvm h2
  have hi2 : U.fieldFound? C n d = some (c, k', i, f) := hi'
  have e1 : k'.statics = some a := by rw [he]; exact h4
  have e2 : k'.staticTypes[f.slot]? = some f.type := by rw [he]; exact h9
  have e3 : U.vm.findClass C = some c := by rw [hvm.findClass]; exact h1
  have e4 : U.heap[a]? = some cell := by rw [hh a (Array.getElem?_eq_some_iff.mp h5).1]; exact h5
  simp [Cond.before, Cond.holds, Cond.value, e3, hi2, e1, e4, h3, h6, h7, h8, e2]
theorem px_str {s U : State} (hvm : s.vm.Alike U.vm) (hh : ∀ q : Nat, q < s.heap.size → U.heap[q]? = s.heap[q]?) {C n d : String} {A A' : Array Value} (h : (Cond.isRef (.static C n d)).before A s = true) (hl : (Cond.laysStatic C n d).before A s = true) : (Cond.isRef (.static C n d)).before A' U = true := by
  obtain ⟨c, k, i, f, a, cell, h1, h2, h3, h4, h5, h6, h7, h8, h9⟩ := Cond.laysStatic_spec hl
  obtain ⟨k', hi', he⟩ := State.fieldFound?_setVm hvm h2
  have hi2 : U.fieldFound? C n d = some (c, k', i, f) := hi'
  have e1 : k'.statics = some a := by rw [he]; exact h4
  have e4 : U.heap[a]? = some cell := by rw [hh a (Array.getElem?_eq_some_iff.mp h5).1]; exact h5
  have es : (Term.static C n d).eval A s none [] s = (Term.static C n d).eval A' U none [] U := by
    simp [Term.eval, State.fieldNamed?, h2, hi2, h3, h4, e1, h5, e4, h6]
  simp only [Cond.before, Cond.holds, Cond.value] at h ⊢
  rw [← es]
  exact h
theorem px_own_H : ∀ w ∈ px_own, px_isH w = true → w = .laysStatic "java/lang/Throwable" "UNASSIGNED_STACK" "[Ljava/lang/StackTraceElement;" ∨ w = .laysStatic "java/lang/Throwable" "SUPPRESSED_SENTINEL" "Ljava/util/List;" ∨ w = .isRef (.static "java/lang/Throwable" "UNASSIGNED_STACK" "[Ljava/lang/StackTraceElement;") ∨ w = .isRef (.static "java/lang/Throwable" "SUPPRESSED_SENTINEL" "Ljava/util/List;") := by decide +kernel
theorem px_own_H1 : Cond.laysStatic "java/lang/Throwable" "UNASSIGNED_STACK" "[Ljava/lang/StackTraceElement;" ∈ px_own := by decide +kernel
theorem px_own_H2 : Cond.laysStatic "java/lang/Throwable" "SUPPRESSED_SENTINEL" "Ljava/util/List;" ∈ px_own := by decide +kernel
theorem px_H.go {s U : State} (h : px_H s) (hvm : s.vm.Alike U.vm) (hh : ∀ q : Nat, q < s.heap.size → U.heap[q]? = s.heap[q]?) : px_H U := fun w hw ht A => by
  have hq := px_own_H w hw ht
  have hs := h w hw ht #[]
  rcases hq with rfl | rfl | rfl | rfl
  · exact px_sta hvm hh hs
  · exact px_sta hvm hh hs
  · exact px_str hvm hh hs (h _ px_own_H1 rfl #[])
  · exact px_str hvm hh hs (h _ px_own_H2 rfl #[])
section PXU
variable {p : Program} {l : Launch} {e : Env} {R : Room} {s : State} {m : MethodId} {args : Array Value} {below : List Frame} {meth : Method} {c : Code} {H : Heap} {cells slots : Nat}
variable {ws ws' : List Cond} {cc : ByteArray} {maxL mc ms : Nat} {y : MethodName} {ret : Option FieldType} {rm : Room} {Pc : Array Value → State → Prop} {free : Addr → Prop}
/-- the end of a method that throws -/
def px_ZT (below : List Frame) (Qc : Array Value → State → Addr → State → Prop) (a : Array Value) (s : State) (mc ms : Nat) (free : Addr → Prop) : State → Prop := fun t =>
  ∃ x, t.status = .running ∧ Ended t below (.threw x) ∧ Qc a s x t ∧ s.WarmedH t.vm ∧ ∃ L, s.sameButNew ({ t with vm := s.vm } : State) L mc ms ∧ ∀ q ∈ L, free q.base
theorem px_MTof {Qc : Array Value → State → Addr → State → Prop} (hy : plainName y.cls = true) (hw : ws = Cond.code y cc maxL ret :: ws')
    (body : ∀ p e s m args below meth c s₁, BodyLoose p l y (headSpec ws rm) cc maxL ret e s m args below meth c s₁ → c.maxLocals = maxL → Pc args s →
      W p l e (headSpec ws rm).room s m args below meth c s.heap [] 0 0 (px_ZT below Qc args s mc ms free) (entryFrame m args maxL)) : px_MT l y ws rm Pc Qc mc ms free := by
  refine MetFree.of_bodyS (code := cc) (maxLocals := maxL) (ret := ret) hy ?_ ?_
  · intro args s m h hn
    obtain ⟨meth, c, h1, h2, h3, h4, h5, h6, -, -⟩ := Cond.code_spec hn (atoms_spec (ws := ws) h _ (by rw [hw]; exact List.mem_cons_self))
    exact ⟨meth, c, h1, h2, h3, h4, h5, h6⟩
  · intro p e s m args below meth c s₁ B hml hP _
    have hh0 : s₁.heap = s.heap := by rw [B.state]; rfl
    obtain ⟨t, a1, x, b1, b2, b3, b4, b5⟩ := body p e s m args below meth c s₁ B hml hP s₁ hh0 (Stand.of_body B)
    exact ⟨t, .threw x, a1, b1, b2, x, rfl, b3, b4, b5⟩
/-- what is left of a throw: the exception is there, its class is X, no old cell has changed -/
def px_QT (X : String) : Array Value → State → Addr → State → Prop := fun _ s x t =>
  (∃ ce, t.heap[x]? = some ce ∧ ce.vm.isStatics = false ∧ s.vm.findClass X = some ce.cls ∧ s.vm.assignable ce.cls ce.cls = true) ∧ s.heap.size ≤ t.heap.size ∧ ∀ q : Nat, q < s.heap.size → t.heap[q]? = s.heap[q]?
/-- new X(text); throw: by the library's law -/
theorem px_throw (hx : p.tables.exec = Jvm.exec) (hb : c.code = cc) (hml : c.maxLocals = maxL) (htr : e.platform.stackTraces = false) (hlocks : meth.locks = false) (htab : c.exceptionTable.isEmpty = true) (hown : s.vm.findClass "MatroidDesk" = some m.cls)
    (h1 : (Cond.classLink "MatroidDesk" 103 "java/lang/IllegalArgumentException").before args s = true) (h2 : (Cond.instantiable "java/lang/IllegalArgumentException" 6).before args s = true) (h3 : (Cond.initialized "java/lang/IllegalArgumentException").before args s = true)
    (hX : px_X s) (hH : px_H s) {tx : String} {q : Nat} (hZ : vk_R "MatroidDesk" 105 tx q s) {pc : Nat} {ls : Array Slot} (hls : ls.size = maxL)
    (d0 : decode cc pc = .ok (.new 103, 3)) (d3 : decode cc (pc + 3) = .ok (.dup, 1)) (d4 : decode cc (pc + 4) = .ok (.ldc 105, 2)) (d6 : decode cc (pc + 6) = .ok (.invokespecial 107, 3)) (d9 : decode cc (pc + 9) = .ok (.athrow, 1))
    (hc : cells + 1 ≤ R.cells) (hs : slots + 6 ≤ R.slots) (hf : 5 < R.frames) (hlo : 100 ≤ R.locals) :
    W p l e R s m args below meth c H [] cells slots (px_ZT below (px_QT "java/lang/IllegalArgumentException") args s (cells + 1) (slots + 6) free) (F0 m pc ls []) := by
  intro T hT X
  obtain ⟨vm₁, cX, kX, hfX, hkX, -, -, X₁, st1⟩ := X.newCold hx hown h1 h2 h3 (g := F0 m pc ls []) rfl (by rw [hb]; exact d0) hc hs
  have hold : s.heap.size ≤ T.heap.size := X.same.2.1
  generalize hT1 : (T.setVm vm₁).pushCell { cls := cX, slots := kX.instanceTypes.map defaultValue, vm := .none } = T1 at X₁ st1
  have hcell : T1.heap[T.heap.size]? = some (Jvm.freshCell cX kX) := by rw [← hT1]; exact State.heap_pushCell_size _ _
  have K : W p l e R s m args below meth c T1.heap [] (cells + 1) (slots + 6) (px_ZT below (px_QT "java/lang/IllegalArgumentException") args s (cells + 1) (slots + 6) free) (F0 m (pc + 3) ls [.ref T.heap.size]) := by
    refine lv_dup hx hb d3 rfl ?_
    refine va_ldcS hx hb hown hZ d4 ?_
    intro T2 hT2 X2
    have hat : ∀ w ∈ px_own, w.before args s = true := fun w hw => by
      cases hq : px_isH w with
      | true => exact hH w hw hq args
      | false => exact hX w hw hq args
    obtain ⟨U, hsteps, hrun, hend, hW, hsame, ce, hce, Kc⟩ := X2.ctorThrowS hx htr (own := "MatroidDesk") (cls := "java/lang/IllegalArgumentException") (names := px_up) (ic := 107) hown (by decide +kernel) (by decide +kernel) hat (fun x hx => by cases hx) hfX hkX (by rw [hT2]; exact hcell) hold (msg := .ref q) rfl
      (g := F0 m (pc + 6) ls [.ref q, .ref T.heap.size, .ref T.heap.size]) rfl (hls.trans hml.symm) rfl rfl (rest := []) rfl (by rw [hb]; exact d6) (by rw [hb]; exact d9) (covers_of_empty htab _) (by show 2 + 3 < R.frames; omega) (by show 2 * 0 + (1 + 0) + (13 * (2 + 1) + 42) ≤ R.locals; omega)
    refine ⟨U, hsteps, T.heap.size, hrun, hend, ⟨⟨ce, hce, by rw [Kc.vm]; rfl, Kc.cls, Kc.self⟩, hsame.2.1, fun q1 hq1 => ?_⟩, hW, [], hsame, fun x hx => by cases hx⟩
    have hg : s.heap[q1]? = some s.heap[q1] := Array.getElem?_eq_getElem hq1
    rw [hg]
    exact hsame.old_cell hg
  obtain ⟨t, a1, b1⟩ := K T1 rfl X₁
  exact ⟨t, st1 t a1, b1⟩
end PXU
