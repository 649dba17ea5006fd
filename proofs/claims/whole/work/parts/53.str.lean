/-! String constants of the class and the reference, by their distinct texts; COMPACT_STRINGS -/
abbrev px_qn : Nat := 32
def px_ql : List Nat := [1, 0, 1, 2, 3, 3, 1, 21, 25, 52, 91, 4, 3, 6, 9, 5, 6, 5, 7, 4, 6, 8, 4, 7, 4, 5, 8, 10, 5, 5, 4, 5]
def px_qb : List (List Int32) := [[81], [], [32], [125, 10], [32, 43, 32], [110, 111, 10], [45], [109, 111, 114, 101, 32, 116, 104, 97, 110, 32, 49, 54, 51, 56, 52, 32, 98, 121, 116, 101, 115], [110, 111, 116, 32, 115, 111, 32, 109, 97, 110, 121, 32, 98, 121, 116, 101, 115, 32, 99, 97, 109, 101, 32, 105, 110], [32, 109, 97, 116, 114, 105, 120, 32, 103, 114, 97, 112, 104, 32, 117, 110, 105, 102, 111, 114, 109, 32, 100, 117, 97, 108, 32, 100, 101, 108, 101, 116, 101, 32, 99, 111, 110, 116, 114, 97, 99, 116, 32, 115, 117, 109, 32, 99, 111, 112, 121, 32], [32, 119, 101, 105, 103, 104, 116, 115, 32, 114, 97, 110, 107, 32, 98, 97, 115, 101, 115, 32, 99, 105, 114, 99, 117, 105, 116, 115, 32, 99, 111, 99, 105, 114, 99, 117, 105, 116, 115, 32, 102, 108, 97, 116, 115, 32, 116, 117, 116, 116, 101, 32, 98, 101, 115, 116, 32, 99, 111, 109, 109, 111, 110, 32, 99, 104, 105, 114, 111, 116, 111, 112, 101, 32, 115, 105, 103, 110, 115, 32, 109, 105, 110, 111, 114, 32, 115, 104, 111, 119, 32], [115, 104, 111, 119], [115, 117, 109], [99, 111, 109, 109, 111, 110], [99, 104, 105, 114, 111, 116, 111, 112, 101], [115, 105, 103, 110, 115], [109, 97, 116, 114, 105, 120], [103, 114, 97, 112, 104], [117, 110, 105, 102, 111, 114, 109], [100, 117, 97, 108], [100, 101, 108, 101, 116, 101], [99, 111, 110, 116, 114, 97, 99, 116], [99, 111, 112, 121], [119, 101, 105, 103, 104, 116, 115], [114, 97, 110, 107], [98, 97, 115, 101, 115], [99, 105, 114, 99, 117, 105, 116, 115], [99, 111, 99, 105, 114, 99, 117, 105, 116, 115], [102, 108, 97, 116, 115], [116, 117, 116, 116, 101], [98, 101, 115, 116], [109, 105, 110, 111, 114]]
def px_qr : List (String × Nat × String × Nat) := [("MatroidDesk$Statement", 118, "Q", 0), ("MatroidDesk$Product", 59, "", 1), ("MatroidDesk$Product", 61, " ", 2), ("MatroidDesk$Product", 71, "}\n", 3), ("MatroidDesk", 375, "", 1), ("MatroidDesk", 377, " + ", 4), ("MatroidDesk", 394, "no\n", 5), ("MatroidDesk", 396, " ", 2), ("MatroidDesk$Minors", 124, "-", 6), ("MatroidDesk$Minors", 126, "", 1), ("MatroidDesk", 88, "more than 16384 bytes", 7), ("MatroidDesk", 105, "not so many bytes came in", 8), ("MatroidDeskModel", 372, " matrix graph uniform dual delete contract sum copy ", 9), ("MatroidDeskModel", 390, " weights rank bases circuits cocircuits flats tutte best common chirotope signs minor show ", 10), ("MatroidDesk$Verb", 173, "show", 11), ("MatroidDesk$Verb", 131, "sum", 12), ("MatroidDesk$Verb", 161, "common", 13), ("MatroidDesk$Verb", 164, "chirotope", 14), ("MatroidDesk$Verb", 167, "signs", 15), ("MatroidDesk$Verb", 110, "matrix", 16), ("MatroidDesk$Verb", 116, "graph", 17), ("MatroidDesk$Verb", 119, "uniform", 18), ("MatroidDesk$Verb", 122, "dual", 19), ("MatroidDesk$Verb", 125, "delete", 20), ("MatroidDesk$Verb", 128, "contract", 21), ("MatroidDesk$Verb", 134, "copy", 22), ("MatroidDesk$Verb", 137, "weights", 23), ("MatroidDesk$Verb", 140, "rank", 24), ("MatroidDesk$Verb", 143, "bases", 25), ("MatroidDesk$Verb", 146, "circuits", 26), ("MatroidDesk$Verb", 149, "cocircuits", 27), ("MatroidDesk$Verb", 152, "flats", 28), ("MatroidDesk$Verb", 155, "tutte", 29), ("MatroidDesk$Verb", 158, "best", 30), ("MatroidDesk$Verb", 170, "minor", 31)]
theorem px_qr0 : (("MatroidDesk$Statement", 118, "Q", 0) : String × Nat × String × Nat) ∈ px_qr := List.mem_of_getElem? (i := 0) rfl
theorem px_qr1 : (("MatroidDesk$Product", 59, "", 1) : String × Nat × String × Nat) ∈ px_qr := List.mem_of_getElem? (i := 1) rfl
theorem px_qr2 : (("MatroidDesk$Product", 61, " ", 2) : String × Nat × String × Nat) ∈ px_qr := List.mem_of_getElem? (i := 2) rfl
theorem px_qr3 : (("MatroidDesk$Product", 71, "}\n", 3) : String × Nat × String × Nat) ∈ px_qr := List.mem_of_getElem? (i := 3) rfl
theorem px_qr4 : (("MatroidDesk", 375, "", 1) : String × Nat × String × Nat) ∈ px_qr := List.mem_of_getElem? (i := 4) rfl
theorem px_qr5 : (("MatroidDesk", 377, " + ", 4) : String × Nat × String × Nat) ∈ px_qr := List.mem_of_getElem? (i := 5) rfl
theorem px_qr6 : (("MatroidDesk", 394, "no\n", 5) : String × Nat × String × Nat) ∈ px_qr := List.mem_of_getElem? (i := 6) rfl
theorem px_qr7 : (("MatroidDesk", 396, " ", 2) : String × Nat × String × Nat) ∈ px_qr := List.mem_of_getElem? (i := 7) rfl
theorem px_qr8 : (("MatroidDesk$Minors", 124, "-", 6) : String × Nat × String × Nat) ∈ px_qr := List.mem_of_getElem? (i := 8) rfl
theorem px_qr9 : (("MatroidDesk$Minors", 126, "", 1) : String × Nat × String × Nat) ∈ px_qr := List.mem_of_getElem? (i := 9) rfl
theorem px_qr10 : (("MatroidDesk", 88, "more than 16384 bytes", 7) : String × Nat × String × Nat) ∈ px_qr := List.mem_of_getElem? (i := 10) rfl
theorem px_qr11 : (("MatroidDesk", 105, "not so many bytes came in", 8) : String × Nat × String × Nat) ∈ px_qr := List.mem_of_getElem? (i := 11) rfl
theorem px_qr12 : (("MatroidDeskModel", 372, " matrix graph uniform dual delete contract sum copy ", 9) : String × Nat × String × Nat) ∈ px_qr := List.mem_of_getElem? (i := 12) rfl
theorem px_qr13 : (("MatroidDeskModel", 390, " weights rank bases circuits cocircuits flats tutte best common chirotope signs minor show ", 10) : String × Nat × String × Nat) ∈ px_qr := List.mem_of_getElem? (i := 13) rfl
theorem px_qr14 : (("MatroidDesk$Verb", 173, "show", 11) : String × Nat × String × Nat) ∈ px_qr := List.mem_of_getElem? (i := 14) rfl
theorem px_qr15 : (("MatroidDesk$Verb", 131, "sum", 12) : String × Nat × String × Nat) ∈ px_qr := List.mem_of_getElem? (i := 15) rfl
theorem px_qr16 : (("MatroidDesk$Verb", 161, "common", 13) : String × Nat × String × Nat) ∈ px_qr := List.mem_of_getElem? (i := 16) rfl
theorem px_qr17 : (("MatroidDesk$Verb", 164, "chirotope", 14) : String × Nat × String × Nat) ∈ px_qr := List.mem_of_getElem? (i := 17) rfl
theorem px_qr18 : (("MatroidDesk$Verb", 167, "signs", 15) : String × Nat × String × Nat) ∈ px_qr := List.mem_of_getElem? (i := 18) rfl
theorem px_qr19 : (("MatroidDesk$Verb", 110, "matrix", 16) : String × Nat × String × Nat) ∈ px_qr := List.mem_of_getElem? (i := 19) rfl
theorem px_qr20 : (("MatroidDesk$Verb", 116, "graph", 17) : String × Nat × String × Nat) ∈ px_qr := List.mem_of_getElem? (i := 20) rfl
theorem px_qr21 : (("MatroidDesk$Verb", 119, "uniform", 18) : String × Nat × String × Nat) ∈ px_qr := List.mem_of_getElem? (i := 21) rfl
theorem px_qr22 : (("MatroidDesk$Verb", 122, "dual", 19) : String × Nat × String × Nat) ∈ px_qr := List.mem_of_getElem? (i := 22) rfl
theorem px_qr23 : (("MatroidDesk$Verb", 125, "delete", 20) : String × Nat × String × Nat) ∈ px_qr := List.mem_of_getElem? (i := 23) rfl
theorem px_qr24 : (("MatroidDesk$Verb", 128, "contract", 21) : String × Nat × String × Nat) ∈ px_qr := List.mem_of_getElem? (i := 24) rfl
theorem px_qr25 : (("MatroidDesk$Verb", 134, "copy", 22) : String × Nat × String × Nat) ∈ px_qr := List.mem_of_getElem? (i := 25) rfl
theorem px_qr26 : (("MatroidDesk$Verb", 137, "weights", 23) : String × Nat × String × Nat) ∈ px_qr := List.mem_of_getElem? (i := 26) rfl
theorem px_qr27 : (("MatroidDesk$Verb", 140, "rank", 24) : String × Nat × String × Nat) ∈ px_qr := List.mem_of_getElem? (i := 27) rfl
theorem px_qr28 : (("MatroidDesk$Verb", 143, "bases", 25) : String × Nat × String × Nat) ∈ px_qr := List.mem_of_getElem? (i := 28) rfl
theorem px_qr29 : (("MatroidDesk$Verb", 146, "circuits", 26) : String × Nat × String × Nat) ∈ px_qr := List.mem_of_getElem? (i := 29) rfl
theorem px_qr30 : (("MatroidDesk$Verb", 149, "cocircuits", 27) : String × Nat × String × Nat) ∈ px_qr := List.mem_of_getElem? (i := 30) rfl
theorem px_qr31 : (("MatroidDesk$Verb", 152, "flats", 28) : String × Nat × String × Nat) ∈ px_qr := List.mem_of_getElem? (i := 31) rfl
theorem px_qr32 : (("MatroidDesk$Verb", 155, "tutte", 29) : String × Nat × String × Nat) ∈ px_qr := List.mem_of_getElem? (i := 32) rfl
theorem px_qr33 : (("MatroidDesk$Verb", 158, "best", 30) : String × Nat × String × Nat) ∈ px_qr := List.mem_of_getElem? (i := 33) rfl
theorem px_qr34 : (("MatroidDesk$Verb", 170, "minor", 31) : String × Nat × String × Nat) ∈ px_qr := List.mem_of_getElem? (i := 34) rfl
def px_v_ordinal : List Int32 := [0, 1, 2, 3, 4, 5, 6, 7, 8, 9, 10, 11, 12, 13, 14, 15, 16, 17, 18, 19, 20]
def px_v_makes : List Int32 := [1, 1, 1, 1, 1, 1, 1, 1, 0, 0, 0, 0, 0, 0, 0, 0, 0, 0, 0, 0, 0]
def px_v_fielded : List Int32 := [1, 0, 0, 0, 0, 0, 0, 0, 0, 0, 0, 0, 0, 0, 0, 0, 0, 0, 0, 0, 0]
def px_v_heads : List Int32 := [1, 1, 2, 0, 0, 0, 0, 0, 0, 0, 0, 0, 0, 0, 0, 0, 0, 0, 0, 0, 0]
def px_v_names : List Int32 := [0, 0, 0, 1, 1, 1, 2, 1, 1, 1, 1, 1, 1, 1, 1, 1, 2, 1, 1, 2, 1]
def px_v_tail : List Int32 := [2, 3, 0, 0, 1, 1, 0, 0, 1, 0, 0, 0, 0, 0, 0, 0, 0, 0, 0, 0, 0]
def px_vn : List String := ["MATRIX", "GRAPH", "UNIFORM", "DUAL", "DELETE", "CONTRACT", "SUM", "COPY", "WEIGHTS", "RANK", "BASES", "CIRCUITS", "COCIRCUITS", "FLATS", "TUTTE", "BEST", "COMMON", "CHIROTOPE", "SIGNS", "MINOR", "SHOW"]
def px_vf : List (String × String × String × List Int32) := [("java/lang/Enum", "ordinal", "I", px_v_ordinal), ("MatroidDesk$Verb", "makes", "Z", px_v_makes), ("MatroidDesk$Verb", "fielded", "Z", px_v_fielded), ("MatroidDesk$Verb", "heads", "I", px_v_heads), ("MatroidDesk$Verb", "names", "I", px_v_names), ("MatroidDesk$Verb", "tail", "I", px_v_tail)]
theorem px_vm_ordinal : (("java/lang/Enum", "ordinal", "I", px_v_ordinal) : String × String × String × List Int32) ∈ px_vf := List.mem_of_getElem? (i := 0) rfl
theorem px_vm_makes : (("MatroidDesk$Verb", "makes", "Z", px_v_makes) : String × String × String × List Int32) ∈ px_vf := List.mem_of_getElem? (i := 1) rfl
theorem px_vm_fielded : (("MatroidDesk$Verb", "fielded", "Z", px_v_fielded) : String × String × String × List Int32) ∈ px_vf := List.mem_of_getElem? (i := 2) rfl
theorem px_vm_heads : (("MatroidDesk$Verb", "heads", "I", px_v_heads) : String × String × String × List Int32) ∈ px_vf := List.mem_of_getElem? (i := 3) rfl
theorem px_vm_names : (("MatroidDesk$Verb", "names", "I", px_v_names) : String × String × String × List Int32) ∈ px_vf := List.mem_of_getElem? (i := 4) rfl
theorem px_vm_tail : (("MatroidDesk$Verb", "tail", "I", px_v_tail) : String × String × String × List Int32) ∈ px_vf := List.mem_of_getElem? (i := 5) rfl
def px_vw : List Nat := [16, 17, 18, 19, 20, 21, 12, 22, 23, 24, 25, 26, 27, 28, 29, 30, 13, 14, 15, 31, 11]
def px_vs : List Int32 := [1, 2, 18, 3, 4, 5, 0, 0, 6, 7, 8, 9, 10, 11, 12, 13, 14, 15, 16, 17, 0]
/-- the environment: the constants lie where they were, outside of A -/
def px_E (adK adV : Nat → Nat) (bo : Option Nat) (adB : Nat → Nat) (tA tS : Nat) (A : Nat → Prop) (U : State) (H : Heap) : Prop := vk_S px_qn px_ql px_qb adK adV A U H ∧ (∀ q ∈ px_qr, vk_R q.1 q.2.1 q.2.2.1 (adK q.2.2.2) U) ∧ va_Z "java/lang/String" "COMPACT_STRINGS" "Z" (.int 1) A U H ∧ va_Z "jdk/internal/util/Preconditions" "SIOOBE_FORMATTER" "Ljava/util/function/BiFunction;" (va_rf bo) A U H ∧ va_En "MatroidDesk$Verb" "LMatroidDesk$Verb;" px_vn px_vf adB A U H ∧ va_Ef 21 "MatroidDesk$Verb" "word" "Ljava/lang/String;" (fun i => .ref (adK (px_vw.getD i 0))) adB A U H ∧ va_Z "MatroidDesk$Verb" "ALL" "[LMatroidDesk$Verb;" (.ref tA) A U H ∧ va_T (.object "MatroidDesk$Verb") tA 21 (fun j => .ref (adB j)) A U H ∧ va_Z "MatroidDesk$1" "$SwitchMap$MatroidDesk$Verb" "[I" (.ref tS) A U H ∧ va_T .int tS 21 (fun j => .int (px_vs.getD j 0)) A U H
theorem px_E.same {adK adV : Nat → Nat} {bo : Option Nat} {adB : Nat → Nat} {tA tS : Nat} {A : Nat → Prop} {u U : State} {H : Heap} (h : px_E adK adV bo adB tA tS A u H) (hv : U.vm = u.vm) : px_E adK adV bo adB tA tS A U H := by
  have ha : u.vm.Alike U.vm := by rw [hv]; exact Vm.Alike.refl _
  exact ⟨h.1.moved ha, fun q hq => (h.2.1 q hq).same hv, h.2.2.1.moved ha, h.2.2.2.1.moved ha, h.2.2.2.2.1.moved ha, h.2.2.2.2.2.1.moved ha, h.2.2.2.2.2.2.1.moved ha, h.2.2.2.2.2.2.2.1.moved ha, h.2.2.2.2.2.2.2.2.1.moved ha, h.2.2.2.2.2.2.2.2.2.moved ha⟩
theorem px_E.go {adK adV : Nat → Nat} {bo : Option Nat} {adB : Nat → Nat} {tA tS : Nat} {A B : Nat → Prop} {s U : State} {H : Heap} {locs : List Loc} (h : px_E adK adV bo adB tA tS A s s.heap) (hS : va_S A s.heap H locs) (hF : ∀ q, B q → A q) (hW : s.WarmedH U.vm) : px_E adK adV bo adB tA tS B U H :=
  have hq : ∀ a : Nat, a < s.heap.size → ¬ A a → H[a]? = s.heap[a]? := fun a h1 h2 => hS.2.1 a h1 h2
  ⟨((h.1.kept hq).narrow hF).moved hW.alike, fun q hq => (h.2.1 q hq).warm hW, ((h.2.2.1.kept hq).narrow hF).moved hW.alike, ((h.2.2.2.1.kept hq).narrow hF).moved hW.alike, ((h.2.2.2.2.1.kept hq).narrow hF).moved hW.alike, ((h.2.2.2.2.2.1.kept hq).narrow hF).moved hW.alike, ((h.2.2.2.2.2.2.1.kept hq).narrow hF).moved hW.alike, ((h.2.2.2.2.2.2.2.1.kept hq).narrow hF).moved hW.alike, ((h.2.2.2.2.2.2.2.2.1.kept hq).narrow hF).moved hW.alike, ((h.2.2.2.2.2.2.2.2.2.kept hq).narrow hF).moved hW.alike⟩
theorem px_gs2 {own : String} {idx : Nat} {y : MethodName} {ws : List Cond} (h1 : Cond.methodLink own idx y ∈ px_all) (h2 : Cond.static y ∈ px_all) (h4 : Cond.initialized y.cls ∈ px_all) (h5 : GoodIn px_all ws) : GoodIn px_all (va_wsS own idx y ws) := fun w hw => by
  rcases List.mem_append.mp hw with h | h
  · have hm : w ∈ px_all := by
      simp only [List.mem_cons, List.not_mem_nil, or_false] at h
      rcases h with rfl | rfl | rfl <;> assumption
    exact ⟨hm, good_of_word (List.all_eq_true.mp px_allgood w hm)⟩
  · exact h5 w h
section PXS
variable {p : Program} {l : Launch} {e : Env} {R : Room} {s : State} {m : MethodId} {args : Array Value} {below : List Frame} {meth : Method} {c : Code} {H : Heap} {locs : List Loc} {cells slots : Nat} {Q : State → Prop}
variable {cc : ByteArray} {pc : Nat} {ls : Array Slot} {rest : List Value} {A : Nat → Prop} {adK adV : Nat → Nat} {bo : Option Nat} {adB : Nat → Nat} {tA tS : Nat}
theorem px_ldcwS {T : State} (X : Stand p l e R s m args below meth c T locs cells slots) (hexec : p.tables.exec = Jvm.exec) {own text : String} {index : Nat} {a : Addr} (hown : s.vm.findClass own = some m.cls)
    (hconst : (Cond.stringRef own index text).before args s = true) (hev : (Term.string own index).eval args s none [] s = some (.ref a)) {g : JFrame} (hg : g.method = m) (hdg : decode c.code g.pc = .ok (.ldc_w index, 3)) :
    ∀ target, Steps p.tables e below (T.setTop { g with pc := g.pc + 3, stack := .ref a :: g.stack }) target → Steps p.tables e below (T.setTop g) target := by
  obtain ⟨k, cf, i, a', hk, hcf, hcp, -, hr, hev'⟩ := Cond.stringRef_spec hown hconst
  cases hev.symm.trans hev'
  obtain ⟨k', hk', he⟩ := X.warmed.alike.2.2 _ _ hk
  have hr' : k'.resolved[index]? = some (some (.string a)) := by
    rcases X.warmed.entry hk hk' index with h | ⟨h, -⟩
    · rw [h]; exact hr
    · rw [hr] at h; cases h
  intro target hrest
  subst hg
  jvm_step X.here [hexec, hdg, ldc_w.wp_string (e := e) (s := T) (f := g) X.here.top hk' (by rw [he]; exact hcf) hcp hr']
  exact hrest
theorem px_ldcS (hexec : p.tables.exec = Jvm.exec) (hb : c.code = cc) {own tx : String} {index i : Nat} (hown : s.vm.findClass own = some m.cls) (hE : px_E adK adV bo adB tA tS A s s.heap) (hq : ((own, index, tx, i) : String × Nat × String × Nat) ∈ px_qr) (hdg : decode cc pc = .ok (.ldc index, 2))
    (k : W p l e R s m args below meth c H locs cells slots Q (F0 m (pc + 2) ls (.ref (adK i) :: rest))) : W p l e R s m args below meth c H locs cells slots Q (F0 m pc ls rest) := va_ldcS hexec hb hown (hE.2.1 _ hq) hdg k
theorem px_ldcwE (hexec : p.tables.exec = Jvm.exec) (hb : c.code = cc) {own tx : String} {index i : Nat} (hown : s.vm.findClass own = some m.cls) (hE : px_E adK adV bo adB tA tS A s s.heap) (hq : ((own, index, tx, i) : String × Nat × String × Nat) ∈ px_qr) (hdg : decode cc pc = .ok (.ldc_w index, 3))
    (k : W p l e R s m args below meth c H locs cells slots Q (F0 m (pc + 3) ls (.ref (adK i) :: rest))) : W p l e R s m args below meth c H locs cells slots Q (F0 m pc ls rest) := by
  intro T hT X
  obtain ⟨t, a1, b1⟩ := k T hT X
  have hZ := hE.2.1 _ hq
  exact ⟨t, px_ldcwS X hexec hown (text := tx) (a := adK i) hZ.1 hZ.2 (g := F0 m pc ls rest) rfl (by rw [hb]; exact hdg) t a1, b1⟩
theorem px_getOFN (hexec : p.tables.exec = Jvm.exec) (hb : c.code = cc) {o n d own ref host : String} {index q : Nat} {v : Value} (hE : va_OF o n d v q A s s.heap) (hS : va_S A s.heap H locs) (hown : s.vm.findClass own = some m.cls) (hlink : (Cond.fieldLinkNest own index ref n d host).before args s = true) (hsame : ∀ x, s.fieldFound? o n d = some x → s.fieldFound? ref n d = some x) (hdg : decode cc pc = .ok (.getfield index, 3))
    (kk : W p l e R s m args below meth c H locs cells slots Q (F0 m (pc + 3) ls (v :: rest))) : W p l e R s m args below meth c H locs cells slots Q (F0 m pc ls (.ref q :: rest)) := by
  obtain ⟨cf, k, fi, f, cell, h1, h2, h3, h4, h5, h6⟩ := hE.kept hS.2.1
  exact va_Wgetf hexec hb hown hlink (hsame _ h1) h2 h3 h4 (v := v) h5 rfl rfl hdg kk
theorem px_taq (hexec : p.tables.exec = Jvm.exec) (hb : c.code = cc) {C : String} {t N : Nat} {f : Nat → Value} (hT : va_T (.object C) t N f A s s.heap) (hS : va_S A s.heap H locs) {i : Int32} (hin : vp_in i N) {v : Value} (hv : f i.toNatClampNeg = v) (hdg : decode cc pc = .ok (.aaload, 1))
    (kk : W p l e R s m args below meth c H locs cells slots Q (F0 m (pc + 1) ls (v :: rest))) : W p l e R s m args below meth c H locs cells slots Q (F0 m pc ls (.int i :: .ref t :: rest)) := by
  obtain ⟨cell, h1, h2, h3, h4, h5, h6, h7⟩ := hT
  have hlt : i.toNatClampNeg < N := Nat.not_le.mp fun q => hin (Or.inr q)
  have hin' : ¬ (i < 0 ∨ cell.slots.size ≤ i.toNatClampNeg) := by
    intro q
    rcases q with q | q
    · exact hin (Or.inl q)
    · omega
  exact W.aald (v := v) (ty := .object C) hexec hb (by rw [hS.2.1 t (Array.getElem?_eq_some_iff.mp h1).1 h7]; exact h1) h2 rfl h3 hin' (by rw [h6 _ hlt, hv]) rfl rfl hdg kk
end PXS
theorem px_tab {x : Int32} {lo hi : Int} {ks : List Int32} (hk : ks.map Int32.toInt = (List.range (hi - lo + 1).toNat).map (fun i : Nat => lo + (i : Int))) (h : ∀ k ∈ ks, ¬ x = k) : x.toInt < lo ∨ hi < x.toInt := by
  by_cases h1 : x.toInt < lo
  · exact Or.inl h1
  · by_cases h2 : hi < x.toInt
    · exact Or.inr h2
    · exfalso
      have hm : x.toInt ∈ ks.map Int32.toInt := by
        rw [hk]
        exact List.mem_map.mpr ⟨(x.toInt - lo).toNat, List.mem_range.mpr (by omega), by omega⟩
      obtain ⟨k, hk1, hk2⟩ := List.mem_map.mp hm
      exact h k hk1 (Int32.toInt_inj.mp hk2.symm)
theorem px_gu {own C owner : String} {idx : Nat} {x y : MethodName} {ws : List Cond} (h1 : Cond.methodLink own idx x ∈ px_all) (h2 : Cond.sameMethod x.cls owner x.name x.desc ∈ px_all) (h3 : Cond.selects C x y ∈ px_all) (h4 : Cond.instanceMethod y ∈ px_all) (h5 : Cond.initialized y.cls ∈ px_all) (h6 : GoodIn px_all ws) : GoodIn px_all (va_wsU own idx C owner x y ws) := fun w hw => by
  rcases List.mem_append.mp hw with h | h
  · have hm : w ∈ px_all := by
      simp only [List.mem_cons, List.not_mem_nil, or_false] at h
      rcases h with rfl | rfl | rfl | rfl | rfl <;> assumption
    exact ⟨hm, good_of_word (List.all_eq_true.mp px_allgood w hm)⟩
  · exact h6 w h

/-! java/lang/String.coder()B -/
def w150_L14 (a0x : Nat) (post : Int32 → Prop) (y0 : Int32) : Prop := narrow .byte (.int y0) = .int y0 ∧ post y0 
def w150_wp (a0x : Nat) (post : Int32 → Prop)  : Prop := a0x < px_qn ∧ (w150_L14 a0x post 0)
set_option maxHeartbeats 8000000 in
set_option maxRecDepth 100000 in
theorem w150_met (l : Launch) (dC : Nat → ClassId) (dI : Nat → Nat → Nat) (sz : Nat) (adK : Nat → Nat) (adV : Nat → Nat) (bo : Option Nat) (adB : Nat → Nat) (tA : Nat) (tS : Nat) (a0x : Nat) (post : Int32 → Prop) (hw : w150_wp a0x post ) : Met l px_y150 px_s150 ({ frames := 0, cells := 0, slots := 0, locals := 0 }) (va_Pc [.ref (adK a0x)] (fun U => U.heap.size = sz ∧ va_P (dC, dI) vwCl [] U.heap ∧ va_K (dC, dI) vwCl [] U ∧ va_D (fun _ => True) [] ∧ px_N U ∧ px_E adK adV bo adB tA tS (va_A [] sz) U U.heap)) (va_Qi (fun (r : Int32) (u : Unit) => post r ) (fun (u : Unit) (t : State) => va_P (dC, dI) vwCl [] t.heap ∧ va_K (dC, dI) vwCl [] t ∧ va_D (va_A [] sz) []) (va_A [] sz)) 0 0 (va_A [] sz) := by
  refine Met.ofW (cc := prog_27_method_152_code) (maxL := 1) (ret := (some .byte)) (by decide) rfl ?_
  intro p e s m args below meth c s₁ B hml hv
  obtain ⟨rfl, hsz, hP, hK, hD0, hN, hE0⟩ := hv
  have hx := B.exec
  have hb := B.bytes
  have hr := B.returns
  have htw : ∀ w ∈ px_all, w.before _ s = true := fun w h => atoms_spec (ws := px_s150) B.pre w (List.mem_cons_of_mem _ h)
  have hown : s.vm.findClass "java/lang/String" = some m.cls := findClass_of_methodNamed B.named
  have hlocks := B.notSynchronized
  subst hsz
  have hD := hD0.self (sz := s.heap.size)
  generalize hAe : va_A [] s.heap.size = A at hD hE0 ⊢
  have hA : ∀ q : Nat, s.heap.size ≤ q → A q := fun q h => by rw [← hAe]; exact Or.inr h
  have hS : va_S A s.heap s.heap [] := va_S.rf
  have hP : va_P (dC, dI) vwCl [] s.heap := hP
  have hl := lv_entry ([.ref (adK a0x)]) (n := 1) (Nat.le_of_ble_eq_true rfl)
  rw [lg_entry_eq]
  generalize (lg_sl ([.ref (adK a0x)]) ++ List.replicate (1 - (lg_sl ([.ref (adK a0x)])).length) Slot.unset).toArray = ls at hl ⊢
  have hl : lv_has ls 1 [(0, .ref (adK a0x))] := hl
  generalize hQ : MQ _ _ _ _ _ _ _ = Q
  have S14 : ∀ (y0 : Int32) (H : Heap) (locs : List Loc) (ls : Array Slot), va_P (dC, dI) vwCl [] H → va_D A [] → va_S A s.heap H locs → lv_has ls 1 [(0, .ref (adK a0x))] → w150_L14 a0x post y0 → W p l e (headSpec px_s150 ({ frames := 0, cells := 0, slots := 0, locals := 0 })).room s m ([.ref (adK a0x)]).toArray below meth c H locs 0 0 Q (F0 m 14 ls [.int y0]) := by
    intro y0 H locs ls hP hD hS hl hw
    unfold w150_L14 at hw
    obtain ⟨hz9, hw⟩ := hw
    rw [← hQ]
    exact W.zret (v := y0) hx hb hr hz9 (fun t ht hW => ⟨⟨y0, (), rfl, hw, by rw [ht]; exact hP, va_K.moved hW.alike hK, hD⟩, hS.F ht⟩) hS.2.2 px_d150_14
  unfold w150_wp at hw
  have hS0 := hS
  obtain ⟨H, hH9⟩ : ∃ z, z = s.heap := ⟨_, rfl⟩
  have hP : va_P (dC, dI) vwCl [] H := by rw [hH9]; exact hP
  obtain ⟨locs, hlo9⟩ : ∃ z : List Loc, z = [] := ⟨_, rfl⟩
  have hS : va_S A s.heap H locs := by rw [hH9, hlo9]; exact hS
  suffices hG : W p l e (headSpec px_s150 ({ frames := 0, cells := 0, slots := 0, locals := 0 })).room s m ([.ref (adK a0x)]).toArray below meth c H locs 0 0 Q (F0 m 0 ls []) by rw [hH9, hlo9] at hG; exact hG
  refine va_gets hx hb hE0.2.2.1 hS hown (htw _ px_w892) (fun _ h9 => h9) px_d150_0 ?_
  refine lv_if_eq (tgt := 13) hx hb px_d150_3 (by decide) (fun h9 => absurd h9 (by decide +kernel)) (fun _ => ?_)
  refine lv_aload_n hx hb px_d150_6 rfl (lv_at hl 0 rfl) ?_
  obtain ⟨hp7, hw⟩ := hw
  refine vk_getf hx hb (hE0.1.1 _ hp7).2.1 hS hown (htw _ px_w1844) (fun _ h9 => h9) px_d150_7 ?_
  refine lv_goto (tgt := 14) hx hb px_d150_10 (by decide) ?_
  exact S14 0 H locs ls hP hD hS (lv_sub hl [0] rfl) hw

/-! java/lang/String.isLatin1()Z -/
def w152_L18 (a0x : Nat) (post : Int32 → Prop) (y0 : Int32) : Prop := narrow .boolean (.int y0) = .int y0 ∧ post y0 
def w152_L17 (a0x : Nat) (post : Int32 → Prop)  : Prop := w152_L18 a0x post 0
def w152_wp (a0x : Nat) (post : Int32 → Prop)  : Prop := a0x < px_qn ∧ (w152_L18 a0x post 1)
set_option maxHeartbeats 8000000 in
set_option maxRecDepth 100000 in
theorem w152_met (l : Launch) (dC : Nat → ClassId) (dI : Nat → Nat → Nat) (sz : Nat) (adK : Nat → Nat) (adV : Nat → Nat) (bo : Option Nat) (adB : Nat → Nat) (tA : Nat) (tS : Nat) (a0x : Nat) (post : Int32 → Prop) (hw : w152_wp a0x post ) : Met l px_y152 px_s152 ({ frames := 0, cells := 0, slots := 0, locals := 0 }) (va_Pc [.ref (adK a0x)] (fun U => U.heap.size = sz ∧ va_P (dC, dI) vwCl [] U.heap ∧ va_K (dC, dI) vwCl [] U ∧ va_D (fun _ => True) [] ∧ px_N U ∧ px_E adK adV bo adB tA tS (va_A [] sz) U U.heap)) (va_Qi (fun (r : Int32) (u : Unit) => post r ) (fun (u : Unit) (t : State) => va_P (dC, dI) vwCl [] t.heap ∧ va_K (dC, dI) vwCl [] t ∧ va_D (va_A [] sz) []) (va_A [] sz)) 0 0 (va_A [] sz) := by
  refine Met.ofW (cc := prog_27_method_154_code) (maxL := 1) (ret := (some .boolean)) (by decide) rfl ?_
  intro p e s m args below meth c s₁ B hml hv
  obtain ⟨rfl, hsz, hP, hK, hD0, hN, hE0⟩ := hv
  have hx := B.exec
  have hb := B.bytes
  have hr := B.returns
  have htw : ∀ w ∈ px_all, w.before _ s = true := fun w h => atoms_spec (ws := px_s152) B.pre w (List.mem_cons_of_mem _ h)
  have hown : s.vm.findClass "java/lang/String" = some m.cls := findClass_of_methodNamed B.named
  have hlocks := B.notSynchronized
  subst hsz
  have hD := hD0.self (sz := s.heap.size)
  generalize hAe : va_A [] s.heap.size = A at hD hE0 ⊢
  have hA : ∀ q : Nat, s.heap.size ≤ q → A q := fun q h => by rw [← hAe]; exact Or.inr h
  have hS : va_S A s.heap s.heap [] := va_S.rf
  have hP : va_P (dC, dI) vwCl [] s.heap := hP
  have hl := lv_entry ([.ref (adK a0x)]) (n := 1) (Nat.le_of_ble_eq_true rfl)
  rw [lg_entry_eq]
  generalize (lg_sl ([.ref (adK a0x)]) ++ List.replicate (1 - (lg_sl ([.ref (adK a0x)])).length) Slot.unset).toArray = ls at hl ⊢
  have hl : lv_has ls 1 [(0, .ref (adK a0x))] := hl
  generalize hQ : MQ _ _ _ _ _ _ _ = Q
  have S18 : ∀ (y0 : Int32) (H : Heap) (locs : List Loc) (ls : Array Slot), va_P (dC, dI) vwCl [] H → va_D A [] → va_S A s.heap H locs → lv_has ls 1 [(0, .ref (adK a0x))] → w152_L18 a0x post y0 → W p l e (headSpec px_s152 ({ frames := 0, cells := 0, slots := 0, locals := 0 })).room s m ([.ref (adK a0x)]).toArray below meth c H locs 0 0 Q (F0 m 18 ls [.int y0]) := by
    intro y0 H locs ls hP hD hS hl hw
    unfold w152_L18 at hw
    obtain ⟨hz9, hw⟩ := hw
    rw [← hQ]
    exact W.zret (v := y0) hx hb hr hz9 (fun t ht hW => ⟨⟨y0, (), rfl, hw, by rw [ht]; exact hP, va_K.moved hW.alike hK, hD⟩, hS.F ht⟩) hS.2.2 px_d152_18
  have S17 : ∀  (H : Heap) (locs : List Loc) (ls : Array Slot), va_P (dC, dI) vwCl [] H → va_D A [] → va_S A s.heap H locs → lv_has ls 1 [(0, .ref (adK a0x))] → w152_L17 a0x post  → W p l e (headSpec px_s152 ({ frames := 0, cells := 0, slots := 0, locals := 0 })).room s m ([.ref (adK a0x)]).toArray below meth c H locs 0 0 Q (F0 m 17 ls []) := by
    intro  H locs ls hP hD hS hl hw
    unfold w152_L17 at hw
    refine lv_iconst (v := 0) hx hb px_d152_17 (by decide) ?_
    exact S18 0 H locs ls hP hD hS (lv_sub hl [0] rfl) hw
  unfold w152_wp at hw
  have hS0 := hS
  obtain ⟨H, hH9⟩ : ∃ z, z = s.heap := ⟨_, rfl⟩
  have hP : va_P (dC, dI) vwCl [] H := by rw [hH9]; exact hP
  obtain ⟨locs, hlo9⟩ : ∃ z : List Loc, z = [] := ⟨_, rfl⟩
  have hS : va_S A s.heap H locs := by rw [hH9, hlo9]; exact hS
  suffices hG : W p l e (headSpec px_s152 ({ frames := 0, cells := 0, slots := 0, locals := 0 })).room s m ([.ref (adK a0x)]).toArray below meth c H locs 0 0 Q (F0 m 0 ls []) by rw [hH9, hlo9] at hG; exact hG
  refine va_gets hx hb hE0.2.2.1 hS hown (htw _ px_w892) (fun _ h9 => h9) px_d152_0 ?_
  refine lv_if_eq (tgt := 17) hx hb px_d152_3 (by decide) (fun h9 => absurd h9 (by decide +kernel)) (fun _ => ?_)
  refine lv_aload_n hx hb px_d152_6 rfl (lv_at hl 0 rfl) ?_
  obtain ⟨hp7, hw⟩ := hw
  refine vk_getf hx hb (hE0.1.1 _ hp7).2.1 hS hown (htw _ px_w1844) (fun _ h9 => h9) px_d152_7 ?_
  refine lv_if_ne (tgt := 17) hx hb px_d152_10 (by decide) (fun h9 => absurd (by decide +kernel) h9) (fun _ => ?_)
  refine lv_iconst (v := 1) hx hb px_d152_13 (by decide) ?_
  refine lv_goto (tgt := 18) hx hb px_d152_14 (by decide) ?_
  exact S18 1 H locs ls hP hD hS (lv_sub hl [0] rfl) hw

/-! java/lang/String.length()I -/
def w149_wp (a0x : Nat) (post : Int32 → Prop)  : Prop := a0x < px_qn ∧ (a0x < px_qn ∧ (a0x < px_qn ∧ (w150_wp a0x (fun r6  => post ((Int32.ofNat (px_ql.getD a0x 0)) >>> (r6 &&& 31)) ) )))
set_option maxHeartbeats 8000000 in
set_option maxRecDepth 100000 in
theorem w149_met (l : Launch) (dC : Nat → ClassId) (dI : Nat → Nat → Nat) (sz : Nat) (adK : Nat → Nat) (adV : Nat → Nat) (bo : Option Nat) (adB : Nat → Nat) (tA : Nat) (tS : Nat) (a0x : Nat) (post : Int32 → Prop) (hw : w149_wp a0x post ) : Met l px_y149 px_s149 ({ frames := 1, cells := 0, slots := 0, locals := 20 }) (va_Pc [.ref (adK a0x)] (fun U => U.heap.size = sz ∧ va_P (dC, dI) vwCl [] U.heap ∧ va_K (dC, dI) vwCl [] U ∧ va_D (fun _ => True) [] ∧ px_N U ∧ px_E adK adV bo adB tA tS (va_A [] sz) U U.heap)) (va_Qi (fun (r : Int32) (u : Unit) => post r ) (fun (u : Unit) (t : State) => va_P (dC, dI) vwCl [] t.heap ∧ va_K (dC, dI) vwCl [] t ∧ va_D (va_A [] sz) []) (va_A [] sz)) 0 0 (va_A [] sz) := by
  refine Met.ofW (cc := prog_27_method_54_code) (maxL := 1) (ret := (some .int)) (by decide) rfl ?_
  intro p e s m args below meth c s₁ B hml hv
  obtain ⟨rfl, hsz, hP, hK, hD0, hN, hE0⟩ := hv
  have hx := B.exec
  have hb := B.bytes
  have hr := B.returns
  have htw : ∀ w ∈ px_all, w.before _ s = true := fun w h => atoms_spec (ws := px_s149) B.pre w (List.mem_cons_of_mem _ h)
  have hown : s.vm.findClass "java/lang/String" = some m.cls := findClass_of_methodNamed B.named
  have hlocks := B.notSynchronized
  subst hsz
  have hD := hD0.self (sz := s.heap.size)
  generalize hAe : va_A [] s.heap.size = A at hD hE0 ⊢
  have hA : ∀ q : Nat, s.heap.size ≤ q → A q := fun q h => by rw [← hAe]; exact Or.inr h
  have hS : va_S A s.heap s.heap [] := va_S.rf
  have hP : va_P (dC, dI) vwCl [] s.heap := hP
  have hl := lv_entry ([.ref (adK a0x)]) (n := 1) (Nat.le_of_ble_eq_true rfl)
  rw [lg_entry_eq]
  generalize (lg_sl ([.ref (adK a0x)]) ++ List.replicate (1 - (lg_sl ([.ref (adK a0x)])).length) Slot.unset).toArray = ls at hl ⊢
  have hl : lv_has ls 1 [(0, .ref (adK a0x))] := hl
  generalize hQ : MQ _ _ _ _ _ _ _ = Q
  unfold w149_wp at hw
  have hS0 := hS
  obtain ⟨H, hH9⟩ : ∃ z, z = s.heap := ⟨_, rfl⟩
  have hP : va_P (dC, dI) vwCl [] H := by rw [hH9]; exact hP
  obtain ⟨locs, hlo9⟩ : ∃ z : List Loc, z = [] := ⟨_, rfl⟩
  have hS : va_S A s.heap H locs := by rw [hH9, hlo9]; exact hS
  suffices hG : W p l e (headSpec px_s149 ({ frames := 1, cells := 0, slots := 0, locals := 20 })).room s m ([.ref (adK a0x)]).toArray below meth c H locs 0 0 Q (F0 m 0 ls []) by rw [hH9, hlo9] at hG; exact hG
  refine lv_aload_n hx hb px_d149_0 rfl (lv_at hl 0 rfl) ?_
  obtain ⟨hp1, hw⟩ := hw
  refine vk_getf hx hb (hE0.1.1 _ hp1).2.2.1 hS hown (htw _ px_w1843) (fun _ h9 => h9) px_d149_1 ?_
  obtain ⟨hp4, hw⟩ := hw
  refine va_tlen hx hb (hE0.1.1 _ hp4).2.2.2 hS rfl px_d149_4 ?_
  refine lv_aload_n hx hb px_d149_5 rfl (lv_at hl 0 rfl) ?_
  obtain ⟨hp6, hw⟩ := hw
  have hPc := hP.sub (ws' := []) [] rfl
  have hDc := hD.sub (ws' := []) [] (by decide) rfl
  have hFc := va_free (wc := []) hD hS hA [] rfl
  have hKc := hK.sub (tys' := []) [] rfl
  refine va_calli (va_runV (As := []) (rest := [.int (Int32.ofNat (px_ql.getD a0x 0))]) ⟨hx, hb, hml, hown, htw⟩ (w150_met l dC dI H.size adK adV bo adB tA tS a0x _ hw) (cwV 0 htw (px_gv px_w888 px_w890 px_w891 px_w1756 px_g150) rfl rfl rfl (by decide +kernel) ⟨Nat.le_of_ble_eq_true rfl, Nat.le_of_ble_eq_true rfl⟩) ⟨fun a U g mk q => by obtain ⟨q0, q1, qP, qK, qD, qN, qE0⟩ := q; exact ⟨q0, q1, qP, va_K.moved (u := U) (U := U.calling g mk a) (Vm.Alike.refl U.vm) qK, qD, qN.same rfl, qE0.same rfl⟩, vk_recv hE0.1 hp6 hS, fun U hU hW => ⟨rfl, by rw [hU], by rw [hU]; exact hPc, va_K.moved hW.alike hKc, hDc.weaken (fun _ _ _ _ => trivial), hN.warm hW, by rw [hU]; exact hE0.go hS hFc hW⟩⟩ rfl rfl hl.1 rfl (lv_room (Nat.le_of_ble_eq_true rfl)) px_d149_6 ⟨(Nat.le_of_ble_eq_true rfl), (Nat.le_of_ble_eq_true rfl)⟩) hS (fun q _ h => hFc q h) hFc (fun r6 u t H1 locs ht hvm hw hB hz1 hk1 hS => ?_)
  obtain ⟨hP1, hK1, hD1⟩ := hB
  rw [ht] at hP1
  obtain ⟨hP, hD⟩ := va_join (wr := []) (w1 := []) hP hD [] [] rfl rfl (by decide) (by decide) hk1 hFc hP1 hD1
  generalize H1 = H at hP hS ⊢
  have hP : va_P (dC, dI) vwCl [] H := hP
  have hD : va_D A [] := hD
  refine lv_ishr hx hb px_d149_9 ?_
  rw [← hQ]
  exact W.iret (v := (Int32.ofNat (px_ql.getD a0x 0)) >>> (r6 &&& 31)) hx hb hr (fun t ht hW => ⟨⟨(Int32.ofNat (px_ql.getD a0x 0)) >>> (r6 &&& 31), (), rfl, hw, by rw [ht]; exact hP, va_K.moved hW.alike hK, hD⟩, hS.F ht⟩) hS.2.2 px_d149_10

/-! jdk/internal/util/Preconditions.checkIndex(IILjava/util/function/BiFunction;)I -/
def wcn_L9 (post : Int32 → Prop) (x0 : Int32) (x1 : Int32) : Prop := False
def wcn_wp (post : Int32 → Prop) (a0x : Int32) (a1x : Int32) : Prop := (a0x < 0 → wcn_L9 post a0x a1x) ∧ (¬ a0x < 0 → (a0x < a1x → post a0x ) ∧ (¬ a0x < a1x → wcn_L9 post a0x a1x))
set_option maxHeartbeats 8000000 in
set_option maxRecDepth 100000 in
theorem wcn_met (l : Launch) (dC : Nat → ClassId) (dI : Nat → Nat → Nat) (sz : Nat) (a0x : Int32) (a1x : Int32) (post : Int32 → Prop) (hw : wcn_wp post a0x a1x) : Met l px_y155 px_s155 ({ frames := 0, cells := 0, slots := 0, locals := 0 }) (va_Pc [.int a0x, .int a1x, .null] (fun U => U.heap.size = sz ∧ va_P (dC, dI) vwCl [] U.heap ∧ va_K (dC, dI) vwCl [] U ∧ va_D (fun _ => True) [] ∧ px_N U)) (va_Qi (fun (r : Int32) (u : Unit) => post r ) (fun (u : Unit) (t : State) => va_P (dC, dI) vwCl [] t.heap ∧ va_K (dC, dI) vwCl [] t ∧ va_D (va_A [] sz) []) (va_A [] sz)) 0 0 (va_A [] sz) := by
  refine Met.ofW (cc := prog_35_method_11_code) (maxL := 3) (ret := (some .int)) (by decide) rfl ?_
  intro p e s m args below meth c s₁ B hml hv
  obtain ⟨rfl, hsz, hP, hK, hD0, hN⟩ := hv
  have hx := B.exec
  have hb := B.bytes
  have hr := B.returns
  have htw : ∀ w ∈ px_all, w.before _ s = true := fun w h => atoms_spec (ws := px_s155) B.pre w (List.mem_cons_of_mem _ h)
  have hown : s.vm.findClass "jdk/internal/util/Preconditions" = some m.cls := findClass_of_methodNamed B.named
  have hlocks := B.notSynchronized
  subst hsz
  have hD := hD0.self (sz := s.heap.size)
  generalize hAe : va_A [] s.heap.size = A at hD ⊢
  have hA : ∀ q : Nat, s.heap.size ≤ q → A q := fun q h => by rw [← hAe]; exact Or.inr h
  have hS : va_S A s.heap s.heap [] := va_S.rf
  have hP : va_P (dC, dI) vwCl [] s.heap := hP
  have hl := lv_entry ([.int a0x, .int a1x, .null]) (n := 3) (Nat.le_of_ble_eq_true rfl)
  rw [lg_entry_eq]
  generalize (lg_sl ([.int a0x, .int a1x, .null]) ++ List.replicate (3 - (lg_sl ([.int a0x, .int a1x, .null])).length) Slot.unset).toArray = ls at hl ⊢
  have hl : lv_has ls 3 [(0, .int a0x), (1, .int a1x), (2, .null)] := hl
  generalize hQ : MQ _ _ _ _ _ _ _ = Q
  have S9 : ∀ (x0 : Int32) (x1 : Int32) (H : Heap) (locs : List Loc) (ls : Array Slot), va_P (dC, dI) vwCl [] H → va_D A [] → va_S A s.heap H locs → lv_has ls 3 [(0, .int x0), (1, .int x1), (2, .null)] → wcn_L9 post x0 x1 → W p l e (headSpec px_s155 ({ frames := 0, cells := 0, slots := 0, locals := 0 })).room s m ([.int a0x, .int a1x, .null]).toArray below meth c H locs 0 0 Q (F0 m 9 ls []) := by
    intro x0 x1 H locs ls hP hD hS hl hw
    unfold wcn_L9 at hw
    exact False.elim hw
  unfold wcn_wp at hw
  have hS0 := hS
  obtain ⟨H, hH9⟩ : ∃ z, z = s.heap := ⟨_, rfl⟩
  have hP : va_P (dC, dI) vwCl [] H := by rw [hH9]; exact hP
  obtain ⟨locs, hlo9⟩ : ∃ z : List Loc, z = [] := ⟨_, rfl⟩
  have hS : va_S A s.heap H locs := by rw [hH9, hlo9]; exact hS
  suffices hG : W p l e (headSpec px_s155 ({ frames := 0, cells := 0, slots := 0, locals := 0 })).room s m ([.int a0x, .int a1x, .null]).toArray below meth c H locs 0 0 Q (F0 m 0 ls []) by rw [hH9, hlo9] at hG; exact hG
  refine lv_iload_n hx hb px_d155_0 rfl (lv_at hl 0 rfl) ?_
  refine lv_if_lt (tgt := 9) hx hb px_d155_1 (by decide) (fun c1 => ?_) (fun c1 => ?_)
  · have hw := hw.1 c1
    exact S9 a0x a1x H locs ls hP hD hS (lv_sub hl [0, 1, 2] rfl) hw
  · have hw := hw.2 c1
    refine lv_iload_n hx hb px_d155_4 rfl (lv_at hl 0 rfl) ?_
    refine lv_iload_n hx hb px_d155_5 rfl (lv_at hl 1 rfl) ?_
    refine lv_icmp_lt (tgt := 16) hx hb px_d155_6 (by decide) (fun c6 => ?_) (fun c6 => ?_)
    · have hw := hw.1 c6
      refine lv_iload_n hx hb px_d155_16 rfl (lv_at hl 0 rfl) ?_
      rw [← hQ]
      exact W.iret (v := a0x) hx hb hr (fun t ht hW => ⟨⟨a0x, (), rfl, hw, by rw [ht]; exact hP, va_K.moved hW.alike hK, hD⟩, hS.F ht⟩) hS.2.2 px_d155_17
    · have hw := hw.2 c6
      exact S9 a0x a1x H locs ls hP hD hS (lv_sub hl [0, 1, 2] rfl) hw

/-! java/lang/String.checkIndex(II)V -/
def wkn_wp (post : Prop) (a0x : Int32) (a1x : Int32) : Prop := wcn_wp (fun r5  => post ) a0x a1x
set_option maxHeartbeats 8000000 in
set_option maxRecDepth 100000 in
theorem wkn_met (l : Launch) (dC : Nat → ClassId) (dI : Nat → Nat → Nat) (sz : Nat) (adK : Nat → Nat) (adV : Nat → Nat) (adB : Nat → Nat) (tA : Nat) (tS : Nat) (a0x : Int32) (a1x : Int32) (post : Prop) (hw : wkn_wp post a0x a1x) : Met l px_y154 px_s154 ({ frames := 1, cells := 0, slots := 0, locals := 22 }) (va_Pc [.int a0x, .int a1x] (fun U => U.heap.size = sz ∧ va_P (dC, dI) vwCl [] U.heap ∧ va_K (dC, dI) vwCl [] U ∧ va_D (fun _ => True) [] ∧ px_N U ∧ px_E adK adV none adB tA tS (va_A [] sz) U U.heap)) (va_Qv (fun (u : Unit) => post ) (fun (u : Unit) (t : State) => va_P (dC, dI) vwCl [] t.heap ∧ va_K (dC, dI) vwCl [] t ∧ va_D (va_A [] sz) []) (va_A [] sz)) 0 0 (va_A [] sz) := by
  refine Met.ofW (cc := prog_27_method_155_code) (maxL := 2) (ret := none) (by decide) rfl ?_
  intro p e s m args below meth c s₁ B hml hv
  obtain ⟨rfl, hsz, hP, hK, hD0, hN, hE0⟩ := hv
  have hx := B.exec
  have hb := B.bytes
  have hr := B.returns
  have htw : ∀ w ∈ px_all, w.before _ s = true := fun w h => atoms_spec (ws := px_s154) B.pre w (List.mem_cons_of_mem _ h)
  have hown : s.vm.findClass "java/lang/String" = some m.cls := findClass_of_methodNamed B.named
  have hlocks := B.notSynchronized
  subst hsz
  have hD := hD0.self (sz := s.heap.size)
  generalize hAe : va_A [] s.heap.size = A at hD hE0 ⊢
  have hA : ∀ q : Nat, s.heap.size ≤ q → A q := fun q h => by rw [← hAe]; exact Or.inr h
  have hS : va_S A s.heap s.heap [] := va_S.rf
  have hP : va_P (dC, dI) vwCl [] s.heap := hP
  have hl := lv_entry ([.int a0x, .int a1x]) (n := 2) (Nat.le_of_ble_eq_true rfl)
  rw [lg_entry_eq]
  generalize (lg_sl ([.int a0x, .int a1x]) ++ List.replicate (2 - (lg_sl ([.int a0x, .int a1x])).length) Slot.unset).toArray = ls at hl ⊢
  have hl : lv_has ls 2 [(0, .int a0x), (1, .int a1x)] := hl
  generalize hQ : MQ _ _ _ _ _ _ _ = Q
  unfold wkn_wp at hw
  have hS0 := hS
  obtain ⟨H, hH9⟩ : ∃ z, z = s.heap := ⟨_, rfl⟩
  have hP : va_P (dC, dI) vwCl [] H := by rw [hH9]; exact hP
  obtain ⟨locs, hlo9⟩ : ∃ z : List Loc, z = [] := ⟨_, rfl⟩
  have hS : va_S A s.heap H locs := by rw [hH9, hlo9]; exact hS
  suffices hG : W p l e (headSpec px_s154 ({ frames := 1, cells := 0, slots := 0, locals := 22 })).room s m ([.int a0x, .int a1x]).toArray below meth c H locs 0 0 Q (F0 m 0 ls []) by rw [hH9, hlo9] at hG; exact hG
  refine lv_iload_n hx hb px_d154_0 rfl (lv_at hl 0 rfl) ?_
  refine lv_iload_n hx hb px_d154_1 rfl (lv_at hl 1 rfl) ?_
  refine va_gets hx hb hE0.2.2.2.1 hS hown (htw _ px_w907) (fun _ h9 => h9) px_d154_2 ?_
  refine W.eq (g2 := F0 m 5 ls (.null :: [.int a1x, .int a0x])) rfl ?_
  have hPc := hP.sub (ws' := []) [] rfl
  have hDc := hD.sub (ws' := []) [] (by decide) rfl
  have hKc := hK.sub (tys' := []) [] rfl
  have hFc := va_free (wc := []) hD hS hA [] rfl
  refine va_calli (va_runS (As := [.int a0x, .int a1x, .null]) (rest := []) ⟨hx, hb, hml, hown, htw⟩ (wcn_met l dC dI H.size a0x a1x _ hw) (va_cwS 3 htw (px_gs2 px_w908 px_w910 px_w1758 px_g155) rfl rfl rfl (by decide +kernel) ⟨Nat.le_of_ble_eq_true rfl, Nat.le_of_ble_eq_true rfl⟩) ⟨fun a U g mk q => by obtain ⟨q0, q1, qP, qK, qD, qN⟩ := q; exact ⟨q0, q1, qP, va_K.moved (u := U) (U := U.calling g mk a) (Vm.Alike.refl U.vm) qK, qD, qN.same rfl⟩, fun U hU hW => ⟨rfl, by rw [hU], by rw [hU]; exact hPc, va_K.moved hW.alike hKc, hDc.weaken (fun _ _ _ _ => trivial), hN.warm hW⟩⟩ rfl rfl hl.1 rfl (lv_room (Nat.le_of_ble_eq_true rfl)) px_d154_5 ⟨(Nat.le_of_ble_eq_true rfl), (Nat.le_of_ble_eq_true rfl)⟩) hS (fun q _ h => hFc q h) hFc (fun r5 u t H1 locs ht hvm hw hB hz1 hk1 hS => ?_)
  obtain ⟨hP1, hK1, hD1⟩ := hB
  rw [ht] at hP1
  have hK1 := va_K.moved hvm.symm hK1
  obtain ⟨hP, hD⟩ := va_join (wr := []) (w1 := []) hP hD [] [] rfl rfl (by decide) (by decide) hk1 hFc hP1 hD1
  generalize H1 = H at hP hS ⊢
  have hP : va_P (dC, dI) vwCl [] H := hP
  have hD : va_D A [] := hD
  refine lv_pop hx hb px_d154_8 rfl ?_
  rw [← hQ]
  exact W.vret hx hb hr (fun t ht hW => ⟨⟨(), rfl, hw, by rw [ht]; exact hP, va_K.moved hW.alike hK, hD⟩, hS.F ht⟩) hS.2.2 px_d154_9

/-! jdk/internal/util/Preconditions.checkIndex(IILjava/util/function/BiFunction;)I -/
def wcr_L9 (post : Int32 → Prop) (x0 : Int32) (x1 : Int32) : Prop := False
def wcr_wp (post : Int32 → Prop) (a0x : Int32) (a1x : Int32) : Prop := (a0x < 0 → wcr_L9 post a0x a1x) ∧ (¬ a0x < 0 → (a0x < a1x → post a0x ) ∧ (¬ a0x < a1x → wcr_L9 post a0x a1x))
set_option maxHeartbeats 8000000 in
set_option maxRecDepth 100000 in
theorem wcr_met (l : Launch) (dC : Nat → ClassId) (dI : Nat → Nat → Nat) (sz : Nat) (bt : Nat) (a0x : Int32) (a1x : Int32) (post : Int32 → Prop) (hw : wcr_wp post a0x a1x) : Met l px_y155 px_s155 ({ frames := 0, cells := 0, slots := 0, locals := 0 }) (va_Pc [.int a0x, .int a1x, .ref bt] (fun U => U.heap.size = sz ∧ va_P (dC, dI) vwCl [] U.heap ∧ va_K (dC, dI) vwCl [] U ∧ va_D (fun _ => True) [] ∧ px_N U)) (va_Qi (fun (r : Int32) (u : Unit) => post r ) (fun (u : Unit) (t : State) => va_P (dC, dI) vwCl [] t.heap ∧ va_K (dC, dI) vwCl [] t ∧ va_D (va_A [] sz) []) (va_A [] sz)) 0 0 (va_A [] sz) := by
  refine Met.ofW (cc := prog_35_method_11_code) (maxL := 3) (ret := (some .int)) (by decide) rfl ?_
  intro p e s m args below meth c s₁ B hml hv
  obtain ⟨rfl, hsz, hP, hK, hD0, hN⟩ := hv
  have hx := B.exec
  have hb := B.bytes
  have hr := B.returns
  have htw : ∀ w ∈ px_all, w.before _ s = true := fun w h => atoms_spec (ws := px_s155) B.pre w (List.mem_cons_of_mem _ h)
  have hown : s.vm.findClass "jdk/internal/util/Preconditions" = some m.cls := findClass_of_methodNamed B.named
  have hlocks := B.notSynchronized
  subst hsz
  have hD := hD0.self (sz := s.heap.size)
  generalize hAe : va_A [] s.heap.size = A at hD ⊢
  have hA : ∀ q : Nat, s.heap.size ≤ q → A q := fun q h => by rw [← hAe]; exact Or.inr h
  have hS : va_S A s.heap s.heap [] := va_S.rf
  have hP : va_P (dC, dI) vwCl [] s.heap := hP
  have hl := lv_entry ([.int a0x, .int a1x, .ref bt]) (n := 3) (Nat.le_of_ble_eq_true rfl)
  rw [lg_entry_eq]
  generalize (lg_sl ([.int a0x, .int a1x, .ref bt]) ++ List.replicate (3 - (lg_sl ([.int a0x, .int a1x, .ref bt])).length) Slot.unset).toArray = ls at hl ⊢
  have hl : lv_has ls 3 [(0, .int a0x), (1, .int a1x), (2, .ref bt)] := hl
  generalize hQ : MQ _ _ _ _ _ _ _ = Q
  have S9 : ∀ (x0 : Int32) (x1 : Int32) (H : Heap) (locs : List Loc) (ls : Array Slot), va_P (dC, dI) vwCl [] H → va_D A [] → va_S A s.heap H locs → lv_has ls 3 [(0, .int x0), (1, .int x1), (2, .ref bt)] → wcr_L9 post x0 x1 → W p l e (headSpec px_s155 ({ frames := 0, cells := 0, slots := 0, locals := 0 })).room s m ([.int a0x, .int a1x, .ref bt]).toArray below meth c H locs 0 0 Q (F0 m 9 ls []) := by
    intro x0 x1 H locs ls hP hD hS hl hw
    unfold wcr_L9 at hw
    exact False.elim hw
  unfold wcr_wp at hw
  have hS0 := hS
  obtain ⟨H, hH9⟩ : ∃ z, z = s.heap := ⟨_, rfl⟩
  have hP : va_P (dC, dI) vwCl [] H := by rw [hH9]; exact hP
  obtain ⟨locs, hlo9⟩ : ∃ z : List Loc, z = [] := ⟨_, rfl⟩
  have hS : va_S A s.heap H locs := by rw [hH9, hlo9]; exact hS
  suffices hG : W p l e (headSpec px_s155 ({ frames := 0, cells := 0, slots := 0, locals := 0 })).room s m ([.int a0x, .int a1x, .ref bt]).toArray below meth c H locs 0 0 Q (F0 m 0 ls []) by rw [hH9, hlo9] at hG; exact hG
  refine lv_iload_n hx hb px_d155_0 rfl (lv_at hl 0 rfl) ?_
  refine lv_if_lt (tgt := 9) hx hb px_d155_1 (by decide) (fun c1 => ?_) (fun c1 => ?_)
  · have hw := hw.1 c1
    exact S9 a0x a1x H locs ls hP hD hS (lv_sub hl [0, 1, 2] rfl) hw
  · have hw := hw.2 c1
    refine lv_iload_n hx hb px_d155_4 rfl (lv_at hl 0 rfl) ?_
    refine lv_iload_n hx hb px_d155_5 rfl (lv_at hl 1 rfl) ?_
    refine lv_icmp_lt (tgt := 16) hx hb px_d155_6 (by decide) (fun c6 => ?_) (fun c6 => ?_)
    · have hw := hw.1 c6
      refine lv_iload_n hx hb px_d155_16 rfl (lv_at hl 0 rfl) ?_
      rw [← hQ]
      exact W.iret (v := a0x) hx hb hr (fun t ht hW => ⟨⟨a0x, (), rfl, hw, by rw [ht]; exact hP, va_K.moved hW.alike hK, hD⟩, hS.F ht⟩) hS.2.2 px_d155_17
    · have hw := hw.2 c6
      exact S9 a0x a1x H locs ls hP hD hS (lv_sub hl [0, 1, 2] rfl) hw

/-! java/lang/String.checkIndex(II)V -/
def wkr_wp (post : Prop) (a0x : Int32) (a1x : Int32) : Prop := wcr_wp (fun r5  => post ) a0x a1x
set_option maxHeartbeats 8000000 in
set_option maxRecDepth 100000 in
theorem wkr_met (l : Launch) (dC : Nat → ClassId) (dI : Nat → Nat → Nat) (sz : Nat) (adK : Nat → Nat) (adV : Nat → Nat) (adB : Nat → Nat) (tA : Nat) (tS : Nat) (bt : Nat) (a0x : Int32) (a1x : Int32) (post : Prop) (hw : wkr_wp post a0x a1x) : Met l px_y154 px_s154 ({ frames := 1, cells := 0, slots := 0, locals := 22 }) (va_Pc [.int a0x, .int a1x] (fun U => U.heap.size = sz ∧ va_P (dC, dI) vwCl [] U.heap ∧ va_K (dC, dI) vwCl [] U ∧ va_D (fun _ => True) [] ∧ px_N U ∧ px_E adK adV (some bt) adB tA tS (va_A [] sz) U U.heap)) (va_Qv (fun (u : Unit) => post ) (fun (u : Unit) (t : State) => va_P (dC, dI) vwCl [] t.heap ∧ va_K (dC, dI) vwCl [] t ∧ va_D (va_A [] sz) []) (va_A [] sz)) 0 0 (va_A [] sz) := by
  refine Met.ofW (cc := prog_27_method_155_code) (maxL := 2) (ret := none) (by decide) rfl ?_
  intro p e s m args below meth c s₁ B hml hv
  obtain ⟨rfl, hsz, hP, hK, hD0, hN, hE0⟩ := hv
  have hx := B.exec
  have hb := B.bytes
  have hr := B.returns
  have htw : ∀ w ∈ px_all, w.before _ s = true := fun w h => atoms_spec (ws := px_s154) B.pre w (List.mem_cons_of_mem _ h)
  have hown : s.vm.findClass "java/lang/String" = some m.cls := findClass_of_methodNamed B.named
  have hlocks := B.notSynchronized
  subst hsz
  have hD := hD0.self (sz := s.heap.size)
  generalize hAe : va_A [] s.heap.size = A at hD hE0 ⊢
  have hA : ∀ q : Nat, s.heap.size ≤ q → A q := fun q h => by rw [← hAe]; exact Or.inr h
  have hS : va_S A s.heap s.heap [] := va_S.rf
  have hP : va_P (dC, dI) vwCl [] s.heap := hP
  have hl := lv_entry ([.int a0x, .int a1x]) (n := 2) (Nat.le_of_ble_eq_true rfl)
  rw [lg_entry_eq]
  generalize (lg_sl ([.int a0x, .int a1x]) ++ List.replicate (2 - (lg_sl ([.int a0x, .int a1x])).length) Slot.unset).toArray = ls at hl ⊢
  have hl : lv_has ls 2 [(0, .int a0x), (1, .int a1x)] := hl
  generalize hQ : MQ _ _ _ _ _ _ _ = Q
  unfold wkr_wp at hw
  have hS0 := hS
  obtain ⟨H, hH9⟩ : ∃ z, z = s.heap := ⟨_, rfl⟩
  have hP : va_P (dC, dI) vwCl [] H := by rw [hH9]; exact hP
  obtain ⟨locs, hlo9⟩ : ∃ z : List Loc, z = [] := ⟨_, rfl⟩
  have hS : va_S A s.heap H locs := by rw [hH9, hlo9]; exact hS
  suffices hG : W p l e (headSpec px_s154 ({ frames := 1, cells := 0, slots := 0, locals := 22 })).room s m ([.int a0x, .int a1x]).toArray below meth c H locs 0 0 Q (F0 m 0 ls []) by rw [hH9, hlo9] at hG; exact hG
  refine lv_iload_n hx hb px_d154_0 rfl (lv_at hl 0 rfl) ?_
  refine lv_iload_n hx hb px_d154_1 rfl (lv_at hl 1 rfl) ?_
  refine va_gets hx hb hE0.2.2.2.1 hS hown (htw _ px_w907) (fun _ h9 => h9) px_d154_2 ?_
  refine W.eq (g2 := F0 m 5 ls (.ref bt :: [.int a1x, .int a0x])) rfl ?_
  have hPc := hP.sub (ws' := []) [] rfl
  have hDc := hD.sub (ws' := []) [] (by decide) rfl
  have hKc := hK.sub (tys' := []) [] rfl
  have hFc := va_free (wc := []) hD hS hA [] rfl
  refine va_calli (va_runS (As := [.int a0x, .int a1x, .ref bt]) (rest := []) ⟨hx, hb, hml, hown, htw⟩ (wcr_met l dC dI H.size bt a0x a1x _ hw) (va_cwS 3 htw (px_gs2 px_w908 px_w910 px_w1758 px_g155) rfl rfl rfl (by decide +kernel) ⟨Nat.le_of_ble_eq_true rfl, Nat.le_of_ble_eq_true rfl⟩) ⟨fun a U g mk q => by obtain ⟨q0, q1, qP, qK, qD, qN⟩ := q; exact ⟨q0, q1, qP, va_K.moved (u := U) (U := U.calling g mk a) (Vm.Alike.refl U.vm) qK, qD, qN.same rfl⟩, fun U hU hW => ⟨rfl, by rw [hU], by rw [hU]; exact hPc, va_K.moved hW.alike hKc, hDc.weaken (fun _ _ _ _ => trivial), hN.warm hW⟩⟩ rfl rfl hl.1 rfl (lv_room (Nat.le_of_ble_eq_true rfl)) px_d154_5 ⟨(Nat.le_of_ble_eq_true rfl), (Nat.le_of_ble_eq_true rfl)⟩) hS (fun q _ h => hFc q h) hFc (fun r5 u t H1 locs ht hvm hw hB hz1 hk1 hS => ?_)
  obtain ⟨hP1, hK1, hD1⟩ := hB
  rw [ht] at hP1
  have hK1 := va_K.moved hvm.symm hK1
  obtain ⟨hP, hD⟩ := va_join (wr := []) (w1 := []) hP hD [] [] rfl rfl (by decide) (by decide) hk1 hFc hP1 hD1
  generalize H1 = H at hP hS ⊢
  have hP : va_P (dC, dI) vwCl [] H := hP
  have hD : va_D A [] := hD
  refine lv_pop hx hb px_d154_8 rfl ?_
  rw [← hQ]
  exact W.vret hx hb hr (fun t ht hW => ⟨⟨(), rfl, hw, by rw [ht]; exact hP, va_K.moved hW.alike hK, hD⟩, hS.F ht⟩) hS.2.2 px_d154_9

def w154_wp (post : Prop) (a0x a1x : Int32) : Prop := wkn_wp post a0x a1x
theorem w154_met (l : Launch) (dC : Nat → ClassId) (dI : Nat → Nat → Nat) (sz : Nat) (adK : Nat → Nat) (adV : Nat → Nat) (adB : Nat → Nat) (tA : Nat) (tS : Nat) (bo : Option Nat) (a0x : Int32) (a1x : Int32) (post : Prop) (hw : w154_wp post a0x a1x) : Met l px_y154 px_s154 ({ frames := 1, cells := 0, slots := 0, locals := 22 }) (va_Pc [.int a0x, .int a1x] (fun U => U.heap.size = sz ∧ va_P (dC, dI) vwCl [] U.heap ∧ va_K (dC, dI) vwCl [] U ∧ va_D (fun _ => True) [] ∧ px_N U ∧ px_E adK adV bo adB tA tS (va_A [] sz) U U.heap)) (va_Qv (fun (u : Unit) => post ) (fun (u : Unit) (t : State) => va_P (dC, dI) vwCl [] t.heap ∧ va_K (dC, dI) vwCl [] t ∧ va_D (va_A [] sz) []) (va_A [] sz)) 0 0 (va_A [] sz) := by
  cases bo with
  | none => exact wkn_met l dC dI sz adK adV adB tA tS a0x a1x post hw
  | some bt => exact wkr_met l dC dI sz adK adV adB tA tS bt a0x a1x post hw

/-! java/lang/StringLatin1.charAt([BI)C -/
def w153_wp (a0x : Nat) (post : Int32 → Prop) (a1x : Int32) : Prop := a0x < px_qn ∧ ((w154_wp (a0x < px_qn ∧ (vp_in a1x (px_ql.getD a0x 0) ∧ (narrow .char (.int (((((px_qb.getD a0x []).getD (Int32.toNatClampNeg a1x) 0) &&& 255).toUInt32 % 65536).toInt32)) = .int (((((px_qb.getD a0x []).getD (Int32.toNatClampNeg a1x) 0) &&& 255).toUInt32 % 65536).toInt32) ∧ post (((((px_qb.getD a0x []).getD (Int32.toNatClampNeg a1x) 0) &&& 255).toUInt32 % 65536).toInt32) ))) a1x (Int32.ofNat (px_ql.getD a0x 0))))
set_option maxHeartbeats 8000000 in
set_option maxRecDepth 100000 in
theorem w153_met (l : Launch) (dC : Nat → ClassId) (dI : Nat → Nat → Nat) (sz : Nat) (adK : Nat → Nat) (adV : Nat → Nat) (bo : Option Nat) (adB : Nat → Nat) (tA : Nat) (tS : Nat) (a0x : Nat) (a1x : Int32) (post : Int32 → Prop) (hw : w153_wp a0x post a1x) : Met l px_y153 px_s153 ({ frames := 2, cells := 0, slots := 0, locals := 43 }) (va_Pc [.ref (adV a0x), .int a1x] (fun U => U.heap.size = sz ∧ va_P (dC, dI) vwCl [] U.heap ∧ va_K (dC, dI) vwCl [] U ∧ va_D (fun _ => True) [] ∧ px_N U ∧ px_E adK adV bo adB tA tS (va_A [] sz) U U.heap)) (va_Qi (fun (r : Int32) (u : Unit) => post r ) (fun (u : Unit) (t : State) => va_P (dC, dI) vwCl [] t.heap ∧ va_K (dC, dI) vwCl [] t ∧ va_D (va_A [] sz) []) (va_A [] sz)) 0 0 (va_A [] sz) := by
  refine Met.ofW (cc := prog_29_method_2_code) (maxL := 2) (ret := (some .char)) (by decide) rfl ?_
  intro p e s m args below meth c s₁ B hml hv
  obtain ⟨rfl, hsz, hP, hK, hD0, hN, hE0⟩ := hv
  have hx := B.exec
  have hb := B.bytes
  have hr := B.returns
  have htw : ∀ w ∈ px_all, w.before _ s = true := fun w h => atoms_spec (ws := px_s153) B.pre w (List.mem_cons_of_mem _ h)
  have hown : s.vm.findClass "java/lang/StringLatin1" = some m.cls := findClass_of_methodNamed B.named
  have hlocks := B.notSynchronized
  subst hsz
  have hD := hD0.self (sz := s.heap.size)
  generalize hAe : va_A [] s.heap.size = A at hD hE0 ⊢
  have hA : ∀ q : Nat, s.heap.size ≤ q → A q := fun q h => by rw [← hAe]; exact Or.inr h
  have hS : va_S A s.heap s.heap [] := va_S.rf
  have hP : va_P (dC, dI) vwCl [] s.heap := hP
  have hl := lv_entry ([.ref (adV a0x), .int a1x]) (n := 2) (Nat.le_of_ble_eq_true rfl)
  rw [lg_entry_eq]
  generalize (lg_sl ([.ref (adV a0x), .int a1x]) ++ List.replicate (2 - (lg_sl ([.ref (adV a0x), .int a1x])).length) Slot.unset).toArray = ls at hl ⊢
  have hl : lv_has ls 2 [(0, .ref (adV a0x)), (1, .int a1x)] := hl
  generalize hQ : MQ _ _ _ _ _ _ _ = Q
  unfold w153_wp at hw
  have hS0 := hS
  obtain ⟨H, hH9⟩ : ∃ z, z = s.heap := ⟨_, rfl⟩
  have hP : va_P (dC, dI) vwCl [] H := by rw [hH9]; exact hP
  obtain ⟨locs, hlo9⟩ : ∃ z : List Loc, z = [] := ⟨_, rfl⟩
  have hS : va_S A s.heap H locs := by rw [hH9, hlo9]; exact hS
  suffices hG : W p l e (headSpec px_s153 ({ frames := 2, cells := 0, slots := 0, locals := 43 })).room s m ([.ref (adV a0x), .int a1x]).toArray below meth c H locs 0 0 Q (F0 m 0 ls []) by rw [hH9, hlo9] at hG; exact hG
  refine lv_iload_n hx hb px_d153_0 rfl (lv_at hl 1 rfl) ?_
  refine lv_aload_n hx hb px_d153_1 rfl (lv_at hl 0 rfl) ?_
  obtain ⟨hp2, hw⟩ := hw
  refine va_tlen hx hb (hE0.1.1 _ hp2).2.2.2 hS rfl px_d153_2 ?_
  have hPc := hP.sub (ws' := []) [] rfl
  have hDc := hD.sub (ws' := []) [] (by decide) rfl
  have hFc := va_free (wc := []) hD hS hA [] rfl
  have hKc := hK.sub (tys' := []) [] rfl
  refine va_callv (va_runS (As := [.int a1x, .int (Int32.ofNat (px_ql.getD a0x 0))]) (rest := []) ⟨hx, hb, hml, hown, htw⟩ (w154_met l dC dI H.size adK adV adB tA tS bo a1x (Int32.ofNat (px_ql.getD a0x 0)) _ hw) (va_cwS 2 htw (px_gs2 px_w904 px_w906 px_w1756 px_g154) rfl rfl rfl (by decide +kernel) ⟨Nat.le_of_ble_eq_true rfl, Nat.le_of_ble_eq_true rfl⟩) ⟨fun a U g mk q => by obtain ⟨q0, q1, qP, qK, qD, qN, qE0⟩ := q; exact ⟨q0, q1, qP, va_K.moved (u := U) (U := U.calling g mk a) (Vm.Alike.refl U.vm) qK, qD, qN.same rfl, qE0.same rfl⟩, fun U hU hW => ⟨rfl, by rw [hU], by rw [hU]; exact hPc, va_K.moved hW.alike hKc, hDc.weaken (fun _ _ _ _ => trivial), hN.warm hW, by rw [hU]; exact hE0.go hS hFc hW⟩⟩ rfl rfl hl.1 rfl (lv_room (Nat.le_of_ble_eq_true rfl)) px_d153_3 ⟨(Nat.le_of_ble_eq_true rfl), (Nat.le_of_ble_eq_true rfl)⟩) hS (fun q _ h => hFc q h) hFc (fun u t H1 locs ht hvm hw hB hz1 hk1 hS => ?_)
  obtain ⟨hP1, hK1, hD1⟩ := hB
  rw [ht] at hP1
  obtain ⟨hP, hD⟩ := va_join (wr := []) (w1 := []) hP hD [] [] rfl rfl (by decide) (by decide) hk1 hFc hP1 hD1
  generalize H1 = H at hP hS ⊢
  have hP : va_P (dC, dI) vwCl [] H := hP
  have hD : va_D A [] := hD
  refine lv_aload_n hx hb px_d153_6 rfl (lv_at hl 0 rfl) ?_
  refine lv_iload_n hx hb px_d153_7 rfl (lv_at hl 1 rfl) ?_
  obtain ⟨hp8, hw⟩ := hw
  obtain ⟨hi8, hw⟩ := hw
  refine va_tb hx hb (hE0.1.1 _ hp8).2.2.2 hS hi8 rfl px_d153_8 ?_
  refine lv_sipush (v := 255) hx hb px_d153_9 (by decide) ?_
  refine lv_iand hx hb px_d153_12 ?_
  refine lv_i2c (v := ((((px_qb.getD a0x []).getD (Int32.toNatClampNeg a1x) 0) &&& 255).toUInt32 % 65536).toInt32) hx hb px_d153_13 rfl ?_
  obtain ⟨hz9, hw⟩ := hw
  rw [← hQ]
  exact W.zret (v := ((((px_qb.getD a0x []).getD (Int32.toNatClampNeg a1x) 0) &&& 255).toUInt32 % 65536).toInt32) hx hb hr hz9 (fun t ht hW => ⟨⟨((((px_qb.getD a0x []).getD (Int32.toNatClampNeg a1x) 0) &&& 255).toUInt32 % 65536).toInt32, (), rfl, hw, by rw [ht]; exact hP, va_K.moved hW.alike hK, hD⟩, hS.F ht⟩) hS.2.2 px_d153_14

/-! java/lang/String.charAt(I)C -/
def w151_wp (a0x : Nat) (post : Int32 → Prop) (a1x : Int32) : Prop := a0x < px_qn ∧ (w152_wp a0x (fun r1  => (r1 = 0 → a0x < px_qn ∧ (False)) ∧ (¬ r1 = 0 → a0x < px_qn ∧ ((w153_wp a0x (fun r12  => narrow .char (.int r12) = .int r12 ∧ post r12 ) a1x)))) )
set_option maxHeartbeats 8000000 in
set_option maxRecDepth 100000 in
theorem w151_met (l : Launch) (dC : Nat → ClassId) (dI : Nat → Nat → Nat) (sz : Nat) (adK : Nat → Nat) (adV : Nat → Nat) (bo : Option Nat) (adB : Nat → Nat) (tA : Nat) (tS : Nat) (a0x : Nat) (a1x : Int32) (post : Int32 → Prop) (hw : w151_wp a0x post a1x) : Met l px_y151 px_s151 ({ frames := 3, cells := 0, slots := 0, locals := 64 }) (va_Pc [.ref (adK a0x), .int a1x] (fun U => U.heap.size = sz ∧ va_P (dC, dI) vwCl [] U.heap ∧ va_K (dC, dI) vwCl [] U ∧ va_D (fun _ => True) [] ∧ px_N U ∧ px_E adK adV bo adB tA tS (va_A [] sz) U U.heap)) (va_Qi (fun (r : Int32) (u : Unit) => post r ) (fun (u : Unit) (t : State) => va_P (dC, dI) vwCl [] t.heap ∧ va_K (dC, dI) vwCl [] t ∧ va_D (va_A [] sz) []) (va_A [] sz)) 0 0 (va_A [] sz) := by
  refine Met.ofW (cc := prog_27_method_56_code) (maxL := 2) (ret := (some .char)) (by decide) rfl ?_
  intro p e s m args below meth c s₁ B hml hv
  obtain ⟨rfl, hsz, hP, hK, hD0, hN, hE0⟩ := hv
  have hx := B.exec
  have hb := B.bytes
  have hr := B.returns
  have htw : ∀ w ∈ px_all, w.before _ s = true := fun w h => atoms_spec (ws := px_s151) B.pre w (List.mem_cons_of_mem _ h)
  have hown : s.vm.findClass "java/lang/String" = some m.cls := findClass_of_methodNamed B.named
  have hlocks := B.notSynchronized
  subst hsz
  have hD := hD0.self (sz := s.heap.size)
  generalize hAe : va_A [] s.heap.size = A at hD hE0 ⊢
  have hA : ∀ q : Nat, s.heap.size ≤ q → A q := fun q h => by rw [← hAe]; exact Or.inr h
  have hS : va_S A s.heap s.heap [] := va_S.rf
  have hP : va_P (dC, dI) vwCl [] s.heap := hP
  have hl := lv_entry ([.ref (adK a0x), .int a1x]) (n := 2) (Nat.le_of_ble_eq_true rfl)
  rw [lg_entry_eq]
  generalize (lg_sl ([.ref (adK a0x), .int a1x]) ++ List.replicate (2 - (lg_sl ([.ref (adK a0x), .int a1x])).length) Slot.unset).toArray = ls at hl ⊢
  have hl : lv_has ls 2 [(0, .ref (adK a0x)), (1, .int a1x)] := hl
  generalize hQ : MQ _ _ _ _ _ _ _ = Q
  unfold w151_wp at hw
  have hS0 := hS
  obtain ⟨H, hH9⟩ : ∃ z, z = s.heap := ⟨_, rfl⟩
  have hP : va_P (dC, dI) vwCl [] H := by rw [hH9]; exact hP
  obtain ⟨locs, hlo9⟩ : ∃ z : List Loc, z = [] := ⟨_, rfl⟩
  have hS : va_S A s.heap H locs := by rw [hH9, hlo9]; exact hS
  suffices hG : W p l e (headSpec px_s151 ({ frames := 3, cells := 0, slots := 0, locals := 64 })).room s m ([.ref (adK a0x), .int a1x]).toArray below meth c H locs 0 0 Q (F0 m 0 ls []) by rw [hH9, hlo9] at hG; exact hG
  refine lv_aload_n hx hb px_d151_0 rfl (lv_at hl 0 rfl) ?_
  obtain ⟨hp1, hw⟩ := hw
  have hPc := hP.sub (ws' := []) [] rfl
  have hDc := hD.sub (ws' := []) [] (by decide) rfl
  have hFc := va_free (wc := []) hD hS hA [] rfl
  have hKc := hK.sub (tys' := []) [] rfl
  refine va_calli (va_runV (As := []) (rest := []) ⟨hx, hb, hml, hown, htw⟩ (w152_met l dC dI H.size adK adV bo adB tA tS a0x _ hw) (cwV 0 htw (px_gv px_w896 px_w900 px_w901 px_w1756 px_g152) rfl rfl rfl (by decide +kernel) ⟨Nat.le_of_ble_eq_true rfl, Nat.le_of_ble_eq_true rfl⟩) ⟨fun a U g mk q => by obtain ⟨q0, q1, qP, qK, qD, qN, qE0⟩ := q; exact ⟨q0, q1, qP, va_K.moved (u := U) (U := U.calling g mk a) (Vm.Alike.refl U.vm) qK, qD, qN.same rfl, qE0.same rfl⟩, vk_recv hE0.1 hp1 hS, fun U hU hW => ⟨rfl, by rw [hU], by rw [hU]; exact hPc, va_K.moved hW.alike hKc, hDc.weaken (fun _ _ _ _ => trivial), hN.warm hW, by rw [hU]; exact hE0.go hS hFc hW⟩⟩ rfl rfl hl.1 rfl (lv_room (Nat.le_of_ble_eq_true rfl)) px_d151_1 ⟨(Nat.le_of_ble_eq_true rfl), (Nat.le_of_ble_eq_true rfl)⟩) hS (fun q _ h => hFc q h) hFc (fun r1 u t H1 locs ht hvm hw hB hz1 hk1 hS => ?_)
  obtain ⟨hP1, hK1, hD1⟩ := hB
  rw [ht] at hP1
  obtain ⟨hP, hD⟩ := va_join (wr := []) (w1 := []) hP hD [] [] rfl rfl (by decide) (by decide) hk1 hFc hP1 hD1
  generalize H1 = H at hP hS ⊢
  have hP : va_P (dC, dI) vwCl [] H := hP
  have hD : va_D A [] := hD
  refine lv_if_eq (tgt := 16) hx hb px_d151_4 (by decide) (fun c4 => ?_) (fun c4 => ?_)
  · have hw := hw.1 c4
    refine lv_aload_n hx hb px_d151_16 rfl (lv_at hl 0 rfl) ?_
    obtain ⟨hp17, hw⟩ := hw
    refine vk_getf hx hb (hE0.1.1 _ hp17).2.2.1 hS hown (htw _ px_w1843) (fun _ h9 => h9) px_d151_17 ?_
    refine lv_iload_n hx hb px_d151_20 rfl (lv_at hl 1 rfl) ?_
    exact False.elim hw
  · have hw := hw.2 c4
    refine lv_aload_n hx hb px_d151_7 rfl (lv_at hl 0 rfl) ?_
    obtain ⟨hp8, hw⟩ := hw
    refine vk_getf hx hb (hE0.1.1 _ hp8).2.2.1 hS hown (htw _ px_w1843) (fun _ h9 => h9) px_d151_8 ?_
    refine lv_iload_n hx hb px_d151_11 rfl (lv_at hl 1 rfl) ?_
    have hPc := hP.sub (ws' := []) [] rfl
    have hDc := hD.sub (ws' := []) [] (by decide) rfl
    have hFc := va_free (wc := []) hD hS hA [] rfl
    have hKc := hK.sub (tys' := []) [] rfl
    refine va_calli (va_runS (As := [.ref (adV a0x), .int a1x]) (rest := []) ⟨hx, hb, hml, hown, htw⟩ (w153_met l dC dI H.size adK adV bo adB tA tS a0x a1x _ hw) (va_cwS 2 htw (px_gs2 px_w897 px_w903 px_w1757 px_g153) rfl rfl rfl (by decide +kernel) ⟨Nat.le_of_ble_eq_true rfl, Nat.le_of_ble_eq_true rfl⟩) ⟨fun a U g mk q => by obtain ⟨q0, q1, qP, qK, qD, qN, qE0⟩ := q; exact ⟨q0, q1, qP, va_K.moved (u := U) (U := U.calling g mk a) (Vm.Alike.refl U.vm) qK, qD, qN.same rfl, qE0.same rfl⟩, fun U hU hW => ⟨rfl, by rw [hU], by rw [hU]; exact hPc, va_K.moved hW.alike hKc, hDc.weaken (fun _ _ _ _ => trivial), hN.warm hW, by rw [hU]; exact hE0.go hS hFc hW⟩⟩ rfl rfl hl.1 rfl (lv_room (Nat.le_of_ble_eq_true rfl)) px_d151_12 ⟨(Nat.le_of_ble_eq_true rfl), (Nat.le_of_ble_eq_true rfl)⟩) hS (fun q _ h => hFc q h) hFc (fun r12 u t H1 locs ht hvm hw hB hz1 hk1 hS => ?_)
    obtain ⟨hP1, hK1, hD1⟩ := hB
    rw [ht] at hP1
    obtain ⟨hP, hD⟩ := va_join (wr := []) (w1 := []) hP hD [] [] rfl rfl (by decide) (by decide) hk1 hFc hP1 hD1
    generalize H1 = H at hP hS ⊢
    have hP : va_P (dC, dI) vwCl [] H := hP
    have hD : va_D A [] := hD
    obtain ⟨hz9, hw⟩ := hw
    rw [← hQ]
    exact W.zret (v := r12) hx hb hr hz9 (fun t ht hW => ⟨⟨r12, (), rfl, hw, by rw [ht]; exact hP, va_K.moved hW.alike hK, hD⟩, hS.F ht⟩) hS.2.2 px_d151_15

