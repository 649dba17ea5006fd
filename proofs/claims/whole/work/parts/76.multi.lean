/-! int[4][16] made at once: the outer array, then the inner ones, each laid into it -/
def px_mO (cO : ClassId) (b k : Nat) : Cell := arrV cO 4 (fun j => if j < k then .ref (b + 1 + j) else .null)
def px_mI (cI : ClassId) : Cell := arrV cI 16 (fun _ => .int 0)
theorem px_mO_zero (cO : ClassId) (b : Nat) : ({ cls := cO, slots := Array.replicate 4 .null, vm := .none } : Cell) = px_mO cO b 0 := by
  rw [arrV_new]
  unfold px_mO
  congr 1
theorem px_mI_eq (cI : ClassId) : ({ cls := cI, slots := Array.replicate 16 (.int 0), vm := .none } : Cell) = px_mI cI := by
  rw [arrV_new]
  rfl
theorem px_mO_step (cO : ClassId) (b k : Nat) : (px_mO cO b k).setSlot k (.ref (b + 1 + k)) = px_mO cO b (k + 1) := by
  unfold px_mO
  rw [arrV_store]
  congr 1
  funext j
  by_cases h : j = k
  · subst h
    simp [updV]
  · by_cases h1 : j < k
    · simp [updV, h, h1, Nat.lt_succ_of_lt h1]
    · simp [updV, h, h1, show ¬ j < k + 1 by omega]
def px_mS (T : State) (cO cI : ClassId) : Nat → State
  | 0 => T.pushCell (px_mO cO T.heap.size 0)
  | k + 1 => ((px_mS T cO cI k).pushCell (px_mI cI)).setCell T.heap.size (px_mO cO T.heap.size (k + 1))
theorem px_pcH (T : State) (x : Cell) : (T.pushCell x).heap = T.heap.push x := rfl
theorem px_scH (T : State) (a : Addr) (x : Cell) : (T.setCell a x).heap = T.heap.setIfInBounds a x := rfl
theorem px_mS_size (T : State) (cO cI : ClassId) : ∀ k : Nat, (px_mS T cO cI k).heap.size = T.heap.size + 1 + k
  | 0 => by show (T.heap.push _).size = _; rw [Array.size_push]
  | k + 1 => by
    show (((px_mS T cO cI k).heap.push _).setIfInBounds _ _).size = _
    rw [Array.size_setIfInBounds, Array.size_push, px_mS_size T cO cI k]
    omega
theorem px_mS_at (T : State) (cO cI : ClassId) : ∀ k : Nat, (px_mS T cO cI k).heap[T.heap.size]? = some (px_mO cO T.heap.size k)
  | 0 => by show (T.heap.push _)[_]? = _; rw [Array.getElem?_push_size]
  | k + 1 => by
    show (((px_mS T cO cI k).heap.push _).setIfInBounds _ _)[_]? = _
    rw [Array.getElem?_setIfInBounds_self, if_pos (by rw [Array.size_push, px_mS_size]; omega)]
theorem px_mS_in (T : State) (cO cI : ClassId) : ∀ k i : Nat, i < k → (px_mS T cO cI k).heap[T.heap.size + 1 + i]? = some (px_mI cI)
  | k + 1, i, h => by
    show (((px_mS T cO cI k).heap.push _).setIfInBounds _ _)[_]? = _
    rw [Array.getElem?_setIfInBounds_ne (by omega)]
    by_cases hi : i = k
    · subst hi
      rw [← px_mS_size T cO cI i, Array.getElem?_push_size]
    · rw [Array.getElem?_push, if_neg (by rw [px_mS_size]; omega)]
      exact px_mS_in T cO cI k i (by omega)
theorem px_mS_old (T : State) (cO cI : ClassId) : ∀ k q : Nat, q < T.heap.size → (px_mS T cO cI k).heap[q]? = T.heap[q]?
  | 0, q, h => by show (T.heap.push _)[_]? = _; rw [Array.getElem?_push, if_neg (Nat.ne_of_lt h)]
  | k + 1, q, h => by
    show (((px_mS T cO cI k).heap.push _).setIfInBounds _ _)[_]? = _
    rw [Array.getElem?_setIfInBounds_ne (by omega), Array.getElem?_push, if_neg (by rw [px_mS_size]; omega)]
    exact px_mS_old T cO cI k q h
theorem px_mS_vm (T : State) (cO cI : ClassId) : ∀ k : Nat, (px_mS T cO cI k).vm = T.vm
  | 0 => rfl
  | k + 1 => px_mS_vm T cO cI k
theorem px_mS_top (T : State) (cO cI : ClassId) (f : JFrame) : ∀ k : Nat, px_mS (T.setTop f) cO cI k = (px_mS T cO cI k).setTop f
  | 0 => rfl
  | k + 1 => by
    show ((px_mS (T.setTop f) cO cI k).pushCell _).setCell _ _ = _
    rw [px_mS_top T cO cI f k]
    rfl
section PXM
variable {p : Program} {l : Launch} {e : Env} {R : Room} {s : State} {m : MethodId} {args : Array Value} {below : List Frame} {meth : Method} {c : Code} {T : State} {locs : List Loc} {cells slots : Nat}
def px_mL (b : Nat) : Nat → List Loc
  | 0 => []
  | k + 1 => px_mL b k ++ [⟨b, k⟩]
theorem px_mL_base (b : Nat) : ∀ (k : Nat) (q : Loc), q ∈ px_mL b k → q.base = b
  | k + 1, q, h => by
    rcases List.mem_append.mp h with h | h
    · exact px_mL_base b k q h
    · rw [List.mem_singleton.mp h]
theorem px_mS_stand (X : Stand p l e R s m args below meth c T locs cells slots) (cO cI : ClassId) : ∀ k : Nat, Stand p l e R s m args below meth c (px_mS T cO cI k) (locs ++ px_mL T.heap.size k) (cells + 1 + k) (slots + 4 + 16 * k)
  | 0 => by
    have h := X.pushed (px_mO cO T.heap.size 0)
    rw [show (px_mO cO T.heap.size 0).slots.size = 4 from arrV_size _ _ _] at h
    show Stand p l e R s m args below meth c (T.pushCell _) (locs ++ []) (cells + 1 + 0) (slots + 4 + 16 * 0)
    rw [List.append_nil]
    exact h
  | k + 1 => by
    have h := (px_mS_stand X cO cI k).pushed (px_mI cI)
    rw [show (px_mI cI).slots.size = 16 from arrV_size _ _ _] at h
    have h1 : ((px_mS T cO cI k).pushCell (px_mI cI)).heap[T.heap.size]? = some (px_mO cO T.heap.size k) := by
      rw [px_pcH, Array.getElem?_push, if_neg (by rw [px_mS_size]; omega)]
      exact px_mS_at T cO cI k
    have h2 := h.stored h1 k (.ref (T.heap.size + 1 + k))
    rw [px_mO_step] at h2
    rw [List.append_assoc] at h2
    have e1 : cells + 1 + k + 1 = cells + 1 + (k + 1) := by omega
    have e2 : slots + 4 + 16 * k + 16 = slots + 4 + 16 * (k + 1) := by omega
    rw [e1, e2] at h2
    exact h2
end PXM
section PXM2
variable {E : CtlPost} {e : Env} {d : Bool} {acts : List Action} {s : State}
theorem px_mk1 {cI comp : ClassId} {kI : Class} {Q : Addr → Pre} (hk : s.vm.classes[cI]? = some kI) (hkind : kI.kind = .array comp .int) (hl : ¬ 16 > e.platform.arrayLengthLimit) (hh : ¬ 16 * componentBytes .int > e.platform.maxHeapBytes)
    (hc : s.heap.size < e.platform.maxCells) (hs : s.slotsUsed + 16 ≤ e.platform.maxSlots) (hq : ∀ acts', Q s.heap.size d acts' (s.pushCell (px_mI cI))) : wp (multianewarray.make cI [16]) Q E e d acts s := by
  unfold multianewarray.make
  simp only [wp_bind', W.ite, show ¬ ((16 : Int32) < 0) by decide, if_false, wp_pure', W.theClass, hk, Option.some.injEq, exists_eq_left', hkind]
  rw [show Int32.toNatClampNeg 16 = 16 by decide]
  refine W.newArray_of hk hkind hl hh hc hs rfl (fun acts' => ?_)
  have h := hq acts'
  rw [← px_mI_eq] at h
  exact h
theorem px_mk2 {cO cI comp : ClassId} {kO kI : Class} {Q : Addr → Pre} (hkO : s.vm.classes[cO]? = some kO) (hO : kO.kind = .array cI (.array .int)) (hkI : s.vm.classes[cI]? = some kI) (hI : kI.kind = .array comp .int)
    (hl : 16 ≤ e.platform.arrayLengthLimit) (hh : 64 ≤ e.platform.maxHeapBytes) (hroom : ∀ k, k < 4 → (px_mS s cO cI k).slotsUsed + 16 ≤ e.platform.maxSlots) (hc : s.heap.size + 5 ≤ e.platform.maxCells) (hs : s.slotsUsed + 4 ≤ e.platform.maxSlots)
    (hq : ∀ d' acts', Q s.heap.size d' acts' (px_mS s cO cI 4)) : wp (multianewarray.make cO [4, 16]) Q E e d acts s := by
  unfold multianewarray.make
  simp only [wp_bind', W.ite, show ¬ ((4 : Int32) < 0) by decide, if_false, wp_pure', W.theClass, hkO, Option.some.injEq, exists_eq_left', hO]
  rw [show Int32.toNatClampNeg 4 = 4 by decide]
  refine W.newArray_of hkO hO (by omega) (by show ¬ 4 * 4 > _; omega) (by omega) hs rfl (fun acts1 => ?_)
  rw [show ({ cls := cO, slots := Array.replicate 4 .null } : Cell) = px_mO cO s.heap.size 0 from px_mO_zero cO s.heap.size]
  simp only [show ((4 : Int32) == 0) = false by decide, Bool.false_eq_true, if_false, W.ite, wp_bind', wp_pure', Std.Legacy.Range.forIn_eq_forIn_range']
  refine wp_forIn_inv (fun rest s' => ∃ k, k ≤ 4 ∧ rest = List.range' k (4 - k) ∧ s' = px_mS s cO cI k) _ _ ⟨0, by omega, rfl, rfl⟩ ?_ ?_
  · intro x rest s' d' acts' Q' ⟨k, hk, hr, hs'⟩ hn
    subst hs'
    have hk4 : k < 4 := by
      rcases Nat.lt_or_ge k 4 with h | h
      · exact h
      · rw [show 4 - k = 0 by omega] at hr; cases hr
    rw [show 4 - k = (3 - k) + 1 by omega, List.range'_succ] at hr
    obtain ⟨rfl, rfl⟩ := List.cons.inj hr
    rw [wp_bind']
    refine px_mk1 (by rw [px_mS_vm]; exact hkI) hI (by omega) (by show ¬ 16 * 4 > _; omega) (by rw [px_mS_size]; omega) (hroom x hk4) (fun acts2 => ?_)
    simp only [wp_bind', W.writeLoc, wp_pure']
    have h1 : ((px_mS s cO cI x).pushCell (px_mI cI)).heap[s.heap.size]? = some (px_mO cO s.heap.size x) := by
      rw [px_pcH, Array.getElem?_push, if_neg (by rw [px_mS_size]; omega)]
      exact px_mS_at s cO cI x
    refine ⟨px_mO cO s.heap.size x, h1, (fun h => by cases h), by rw [show (px_mO cO s.heap.size x).slots.size = 4 from arrV_size _ _ _]; exact hk4, ?_, ?_⟩
    · show ((px_mS s cO cI x).pushCell (px_mI cI)).fitsSlot cO .none x _ = true
      simp [State.fitsSlot, State.slotType?, px_mS_vm, hkO, hO, fits]
    · rw [px_mS_size, px_mO_step]
      exact hn _ _ _ ⟨x + 1, by omega, by rw [show 4 - (x + 1) = 3 - x by omega], rfl⟩
  · intro s' d' acts' ⟨k, hk, hr, hs'⟩
    have hk4 : k = 4 := by
      rcases Nat.lt_or_ge k 4 with h | h
      · rw [show 4 - k = (3 - k) + 1 by omega, List.range'_succ] at hr; cases hr
      · omega
    subst hk4
    subst hs'
    exact hq _ _
end PXM2
theorem px_mcold {Q : Unit → Pre} {E : CtlPost} {e : Env} {d : Bool} {acts : List Action} {s : State} {f : JFrame} {index dims x : Nat} {vm' : Vm} (hs : s.topJava?.isSome) (hg : (Jvm.resolveClass f.method.cls index).Gives e.toSetting s.vm (.ok x) vm') (hr : vm'.classReady f.method.cls index x)
    (hsz : vm'.classes.size ≤ s.vm.classes.size := by no_record) :
    wp (multianewarray.sem index dims) Q E e d acts (s.setTop f) ↔ wp (multianewarray.sem index dims) Q E e d acts ((s.setVm vm').setTop f) := by
  simp only [multianewarray.sem, wp_bind']
  exact W.resolveClassAt_transfer (s := s.setTop f) (State.method?_setTop f hs) hg hr
section PXM3
variable {p : Program} {l : Launch} {e : Env} {R : Room} {s : State} {m : MethodId} {args : Array Value} {below : List Frame} {meth : Method} {c : Code} {H : Heap} {locs : List Loc} {cells slots : Nat} {Q : State → Prop}
theorem px_Wmulti {cc : ByteArray} (hexec : p.tables.exec = Jvm.exec) (hb : c.code = cc) {own : String} {index : Nat} (hown : s.vm.findClass own = some m.cls) (hclink : (Cond.classLink own index "[[I").before args s = true)
    {cO cI comp : ClassId} {kO kI : Class} (hname : s.vm.findClass "[[I" = some cO) (hkO : s.vm.classes[cO]? = some kO) (hO : kO.kind = .array cI (.array .int)) (hkI : s.vm.classes[cI]? = some kI) (hI : kI.kind = .array comp .int)
    {g : JFrame} (hg : g.method = m) (hdg : decode cc g.pc = .ok (.multianewarray index 2, 4)) {rest : List Value} (hstack : g.stack = .int 16 :: .int 4 :: rest) (hcells : cells + 5 ≤ R.cells) (hslots : slots + 68 ≤ R.slots)
    (kk : ∀ T : State, T.heap = H → W p l e R s m args below meth c (px_mS T cO cI 4).heap (locs ++ px_mL H.size 4) (cells + 5) (slots + 68) Q { g with pc := g.pc + 4, stack := .ref H.size :: rest }) : W p l e R s m args below meth c H locs cells slots Q g := by
  intro T hT X
  subst hT; subst hb; subst hg
  have hpl : e.platform.magicAccessors = ({} : Platform).magicAccessors := by rw [X.admits.platform]
  obtain ⟨cc', hfcc, hcl⟩ := Cond.classLink_spec hown hclink e.platform hpl
  cases hname.symm.trans hfcc
  obtain ⟨hg₁, hwarm₁, hready₁⟩ := State.classEntry (e := e) X.warmed hcl
  generalize T.vm.noted g.method.cls index (.cls cO) = vm₁ at hg₁ hwarm₁ hready₁
  have hal : s.vm.Alike vm₁ := hwarm₁.alike
  obtain ⟨kO₁, hkO₁, heO⟩ := hal.2.2 _ _ hkO
  obtain ⟨kI₁, hkI₁, heI⟩ := hal.2.2 _ _ hkI
  have hO₁ : kO₁.kind = .array cI (.array .int) := by rw [heO]; exact hO
  have hI₁ : kI₁.kind = .array comp .int := by rw [heI]; exact hI
  have hl : 16 ≤ e.platform.arrayLengthLimit := by rw [Launch.admits_arrayLengthLimit X.admits]; omega
  have hh : 64 ≤ e.platform.maxHeapBytes := by rw [Launch.admits_maxHeapBytes X.admits]; omega
  have X₁ := X.noted hwarm₁
  have X₂ := px_mS_stand X₁ cO cI 4
  rw [show cells + 1 + 4 = cells + 5 by omega, show slots + 4 + 16 * 4 = slots + 68 by omega] at X₂
  obtain ⟨hr1, hr2⟩ := X.roomAbove hcells hslots
  obtain ⟨t', a1, b1⟩ := kk (T.setVm vm₁) rfl _ rfl X₂
  refine ⟨t', ?_, b1⟩
  jvm_step X.here [hexec, hdg]
  rw [px_mcold (s := T) (f := g) X.here.top hg₁ hready₁]
  have hs1 : (T.setVm vm₁).topJava?.isSome := X₁.here.top
  simp only [multianewarray.sem, wp_bind', W.resolveClassAt_ready (State.method?_setTop g hs1) hready₁]
  refine (popN_top (args := [.int 4, .int 16]) (rest := rest) hs1 (by rw [hstack]; rfl)).mpr ?_
  simp only [List.mapM_cons, List.mapM_nil, wp_bind', wp_pure']
  refine px_mk2 (kO := kO₁) (kI := kI₁) hkO₁ hO₁ hkI₁ hI₁ hl hh (fun k hk => ?_) (by show T.heap.size + 5 ≤ _; exact hr1) (by show T.slotsUsed + 4 ≤ _; omega) (fun d' acts' => ?_)
  · rw [px_mS_top]
    exact ((px_mS_stand X₁ cO cI k).roomAbove (a := 0) (b := 16) (by omega) (by omega)).2
  · rw [px_mS_top]
    simp only [W.mark, wp_bind', W.pushRef, State.topJava?_setTop' _ X₂.here.top, Option.some.injEq, exists_eq_left', State.setTop_setTop]
    intro acts9
    rw [afterInstr_ok]
    exact a1
end PXM3

/-! int[4][16] over a world -/
def px_mW (cO cI : ClassId) (b : Nat) : va_W := [(b, .inl (cO, 4, .inr (.inr (.inr (.inr (fun k => some (b + 1 + k))))))), (b + 1, .inl (cI, 16, .inl (fun _ => 0))), (b + 2, .inl (cI, 16, .inl (fun _ => 0))), (b + 3, .inl (cI, 16, .inl (fun _ => 0))), (b + 4, .inl (cI, 16, .inl (fun _ => 0)))]
theorem px_mO_four (cO : ClassId) (b : Nat) : px_mO cO b 4 = arrV cO 4 (fun j => va_rf (some (b + 1 + j))) := by
  unfold px_mO arrV
  congr 2
  funext j
  show (if j.val < 4 then Value.ref (b + 1 + j.val) else Value.null) = va_rf (some (b + 1 + j.val))
  rw [if_pos j.isLt]
  rfl
section PXM4
variable {p : Program} {l : Launch} {e : Env} {R : Room} {s : State} {m : MethodId} {args : Array Value} {below : List Frame} {meth : Method} {c : Code} {H : Heap} {locs : List Loc} {cells slots : Nat} {Q : State → Prop}
variable {cc : ByteArray} {pc : Nat} {ls : Array Slot} {rest : List Value} {D : va_G} {cl : List vw_C} {A : Nat → Prop} {tys : List (ClassId × FieldType)} {ws : va_W} {H0 : Heap}
theorem px_multi (hexec : p.tables.exec = Jvm.exec) (hb : c.code = cc) {own : String} {index : Nat} (hown : s.vm.findClass own = some m.cls) (hclink : (Cond.classLink own index "[[I").before args s = true) (hAI : px_AI s) (hK : va_K D cl tys s) (hP : va_P D cl ws H) (hD : va_D A ws) (hS : va_S A H0 H locs) (hA : ∀ q, H0.size ≤ q → A q) (t0 t1 : Nat) {cO cI : ClassId} (ht0 : tys[t0]? = some (cO, .array .int)) (ht1 : tys[t1]? = some (cI, .int)) (hcells : cells + 5 ≤ R.cells) (hslots : slots + 68 ≤ R.slots) (hdg : decode cc pc = .ok (.multianewarray index 2, 4))
    (kk : ∀ (b : Nat) (H1 : Heap) (locs1 : List Loc), va_P D cl (ws ++ px_mW cO cI b) H1 → va_D A (ws ++ px_mW cO cI b) → va_S A H0 H1 locs1 → W p l e R s m args below meth c H1 locs1 (cells + 5) (slots + 68) Q (F0 m (pc + 4) ls (.ref b :: rest))) : W p l e R s m args below meth c H locs cells slots Q (F0 m pc ls (.int 16 :: .int 4 :: rest)) := by
  obtain ⟨comp, cA, kA, k0, k1, k2, k3⟩ := hAI
  have e1 : cO = cA := Option.some.inj (Eq.trans (Eq.symm (hK.2 t0 _ ht0).2) k3)
  have e2 : cI = comp := Option.some.inj (Eq.trans (Eq.symm (hK.2 t1 _ ht1).2) k0)
  subst e1
  subst e2
  obtain ⟨-, kI, hkI, comp2, hI⟩ := (hK.2 t1 _ ht1).1 0 (fun _ => .null)
  refine px_Wmulti hexec hb hown hclink (cO := cO) (cI := cI) (kO := kA) (kI := kI) (comp := comp2) k3 k1 k2 hkI hI rfl hdg rfl hcells hslots (fun T hT => ?_)
  subst hT
  have hlt : ∀ (k : Nat) (x : Nat × va_E), ws[k]? = some x → x.1 < T.heap.size := fun k x hx => (hP k x hx).lt
  have hAb : ∀ i : Nat, A (T.heap.size + i) := fun i => hA _ (Nat.le_trans hS.1 (Nat.le_add_right _ _))
  refine kk T.heap.size _ _ ?_ ?_ ⟨?_, ?_, ?_⟩
  · refine (hP.kept (fun k x hx => px_mS_old T cO cI 4 x.1 (hlt k x hx))).app (fun k x hx => ?_)
    have hk5 : k < 5 := (List.getElem?_eq_some_iff.mp hx).1
    rcases (by omega : k = 0 ∨ k = 1 ∨ k = 2 ∨ k = 3 ∨ k = 4) with rfl | rfl | rfl | rfl | rfl <;> cases hx
    · show (px_mS T cO cI 4).heap[T.heap.size]? = some (vp_cell _ _)
      rw [vp_cell_q, px_mS_at, px_mO_four]
    · show (px_mS T cO cI 4).heap[T.heap.size + 1]? = some (vp_cell _ _)
      rw [vp_cell_i]
      exact px_mS_in T cO cI 4 0 (by omega)
    · show (px_mS T cO cI 4).heap[T.heap.size + 2]? = some (vp_cell _ _)
      rw [vp_cell_i]
      exact px_mS_in T cO cI 4 1 (by omega)
    · show (px_mS T cO cI 4).heap[T.heap.size + 3]? = some (vp_cell _ _)
      rw [vp_cell_i]
      exact px_mS_in T cO cI 4 2 (by omega)
    · show (px_mS T cO cI 4).heap[T.heap.size + 4]? = some (vp_cell _ _)
      rw [vp_cell_i]
      exact px_mS_in T cO cI 4 3 (by omega)
  · refine va_D.app hD (px_D_nd ?_ ?_) ?_
    · show [T.heap.size, T.heap.size + 1, T.heap.size + 2, T.heap.size + 3, T.heap.size + 4].Nodup
      simp
    · intro q hq
      unfold px_mW at hq
      simp only [List.mem_cons, List.not_mem_nil, or_false] at hq
      rcases hq with rfl | rfl | rfl | rfl | rfl
      · exact hAb 0
      · exact hAb 1
      · exact hAb 2
      · exact hAb 3
      · exact hAb 4
    · intro i j x y hx hy e
      have h1 := hlt i x hx
      have hk5 : j < 5 := (List.getElem?_eq_some_iff.mp hy).1
      rcases (by omega : j = 0 ∨ j = 1 ∨ j = 2 ∨ j = 3 ∨ j = 4) with rfl | rfl | rfl | rfl | rfl <;> cases hy <;> (simp only at e; omega)
  · rw [px_mS_size]
    have := hS.1
    omega
  · intro q hq hn
    rw [px_mS_old T cO cI 4 q (Nat.lt_of_lt_of_le hq hS.1)]
    exact hS.2.1 q hq hn
  · intro q hq
    rcases List.mem_append.mp hq with h | h
    · exact hS.2.2 q h
    · rw [px_mL_base _ _ _ h]
      exact hAb 0
end PXM4
/-! worlds in another order -/
theorem px_Pperm {D : va_G} {cl : List vw_C} {ws ws' : va_W} {H : Heap} (h : ws'.Perm ws) (hP : va_P D cl ws H) : va_P D cl ws' H := by
  intro k q hk
  obtain ⟨i, hi⟩ := List.mem_iff_getElem?.mp (h.mem_iff.mp (List.mem_of_getElem? hk))
  exact hP i q hi
theorem px_D_nd' {A : Nat → Prop} {ws : va_W} (hD : va_D A ws) : (ws.map Prod.fst).Nodup := by
  rw [List.nodup_iff_pairwise_ne, List.pairwise_iff_getElem]
  intro i j hi hj hij e
  rw [List.getElem_map, List.getElem_map] at e
  rw [List.length_map] at hi hj
  have := hD.1 i j _ _ (List.getElem?_eq_getElem hi) (List.getElem?_eq_getElem hj) e
  omega
theorem px_Dperm {A : Nat → Prop} {ws ws' : va_W} (h : ws'.Perm ws) (hD : va_D A ws) : va_D A ws' := by
  refine px_D_nd ((h.map Prod.fst).nodup_iff.mpr (px_D_nd' hD)) (fun q hq => ?_)
  obtain ⟨i, hi⟩ := List.mem_iff_getElem?.mp (h.mem_iff.mp hq)
  exact hD.2 i q hi
theorem px_ip_add (a b : Nat) (f : Nat → Nat × va_E) : px_ip (a + b) f = px_ip a f ++ px_ip b (fun t => f (a + t)) := by
  unfold px_ip
  rw [List.range_add, List.map_append, List.map_map]
  rfl
def px_injN (n : Nat) (f : Nat → Nat) : Prop := ∀ i j, i < n → j < n → f i = f j → i = j
/-- all parts' sources are there -/
def px_sok (np ns : Nat) (pp : Nat → px_PR) : Prop := ∀ t, t < np → (pp t).1 < ns
/-- a new matroid -/
def px_nR (ho n1 n2 n3 n4 n5 n6 n7 n8 : Nat) (v9 v10 v11 v12 v13 v14 : Int32) : px_MR := (fun k => if 20 ≤ k then n4 + 1 + (k - 20) else [ho, n1, n2, n3, n4, n5, n6, n7, n8].getD k 0, fun k => [v9, v10, v11, v12, v13, v14].getD (k - 9) 0, fun k => if k = 8 then 0 else 16, fun _ _ => 0, fun _ => 0, fun _ => none)
section PXN
variable {X : va_W} {cc : px_CC} {ho cm np ns : Nat} {hm hm1 pa sa sa1 : Nat → Nat} {mm mm1 : Nat → px_MR} {pp : Nat → px_PR} {ss ss1 : Nat → px_SR} {D : va_G} {cl : List vw_C} {H : Heap} {A : Nat → Prop}
theorem px_sainj (hD : va_D A (X ++ px_cp cc ho cm np ns hm pa sa mm pp ss)) : px_injN ns sa := by
  intro i j hi hj e
  have := hD.1 _ _ _ _ (px_gs0 (X := X) rfl hi) (px_gs0 (X := X) rfl hj) e
  omega
theorem px_snG (hok : px_sok np ns pp) {q r n : Nat} {f z h : Int32} {g : Nat → Int32} (e1 : sa1 = va_up sa ns q) (e2 : ss1 = va_up ss ns (r, f, z, h, n, g)) : (X ++ px_cp cc ho cm np (ns + 1) hm pa sa1 mm pp ss1).Perm ((X ++ [(q, .inr (12, [.int f, .int z, .int h, .ref r])), (r, .inl (cc.2.1, n, .inl g))]) ++ px_cp cc ho cm np ns hm pa sa mm pp ss) := by
  have h1 : px_ip np (px_pc pa sa1 pp) = px_ip np (px_pc pa sa pp) := by
    refine px_ip_congr (fun t ht => ?_)
    unfold px_pc
    rw [e1, va_up_ne _ _ (show (pp t).1 ≠ ns from Nat.ne_of_lt (hok t ht))]
  have h2 : px_ip (2 * (ns + 1)) (px_sc cc.2.1 sa1 ss1) = px_ip (2 * ns) (px_sc cc.2.1 sa ss) ++ [(q, .inr (12, [.int f, .int z, .int h, .ref r])), (r, .inl (cc.2.1, n, .inl g))] := by
    rw [show 2 * (ns + 1) = 2 * ns + 2 by omega, px_ip_add]
    congr 1
    · refine px_ip_congr (fun t ht => ?_)
      unfold px_sc
      rw [e1, e2, va_up_ne _ _ (show t / 2 ≠ ns by omega), va_up_ne _ _ (show t / 2 ≠ ns by omega)]
    · show [px_sc cc.2.1 sa1 ss1 (2 * ns + 0), px_sc cc.2.1 sa1 ss1 (2 * ns + 1)] = _
      unfold px_sc
      rw [show (2 * ns + 0) / 2 = ns by omega, show (2 * ns + 0) % 2 = 0 by omega, show (2 * ns + 1) / 2 = ns by omega, show (2 * ns + 1) % 2 = 1 by omega, e1, e2, va_up_self, va_up_self]
      rfl
  unfold px_cp
  rw [h1, h2, List.append_assoc X]
  refine List.Perm.append_left X ?_
  rw [← List.append_assoc, ← List.append_assoc, List.append_assoc (px_ip (13 * cm) (px_mc cc ho pa hm mm))]
  exact List.perm_append_comm
theorem px_snP (hok : px_sok np ns pp) {q r n : Nat} {f z h : Int32} {g : Nat → Int32} (e1 : sa1 = va_up sa ns q) (e2 : ss1 = va_up ss ns (r, f, z, h, n, g)) (hP : va_P D cl ((X ++ [(q, .inr (12, [.int f, .int z, .int h, .ref r])), (r, .inl (cc.2.1, n, .inl g))]) ++ px_cp cc ho cm np ns hm pa sa mm pp ss) H) : va_P D cl (X ++ px_cp cc ho cm np (ns + 1) hm pa sa1 mm pp ss1) H := px_Pperm (px_snG hok e1 e2) hP
theorem px_snD (hok : px_sok np ns pp) {q r n : Nat} {f z h : Int32} {g : Nat → Int32} (e1 : sa1 = va_up sa ns q) (e2 : ss1 = va_up ss ns (r, f, z, h, n, g)) (hD : va_D A ((X ++ [(q, .inr (12, [.int f, .int z, .int h, .ref r])), (r, .inl (cc.2.1, n, .inl g))]) ++ px_cp cc ho cm np ns hm pa sa mm pp ss)) : va_D A (X ++ px_cp cc ho cm np (ns + 1) hm pa sa1 mm pp ss1) := px_Dperm (px_snG hok e1 e2) hD
theorem px_nN (cc : px_CC) (ho : Nat) (pa : Nat → Nat) (q n1 n2 n3 n4 n5 n6 n7 n8 : Nat) (v9 v10 v11 v12 v13 v14 : Int32) : ([(q, .inr (10, [.ref ho, .ref n1, .ref n2, .ref n3, .ref n4, .ref n5, .ref n6, .ref n7, .ref n8, .int v9, .int v10, .int v11, .int v12, .int v13, .int v14])), (n1, .inl (cc.1, 12, .inr (.inr (.inr (.inr (fun _ => none)))))), (n2, .inl (cc.2.1, 12, .inl (fun _ => 0))), (n3, .inl (cc.2.1, 12, .inl (fun _ => 0))), (n4, .inl (cc.2.2.1, 4, .inr (.inr (.inr (.inr (fun k => some (n4 + 1 + k))))))), (n5, .inl (cc.2.1, 4, .inl (fun _ => 0))), (n6, .inl (cc.2.2.2.1, 16, .inl (fun _ => 0))), (n7, .inl (cc.2.2.2.1, 16, .inl (fun _ => 0))), (n8, .inl (cc.2.2.2.2, 0, .inr (.inl (fun _ => 0)))), (n4 + 1, .inl (cc.2.1, 16, .inl (fun _ => 0))), (n4 + 2, .inl (cc.2.1, 16, .inl (fun _ => 0))), (n4 + 3, .inl (cc.2.1, 16, .inl (fun _ => 0))), (n4 + 4, .inl (cc.2.1, 16, .inl (fun _ => 0)))] : va_W) = px_ip 13 (px_mcell cc ho pa q (px_nR ho n1 n2 n3 n4 n5 n6 n7 n8 v9 v10 v11 v12 v13 v14)) := by
  have h4 : (fun k : Nat => some (n4 + 1 + k)) = fun k => some ((px_nR ho n1 n2 n3 n4 n5 n6 n7 n8 v9 v10 v11 v12 v13 v14).1 (20 + k)) := by
    funext k
    show _ = some (if 20 ≤ 20 + k then n4 + 1 + (20 + k - 20) else _)
    rw [if_pos (by omega), Nat.add_sub_cancel_left]
  rw [h4]
  rfl
theorem px_mnG {q : Nat} {r : px_MR} {N : va_W} (hN : N = px_ip 13 (px_mcell cc ho pa q r)) (e1 : hm1 = va_up hm cm q) (e2 : mm1 = va_up mm cm r) : (X ++ px_cp cc ho (cm + 1) np ns hm1 pa sa mm1 pp ss).Perm ((X ++ N) ++ px_cp cc ho cm np ns hm pa sa mm pp ss) := by
  have h1 : px_ip (13 * (cm + 1)) (px_mc cc ho pa hm1 mm1) = px_ip (13 * cm) (px_mc cc ho pa hm mm) ++ N := by
    rw [show 13 * (cm + 1) = 13 * cm + 13 by omega, px_ip_add, hN]
    congr 1
    · refine px_ip_congr (fun t ht => ?_)
      unfold px_mc
      rw [e1, e2, va_up_ne _ _ (show t / 13 ≠ cm by omega), va_up_ne _ _ (show t / 13 ≠ cm by omega)]
    · refine px_ip_congr (fun t ht => ?_)
      unfold px_mc
      rw [show (13 * cm + t) / 13 = cm by omega, show (13 * cm + t) % 13 = t by omega, e1, e2, va_up_self, va_up_self]
  unfold px_cp
  rw [h1, List.append_assoc X, List.append_assoc]
  exact List.Perm.append_left X (List.perm_append_comm_assoc _ _ _)
theorem px_mnP {q : Nat} {r : px_MR} {N : va_W} (hN : N = px_ip 13 (px_mcell cc ho pa q r)) (e1 : hm1 = va_up hm cm q) (e2 : mm1 = va_up mm cm r) (hP : va_P D cl ((X ++ N) ++ px_cp cc ho cm np ns hm pa sa mm pp ss) H) : va_P D cl (X ++ px_cp cc ho (cm + 1) np ns hm1 pa sa mm1 pp ss) H := px_Pperm (px_mnG hN e1 e2) hP
theorem px_mnD {q : Nat} {r : px_MR} {N : va_W} (hN : N = px_ip 13 (px_mcell cc ho pa q r)) (e1 : hm1 = va_up hm cm q) (e2 : mm1 = va_up mm cm r) (hD : va_D A ((X ++ N) ++ px_cp cc ho cm np ns hm pa sa mm pp ss)) : va_D A (X ++ px_cp cc ho (cm + 1) np ns hm1 pa sa mm1 pp ss) := px_Dperm (px_mnG hN e1 e2) hD
end PXN

