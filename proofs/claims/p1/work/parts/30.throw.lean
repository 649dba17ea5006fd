/-! THROWING, by rows of my own over the library's Stand: a method that throws (px_MT); a call of such a method, caught by the caller's only handler (px_runT); methods that have handlers (px_ofW, px_runSW). -/
section PXT
variable {p : Program} {l : Launch} {e : Env} {R : Room} {s : State} {m : MethodId} {args : Array Value} {below : List Frame} {meth : Method} {c : Code} {H : Heap} {locs : List Loc} {cells slots : Nat} {Q : State → Prop}
variable {Ts ws ws' : List Cond} {cc bytes : ByteArray} {nL maxL index n mc ms : Nat} {own C : String} {y : MethodName} {ret : Option FieldType} {rm : Room} {Pc : Array Value → State → Prop} {free : Addr → Prop} {b : Addr} {As rest : List Value}
/-- a method that throws: the exception x, what holds then, and the frame -/
def px_MT (l : Launch) (y : MethodName) (ws : List Cond) (rm : Room) (Pc : Array Value → State → Prop) (Qc : Array Value → State → Addr → State → Prop) (mc ms : Nat) (free : Addr → Prop) : Prop :=
  MetFree l y (headSpec ws rm) Pc (fun _ _ _ _ _ => True) (fun a st o t => ∃ x, o = .threw x ∧ Qc a st x t ∧ st.WarmedH t.vm ∧ ∃ L, st.sameButNew ({ t with vm := st.vm } : State) L mc ms ∧ ∀ q ∈ L, free q.base)
/-- the call comes to the note that x is thrown, over the caller's frame -/
theorem px_thrown {Qc : Array Value → State → Addr → State → Prop} {U : State} (X : Stand p l e R s m args below meth c U locs cells slots) (hM : px_MT l y ws rm Pc Qc mc ms free) (hblind : FrameBlind Pc) (hrc : rm.cells = mc) (hrs : rm.slots = ms) (hfr : rm.frames + 1 ≤ R.frames) (hlo : 8 + (maxL + 11) + rm.locals ≤ R.locals)
    (hws : ∀ w ∈ ws, ∀ (a' : Array Value) (V : State), s.WarmedH V.vm → w.before a' V = true) (hcw : Cond.code y bytes maxL ret ∈ ws) (hini : ∀ (a' : Array Value) (V : State), s.WarmedH V.vm → (Cond.initialized y.cls).before a' V = true)
    {g : JFrame} (hg : g.method = m) (hsize : g.locals.size = c.maxLocals) {ig : Instr} (hdg : decode c.code g.pc = .ok (ig, 3)) (hW : 2 * g.monitorRoom + (g.stack.map fun v => v.category).sum ≤ 8) {mk : MethodId} (hn : U.methodNamed? y = some mk) (hf : cells + mc ≤ R.cells ∧ slots + ms ≤ R.slots) {a : Array Value} (hPc : Pc a U) :
    ∃ (x : Addr) (t U2 : State) (L : List Loc), U2.heap = t.heap ∧ U2.vm = t.vm ∧ Stand p l e R s m args below meth c U2 (locs ++ L) (cells + mc) (slots + ms) ∧ Qc a (U.calling g mk a) x t ∧ (∀ q ∈ L, free q.base) ∧
      Steps p.tables e below (doInvoke e (U.setTop g) [] mk a).1 ((U2.setTop g).pushFrame (.throwing x)) := by
  have hpre : (headSpec ws rm).pre.before a U = true := atoms_intro fun w hw => hws w hw _ _ X.warmed
  obtain ⟨methY, cY, hmY, hcY, -, hlY, -, -, -, -⟩ := Cond.code_spec hn (hws _ hcw a U X.warmed)
  obtain ⟨kY, hkY, -⟩ := className_of_methodNamed hn
  have hinitY : kY.init = .initialized := Cond.initialized_spec (findClass_of_methodNamed hn) hkY (hini a U X.warmed)
  subst hg
  have hat := X.here
  have happ : (headSpec ws rm).appliesLoose y e.platform (U.calling g mk a) = true :=
    Spec.appliesLoose_calling (g := g) hat hdg hn hkY hinitY (X.room_calling (g := g) (R' := rm) hsize hmY hcY hfr (by rw [hlY]; omega) (by rw [hrc]; exact hf.1) (by rw [hrs]; exact hf.2)) hpre
  obtain ⟨mid, hmid⟩ := hat.above
  have hfrm : (U.setTop g).frames = (.java g :: mid) ++ below := by rw [State.frames_setTop' g hat.top, hmid]; rfl
  obtain ⟨o, s₂, hsteps, -, hend, x, rfl, hQ, hW₂, L, hsame, hL⟩ := Steps.callFree hM p X.admits X.cas X.clock (acts := []) hfrm happ (hblind _ _ _ _ hPc) trivial
  have hW' : U.WarmedH s₂.vm := hW₂
  obtain ⟨e2, q2, q3, q4, q5, q6⟩ := hsame
  have hfin : s₂.frames = .throwing x :: .java g :: U.frames.tail := by
    have h9 : s₂.frames = .throwing x :: (U.setTop g).frames := hend
    rw [h9, State.frames_setTop' g hat.top]
  obtain ⟨g₀, hg0⟩ := Option.isSome_iff_exists.mp hat.top
  obtain ⟨r, hr⟩ := State.topJava?_eq_some.mp hg0
  have hbig : s₂ = ((({ U with heap := s₂.heap, slotsUsed := s₂.slotsUsed } : State).setVm s₂.vm).setTop g).pushFrame (.throwing x) := by
    have hr' : (({ U with heap := s₂.heap, slotsUsed := s₂.slotsUsed } : State).setVm s₂.vm).frames = .java g₀ :: r := hr
    have h8 : s₂ = ({ (U.calling g mk a).setFrames s₂.frames with heap := s₂.heap, slotsUsed := s₂.slotsUsed } : State).setVm s₂.vm := by
      have h7 : s₂ = ({ s₂ with vm := (U.calling g mk a).vm } : State).setVm s₂.vm := rfl
      exact h7.trans (congrArg (fun z : State => z.setVm s₂.vm) e2)
    refine h8.trans ?_
    rw [hfin, State.calling_eq hat.top, State.setFrames_setFrames, State.pushFrame, State.frames_setTop _ hr', State.setTop_of_frames _ hr', State.setFrames_setFrames, hr]
    rfl
  have hnew : U.sameButNew ({ U with heap := s₂.heap, slotsUsed := s₂.slotsUsed } : State) L mc ms := by
    refine ⟨?_, q2, q3, q4, q5, q6⟩
    obtain ⟨th, hth, -⟩ := State.frames_cons hr
    show ({ U with heap := s₂.heap, slotsUsed := s₂.slotsUsed } : State) = { U.setFrames U.frames with heap := s₂.heap, slotsUsed := s₂.slotsUsed }
    rw [State.setFrames_self hth]
  refine ⟨x, s₂, (({ U with heap := s₂.heap, slotsUsed := s₂.slotsUsed } : State).setVm s₂.vm), L, rfl, rfl, ?_, hQ, hL, ?_⟩
  · exact ⟨X.admits, X.cas, X.clock, X.frames, X.room, X.hears, X.method, X.code, (hat.setHeapUsed s₂.heap s₂.slotsUsed).setVm hW'.alike, X.tail, State.WarmedH.trans X.warmed hW', X.limits, X.bytes, X.same.trans (hnew.setVm s.vm)⟩
  · rw [← hbig]
    exact hsteps
/-- one step: the frame's handler is found, the entry of its catch type resolved now or before -/
theorem px_stepCatch {V : State} {a : Addr} {f : JFrame} {r : List Frame} {pc : Nat} {vm' : Vm} (hfind : ∀ (Qh : Handler → Pre) (E : CtlPost) (d : Bool) (acts : List Action), wp (findHandler f a) Qh E e d acts V ↔ Qh (.found pc) d acts (V.setVm vm')) :
    (stepThrowing e V a (.java f :: r)).1 = (V.setVm vm').setFrames (.java { f with pc := pc, stack := [.ref a] } :: r) := by
  simp only [stepThrowing, searchFrame, vmDo]
  generalize hr : Sem.go _ e false [] V = res
  obtain ⟨as, rfl, ha⟩ := Sem.eq_ok_of hr (a := Handler.found pc) (s' := V.setVm vm') (acts' := []) (by simp [hfind _ _ _ _])
  rfl
theorem px_find {V : State} {f : JFrame} {x : Addr} {x0 : ExceptionTableEntry} {ce : Cell} {kt : Class} (hm : V.vm.method? f.method = some meth) (hc : meth.code = some c) (htab : c.exceptionTable.toList = [x0]) (hcov : covers x0 f.pc = true) (h0 : x0.catchType ≠ 0)
    (hcl : V.vm.ClassLinks e.platform f.method.cls x0.catchType ce.cls) (hcell : V.heap[x]? = some ce) (hne : ∀ k, ce.vm ≠ .statics k) (hkt : V.vm.classes[ce.cls]? = some kt) (hfit : V.vm.assignable ce.cls ce.cls = true) :
    ∀ (Qh : Handler → Pre) (E : CtlPost) (d : Bool) (acts : List Action), wp (findHandler f x) Qh E e d acts V ↔ Qh (.found x0.handlerPc) d acts (V.setVm (V.vm.noted f.method.cls x0.catchType (.cls ce.cls))) := by
  intro Qh E d acts
  obtain ⟨ha, ht⟩ := (resolveClass_links e.toSetting hcl).op (op := VmOp.resolveClass f.method.cls x0.catchType) rfl
  have hal : V.vm.Alike (V.vm.noted f.method.cls x0.catchType (.cls ce.cls)) := (Vm.Alike.refl V.vm).noted _ _ _
  obtain ⟨kt', hkt', -⟩ := hal.2.2 _ _ hkt
  have hfit' : (V.vm.noted f.method.cls x0.catchType (.cls ce.cls)).assignable ce.cls ce.cls = true := by rw [hal.assignable]; exact hfit
  rw [W.findHandler_eq hm hc, htab]
  simp only [covers] at hcov
  simp [findHandler.go, hcov, h0, ha, ht, hcell, hne, hkt', hfit', VmOp.dirties, VmOp.acts]
/-- the note is laid over the frame g: the method's only handler takes it -/
theorem px_caught {U : State} (X : Stand p l e R s m args below meth c U locs cells slots) (ho : s.vm.findClass own = some m.cls) {g : JFrame} (hg : g.method = m) {x : Addr} {x0 : ExceptionTableEntry} (htab : c.exceptionTable.toList = [x0]) (hcov : covers x0 g.pc = true) (h0 : x0.catchType ≠ 0) {name : String} (hlink : (Cond.classLink own x0.catchType name).before args s = true)
    {ce : Cell} (hcell : U.heap[x]? = some ce) (hobj : ce.vm.isStatics = false) (hcT : s.vm.findClass name = some ce.cls) (hfit : s.vm.assignable ce.cls ce.cls = true) :
    ∃ vm' : Vm, Stand p l e R s m args below meth c (U.setVm vm') locs cells slots ∧ ∀ target, Steps p.tables e below ((U.setVm vm').setTop { g with pc := x0.handlerPc, stack := [.ref x] }) target → Steps p.tables e below ((U.setTop g).pushFrame (.throwing x)) target := by
  have hpl : e.platform.magicAccessors = ({} : Platform).magicAccessors := by rw [X.admits.platform]
  obtain ⟨c', hc', hcl⟩ := Cond.classLink_spec ho hlink e.platform hpl
  cases hcT.symm.trans hc'
  subst hg
  obtain ⟨-, hwarm₁, -⟩ := State.classEntry (e := e) X.warmed hcl
  have hclU := X.warmed.classLinks hcl
  obtain ⟨ks, hks⟩ := Vm.classAt_of_findClass hcT
  obtain ⟨kt, hkt, -⟩ := X.warmed.alike.2.2 _ _ hks
  have hfitU : U.vm.assignable ce.cls ce.cls = true := by rw [X.warmed.alike.assignable]; exact hfit
  refine ⟨U.vm.noted g.method.cls x0.catchType (.cls ce.cls), X.noted hwarm₁, fun target hrest => ?_⟩
  generalize hvm : U.vm.noted g.method.cls x0.catchType (.cls ce.cls) = vm₁ at hrest hwarm₁
  obtain ⟨hgo, hw⟩ := X.here.throwing x
  refine Steps.head hgo hw ?_
  obtain ⟨g₀, hg0⟩ := Option.isSome_iff_exists.mp X.here.top
  obtain ⟨r, hr⟩ := State.topJava?_eq_some.mp hg0
  have hr' : (U.setVm vm₁).frames = .java g₀ :: r := hr
  have hne : ∀ k, ce.vm ≠ .statics k := VmData.ne_statics_of hobj
  rw [stepThread_throwing (frames_entered X.here.top _), px_stepCatch (V := (U.setTop g).pushFrame (.throwing x)) (pc := x0.handlerPc) (vm' := vm₁) ?_]
  · rw [State.setTop_of_frames _ hr'] at hrest
    have h1 : (((U.setTop g).pushFrame (.throwing x)).setVm vm₁).setFrames (.java { g with pc := x0.handlerPc, stack := [.ref x] } :: U.frames.tail) = (U.setVm vm₁).setFrames (.java { g with pc := x0.handlerPc, stack := [.ref x] } :: r) := by
      rw [hr, List.tail_cons, State.pushFrame, State.setTop_of_frames _ hr, State.setFrames_setFrames]
      show ((U.setVm vm₁).setFrames _).setFrames _ = _
      rw [State.setFrames_setFrames]
    rw [h1]
    exact hrest
  · rw [← hvm]
    exact px_find (V := (U.setTop g).pushFrame (.throwing x)) (meth := meth) (c := c) X.method' X.code htab hcov h0 hclU hcell hne hkt hfitU
/-- a call of a method that throws, caught here -/
theorem px_runT {Qc : Array Value → State → Addr → State → Prop} (S : CallFix p m c cc nL s args Ts own) (hM : px_MT l y ws rm Pc Qc mc ms free) (cw : CallW R s args own C index y bytes maxL ret ws rm mc ms n) (hp : PreV s H C b Pc As)
    {pc : Nat} {ls : Array Slot} (hn : As.length = n) (hsize : ls.size = nL) (hW : (rest.map fun v => v.category).sum ≤ 8) (hdg : decode cc pc = .ok (.invokevirtual index, 3)) (hf : cells + mc ≤ R.cells ∧ slots + ms ≤ R.slots)
    {x0 : ExceptionTableEntry} (htab : c.exceptionTable.toList = [x0]) (hcov : covers x0 pc = true) (h0 : x0.catchType ≠ 0) {name : String} (hlink : (Cond.classLink own x0.catchType name).before args s = true)
    (hex : ∀ a st x t, Qc a st x t → ∃ ce, t.heap[x]? = some ce ∧ ce.vm.isStatics = false ∧ st.vm.findClass name = some ce.cls ∧ st.vm.assignable ce.cls ce.cls = true)
    (kk : ∀ (x : Addr) (st t : State) (L : List Loc), st.heap = H → s.vm.Alike t.vm → Qc (Value.ref b :: As).toArray st x t → (∀ q ∈ L, free q.base) → W p l e R s m args below meth c t.heap (locs ++ L) (cells + mc) (slots + ms) Q (F0 m x0.handlerPc ls [.ref x])) :
    W p l e R s m args below meth c H locs cells slots Q (F0 m pc ls (As.reverse ++ .ref b :: rest)) := by
  obtain ⟨⟨hrc, hrs, hfr, hlo, hws, hcw, hcode, hini, hy, hlen, hl⟩, hinst, hsel⟩ := cw
  obtain ⟨hx, hb, hml, ho, -⟩ := S
  obtain ⟨hblind, ⟨cellB, hcB, hoB, hclB⟩, hPc⟩ := hp
  intro T hT X
  obtain ⟨mk, methM, hnamed, hmethM, hstM, habM⟩ := Cond.instanceMethod_spec hinst
  obtain ⟨methM', cM, hmethM', -, -, -, -, -, -, hsigM⟩ := Cond.code_spec hnamed hcode
  cases hmethM.symm.trans hmethM'
  obtain ⟨c2, r2, m2, q1, q2, q3, q4, kP, hkP, hkPi⟩ := Cond.selects_spec hsel
  cases hclB.symm.trans q1
  cases (State.methodFound?_of_named hnamed hy).symm.trans q2
  cases hnamed.symm.trans q3
  have hselP : selectMethod e.platform s.vm cellB.cls mk = .method mk := by rw [Launch.admits_selectMethod X.admits]; exact q4
  have hdc : decode c.code pc = .ok (.invokevirtual index, 3) := by rw [hb]; exact hdg
  obtain ⟨vm₁, X₁, hstep₁⟩ := X.invokevirtual hx ho hl hnamed hmethM hstM hkP hkPi hy (a := b) (cell := cellB) (by rw [hT]; exact hcB)
    (fun z h => by rw [h] at hoB; cases hoB) hselP hmethM habM hkP hkPi (g := F0 m pc ls (As.reverse ++ .ref b :: rest)) rfl (argsL := As) (rest := rest) (hn.trans (hlen _ hsigM)) rfl hdc
  have hUh : (T.setVm vm₁).heap = H := hT
  obtain ⟨x, t, U2, L, e1, e2, X₂, hQ, hL, hsteps⟩ := px_thrown (g := F0 m pc ls rest) X₁ hM hblind hrc hrs hfr hlo hws hcw (fun a' V hV => word_at hV (Or.inl (by first | rfl | simp [Cond.onTables, Cond.keeps, Cond.steady])) hini) rfl (hsize.trans hml.symm) hdc (by simpa using hW) (X₁.named hnamed) hf (hPc _ hUh X₁.warmed)
  obtain ⟨ce, hce, hobj, hcls, hasg⟩ := hex _ _ _ _ hQ
  have hal : s.vm.Alike vm₁ := X₁.warmed.alike
  have hcls' : s.vm.findClass name = some ce.cls := by
    have h1 : vm₁.findClass name = some ce.cls := hcls
    rwa [hal.findClass] at h1
  have hasg' : s.vm.assignable ce.cls ce.cls = true := by
    have h1 : vm₁.assignable ce.cls ce.cls = true := hasg
    rwa [hal.assignable] at h1
  obtain ⟨vm', X₃, hcat⟩ := px_caught X₂ ho (g := F0 m pc ls rest) rfl htab hcov h0 hlink (by rw [e1]; exact hce) hobj hcls' hasg'
  obtain ⟨t2, a1, b1⟩ := kk x _ t L (show ((T.setVm vm₁).calling (F0 m pc ls rest) mk (Value.ref b :: As).toArray).heap = H from hUh) (by rw [← e2]; exact X₂.warmed.alike) hQ hL (U2.setVm vm') e1 X₃
  exact ⟨t2, hstep₁ _ (fun acts => by rw [doInvoke_state]; exact hsteps.trans (hcat _ a1)), b1⟩
/-- a contract of a method that has handlers -/
theorem px_ofW {Qc : Array Value → State → Outcome → State → Prop} {hs : List (Nat × Nat × Nat × Nat)} (hy : plainName y.cls = true) (hw : ws = Cond.codeWith y cc maxL ret hs :: ws')
    (body : ∀ p e s m args below meth c s₁, BodyLoose p l y (headSpec ws rm) cc maxL ret e s m args below meth c s₁ → c.maxLocals = maxL → c.exceptionTable.toList = tableOf hs → Pc args s →
      W p l e (headSpec ws rm).room s m args below meth c s.heap [] 0 0 (MQ below Qc args s mc ms free) (entryFrame m args maxL)) : Met l y ws rm Pc Qc mc ms free := by
  refine MetFree.of_bodyS (code := cc) (maxLocals := maxL) (ret := ret) hy ?_ ?_
  · intro args s m h hn
    obtain ⟨m', meth, c, h0, h1, h2, h3, h4, -, h5, h6, -⟩ := Cond.codeWith_spec (atoms_spec (ws := ws) h _ (by rw [hw]; exact List.mem_cons_self))
    cases hn.symm.trans h0
    exact ⟨meth, c, h1, h2, h3, h4, h5, h6⟩
  · intro p e s m args below meth c s₁ B hml hP _
    have hh0 : s₁.heap = s.heap := by rw [B.state]; rfl
    have htab : c.exceptionTable.toList = tableOf hs := by
      obtain ⟨m', meth', c', h0, h1, h2, -, -, h5, -, -, -⟩ := Cond.codeWith_spec (atoms_spec (ws := ws) B.pre _ (by rw [hw]; exact List.mem_cons_self))
      cases B.named.symm.trans h0
      cases B.method.symm.trans h1
      cases (Stand.of_body B).code.symm.trans h2
      rw [← h5, table_eq]
    obtain ⟨t, a1, o, b1, b2, b3⟩ := body p e s m args below meth c s₁ B hml htab hP s₁ hh0 (Stand.of_body B)
    exact ⟨t, o, a1, b1, b2, ⟨b3.1, b3.2⟩⟩
/-- what a caller needs of a static method that has handlers -/
theorem px_backW {Qc : Array Value → State → Outcome → State → Prop} {hs : List (Nat × Nat × Nat × Nat)} {W0 len : Nat} (hM : Met l y ws rm Pc Qc mc ms free) (hblind : FrameBlind Pc) (hrc : rm.cells = mc) (hrs : rm.slots = ms) (hfr : rm.frames + 1 ≤ R.frames) (hlo : W0 + (maxL + 11) + rm.locals ≤ R.locals)
    (hws : ∀ w ∈ ws, ∀ (a' : Array Value) (V : State), s.WarmedH V.vm → w.before a' V = true) (hcw : Cond.codeWith y bytes maxL ret hs ∈ ws) (hini : ∀ (a' : Array Value) (V : State), s.WarmedH V.vm → (Cond.initialized y.cls).before a' V = true) :
    Back l R p e below s args y len W0 (PreOf R mc ms Pc) (PostOf Qc mc ms free) := by
  intro m meth c A g ig mk a X hg hsize hdg hW hn hp
  obtain ⟨U, Ls, c0, s0⟩ := A
  obtain ⟨hp1, hp2, hPc⟩ := hp
  dsimp only [Pt.U, Pt.locs, Pt.cells, Pt.slots] at X hn hp1 hp2 hPc ⊢
  have hpre : (headSpec ws rm).pre.before a U = true := atoms_intro fun w hw => hws w hw _ _ X.warmed
  obtain ⟨mY, methY, cY, hnY, hmY, hcY, -, hlY, -, -, -, -⟩ := Cond.codeWith_spec (hws _ hcw a U X.warmed)
  cases hn.symm.trans hnY
  obtain ⟨kY, hkY, -⟩ := className_of_methodNamed hn
  have hinitY : kY.init = .initialized := Cond.initialized_spec (findClass_of_methodNamed hn) hkY (hini a U X.warmed)
  subst hg
  have hat := X.here
  have happ : (headSpec ws rm).appliesLoose y e.platform (U.calling g mk a) = true :=
    Spec.appliesLoose_calling (g := g) hat hdg hn hkY hinitY (X.room_calling (g := g) (R' := rm) hsize hmY hcY hfr (by rw [hlY]; omega) (by rw [hrc]; exact hp1) (by rw [hrs]; exact hp2)) hpre
  obtain ⟨mid, hmid⟩ := hat.above
  have hfrm : (U.setTop g).frames = (.java g :: mid) ++ below := by rw [State.frames_setTop' g hat.top, hmid]; rfl
  obtain ⟨o, s₂, hsteps, -, hend, hQ, L, ⟨⟨v, rfl⟩, hW₂, hsame⟩, hL⟩ := Steps.callFree hM p X.admits X.cas X.clock (acts := []) hfrm happ (hblind _ _ _ _ hPc) trivial
  have hW' : U.WarmedH s₂.vm := hW₂
  obtain ⟨e2, q2, q3, q4, q5, q6⟩ := hsame
  rw [State.frames_setTop' g hat.top] at hend
  obtain ⟨c₂, i₂, len₂, hc₂, hd₂, hf₂⟩ := hend
  have hcc : c₂ = c := by
    have h1 : s₂.code? g.method = U.code? g.method := by
      rw [State.code?_eq, State.code?_eq, hW'.alike.method?]
    exact Option.some.inj (hc₂.symm.trans (h1.trans hat.code))
  subst hcc
  have hlen : len₂ = len := by rw [hdg] at hd₂; cases hd₂; rfl
  subst hlen
  obtain ⟨g₀, hg0⟩ := Option.isSome_iff_exists.mp hat.top
  obtain ⟨r, hr⟩ := State.topJava?_eq_some.mp hg0
  have hbig : s₂ = (({ U with heap := s₂.heap, slotsUsed := s₂.slotsUsed } : State).setVm s₂.vm).setTop { g with pc := g.pc + len₂, stack := v.toList ++ g.stack } := by
    have hr' : (({ U with heap := s₂.heap, slotsUsed := s₂.slotsUsed } : State).setVm s₂.vm).frames = .java g₀ :: r := hr
    have h8 : s₂ = ({ (U.calling g mk a).setFrames s₂.frames with heap := s₂.heap, slotsUsed := s₂.slotsUsed } : State).setVm s₂.vm := by
      have h7 : s₂ = ({ s₂ with vm := (U.calling g mk a).vm } : State).setVm s₂.vm := rfl
      exact h7.trans (congrArg (fun z : State => z.setVm s₂.vm) e2)
    refine h8.trans ?_
    rw [hf₂, State.calling_eq hat.top, State.setFrames_setFrames, State.setTop_of_frames _ hr', hr]
    rfl
  have hnew : U.sameButNew ({ U with heap := s₂.heap, slotsUsed := s₂.slotsUsed } : State) L mc ms := by
    refine ⟨?_, q2, q3, q4, q5, q6⟩
    obtain ⟨th, hth, -⟩ := State.frames_cons hr
    show ({ U with heap := s₂.heap, slotsUsed := s₂.slotsUsed } : State) = { U.setFrames U.frames with heap := s₂.heap, slotsUsed := s₂.slotsUsed }
    rw [State.setFrames_self hth]
  refine ⟨v, ⟨(({ U with heap := s₂.heap, slotsUsed := s₂.slotsUsed } : State).setVm s₂.vm), Ls ++ L, c0 + mc, s0 + ms⟩,
    ⟨X.admits, X.cas, X.clock, X.frames, X.room, X.hears, X.method, X.code, (hat.setHeapUsed s₂.heap s₂.slotsUsed).setVm hW'.alike, X.tail, State.WarmedH.trans X.warmed hW', X.limits, X.bytes, X.same.trans (hnew.setVm s.vm)⟩, ?_, ?_⟩
  · exact ⟨g, mk, s₂, L, rfl, rfl, hQ, rfl, hL, rfl, rfl⟩
  · show Steps p.tables e below _ ((({ U with heap := s₂.heap, slotsUsed := s₂.slotsUsed } : State).setVm s₂.vm).setTop { g with pc := g.pc + len₂, stack := v.toList ++ g.stack })
    rw [← hbig]
    exact hsteps
/-- a call of a static method that has handlers -/
theorem px_runSW {Qc : Array Value → State → Outcome → State → Prop} {hs : List (Nat × Nat × Nat × Nat)} {g : JFrame} (S : CallFix p m c cc nL s args Ts own) (hM : Met l y ws rm Pc Qc mc ms free) (hrc : rm.cells = mc) (hrs : rm.slots = ms) (hR : rm.frames + 1 ≤ R.frames ∧ 8 + (maxL + 11) + rm.locals ≤ R.locals)
    (hws : ∀ w ∈ ws, ∀ (a' : Array Value) (V : State), s.WarmedH V.vm → w.before a' V = true) (hcw : Cond.codeWith y bytes maxL ret hs ∈ ws) (hini : (Cond.initialized y.cls).before args s = true) (hstat : (Cond.static y).before args s = true) (hl : (Cond.methodLink own index y).before args s = true)
    (hy : y.cls ≠ "java/lang/invoke/MethodHandle" ∧ y.cls ≠ "java/lang/invoke/VarHandle") (hlen : (parseMethodDescriptor y.desc).map (fun d => d.parameters.length) = some n) (hp : PreS s H Pc As)
    (hg : g.method = m) (hn : As.length = n) (hsize : g.locals.size = nL) (hstack : g.stack = As.reverse ++ rest) (hW : 2 * g.monitorRoom + (rest.map fun v => v.category).sum ≤ 8) (hdg : decode cc g.pc = .ok (.invokestatic index, 3)) (hf : cells + mc ≤ R.cells ∧ slots + ms ≤ R.slots) :
    va_Run p l e R s m args below meth c H locs cells slots mc ms g rest (Qc As.toArray) (free) := by
  obtain ⟨hx, hb, hml, ho, -⟩ := S
  intro T hT X
  have hcode : (Cond.codeWith y bytes maxL ret hs).before args s = true := hws _ hcw args s (State.WarmedH.refl s)
  obtain ⟨mk, methM, cM, hnamed, hmethM, -, -, -, -, -, -, hsigM⟩ := Cond.codeWith_spec hcode
  have hstatic : methM.isStatic = true := Cond.static_spec hnamed hmethM hstat
  obtain ⟨kP, hkP, -⟩ := className_of_methodNamed hnamed
  have hinitP : kP.init = .initialized := Cond.initialized_spec (findClass_of_methodNamed hnamed) hkP hini
  have hlen' : As.length = methM.sig.parameters.length := by
    rw [hsigM] at hlen
    exact hn.trans (Option.some.inj hlen).symm
  have hdc : decode c.code g.pc = .ok (.invokestatic index, 3) := by rw [hb]; exact hdg
  obtain ⟨vm₁, X₁, hstep₁⟩ := X.invokestatic hx ho hl hnamed hmethM hstatic hkP hinitP hy (g := g) hg (argsL := As) (rest := rest) hlen' hstack hdc
  obtain ⟨v, ⟨U', l2, c2, s2⟩, X', ⟨g', mk', t, L, e1, e2, hq, h1, hL, h2, h3⟩, hsteps⟩ := px_backW (p := p) (e := e) (below := below) (s := s) (args := args) (len := 3) (W0 := 8) (bytes := bytes) (maxL := maxL) (ret := ret) (hs := hs) hM hp.1 hrc hrs hR.1 hR.2 hws hcw (fun a' V hV => word_at hV (Or.inl (by first | rfl | simp [Cond.onTables, Cond.keeps, Cond.steady])) hini)
    m meth c ⟨T.setVm vm₁, locs, cells, slots⟩ { g with stack := rest } (.invokestatic index) mk As.toArray X₁ hg (hsize.trans hml.symm) hdc hW (X₁.named hnamed) ⟨hf.1, hf.2, hp.2 (T.setVm vm₁) hT X₁.warmed⟩
  dsimp only [Pt.U, Pt.locs, Pt.cells, Pt.slots] at X' e1 e2 h1 h2 h3 hsteps
  subst h1; subst h2; subst h3
  exact ⟨v, (T.setVm vm₁).calling g' mk' As.toArray, t, U', L, hT, X', hL, e1, e2, hq, fun target h => hstep₁ _ fun acts => by rw [doInvoke_state]; exact hsteps.trans h⟩
end PXT
