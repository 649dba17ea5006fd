/-! THROWING, by rows of my own over the library's Stand: a method that throws (px_MT); a call of such a method, caught by the caller's only handler (px_runT); methods that have handlers (px_ofW, px_runSW). -/
section PXT
variable {p : Program} {l : Launch} {e : Env} {R : Room} {s : State} {m : MethodId} {args : Array Value} {below : List Frame} {meth : Method} {c : Code} {H : Heap} {locs : List Loc} {cells slots : Nat} {Q : State → Prop}
variable {Ts ws ws' : List Cond} {cc bytes : ByteArray} {nL maxL index n mc ms : Nat} {own C : String} {y : MethodName} {ret : Option FieldType} {rm : Room} {Pc : Array Value → State → Prop} {free : Addr → Prop} {b : Addr} {As rest : List Value}
/-- a method that throws: the exception x, what holds then, and the frame -/
def px_MT (l : Launch) (y : MethodName) (ws : List Cond) (rm : Room) (Pc : Array Value → State → Prop) (Qc : Array Value → State → Addr → State → Prop) (mc ms : Nat) (free : Addr → Prop) : Prop :=
  MetFree l y (headSpec ws rm) Pc (fun _ _ _ _ _ => True) (fun a st o t => ∃ x, o = .threw x ∧ Qc a st x t ∧ st.WarmedH t.vm ∧ ∃ L, st.sameButNew ({ t with vm := st.vm } : State) L mc ms ∧ ∀ q ∈ L, free q.base)
/-- the call comes to the note that x is thrown, over the caller's frame -/
theorem px_thrown {Qc : Array Value → State → Addr → State → Prop} {U : State} (X : Stand p l e R s m args below meth c U locs cells slots) (hM : px_MT l y ws rm Pc Qc mc ms free) (hblind : FrameBlind Pc) (hrc : rm.cells = mc) (hrs : rm.slots = ms) (hfr : rm.frames + 1 ≤ R.frames) (hlo : 8 + (maxL + 11) + rm.locals ≤ R.locals)
    (hws : ∀ w ∈ ws, ∀ (a' : Array Value) (V : State), s.WarmedH V.vm → w.before a' V = true) (hcw : Cond.code y bytes maxL ret ∈ ws) (hini : ∀ (a' : Array Value) (V : State), s.WarmedH V.vm → (Cond.initialized y.cls).before a' V = true)
    {g : JFrame} (hg : g.method = m) (hsize : g.locals.size = c.maxLocals) {ig : Instr} (hdg : decode c.code g.pc = .ok (ig, 3)) (hW : 2 * g.monitorRoom + (g.stack.map fun v => v.category).sum ≤ 8) {mk : MethodId} (hn : U.methodNamed? y = some mk) (hf : cells + mc ≤ R.cells ∧ slots + ms ≤ R.slots) {a : Array Value} (hPc : Pc a U) :
    ∃ (x : Addr) (t U2 : State) (L : List Loc), U2.heap = t.heap ∧ U2.vm = t.vm ∧ Stand p l e R s m args below meth c U2 (locs ++ L) (cells + mc) (slots + ms) ∧ Qc a (U.calling g mk a) x t ∧ (∀ q ∈ L, free q.base) ∧
      Steps p.tables e below (doInvoke e (U.setTop g) [] mk a).1 ((U2.setTop g).pushFrame (.throwing x)) := by
  have hpre : (headSpec ws rm).pre.before a U = true := atoms_intro fun w hw => hws w hw _ _ X.warmed
  obtain ⟨methY, cY, hmY, hcY, -, hlY, -, -, -, -⟩ := Cond.code_spec hn (hws _ hcw a U X.warmed)
  obtain ⟨kY, hkY, -⟩ := className_of_methodNamed hn
  have hinitY : kY.init = .initialized := Cond.initialized_spec (findClass_of_methodNamed hn) hkY (hini a U X.warmed)
  subst hg
  have hat := X.here
  have happ : (headSpec ws rm).appliesLoose y e.platform (U.calling g mk a) = true :=
    Spec.appliesLoose_calling (g := g) hat hdg hn hkY hinitY (X.room_calling (g := g) (R' := rm) hsize hmY hcY hfr (by rw [hlY]; omega) (by rw [hrc]; exact hf.1) (by rw [hrs]; exact hf.2)) hpre
  obtain ⟨mid, hmid⟩ := hat.above
  have hfrm : (U.setTop g).frames = (.java g :: mid) ++ below := by rw [State.frames_setTop' g hat.top, hmid]; rfl
  obtain ⟨o, s₂, hsteps, -, hend, x, rfl, hQ, hW₂, L, hsame, hL⟩ := Steps.callFree hM p X.admits X.cas X.clock (acts := []) hfrm happ (hblind _ _ _ _ hPc) trivial
  have hW' : U.WarmedH s₂.vm := hW₂
  obtain ⟨e2, q2, q3, q4, q5, q6⟩ := hsame
  have hfin : s₂.frames = .throwing x :: .java g :: U.frames.tail := by
    have h9 : s₂.frames = .throwing x :: (U.setTop g).frames := hend
    rw [h9, State.frames_setTop' g hat.top]
  obtain ⟨g₀, hg0⟩ := Option.isSome_iff_exists.mp hat.top
  obtain ⟨r, hr⟩ := State.topJava?_eq_some.mp hg0
  have hbig : s₂ = ((({ U with heap := s₂.heap, slotsUsed := s₂.slotsUsed } : State).setVm s₂.vm).setTop g).pushFrame (.throwing x) := by
    have hr' : (({ U with heap := s₂.heap, slotsUsed := s₂.slotsUsed } : State).setVm s₂.vm).frames = .java g₀ :: r := hr
    have h8 : s₂ = ({ (U.calling g mk a).setFrames s₂.frames with heap := s₂.heap, slotsUsed := s₂.slotsUsed } : State).setVm s₂.vm := by
      have h7 : s₂ = ({ s₂ with vm := (U.calling g mk a).vm } : State).setVm s₂.vm := rfl
      exact h7.trans (congrArg (fun z : State => z.setVm s₂.vm) e2)
    refine h8.trans ?_
    rw [hfin, State.calling_eq hat.top, State.setFrames_setFrames, State.pushFrame, State.frames_setTop _ hr', State.setTop_of_frames _ hr', State.setFrames_setFrames, hr]
    rfl
  have hnew : U.sameButNew ({ U with heap := s₂.heap, slotsUsed := s₂.slotsUsed } : State) L mc ms := by
    refine ⟨?_, q2, q3, q4, q5, q6⟩
    obtain ⟨th, hth, -⟩ := State.frames_cons hr
    show ({ U with heap := s₂.heap, slotsUsed := s₂.slotsUsed } : State) = { U.setFrames U.frames with heap := s₂.heap, slotsUsed := s₂.slotsUsed }
    rw [State.setFrames_self hth]
  refine ⟨x, s₂, (({ U with heap := s₂.heap, slotsUsed := s₂.slotsUsed } : State).setVm s₂.vm), L, rfl, rfl, ?_, hQ, hL, ?_⟩
  · exact ⟨X.admits, X.cas, X.clock, X.frames, X.room, X.hears, X.method, X.code, (hat.setHeapUsed s₂.heap s₂.slotsUsed).setVm hW'.alike, X.tail, State.WarmedH.trans X.warmed hW', X.limits, X.bytes, X.same.trans (hnew.setVm s.vm)⟩
  · rw [← hbig]
    exact hsteps
/-- one step: the frame's handler is found, the entry of its catch type resolved now or before -/
theorem px_stepCatch {V : State} {a : Addr} {f : JFrame} {r : List Frame} {pc : Nat} {vm' : Vm} (hfind : ∀ (Qh : Handler → Pre) (E : CtlPost) (d : Bool) (acts : List Action), wp (findHandler f a) Qh E e d acts V ↔ Qh (.found pc) d acts (V.setVm vm')) :
    (stepThrowing e V a (.java f :: r)).1 = (V.setVm vm').setFrames (.java { f with pc := pc, stack := [.ref a] } :: r) := by
  simp only [stepThrowing, searchFrame, vmDo]
  generalize hr : Sem.go _ e false [] V = res
  obtain ⟨as, rfl, ha⟩ := Sem.eq_ok_of hr (a := Handler.found pc) (s' := V.setVm vm') (acts' := []) (by simp [hfind _ _ _ _])
  rfl
theorem px_find {V : State} {f : JFrame} {x : Addr} {x0 : ExceptionTableEntry} {ce : Cell} {kt : Class} (hm : V.vm.method? f.method = some meth) (hc : meth.code = some c) (htab : c.exceptionTable.toList = [x0]) (hcov : covers x0 f.pc = true) (h0 : x0.catchType ≠ 0)
    (hcl : V.vm.ClassLinks e.platform f.method.cls x0.catchType ce.cls) (hcell : V.heap[x]? = some ce) (hne : ∀ k, ce.vm ≠ .statics k) (hkt : V.vm.classes[ce.cls]? = some kt) (hfit : V.vm.assignable ce.cls ce.cls = true) :
    ∀ (Qh : Handler → Pre) (E : CtlPost) (d : Bool) (acts : List Action), wp (findHandler f x) Qh E e d acts V ↔ Qh (.found x0.handlerPc) d acts (V.setVm (V.vm.noted f.method.cls x0.catchType (.cls ce.cls))) := by
  intro Qh E d acts
  obtain ⟨ha, ht⟩ := (resolveClass_links e.toSetting hcl).op (op := VmOp.resolveClass f.method.cls x0.catchType) rfl
  have hal : V.vm.Alike (V.vm.noted f.method.cls x0.catchType (.cls ce.cls)) := (Vm.Alike.refl V.vm).noted _ _ _
  obtain ⟨kt', hkt', -⟩ := hal.2.2 _ _ hkt
  have hfit' : (V.vm.noted f.method.cls x0.catchType (.cls ce.cls)).assignable ce.cls ce.cls = true := by rw [hal.assignable]; exact hfit
  rw [W.findHandler_eq hm hc, htab]
  simp only [covers] at hcov
  simp [findHandler.go, hcov, h0, ha, ht, hcell, hne, hkt', hfit', VmOp.dirties, VmOp.acts]
/-- the note is laid over the frame g: the method's only handler takes it -/
theorem px_caught {U : State} (X : Stand p l e R s m args below meth c U locs cells slots) (ho : s.vm.findClass own = some m.cls) {g : JFrame} (hg : g.method = m) {x : Addr} {x0 : ExceptionTableEntry} (htab : c.exceptionTable.toList = [x0]) (hcov : covers x0 g.pc = true) (h0 : x0.catchType ≠ 0) {name : String} (hlink : (Cond.classLink own x0.catchType name).before args s = true)
    {ce : Cell} (hcell : U.heap[x]? = some ce) (hobj : ce.vm.isStatics = false) (hcT : s.vm.findClass name = some ce.cls) (hfit : s.vm.assignable ce.cls ce.cls = true) :
    ∃ vm' : Vm, Stand p l e R s m args below meth c (U.setVm vm') locs cells slots ∧ ∀ target, Steps p.tables e below ((U.setVm vm').setTop { g with pc := x0.handlerPc, stack := [.ref x] }) target → Steps p.tables e below ((U.setTop g).pushFrame (.throwing x)) target := by
  have hpl : e.platform.magicAccessors = ({} : Platform).magicAccessors := by rw [X.admits.platform]
  obtain ⟨c', hc', hcl⟩ := Cond.classLink_spec ho hlink e.platform hpl
  cases hcT.symm.trans hc'
  subst hg
  obtain ⟨-, hwarm₁, -⟩ := State.classEntry (e := e) X.warmed hcl
  have hclU := X.warmed.classLinks hcl
  obtain ⟨ks, hks⟩ := Vm.classAt_of_findClass hcT
  obtain ⟨kt, hkt, -⟩ := X.warmed.alike.2.2 _ _ hks
  have hfitU : U.vm.assignable ce.cls ce.cls = true := by rw [X.warmed.alike.assignable]; exact hfit
  refine ⟨U.vm.noted g.method.cls x0.catchType (.cls ce.cls), X.noted hwarm₁, fun target hrest => ?_⟩
  generalize hvm : U.vm.noted g.method.cls x0.catchType (.cls ce.cls) = vm₁ at hrest hwarm₁
  obtain ⟨hgo, hw⟩ := X.here.throwing x
  refine Steps.head hgo hw ?_
  obtain ⟨g₀, hg0⟩ := Option.isSome_iff_exists.mp X.here.top
  obtain ⟨r, hr⟩ := State.topJava?_eq_some.mp hg0
  have hr' : (U.setVm vm₁).frames = .java g₀ :: r := hr
  have hne : ∀ k, ce.vm ≠ .statics k := VmData.ne_statics_of hobj
  rw [stepThread_throwing (frames_entered X.here.top _), px_stepCatch (V := (U.setTop g).pushFrame (.throwing x)) (pc := x0.handlerPc) (vm' := vm₁) ?_]
  · rw [State.setTop_of_frames _ hr'] at hrest
    have h1 : (((U.setTop g).pushFrame (.throwing x)).setVm vm₁).setFrames (.java { g with pc := x0.handlerPc, stack := [.ref x] } :: U.frames.tail) = (U.setVm vm₁).setFrames (.java { g with pc := x0.handlerPc, stack := [.ref x] } :: r) := by
      rw [hr, List.tail_cons, State.pushFrame, State.setTop_of_frames _ hr, State.setFrames_setFrames]
      show ((U.setVm vm₁).setFrames _).setFrames _ = _
      rw [State.setFrames_setFrames]
    rw [h1]
    exact hrest
  · rw [← hvm]
    exact px_find (V := (U.setTop g).pushFrame (.throwing x)) (meth := meth) (c := c) X.method' X.code htab hcov h0 hclU hcell hne hkt hfitU
/-- a call of a method that throws, caught here -/
theorem px_runT {Qc : Array Value → State → Addr → State → Prop} (S : CallFix p m c cc nL s args Ts own) (hM : px_MT l y ws rm Pc Qc mc ms free) (cw : CallW R s args own C index y bytes maxL ret ws rm mc ms n) (hp : PreV s H C b Pc As)
    {pc : Nat} {ls : Array Slot} (hn : As.length = n) (hsize : ls.size = nL) (hW : (rest.map fun v => v.category).sum ≤ 8) (hdg : decode cc pc = .ok (.invokevirtual index, 3)) (hf : cells + mc ≤ R.cells ∧ slots + ms ≤ R.slots)
    {x0 : ExceptionTableEntry} (htab : c.exceptionTable.toList = [x0]) (hcov : covers x0 pc = true) (h0 : x0.catchType ≠ 0) {name : String} (hlink : (Cond.classLink own x0.catchType name).before args s = true)
    (hex : ∀ a st x t, Qc a st x t → ∃ ce, t.heap[x]? = some ce ∧ ce.vm.isStatics = false ∧ st.vm.findClass name = some ce.cls ∧ st.vm.assignable ce.cls ce.cls = true)
    (kk : ∀ (x : Addr) (st t : State) (L : List Loc), st.heap = H → s.vm.Alike t.vm → Qc (Value.ref b :: As).toArray st x t → (∀ q ∈ L, free q.base) → W p l e R s m args below meth c t.heap (locs ++ L) (cells + mc) (slots + ms) Q (F0 m x0.handlerPc ls [.ref x])) :
    W p l e R s m args below meth c H locs cells slots Q (F0 m pc ls (As.reverse ++ .ref b :: rest)) := by
  obtain ⟨⟨hrc, hrs, hfr, hlo, hws, hcw, hcode, hini, hy, hlen, hl⟩, hinst, hsel⟩ := cw
  obtain ⟨hx, hb, hml, ho, -⟩ := S
  obtain ⟨hblind, ⟨cellB, hcB, hoB, hclB⟩, hPc⟩ := hp
  intro T hT X
  obtain ⟨mk, methM, hnamed, hmethM, hstM, habM⟩ := Cond.instanceMethod_spec hinst
  obtain ⟨methM', cM, hmethM', -, -, -, -, -, -, hsigM⟩ := Cond.code_spec hnamed hcode
  cases hmethM.symm.trans hmethM'
  obtain ⟨c2, r2, m2, q1, q2, q3, q4, kP, hkP, hkPi⟩ := Cond.selects_spec hsel
  cases hclB.symm.trans q1
  cases (State.methodFound?_of_named hnamed hy).symm.trans q2
  cases hnamed.symm.trans q3
  have hselP : selectMethod e.platform s.vm cellB.cls mk = .method mk := by rw [Launch.admits_selectMethod X.admits]; exact q4
  have hdc : decode c.code pc = .ok (.invokevirtual index, 3) := by rw [hb]; exact hdg
  obtain ⟨vm₁, X₁, hstep₁⟩ := X.invokevirtual hx ho hl hnamed hmethM hstM hkP hkPi hy (a := b) (cell := cellB) (by rw [hT]; exact hcB)
    (fun z h => by rw [h] at hoB; cases hoB) hselP hmethM habM hkP hkPi (g := F0 m pc ls (As.reverse ++ .ref b :: rest)) rfl (argsL := As) (rest := rest) (hn.trans (hlen _ hsigM)) rfl hdc
  have hUh : (T.setVm vm₁).heap = H := hT
  obtain ⟨x, t, U2, L, e1, e2, X₂, hQ, hL, hsteps⟩ := px_thrown (g := F0 m pc ls rest) X₁ hM hblind hrc hrs hfr hlo hws hcw (fun a' V hV => word_at hV (Or.inl (by first | rfl | simp [Cond.onTables, Cond.keeps, Cond.steady])) hini) rfl (hsize.trans hml.symm) hdc (by simpa using hW) (X₁.named hnamed) hf (hPc _ hUh X₁.warmed)
  obtain ⟨ce, hce, hobj, hcls, hasg⟩ := hex _ _ _ _ hQ
  have hal : s.vm.Alike vm₁ := X₁.warmed.alike
  have hcls' : s.vm.findClass name = some ce.cls := by
    have h1 : vm₁.findClass name = some ce.cls := hcls
    rwa [hal.findClass] at h1
  have hasg' : s.vm.assignable ce.cls ce.cls = true := by
    have h1 : vm₁.assignable ce.cls ce.cls = true := hasg
    rwa [hal.assignable] at h1
  obtain ⟨vm', X₃, hcat⟩ := px_caught X₂ ho (g := F0 m pc ls rest) rfl htab hcov h0 hlink (by rw [e1]; exact hce) hobj hcls' hasg'
  obtain ⟨t2, a1, b1⟩ := kk x _ t L (show ((T.setVm vm₁).calling (F0 m pc ls rest) mk (Value.ref b :: As).toArray).heap = H from hUh) (by rw [← e2]; exact X₂.warmed.alike) hQ hL (U2.setVm vm') e1 X₃
  exact ⟨t2, hstep₁ _ (fun acts => by rw [doInvoke_state]; exact hsteps.trans (hcat _ a1)), b1⟩
/-- a contract of a method that has handlers -/
theorem px_ofW {Qc : Array Value → State → Outcome → State → Prop} {hs : List (Nat × Nat × Nat × Nat)} (hy : plainName y.cls = true) (hw : ws = Cond.codeWith y cc maxL ret hs :: ws')
    (body : ∀ p e s m args below meth c s₁, BodyLoose p l y (headSpec ws rm) cc maxL ret e s m args below meth c s₁ → c.maxLocals = maxL → c.exceptionTable.toList = tableOf hs → Pc args s →
      W p l e (headSpec ws rm).room s m args below meth c s.heap [] 0 0 (MQ below Qc args s mc ms free) (entryFrame m args maxL)) : Met l y ws rm Pc Qc mc ms free := by
  refine MetFree.of_bodyS (code := cc) (maxLocals := maxL) (ret := ret) hy ?_ ?_
  · intro args s m h hn
    obtain ⟨m', meth, c, h0, h1, h2, h3, h4, -, h5, h6, -⟩ := Cond.codeWith_spec (atoms_spec (ws := ws) h _ (by rw [hw]; exact List.mem_cons_self))
    cases hn.symm.trans h0
    exact ⟨meth, c, h1, h2, h3, h4, h5, h6⟩
  · intro p e s m args below meth c s₁ B hml hP _
    have hh0 : s₁.heap = s.heap := by rw [B.state]; rfl
    have htab : c.exceptionTable.toList = tableOf hs := by
      obtain ⟨m', meth', c', h0, h1, h2, -, -, h5, -, -, -⟩ := Cond.codeWith_spec (atoms_spec (ws := ws) B.pre _ (by rw [hw]; exact List.mem_cons_self))
      cases B.named.symm.trans h0
      cases B.method.symm.trans h1
      cases (Stand.of_body B).code.symm.trans h2
      rw [← h5, table_eq]
    obtain ⟨t, a1, o, b1, b2, b3⟩ := body p e s m args below meth c s₁ B hml htab hP s₁ hh0 (Stand.of_body B)
    exact ⟨t, o, a1, b1, b2, ⟨b3.1, b3.2⟩⟩
/-- what a caller needs of a static method that has handlers -/
theorem px_backW {Qc : Array Value → State → Outcome → State → Prop} {hs : List (Nat × Nat × Nat × Nat)} {W0 len : Nat} (hM : Met l y ws rm Pc Qc mc ms free) (hblind : FrameBlind Pc) (hrc : rm.cells = mc) (hrs : rm.slots = ms) (hfr : rm.frames + 1 ≤ R.frames) (hlo : W0 + (maxL + 11) + rm.locals ≤ R.locals)
    (hws : ∀ w ∈ ws, ∀ (a' : Array Value) (V : State), s.WarmedH V.vm → w.before a' V = true) (hcw : Cond.codeWith y bytes maxL ret hs ∈ ws) (hini : ∀ (a' : Array Value) (V : State), s.WarmedH V.vm → (Cond.initialized y.cls).before a' V = true) :
    Back l R p e below s args y len W0 (PreOf R mc ms Pc) (PostOf Qc mc ms free) := by
  intro m meth c A g ig mk a X hg hsize hdg hW hn hp
  obtain ⟨U, Ls, c0, s0⟩ := A
  obtain ⟨hp1, hp2, hPc⟩ := hp
  dsimp only [Pt.U, Pt.locs, Pt.cells, Pt.slots] at X hn hp1 hp2 hPc ⊢
  have hpre : (headSpec ws rm).pre.before a U = true := atoms_intro fun w hw => hws w hw _ _ X.warmed
  obtain ⟨mY, methY, cY, hnY, hmY, hcY, -, hlY, -, -, -, -⟩ := Cond.codeWith_spec (hws _ hcw a U X.warmed)
  cases hn.symm.trans hnY
  obtain ⟨kY, hkY, -⟩ := className_of_methodNamed hn
  have hinitY : kY.init = .initialized := Cond.initialized_spec (findClass_of_methodNamed hn) hkY (hini a U X.warmed)
  subst hg
  have hat := X.here
  have happ : (headSpec ws rm).appliesLoose y e.platform (U.calling g mk a) = true :=
    Spec.appliesLoose_calling (g := g) hat hdg hn hkY hinitY (X.room_calling (g := g) (R' := rm) hsize hmY hcY hfr (by rw [hlY]; omega) (by rw [hrc]; exact hp1) (by rw [hrs]; exact hp2)) hpre
  obtain ⟨mid, hmid⟩ := hat.above
  have hfrm : (U.setTop g).frames = (.java g :: mid) ++ below := by rw [State.frames_setTop' g hat.top, hmid]; rfl
  obtain ⟨o, s₂, hsteps, -, hend, hQ, L, ⟨⟨v, rfl⟩, hW₂, hsame⟩, hL⟩ := Steps.callFree hM p X.admits X.cas X.clock (acts := []) hfrm happ (hblind _ _ _ _ hPc) trivial
  have hW' : U.WarmedH s₂.vm := hW₂
  obtain ⟨e2, q2, q3, q4, q5, q6⟩ := hsame
  rw [State.frames_setTop' g hat.top] at hend
  obtain ⟨c₂, i₂, len₂, hc₂, hd₂, hf₂⟩ := hend
  have hcc : c₂ = c := by
    have h1 : s₂.code? g.method = U.code? g.method := by
      rw [State.code?_eq, State.code?_eq, hW'.alike.method?]
    exact Option.some.inj (hc₂.symm.trans (h1.trans hat.code))
  subst hcc
  have hlen : len₂ = len := by rw [hdg] at hd₂; cases hd₂; rfl
  subst hlen
  obtain ⟨g₀, hg0⟩ := Option.isSome_iff_exists.mp hat.top
  obtain ⟨r, hr⟩ := State.topJava?_eq_some.mp hg0
  have hbig : s₂ = (({ U with heap := s₂.heap, slotsUsed := s₂.slotsUsed } : State).setVm s₂.vm).setTop { g with pc := g.pc + len₂, stack := v.toList ++ g.stack } := by
    have hr' : (({ U with heap := s₂.heap, slotsUsed := s₂.slotsUsed } : State).setVm s₂.vm).frames = .java g₀ :: r := hr
    have h8 : s₂ = ({ (U.calling g mk a).setFrames s₂.frames with heap := s₂.heap, slotsUsed := s₂.slotsUsed } : State).setVm s₂.vm := by
      have h7 : s₂ = ({ s₂ with vm := (U.calling g mk a).vm } : State).setVm s₂.vm := rfl
      exact h7.trans (congrArg (fun z : State => z.setVm s₂.vm) e2)
    refine h8.trans ?_
    rw [hf₂, State.calling_eq hat.top, State.setFrames_setFrames, State.setTop_of_frames _ hr', hr]
    rfl
  have hnew : U.sameButNew ({ U with heap := s₂.heap, slotsUsed := s₂.slotsUsed } : State) L mc ms := by
    refine ⟨?_, q2, q3, q4, q5, q6⟩
    obtain ⟨th, hth, -⟩ := State.frames_cons hr
    show ({ U with heap := s₂.heap, slotsUsed := s₂.slotsUsed } : State) = { U.setFrames U.frames with heap := s₂.heap, slotsUsed := s₂.slotsUsed }
    rw [State.setFrames_self hth]
  refine ⟨v, ⟨(({ U with heap := s₂.heap, slotsUsed := s₂.slotsUsed } : State).setVm s₂.vm), Ls ++ L, c0 + mc, s0 + ms⟩,
    ⟨X.admits, X.cas, X.clock, X.frames, X.room, X.hears, X.method, X.code, (hat.setHeapUsed s₂.heap s₂.slotsUsed).setVm hW'.alike, X.tail, State.WarmedH.trans X.warmed hW', X.limits, X.bytes, X.same.trans (hnew.setVm s.vm)⟩, ?_, ?_⟩
  · exact ⟨g, mk, s₂, L, rfl, rfl, hQ, rfl, hL, rfl, rfl⟩
  · show Steps p.tables e below _ ((({ U with heap := s₂.heap, slotsUsed := s₂.slotsUsed } : State).setVm s₂.vm).setTop { g with pc := g.pc + len₂, stack := v.toList ++ g.stack })
    rw [← hbig]
    exact hsteps
/-- a call of a static method that has handlers -/
theorem px_runSW {Qc : Array Value → State → Outcome → State → Prop} {hs : List (Nat × Nat × Nat × Nat)} {g : JFrame} (S : CallFix p m c cc nL s args Ts own) (hM : Met l y ws rm Pc Qc mc ms free) (hrc : rm.cells = mc) (hrs : rm.slots = ms) (hR : rm.frames + 1 ≤ R.frames ∧ 8 + (maxL + 11) + rm.locals ≤ R.locals)
    (hws : ∀ w ∈ ws, ∀ (a' : Array Value) (V : State), s.WarmedH V.vm → w.before a' V = true) (hcw : Cond.codeWith y bytes maxL ret hs ∈ ws) (hini : (Cond.initialized y.cls).before args s = true) (hstat : (Cond.static y).before args s = true) (hl : (Cond.methodLink own index y).before args s = true)
    (hy : y.cls ≠ "java/lang/invoke/MethodHandle" ∧ y.cls ≠ "java/lang/invoke/VarHandle") (hlen : (parseMethodDescriptor y.desc).map (fun d => d.parameters.length) = some n) (hp : PreS s H Pc As)
    (hg : g.method = m) (hn : As.length = n) (hsize : g.locals.size = nL) (hstack : g.stack = As.reverse ++ rest) (hW : 2 * g.monitorRoom + (rest.map fun v => v.category).sum ≤ 8) (hdg : decode cc g.pc = .ok (.invokestatic index, 3)) (hf : cells + mc ≤ R.cells ∧ slots + ms ≤ R.slots) :
    va_Run p l e R s m args below meth c H locs cells slots mc ms g rest (Qc As.toArray) (free) := by
  obtain ⟨hx, hb, hml, ho, -⟩ := S
  intro T hT X
  have hcode : (Cond.codeWith y bytes maxL ret hs).before args s = true := hws _ hcw args s (State.WarmedH.refl s)
  obtain ⟨mk, methM, cM, hnamed, hmethM, -, -, -, -, -, -, hsigM⟩ := Cond.codeWith_spec hcode
  have hstatic : methM.isStatic = true := Cond.static_spec hnamed hmethM hstat
  obtain ⟨kP, hkP, -⟩ := className_of_methodNamed hnamed
  have hinitP : kP.init = .initialized := Cond.initialized_spec (findClass_of_methodNamed hnamed) hkP hini
  have hlen' : As.length = methM.sig.parameters.length := by
    rw [hsigM] at hlen
    exact hn.trans (Option.some.inj hlen).symm
  have hdc : decode c.code g.pc = .ok (.invokestatic index, 3) := by rw [hb]; exact hdg
  obtain ⟨vm₁, X₁, hstep₁⟩ := X.invokestatic hx ho hl hnamed hmethM hstatic hkP hinitP hy (g := g) hg (argsL := As) (rest := rest) hlen' hstack hdc
  obtain ⟨v, ⟨U', l2, c2, s2⟩, X', ⟨g', mk', t, L, e1, e2, hq, h1, hL, h2, h3⟩, hsteps⟩ := px_backW (p := p) (e := e) (below := below) (s := s) (args := args) (len := 3) (W0 := 8) (bytes := bytes) (maxL := maxL) (ret := ret) (hs := hs) hM hp.1 hrc hrs hR.1 hR.2 hws hcw (fun a' V hV => word_at hV (Or.inl (by first | rfl | simp [Cond.onTables, Cond.keeps, Cond.steady])) hini)
    m meth c ⟨T.setVm vm₁, locs, cells, slots⟩ { g with stack := rest } (.invokestatic index) mk As.toArray X₁ hg (hsize.trans hml.symm) hdc hW (X₁.named hnamed) ⟨hf.1, hf.2, hp.2 (T.setVm vm₁) hT X₁.warmed⟩
  dsimp only [Pt.U, Pt.locs, Pt.cells, Pt.slots] at X' e1 e2 h1 h2 h3 hsteps
  subst h1; subst h2; subst h3
  exact ⟨v, (T.setVm vm₁).calling g' mk' As.toArray, t, U', L, hT, X', hL, e1, e2, hq, fun target h => hstep₁ _ fun acts => by rw [doInvoke_state]; exact hsteps.trans h⟩
end PXT

/-! the exception that end throws: the words that the library's law of 'throw new X(message)' asks, and how they ride to a later state -/
def px_iae : String := "java/lang/IllegalArgumentException"
def px_up : List String := ["java/lang/RuntimeException", "java/lang/Exception"]
abbrev px_own : List Cond := Jvm.Bundle.ownAtoms "MatroidDesk" 107 "java/lang/IllegalArgumentException" px_up
def px_isH : Cond → Bool
  | .laysStatic .. => true
  | .isRef _ => true
  | _ => false
/-- those that the tables alone decide -/
def px_X (U : State) : Prop := ∀ w ∈ px_own, px_isH w = false → ∀ A : Array Value, w.before A U = true
/-- those that speak of Throwable's two statics -/
def px_H (U : State) : Prop := ∀ w ∈ px_own, px_isH w = true → ∀ A : Array Value, w.before A U = true
theorem px_own_on : ∀ w ∈ px_own, px_isH w = false → w.onTables = true := by decide +kernel
theorem px_X.warm {s U : State} (h : px_X s) (hW : s.WarmedH U.vm) : px_X U := fun w hw hf A => by
  have h1 : w.before #[] (s.setVm U.vm) = true := Cond.before_shiftedFace (State.Shifted.of_warmed hW) w (Jvm.Bundle.ownAtoms_keepsFace w hw) (h w hw hf #[])
  rw [Cond.onTables_vm (A' := A) (U' := U) U.vm w (px_own_on w hw hf)] at h1
  exact h1
theorem px_X.same {u U : State} (h : px_X u) (hv : u.vm = U.vm) : px_X U := fun w hw hf A => by
  have h1 := h w hw hf #[]
  have h2 : u.setVm U.vm = u := by rw [← hv]; rfl
  rw [← h2, Cond.onTables_vm (A' := A) (U' := U) U.vm w (px_own_on w hw hf)] at h1
  exact h1
theorem px_sta {s U : State} (hvm : s.vm.Alike U.vm) (hh : ∀ q : Nat, q < s.heap.size → U.heap[q]? = s.heap[q]?) {C n d : String} {A A' : Array Value} (h : (Cond.laysStatic C n d).before A s = true) : (Cond.laysStatic C n d).before A' U = true := by
  obtain ⟨c, k, i, f, a, cell, h1, h2, h3, h4, h5, h6, h7, h8, h9⟩ := Cond.laysStatic_spec h
  obtain ⟨k', hi', he⟩ := State.fieldFound?_setVm hvm h2
  have hi2 : U.fieldFound? C n d = some (c, k', i, f) := hi'
  have e1 : k'.statics = some a := by rw [he]; exact h4
  have e2 : k'.staticTypes[f.slot]? = some f.type := by rw [he]; exact h9
  have e3 : U.vm.findClass C = some c := by rw [hvm.findClass]; exact h1
  have e4 : U.heap[a]? = some cell := by rw [hh a (Array.getElem?_eq_some_iff.mp h5).1]; exact h5
  simp [Cond.before, Cond.holds, Cond.value, e3, hi2, e1, e4, h3, h6, h7, h8, e2]
theorem px_str {s U : State} (hvm : s.vm.Alike U.vm) (hh : ∀ q : Nat, q < s.heap.size → U.heap[q]? = s.heap[q]?) {C n d : String} {A A' : Array Value} (h : (Cond.isRef (.static C n d)).before A s = true) (hl : (Cond.laysStatic C n d).before A s = true) : (Cond.isRef (.static C n d)).before A' U = true := by
  obtain ⟨c, k, i, f, a, cell, h1, h2, h3, h4, h5, h6, h7, h8, h9⟩ := Cond.laysStatic_spec hl
  obtain ⟨k', hi', he⟩ := State.fieldFound?_setVm hvm h2
  have hi2 : U.fieldFound? C n d = some (c, k', i, f) := hi'
  have e1 : k'.statics = some a := by rw [he]; exact h4
  have e4 : U.heap[a]? = some cell := by rw [hh a (Array.getElem?_eq_some_iff.mp h5).1]; exact h5
  have es : (Term.static C n d).eval A s none [] s = (Term.static C n d).eval A' U none [] U := by
    simp [Term.eval, State.fieldNamed?, h2, hi2, h3, h4, e1, h5, e4, h6]
  simp only [Cond.before, Cond.holds, Cond.value] at h ⊢
  rw [← es]
  exact h
theorem px_own_H : ∀ w ∈ px_own, px_isH w = true → w = .laysStatic "java/lang/Throwable" "UNASSIGNED_STACK" "[Ljava/lang/StackTraceElement;" ∨ w = .laysStatic "java/lang/Throwable" "SUPPRESSED_SENTINEL" "Ljava/util/List;" ∨ w = .isRef (.static "java/lang/Throwable" "UNASSIGNED_STACK" "[Ljava/lang/StackTraceElement;") ∨ w = .isRef (.static "java/lang/Throwable" "SUPPRESSED_SENTINEL" "Ljava/util/List;") := by decide +kernel
theorem px_own_H1 : Cond.laysStatic "java/lang/Throwable" "UNASSIGNED_STACK" "[Ljava/lang/StackTraceElement;" ∈ px_own := by decide +kernel
theorem px_own_H2 : Cond.laysStatic "java/lang/Throwable" "SUPPRESSED_SENTINEL" "Ljava/util/List;" ∈ px_own := by decide +kernel
theorem px_H.go {s U : State} (h : px_H s) (hvm : s.vm.Alike U.vm) (hh : ∀ q : Nat, q < s.heap.size → U.heap[q]? = s.heap[q]?) : px_H U := fun w hw ht A => by
  have hq := px_own_H w hw ht
  have hs := h w hw ht #[]
  rcases hq with rfl | rfl | rfl | rfl
  · exact px_sta hvm hh hs
  · exact px_sta hvm hh hs
  · exact px_str hvm hh hs (h _ px_own_H1 rfl #[])
  · exact px_str hvm hh hs (h _ px_own_H2 rfl #[])
section PXU
variable {p : Program} {l : Launch} {e : Env} {R : Room} {s : State} {m : MethodId} {args : Array Value} {below : List Frame} {meth : Method} {c : Code} {H : Heap} {cells slots : Nat}
variable {ws ws' : List Cond} {cc : ByteArray} {maxL mc ms : Nat} {y : MethodName} {ret : Option FieldType} {rm : Room} {Pc : Array Value → State → Prop} {free : Addr → Prop}
/-- the end of a method that throws -/
def px_ZT (below : List Frame) (Qc : Array Value → State → Addr → State → Prop) (a : Array Value) (s : State) (mc ms : Nat) (free : Addr → Prop) : State → Prop := fun t =>
  ∃ x, t.status = .running ∧ Ended t below (.threw x) ∧ Qc a s x t ∧ s.WarmedH t.vm ∧ ∃ L, s.sameButNew ({ t with vm := s.vm } : State) L mc ms ∧ ∀ q ∈ L, free q.base
theorem px_MTof {Qc : Array Value → State → Addr → State → Prop} (hy : plainName y.cls = true) (hw : ws = Cond.code y cc maxL ret :: ws')
    (body : ∀ p e s m args below meth c s₁, BodyLoose p l y (headSpec ws rm) cc maxL ret e s m args below meth c s₁ → c.maxLocals = maxL → Pc args s →
      W p l e (headSpec ws rm).room s m args below meth c s.heap [] 0 0 (px_ZT below Qc args s mc ms free) (entryFrame m args maxL)) : px_MT l y ws rm Pc Qc mc ms free := by
  refine MetFree.of_bodyS (code := cc) (maxLocals := maxL) (ret := ret) hy ?_ ?_
  · intro args s m h hn
    obtain ⟨meth, c, h1, h2, h3, h4, h5, h6, -, -⟩ := Cond.code_spec hn (atoms_spec (ws := ws) h _ (by rw [hw]; exact List.mem_cons_self))
    exact ⟨meth, c, h1, h2, h3, h4, h5, h6⟩
  · intro p e s m args below meth c s₁ B hml hP _
    have hh0 : s₁.heap = s.heap := by rw [B.state]; rfl
    obtain ⟨t, a1, x, b1, b2, b3, b4, b5⟩ := body p e s m args below meth c s₁ B hml hP s₁ hh0 (Stand.of_body B)
    exact ⟨t, .threw x, a1, b1, b2, x, rfl, b3, b4, b5⟩
/-- what is left of a throw: the exception is there, its class is X, no old cell has changed -/
def px_QT (X : String) : Array Value → State → Addr → State → Prop := fun _ s x t =>
  (∃ ce, t.heap[x]? = some ce ∧ ce.vm.isStatics = false ∧ s.vm.findClass X = some ce.cls ∧ s.vm.assignable ce.cls ce.cls = true) ∧ s.heap.size ≤ t.heap.size ∧ ∀ q : Nat, q < s.heap.size → t.heap[q]? = s.heap[q]?
/-- new X(text); throw: by the library's law -/
theorem px_throw (hx : p.tables.exec = Jvm.exec) (hb : c.code = cc) (hml : c.maxLocals = maxL) (htr : e.platform.stackTraces = false) (hlocks : meth.locks = false) (htab : c.exceptionTable.isEmpty = true) (hown : s.vm.findClass "MatroidDesk" = some m.cls)
    (h1 : (Cond.classLink "MatroidDesk" 103 "java/lang/IllegalArgumentException").before args s = true) (h2 : (Cond.instantiable "java/lang/IllegalArgumentException" 6).before args s = true) (h3 : (Cond.initialized "java/lang/IllegalArgumentException").before args s = true)
    (hX : px_X s) (hH : px_H s) {tx : String} {q : Nat} (hZ : vk_R "MatroidDesk" 105 tx q s) {pc : Nat} {ls : Array Slot} (hls : ls.size = maxL)
    (d0 : decode cc pc = .ok (.new 103, 3)) (d3 : decode cc (pc + 3) = .ok (.dup, 1)) (d4 : decode cc (pc + 4) = .ok (.ldc 105, 2)) (d6 : decode cc (pc + 6) = .ok (.invokespecial 107, 3)) (d9 : decode cc (pc + 9) = .ok (.athrow, 1))
    (hc : cells + 1 ≤ R.cells) (hs : slots + 6 ≤ R.slots) (hf : 5 < R.frames) (hlo : 100 ≤ R.locals) :
    W p l e R s m args below meth c H [] cells slots (px_ZT below (px_QT "java/lang/IllegalArgumentException") args s (cells + 1) (slots + 6) free) (F0 m pc ls []) := by
  intro T hT X
  obtain ⟨vm₁, cX, kX, hfX, hkX, -, -, X₁, st1⟩ := X.newCold hx hown h1 h2 h3 (g := F0 m pc ls []) rfl (by rw [hb]; exact d0) hc hs
  have hold : s.heap.size ≤ T.heap.size := X.same.2.1
  generalize hT1 : (T.setVm vm₁).pushCell { cls := cX, slots := kX.instanceTypes.map defaultValue, vm := .none } = T1 at X₁ st1
  have hcell : T1.heap[T.heap.size]? = some (Jvm.freshCell cX kX) := by rw [← hT1]; exact State.heap_pushCell_size _ _
  have K : W p l e R s m args below meth c T1.heap [] (cells + 1) (slots + 6) (px_ZT below (px_QT "java/lang/IllegalArgumentException") args s (cells + 1) (slots + 6) free) (F0 m (pc + 3) ls [.ref T.heap.size]) := by
    refine lv_dup hx hb d3 rfl ?_
    refine va_ldcS hx hb hown hZ d4 ?_
    intro T2 hT2 X2
    have hat : ∀ w ∈ px_own, w.before args s = true := fun w hw => by
      cases hq : px_isH w with
      | true => exact hH w hw hq args
      | false => exact hX w hw hq args
    obtain ⟨U, hsteps, hrun, hend, hW, hsame, ce, hce, Kc⟩ := X2.ctorThrowS hx htr (own := "MatroidDesk") (cls := "java/lang/IllegalArgumentException") (names := px_up) (ic := 107) hown (by decide +kernel) (by decide +kernel) hat (fun x hx => by cases hx) hfX hkX (by rw [hT2]; exact hcell) hold (msg := .ref q) rfl
      (g := F0 m (pc + 6) ls [.ref q, .ref T.heap.size, .ref T.heap.size]) rfl (hls.trans hml.symm) rfl rfl (rest := []) rfl (by rw [hb]; exact d6) (by rw [hb]; exact d9) (covers_of_empty htab _) (by show 2 + 3 < R.frames; omega) (by show 2 * 0 + (1 + 0) + (13 * (2 + 1) + 42) ≤ R.locals; omega)
    refine ⟨U, hsteps, T.heap.size, hrun, hend, ⟨⟨ce, hce, by rw [Kc.vm]; rfl, Kc.cls, Kc.self⟩, hsame.2.1, fun q1 hq1 => ?_⟩, hW, [], hsame, fun x hx => by cases hx⟩
    have hg : s.heap[q1]? = some s.heap[q1] := Array.getElem?_eq_getElem hq1
    rw [hg]
    exact hsame.old_cell hg
  obtain ⟨t, a1, b1⟩ := K T1 rfl X₁
  exact ⟨t, st1 t a1, b1⟩
end PXU

abbrev px_ownS : List Cond := Jvm.Bundle.ownAtoms "MatroidDesk" 90 "java/lang/IllegalStateException" px_up
def px_XS (U : State) : Prop := ∀ w ∈ px_ownS, px_isH w = false → ∀ A : Array Value, w.before A U = true
/-- those that speak of Throwable's two statics -/
def px_HS (U : State) : Prop := ∀ w ∈ px_ownS, px_isH w = true → ∀ A : Array Value, w.before A U = true
theorem px_ownS_on : ∀ w ∈ px_ownS, px_isH w = false → w.onTables = true := by decide +kernel
theorem px_XS.warm {s U : State} (h : px_XS s) (hW : s.WarmedH U.vm) : px_XS U := fun w hw hf A => by
  have h1 : w.before #[] (s.setVm U.vm) = true := Cond.before_shiftedFace (State.Shifted.of_warmed hW) w (Jvm.Bundle.ownAtoms_keepsFace w hw) (h w hw hf #[])
  rw [Cond.onTables_vm (A' := A) (U' := U) U.vm w (px_ownS_on w hw hf)] at h1
  exact h1
theorem px_XS.same {u U : State} (h : px_XS u) (hv : u.vm = U.vm) : px_XS U := fun w hw hf A => by
  have h1 := h w hw hf #[]
  have h2 : u.setVm U.vm = u := by rw [← hv]; rfl
  rw [← h2, Cond.onTables_vm (A' := A) (U' := U) U.vm w (px_ownS_on w hw hf)] at h1
  exact h1
theorem px_ownS_H : ∀ w ∈ px_ownS, px_isH w = true → w = .laysStatic "java/lang/Throwable" "UNASSIGNED_STACK" "[Ljava/lang/StackTraceElement;" ∨ w = .laysStatic "java/lang/Throwable" "SUPPRESSED_SENTINEL" "Ljava/util/List;" ∨ w = .isRef (.static "java/lang/Throwable" "UNASSIGNED_STACK" "[Ljava/lang/StackTraceElement;") ∨ w = .isRef (.static "java/lang/Throwable" "SUPPRESSED_SENTINEL" "Ljava/util/List;") := by decide +kernel
theorem px_ownS_H1 : Cond.laysStatic "java/lang/Throwable" "UNASSIGNED_STACK" "[Ljava/lang/StackTraceElement;" ∈ px_ownS := by decide +kernel
theorem px_ownS_H2 : Cond.laysStatic "java/lang/Throwable" "SUPPRESSED_SENTINEL" "Ljava/util/List;" ∈ px_ownS := by decide +kernel
theorem px_HS.go {s U : State} (h : px_HS s) (hvm : s.vm.Alike U.vm) (hh : ∀ q : Nat, q < s.heap.size → U.heap[q]? = s.heap[q]?) : px_HS U := fun w hw ht A => by
  have hq := px_ownS_H w hw ht
  have hs := h w hw ht #[]
  rcases hq with rfl | rfl | rfl | rfl
  · exact px_sta hvm hh hs
  · exact px_sta hvm hh hs
  · exact px_str hvm hh hs (h _ px_ownS_H1 rfl #[])
  · exact px_str hvm hh hs (h _ px_ownS_H2 rfl #[])
section PXU9
variable {p : Program} {l : Launch} {e : Env} {R : Room} {s : State} {m : MethodId} {args : Array Value} {below : List Frame} {meth : Method} {c : Code} {H : Heap} {cells slots : Nat}
variable {ws ws' : List Cond} {cc : ByteArray} {maxL mc ms : Nat} {y : MethodName} {ret : Option FieldType} {rm : Room} {Pc : Array Value → State → Prop} {free : Addr → Prop}
theorem px_throwS (hx : p.tables.exec = Jvm.exec) (hb : c.code = cc) (hml : c.maxLocals = maxL) (htr : e.platform.stackTraces = false) (hlocks : meth.locks = false) (htab : c.exceptionTable.isEmpty = true) (hown : s.vm.findClass "MatroidDesk" = some m.cls)
    (h1 : (Cond.classLink "MatroidDesk" 86 "java/lang/IllegalStateException").before args s = true) (h2 : (Cond.instantiable "java/lang/IllegalStateException" 6).before args s = true) (h3 : (Cond.initialized "java/lang/IllegalStateException").before args s = true)
    (hX : px_XS s) (hH : px_HS s) {tx : String} {q : Nat} (hZ : vk_R "MatroidDesk" 88 tx q s) {pc : Nat} {ls : Array Slot} (hls : ls.size = maxL)
    (d0 : decode cc pc = .ok (.new 86, 3)) (d3 : decode cc (pc + 3) = .ok (.dup, 1)) (d4 : decode cc (pc + 4) = .ok (.ldc 88, 2)) (d6 : decode cc (pc + 6) = .ok (.invokespecial 90, 3)) (d9 : decode cc (pc + 9) = .ok (.athrow, 1))
    (hc : cells + 1 ≤ R.cells) (hs : slots + 6 ≤ R.slots) (hf : 5 < R.frames) (hlo : 100 ≤ R.locals) :
    W p l e R s m args below meth c H [] cells slots (px_ZT below (px_QT "java/lang/IllegalStateException") args s (cells + 1) (slots + 6) free) (F0 m pc ls []) := by
  intro T hT X
  obtain ⟨vm₁, cX, kX, hfX, hkX, -, -, X₁, st1⟩ := X.newCold hx hown h1 h2 h3 (g := F0 m pc ls []) rfl (by rw [hb]; exact d0) hc hs
  have hold : s.heap.size ≤ T.heap.size := X.same.2.1
  generalize hT1 : (T.setVm vm₁).pushCell { cls := cX, slots := kX.instanceTypes.map defaultValue, vm := .none } = T1 at X₁ st1
  have hcell : T1.heap[T.heap.size]? = some (Jvm.freshCell cX kX) := by rw [← hT1]; exact State.heap_pushCell_size _ _
  have K : W p l e R s m args below meth c T1.heap [] (cells + 1) (slots + 6) (px_ZT below (px_QT "java/lang/IllegalStateException") args s (cells + 1) (slots + 6) free) (F0 m (pc + 3) ls [.ref T.heap.size]) := by
    refine lv_dup hx hb d3 rfl ?_
    refine va_ldcS hx hb hown hZ d4 ?_
    intro T2 hT2 X2
    have hat : ∀ w ∈ px_ownS, w.before args s = true := fun w hw => by
      cases hq : px_isH w with
      | true => exact hH w hw hq args
      | false => exact hX w hw hq args
    obtain ⟨U, hsteps, hrun, hend, hW, hsame, ce, hce, Kc⟩ := X2.ctorThrowS hx htr (own := "MatroidDesk") (cls := "java/lang/IllegalStateException") (names := px_up) (ic := 90) hown (by decide +kernel) (by decide +kernel) hat (fun x hx => by cases hx) hfX hkX (by rw [hT2]; exact hcell) hold (msg := .ref q) rfl
      (g := F0 m (pc + 6) ls [.ref q, .ref T.heap.size, .ref T.heap.size]) rfl (hls.trans hml.symm) rfl rfl (rest := []) rfl (by rw [hb]; exact d6) (by rw [hb]; exact d9) (covers_of_empty htab _) (by show 2 + 3 < R.frames; omega) (by show 2 * 0 + (1 + 0) + (13 * (2 + 1) + 42) ≤ R.locals; omega)
    refine ⟨U, hsteps, T.heap.size, hrun, hend, ⟨⟨ce, hce, by rw [Kc.vm]; rfl, Kc.cls, Kc.self⟩, hsame.2.1, fun q1 hq1 => ?_⟩, hW, [], hsame, fun x hx => by cases hx⟩
    have hg : s.heap[q1]? = some s.heap[q1] := Array.getElem?_eq_getElem hq1
    rw [hg]
    exact hsame.old_cell hg
  obtain ⟨t, a1, b1⟩ := K T1 rfl X₁
  exact ⟨t, st1 t a1, b1⟩
end PXU9

/-! MatroidDesk.feed(IIIII)V  -/
def w356_L56 (d_lm : Nat → Option Nat) (cm : Nat) (np : Nat) (ns : Nat) (pa : Nat → Nat) (sa : Nat → Nat) (pp : Nat → px_PR) (ss : Nat → px_SR) (mc : Nat) (ms : Nat) (post : Int32 → Int32 → Int32 → Int32 → Option Nat → Nat → Nat → (Nat → Int32) → Nat → Nat → Int32 → (Nat → Int32) → (Nat → Int32) → (Nat → px_MR) → Prop) (x1 : Int32) (x2 : Int32) (x3 : Int32) (x4 : Int32) (x5 : Int32) (d_fed : Int32) (d_refusedAt : Int32) (d_reason : Int32) (d_stamps : Int32) (d_spare : Option Nat) (q_y : Nat) (l_y : Nat) (g_y : Nat → Int32) (q_o : Nat) (l_o : Nat) (o_reached : Int32) (g_o : Nat → Int32) (g_t : Nat → Int32) (mm : Nat → px_MR) (kc : Nat) (ks : Nat) : Prop := (w358_wp d_lm l_y cm np ns pa sa pp ss (fun v1 v2 v3 v4 v5 v6 v7 v8 v9 v10 v11 v12 => (w358_wp d_lm l_y cm np ns pa sa pp ss (fun v14 v15 v16 v17 v18 v19 v20 v21 v22 v23 v24 v25 => (w358_wp d_lm l_y cm np ns pa sa pp ss (fun v27 v28 v29 v30 v31 v32 v33 v34 v35 v36 v37 v38 => (w358_wp d_lm l_y cm np ns pa sa pp ss (fun v40 v41 v42 v43 v44 v45 v46 v47 v48 v49 v50 v51 => (w358_wp d_lm l_y cm np ns pa sa pp ss (fun v53 v54 v55 v56 v57 v58 v59 v60 v61 v62 v63 v64 => post v53 v54 v55 v56 v57 q_y l_y v58 v59 v60 v61 v62 v63 v64) x5 v40 v41 v42 v43 v44 v45 v46 v47 v48 v49 v50 v51)) x4 v27 v28 v29 v30 v31 v32 v33 v34 v35 v36 v37 v38)) x3 v14 v15 v16 v17 v18 v19 v20 v21 v22 v23 v24 v25)) x2 v1 v2 v3 v4 v5 v6 v7 v8 v9 v10 v11 v12)) x1 d_fed d_refusedAt d_reason d_stamps d_spare g_y q_o l_o o_reached g_o g_t mm)
def w356_wp (d_lm : Nat → Option Nat) (cm : Nat) (np : Nat) (ns : Nat) (pa : Nat → Nat) (sa : Nat → Nat) (pp : Nat → px_PR) (ss : Nat → px_SR) (mc : Nat) (ms : Nat) (post : Int32 → Int32 → Int32 → Int32 → Option Nat → Nat → Nat → (Nat → Int32) → Nat → Nat → Int32 → (Nat → Int32) → (Nat → Int32) → (Nat → px_MR) → Prop) (a1x : Int32) (a2x : Int32) (a3x : Int32) (a4x : Int32) (a5x : Int32) (d_fed : Int32) (d_refusedAt : Int32) (d_reason : Int32) (d_stamps : Int32) (d_spare : Option Nat) (q_y : Nat) (l_y : Nat) (g_y : Nat → Int32) (q_o : Nat) (l_o : Nat) (o_reached : Int32) (g_o : Nat → Int32) (g_t : Nat → Int32) (mm : Nat → px_MR) : Prop := ((d_fed + 20) ≤ 16384 → ((d_fed + 20) ≤ (nI l_y) → w356_L56 d_lm cm np ns pa sa pp ss mc ms post a1x a2x a3x a4x a5x d_fed d_refusedAt d_reason d_stamps d_spare q_y l_y g_y q_o l_o o_reached g_o g_t mm 0 0) ∧ (¬ (d_fed + 20) ≤ (nI l_y) → ∃ m50_68 s50_68 : Nat, 0 + m50_68 ≤ mc ∧ 0 + s50_68 ≤ ms ∧ (w200_wp l_y m50_68 s50_68 (fun nq50_67 nn50_67 nf50_67 v66 => w356_L56 d_lm cm np ns pa sa pp ss mc ms post a1x a2x a3x a4x a5x d_fed d_refusedAt d_reason d_stamps d_spare nq50_67 nn50_67 nf50_67 q_o l_o o_reached g_o g_t mm (0 + m50_68) (0 + s50_68)) (2 * (nI l_y)) g_y))) ∧ (¬ (d_fed + 20) ≤ 16384 → False)
set_option maxHeartbeats 8000000 in
set_option maxRecDepth 100000 in
theorem w356_met (l : Launch) (dC : Nat → ClassId) (dI : Nat → Nat → Nat) (sz : Nat) (h_d : Nat) (q_ms : Nat) (q_e : Nat) (h_m : Nat) (h_w : Nat) (h_t : Nat) (h_s : Nat) (h_p : Nat) (ho : Nat) (d_lm : Nat → Option Nat) (q_t : Nat) (cc : px_CC) (cm : Nat) (np : Nat) (ns : Nat) (hm : Nat → Nat) (pa : Nat → Nat) (sa : Nat → Nat) (pp : Nat → px_PR) (ss : Nat → px_SR) (c_ms : ClassId) (mc : Nat) (ms : Nat) (a1x : Int32) (a2x : Int32) (a3x : Int32) (a4x : Int32) (a5x : Int32) (d_fed : Int32) (d_refusedAt : Int32) (d_reason : Int32) (d_stamps : Int32) (d_spare : Option Nat) (q_y : Nat) (l_y : Nat) (g_y : Nat → Int32) (q_o : Nat) (l_o : Nat) (o_reached : Int32) (g_o : Nat → Int32) (g_t : Nat → Int32) (mm : Nat → px_MR) (post : Int32 → Int32 → Int32 → Int32 → Option Nat → Nat → Nat → (Nat → Int32) → Nat → Nat → Int32 → (Nat → Int32) → (Nat → Int32) → (Nat → px_MR) → Prop) (hw : w356_wp d_lm cm np ns pa sa pp ss mc ms post a1x a2x a3x a4x a5x d_fed d_refusedAt d_reason d_stamps d_spare q_y l_y g_y q_o l_o o_reached g_o g_t mm) : Met l px_y356 px_s356 ({ frames := 2, cells := mc, slots := ms, locals := 43 }) (va_Pc [.ref h_d, .int a1x, .int a2x, .int a3x, .int a4x, .int a5x] (fun U => U.heap.size = sz ∧ va_P (dC, dI) vwCl (([(h_d, .inr (0, [.ref q_y, .int d_fed, .int d_refusedAt, .int d_reason, .int d_stamps, va_rf (Option.map hm d_spare), .ref q_ms, .ref q_e, .ref ho, .ref h_m, .ref h_w, .ref h_t, .ref h_s, .ref h_p])), (q_ms, .inl (c_ms, 26, .inr (.inr (.inr (.inr (px_mo hm d_lm)))))), (q_y, .inl (cc.2.2.2.1, l_y, .inl g_y)), (ho, .inr (1, [.ref q_o, .ref q_t, .int o_reached])), (q_o, .inl (cc.2.1, l_o, .inl g_o)), (q_t, .inl (cc.2.1, 182, .inl g_t))] : va_W) ++ px_cp cc ho cm np ns hm pa sa mm pp ss) U.heap ∧ va_K (dC, dI) vwCl [(cc.2.1, .int), (cc.2.2.2.1, .byte), (cc.2.2.2.2, .long), (cc.1, .object "MatroidDesk$Part"), (cc.2.2.1, (.array .int)), (c_ms, .object "MatroidDesk$Matroid")] U ∧ va_D (fun _ => True) (([(h_d, .inr (0, [.ref q_y, .int d_fed, .int d_refusedAt, .int d_reason, .int d_stamps, va_rf (Option.map hm d_spare), .ref q_ms, .ref q_e, .ref ho, .ref h_m, .ref h_w, .ref h_t, .ref h_s, .ref h_p])), (q_ms, .inl (c_ms, 26, .inr (.inr (.inr (.inr (px_mo hm d_lm)))))), (q_y, .inl (cc.2.2.2.1, l_y, .inl g_y)), (ho, .inr (1, [.ref q_o, .ref q_t, .int o_reached])), (q_o, .inl (cc.2.1, l_o, .inl g_o)), (q_t, .inl (cc.2.1, 182, .inl g_t))] : va_W) ++ px_cp cc ho cm np ns hm pa sa mm pp ss) ∧ px_N U)) (va_Qv (fun (u : Int32 × Int32 × Int32 × Int32 × Option Nat × Nat × Nat × (Nat → Int32) × Nat × Nat × Int32 × (Nat → Int32) × (Nat → Int32) × (Nat → px_MR)) => post u.1 u.2.1 u.2.2.1 u.2.2.2.1 u.2.2.2.2.1 u.2.2.2.2.2.1 u.2.2.2.2.2.2.1 u.2.2.2.2.2.2.2.1 u.2.2.2.2.2.2.2.2.1 u.2.2.2.2.2.2.2.2.2.1 u.2.2.2.2.2.2.2.2.2.2.1 u.2.2.2.2.2.2.2.2.2.2.2.1 u.2.2.2.2.2.2.2.2.2.2.2.2.1 u.2.2.2.2.2.2.2.2.2.2.2.2.2) (fun (u : Int32 × Int32 × Int32 × Int32 × Option Nat × Nat × Nat × (Nat → Int32) × Nat × Nat × Int32 × (Nat → Int32) × (Nat → Int32) × (Nat → px_MR)) (t : State) => va_P (dC, dI) vwCl (([(h_d, .inr (0, [.ref u.2.2.2.2.2.1, .int u.1, .int u.2.1, .int u.2.2.1, .int u.2.2.2.1, va_rf (Option.map hm u.2.2.2.2.1), .ref q_ms, .ref q_e, .ref ho, .ref h_m, .ref h_w, .ref h_t, .ref h_s, .ref h_p])), (q_ms, .inl (c_ms, 26, .inr (.inr (.inr (.inr (px_mo hm d_lm)))))), (u.2.2.2.2.2.1, .inl (cc.2.2.2.1, u.2.2.2.2.2.2.1, .inl u.2.2.2.2.2.2.2.1)), (ho, .inr (1, [.ref u.2.2.2.2.2.2.2.2.1, .ref q_t, .int u.2.2.2.2.2.2.2.2.2.2.1])), (u.2.2.2.2.2.2.2.2.1, .inl (cc.2.1, u.2.2.2.2.2.2.2.2.2.1, .inl u.2.2.2.2.2.2.2.2.2.2.2.1)), (q_t, .inl (cc.2.1, 182, .inl u.2.2.2.2.2.2.2.2.2.2.2.2.1))] : va_W) ++ px_cp cc ho cm np ns hm pa sa u.2.2.2.2.2.2.2.2.2.2.2.2.2 pp ss) t.heap ∧ va_K (dC, dI) vwCl [(cc.2.1, .int), (cc.2.2.2.1, .byte), (cc.2.2.2.2, .long), (cc.1, .object "MatroidDesk$Part"), (cc.2.2.1, (.array .int)), (c_ms, .object "MatroidDesk$Matroid")] t ∧ va_D (va_A (([(h_d, .inr (0, [.ref q_y, .int d_fed, .int d_refusedAt, .int d_reason, .int d_stamps, va_rf (Option.map hm d_spare), .ref q_ms, .ref q_e, .ref ho, .ref h_m, .ref h_w, .ref h_t, .ref h_s, .ref h_p])), (q_ms, .inl (c_ms, 26, .inr (.inr (.inr (.inr (px_mo hm d_lm)))))), (q_y, .inl (cc.2.2.2.1, l_y, .inl g_y)), (ho, .inr (1, [.ref q_o, .ref q_t, .int o_reached])), (q_o, .inl (cc.2.1, l_o, .inl g_o)), (q_t, .inl (cc.2.1, 182, .inl g_t))] : va_W) ++ px_cp cc ho cm np ns hm pa sa mm pp ss) sz) (([(h_d, .inr (0, [.ref u.2.2.2.2.2.1, .int u.1, .int u.2.1, .int u.2.2.1, .int u.2.2.2.1, va_rf (Option.map hm u.2.2.2.2.1), .ref q_ms, .ref q_e, .ref ho, .ref h_m, .ref h_w, .ref h_t, .ref h_s, .ref h_p])), (q_ms, .inl (c_ms, 26, .inr (.inr (.inr (.inr (px_mo hm d_lm)))))), (u.2.2.2.2.2.1, .inl (cc.2.2.2.1, u.2.2.2.2.2.2.1, .inl u.2.2.2.2.2.2.2.1)), (ho, .inr (1, [.ref u.2.2.2.2.2.2.2.2.1, .ref q_t, .int u.2.2.2.2.2.2.2.2.2.2.1])), (u.2.2.2.2.2.2.2.2.1, .inl (cc.2.1, u.2.2.2.2.2.2.2.2.2.1, .inl u.2.2.2.2.2.2.2.2.2.2.2.1)), (q_t, .inl (cc.2.1, 182, .inl u.2.2.2.2.2.2.2.2.2.2.2.2.1))] : va_W) ++ px_cp cc ho cm np ns hm pa sa u.2.2.2.2.2.2.2.2.2.2.2.2.2 pp ss)) (va_A (([(h_d, .inr (0, [.ref q_y, .int d_fed, .int d_refusedAt, .int d_reason, .int d_stamps, va_rf (Option.map hm d_spare), .ref q_ms, .ref q_e, .ref ho, .ref h_m, .ref h_w, .ref h_t, .ref h_s, .ref h_p])), (q_ms, .inl (c_ms, 26, .inr (.inr (.inr (.inr (px_mo hm d_lm)))))), (q_y, .inl (cc.2.2.2.1, l_y, .inl g_y)), (ho, .inr (1, [.ref q_o, .ref q_t, .int o_reached])), (q_o, .inl (cc.2.1, l_o, .inl g_o)), (q_t, .inl (cc.2.1, 182, .inl g_t))] : va_W) ++ px_cp cc ho cm np ns hm pa sa mm pp ss) sz)) mc ms (va_A (([(h_d, .inr (0, [.ref q_y, .int d_fed, .int d_refusedAt, .int d_reason, .int d_stamps, va_rf (Option.map hm d_spare), .ref q_ms, .ref q_e, .ref ho, .ref h_m, .ref h_w, .ref h_t, .ref h_s, .ref h_p])), (q_ms, .inl (c_ms, 26, .inr (.inr (.inr (.inr (px_mo hm d_lm)))))), (q_y, .inl (cc.2.2.2.1, l_y, .inl g_y)), (ho, .inr (1, [.ref q_o, .ref q_t, .int o_reached])), (q_o, .inl (cc.2.1, l_o, .inl g_o)), (q_t, .inl (cc.2.1, 182, .inl g_t))] : va_W) ++ px_cp cc ho cm np ns hm pa sa mm pp ss) sz) := by
  refine Met.ofW (cc := prog_1_method_2_code) (maxL := 6) (ret := none) (by decide) rfl ?_
  intro p e s m args below meth c s₁ B hml hv
  obtain ⟨rfl, hsz, hP, hK, hD0, hN⟩ := hv
  have hx := B.exec
  have hb := B.bytes
  have hr := B.returns
  have htw : ∀ w ∈ px_all, w.before _ s = true := fun w h => atoms_spec (ws := px_s356) B.pre w (List.mem_cons_of_mem _ h)
  have hown : s.vm.findClass "MatroidDesk" = some m.cls := findClass_of_methodNamed B.named
  have hlocks := B.notSynchronized
  subst hsz
  have hD := hD0.self (sz := s.heap.size)
  generalize hAe : va_A (([(h_d, .inr (0, [.ref q_y, .int d_fed, .int d_refusedAt, .int d_reason, .int d_stamps, va_rf (Option.map hm d_spare), .ref q_ms, .ref q_e, .ref ho, .ref h_m, .ref h_w, .ref h_t, .ref h_s, .ref h_p])), (q_ms, .inl (c_ms, 26, .inr (.inr (.inr (.inr (px_mo hm d_lm)))))), (q_y, .inl (cc.2.2.2.1, l_y, .inl g_y)), (ho, .inr (1, [.ref q_o, .ref q_t, .int o_reached])), (q_o, .inl (cc.2.1, l_o, .inl g_o)), (q_t, .inl (cc.2.1, 182, .inl g_t))] : va_W) ++ px_cp cc ho cm np ns hm pa sa mm pp ss) s.heap.size = A at hD ⊢
  have hA : ∀ q : Nat, s.heap.size ≤ q → A q := fun q h => by rw [← hAe]; exact Or.inr h
  have hS : va_S A s.heap s.heap [] := va_S.rf
  have hP : va_P (dC, dI) vwCl (([(h_d, .inr (0, [.ref q_y, .int d_fed, .int d_refusedAt, .int d_reason, .int d_stamps, va_rf (Option.map hm d_spare), .ref q_ms, .ref q_e, .ref ho, .ref h_m, .ref h_w, .ref h_t, .ref h_s, .ref h_p])), (q_ms, .inl (c_ms, 26, .inr (.inr (.inr (.inr (px_mo hm d_lm)))))), (q_y, .inl (cc.2.2.2.1, l_y, .inl g_y)), (ho, .inr (1, [.ref q_o, .ref q_t, .int o_reached])), (q_o, .inl (cc.2.1, l_o, .inl g_o)), (q_t, .inl (cc.2.1, 182, .inl g_t))] : va_W) ++ px_cp cc ho cm np ns hm pa sa mm pp ss) s.heap := hP
  have hl := lv_entry ([.ref h_d, .int a1x, .int a2x, .int a3x, .int a4x, .int a5x]) (n := 6) (Nat.le_of_ble_eq_true rfl)
  rw [lg_entry_eq]
  generalize (lg_sl ([.ref h_d, .int a1x, .int a2x, .int a3x, .int a4x, .int a5x]) ++ List.replicate (6 - (lg_sl ([.ref h_d, .int a1x, .int a2x, .int a3x, .int a4x, .int a5x])).length) Slot.unset).toArray = ls at hl ⊢
  have hl : lv_has ls 6 [(0, .ref h_d), (1, .int a1x), (2, .int a2x), (3, .int a3x), (4, .int a4x), (5, .int a5x)] := hl
  generalize hQ : MQ _ _ _ _ _ _ _ = Q
  have S56 : ∀ (x1 : Int32) (x2 : Int32) (x3 : Int32) (x4 : Int32) (x5 : Int32) (d_fed : Int32) (d_refusedAt : Int32) (d_reason : Int32) (d_stamps : Int32) (d_spare : Option Nat) (q_y : Nat) (l_y : Nat) (g_y : Nat → Int32) (q_o : Nat) (l_o : Nat) (o_reached : Int32) (g_o : Nat → Int32) (g_t : Nat → Int32) (mm : Nat → px_MR) (kc : Nat) (ks : Nat) (H : Heap) (locs : List Loc) (ls : Array Slot), kc ≤ mc → ks ≤ ms → va_P (dC, dI) vwCl (([(h_d, .inr (0, [.ref q_y, .int d_fed, .int d_refusedAt, .int d_reason, .int d_stamps, va_rf (Option.map hm d_spare), .ref q_ms, .ref q_e, .ref ho, .ref h_m, .ref h_w, .ref h_t, .ref h_s, .ref h_p])), (q_ms, .inl (c_ms, 26, .inr (.inr (.inr (.inr (px_mo hm d_lm)))))), (q_y, .inl (cc.2.2.2.1, l_y, .inl g_y)), (ho, .inr (1, [.ref q_o, .ref q_t, .int o_reached])), (q_o, .inl (cc.2.1, l_o, .inl g_o)), (q_t, .inl (cc.2.1, 182, .inl g_t))] : va_W) ++ px_cp cc ho cm np ns hm pa sa mm pp ss) H → va_D A (([(h_d, .inr (0, [.ref q_y, .int d_fed, .int d_refusedAt, .int d_reason, .int d_stamps, va_rf (Option.map hm d_spare), .ref q_ms, .ref q_e, .ref ho, .ref h_m, .ref h_w, .ref h_t, .ref h_s, .ref h_p])), (q_ms, .inl (c_ms, 26, .inr (.inr (.inr (.inr (px_mo hm d_lm)))))), (q_y, .inl (cc.2.2.2.1, l_y, .inl g_y)), (ho, .inr (1, [.ref q_o, .ref q_t, .int o_reached])), (q_o, .inl (cc.2.1, l_o, .inl g_o)), (q_t, .inl (cc.2.1, 182, .inl g_t))] : va_W) ++ px_cp cc ho cm np ns hm pa sa mm pp ss) → va_S A s.heap H locs → lv_has ls 6 [(0, .ref h_d), (1, .int x1), (2, .int x2), (3, .int x3), (4, .int x4), (5, .int x5)] → w356_L56 d_lm cm np ns pa sa pp ss mc ms post x1 x2 x3 x4 x5 d_fed d_refusedAt d_reason d_stamps d_spare q_y l_y g_y q_o l_o o_reached g_o g_t mm kc ks → W p l e (headSpec px_s356 ({ frames := 2, cells := mc, slots := ms, locals := 43 })).room s m ([.ref h_d, .int a1x, .int a2x, .int a3x, .int a4x, .int a5x]).toArray below meth c H locs kc ks Q (F0 m 56 ls []) := by
    intro x1 x2 x3 x4 x5 d_fed d_refusedAt d_reason d_stamps d_spare q_y l_y g_y q_o l_o o_reached g_o g_t mm kc ks H locs ls hkc hks hP hD hS hl hw
    unfold w356_L56 at hw
    refine lv_aload_n hx hb px_d356_56 rfl (lv_at hl 0 rfl) ?_
    refine lv_iload_n hx hb px_d356_57 rfl (lv_at hl 1 rfl) ?_
    have hPc := hP.part (cx := [(h_d, .inr (0, [.ref q_y, .int d_fed, .int d_refusedAt, .int d_reason, .int d_stamps, va_rf (Option.map hm d_spare), .ref q_ms, .ref q_e, .ref ho, .ref h_m, .ref h_w, .ref h_t, .ref h_s, .ref h_p])), (q_ms, .inl (c_ms, 26, .inr (.inr (.inr (.inr (px_mo hm d_lm)))))), (q_y, .inl (cc.2.2.2.1, l_y, .inl g_y)), (ho, .inr (1, [.ref q_o, .ref q_t, .int o_reached])), (q_o, .inl (cc.2.1, l_o, .inl g_o)), (q_t, .inl (cc.2.1, 182, .inl g_t))]) [0, 1, 2, 3, 4, 5] rfl
    have hDc := hD.part (cx := [(h_d, .inr (0, [.ref q_y, .int d_fed, .int d_refusedAt, .int d_reason, .int d_stamps, va_rf (Option.map hm d_spare), .ref q_ms, .ref q_e, .ref ho, .ref h_m, .ref h_w, .ref h_t, .ref h_s, .ref h_p])), (q_ms, .inl (c_ms, 26, .inr (.inr (.inr (.inr (px_mo hm d_lm)))))), (q_y, .inl (cc.2.2.2.1, l_y, .inl g_y)), (ho, .inr (1, [.ref q_o, .ref q_t, .int o_reached])), (q_o, .inl (cc.2.1, l_o, .inl g_o)), (q_t, .inl (cc.2.1, 182, .inl g_t))]) [0, 1, 2, 3, 4, 5] (by decide) rfl
    have hFc := va_freeP (cx := [(h_d, .inr (0, [.ref q_y, .int d_fed, .int d_refusedAt, .int d_reason, .int d_stamps, va_rf (Option.map hm d_spare), .ref q_ms, .ref q_e, .ref ho, .ref h_m, .ref h_w, .ref h_t, .ref h_s, .ref h_p])), (q_ms, .inl (c_ms, 26, .inr (.inr (.inr (.inr (px_mo hm d_lm)))))), (q_y, .inl (cc.2.2.2.1, l_y, .inl g_y)), (ho, .inr (1, [.ref q_o, .ref q_t, .int o_reached])), (q_o, .inl (cc.2.1, l_o, .inl g_o)), (q_t, .inl (cc.2.1, 182, .inl g_t))]) hD hS hA [0, 1, 2, 3, 4, 5] rfl
    have hKc := hK.sub (tys' := [(cc.2.1, .int), (cc.2.2.2.1, .byte), (cc.2.2.2.2, .long), (cc.1, .object "MatroidDesk$Part"), (cc.2.2.1, (.array .int)), (c_ms, .object "MatroidDesk$Matroid")]) [0, 1, 2, 3, 4, 5] rfl
    refine va_callv (va_runV (As := [.int x1]) (rest := []) ⟨hx, hb, hml, hown, htw⟩ (w358_met l dC dI H.size h_d q_y q_ms q_e h_m h_w h_t h_s h_p d_lm l_y q_t ho cc cm np ns hm pa sa pp ss c_ms x1 d_fed d_refusedAt d_reason d_stamps d_spare g_y q_o l_o o_reached g_o g_t mm _ hw) (cwV 1 htw (px_gv px_w1732 px_w1737 px_w1738 px_w6 px_g358) rfl rfl rfl (by decide +kernel) ⟨Nat.le_of_ble_eq_true rfl, Nat.le_of_ble_eq_true rfl⟩) ⟨fun a U g mk q => by obtain ⟨q0, q1, qP, qK, qD, qN⟩ := q; exact ⟨q0, q1, qP, va_K.moved (u := U) (U := U.calling g mk a) (Vm.Alike.refl U.vm) qK, qD, qN.same rfl⟩, va_recv hK hP (ci := 0) (q0 := 0) rfl rfl, fun U hU hW => ⟨rfl, by rw [hU], by rw [hU]; exact hPc, va_K.moved hW.alike hKc, hDc.weaken (fun _ _ _ _ => trivial), hN.warm hW⟩⟩ rfl rfl hl.1 rfl (lv_room (Nat.le_of_ble_eq_true rfl)) px_d356_58 ⟨hkc, hks⟩) hS (fun q _ h => hFc q h) hFc (fun u t H1 locs ht hvm hw hB hz1 hk1 hS => ?_)
    obtain ⟨v1, v2, v3, v4, v5, v6, v7, v8, v9, v10, v11, v12⟩ := u
    obtain ⟨hP1, hK1, hD1⟩ := hB
    rw [ht] at hP1
    obtain ⟨hP, hD⟩ := va_joinP (wr := []) (rx := [(h_d, .inr (0, [.ref q_y, .int v1, .int v2, .int v3, .int v4, va_rf (Option.map hm v5), .ref q_ms, .ref q_e, .ref ho, .ref h_m, .ref h_w, .ref h_t, .ref h_s, .ref h_p])), (q_ms, .inl (c_ms, 26, .inr (.inr (.inr (.inr (px_mo hm d_lm)))))), (q_y, .inl (cc.2.2.2.1, l_y, .inl v6)), (ho, .inr (1, [.ref v7, .ref q_t, .int v9])), (v7, .inl (cc.2.1, v8, .inl v10)), (q_t, .inl (cc.2.1, 182, .inl v11))]) hP hD [0, 1, 2, 3, 4, 5] [] rfl rfl (by decide) (by decide) hk1 hFc hP1 hD1
    generalize H1 = H at hP hS ⊢
    have hP : va_P (dC, dI) vwCl (([(h_d, .inr (0, [.ref q_y, .int v1, .int v2, .int v3, .int v4, va_rf (Option.map hm v5), .ref q_ms, .ref q_e, .ref ho, .ref h_m, .ref h_w, .ref h_t, .ref h_s, .ref h_p])), (q_ms, .inl (c_ms, 26, .inr (.inr (.inr (.inr (px_mo hm d_lm)))))), (q_y, .inl (cc.2.2.2.1, l_y, .inl v6)), (ho, .inr (1, [.ref v7, .ref q_t, .int v9])), (v7, .inl (cc.2.1, v8, .inl v10)), (q_t, .inl (cc.2.1, 182, .inl v11))] : va_W) ++ px_cp cc ho cm np ns hm pa sa v12 pp ss) H := hP
    have hD : va_D A (([(h_d, .inr (0, [.ref q_y, .int v1, .int v2, .int v3, .int v4, va_rf (Option.map hm v5), .ref q_ms, .ref q_e, .ref ho, .ref h_m, .ref h_w, .ref h_t, .ref h_s, .ref h_p])), (q_ms, .inl (c_ms, 26, .inr (.inr (.inr (.inr (px_mo hm d_lm)))))), (q_y, .inl (cc.2.2.2.1, l_y, .inl v6)), (ho, .inr (1, [.ref v7, .ref q_t, .int v9])), (v7, .inl (cc.2.1, v8, .inl v10)), (q_t, .inl (cc.2.1, 182, .inl v11))] : va_W) ++ px_cp cc ho cm np ns hm pa sa v12 pp ss) := hD
    refine lv_aload_n hx hb px_d356_61 rfl (lv_at hl 0 rfl) ?_
    refine lv_iload_n hx hb px_d356_62 rfl (lv_at hl 2 rfl) ?_
    have hPc := hP.part (cx := [(h_d, .inr (0, [.ref q_y, .int v1, .int v2, .int v3, .int v4, va_rf (Option.map hm v5), .ref q_ms, .ref q_e, .ref ho, .ref h_m, .ref h_w, .ref h_t, .ref h_s, .ref h_p])), (q_ms, .inl (c_ms, 26, .inr (.inr (.inr (.inr (px_mo hm d_lm)))))), (q_y, .inl (cc.2.2.2.1, l_y, .inl v6)), (ho, .inr (1, [.ref v7, .ref q_t, .int v9])), (v7, .inl (cc.2.1, v8, .inl v10)), (q_t, .inl (cc.2.1, 182, .inl v11))]) [0, 1, 2, 3, 4, 5] rfl
    have hDc := hD.part (cx := [(h_d, .inr (0, [.ref q_y, .int v1, .int v2, .int v3, .int v4, va_rf (Option.map hm v5), .ref q_ms, .ref q_e, .ref ho, .ref h_m, .ref h_w, .ref h_t, .ref h_s, .ref h_p])), (q_ms, .inl (c_ms, 26, .inr (.inr (.inr (.inr (px_mo hm d_lm)))))), (q_y, .inl (cc.2.2.2.1, l_y, .inl v6)), (ho, .inr (1, [.ref v7, .ref q_t, .int v9])), (v7, .inl (cc.2.1, v8, .inl v10)), (q_t, .inl (cc.2.1, 182, .inl v11))]) [0, 1, 2, 3, 4, 5] (by decide) rfl
    have hFc := va_freeP (cx := [(h_d, .inr (0, [.ref q_y, .int v1, .int v2, .int v3, .int v4, va_rf (Option.map hm v5), .ref q_ms, .ref q_e, .ref ho, .ref h_m, .ref h_w, .ref h_t, .ref h_s, .ref h_p])), (q_ms, .inl (c_ms, 26, .inr (.inr (.inr (.inr (px_mo hm d_lm)))))), (q_y, .inl (cc.2.2.2.1, l_y, .inl v6)), (ho, .inr (1, [.ref v7, .ref q_t, .int v9])), (v7, .inl (cc.2.1, v8, .inl v10)), (q_t, .inl (cc.2.1, 182, .inl v11))]) hD hS hA [0, 1, 2, 3, 4, 5] rfl
    have hKc := hK.sub (tys' := [(cc.2.1, .int), (cc.2.2.2.1, .byte), (cc.2.2.2.2, .long), (cc.1, .object "MatroidDesk$Part"), (cc.2.2.1, (.array .int)), (c_ms, .object "MatroidDesk$Matroid")]) [0, 1, 2, 3, 4, 5] rfl
    refine va_callv (va_runV (As := [.int x2]) (rest := []) ⟨hx, hb, hml, hown, htw⟩ (w358_met l dC dI H.size h_d q_y q_ms q_e h_m h_w h_t h_s h_p d_lm l_y q_t ho cc cm np ns hm pa sa pp ss c_ms x2 v1 v2 v3 v4 v5 v6 v7 v8 v9 v10 v11 v12 _ hw) (cwV 1 htw (px_gv px_w1732 px_w1737 px_w1738 px_w6 px_g358) rfl rfl rfl (by decide +kernel) ⟨Nat.le_of_ble_eq_true rfl, Nat.le_of_ble_eq_true rfl⟩) ⟨fun a U g mk q => by obtain ⟨q0, q1, qP, qK, qD, qN⟩ := q; exact ⟨q0, q1, qP, va_K.moved (u := U) (U := U.calling g mk a) (Vm.Alike.refl U.vm) qK, qD, qN.same rfl⟩, va_recv hK hP (ci := 0) (q0 := 0) rfl rfl, fun U hU hW => ⟨rfl, by rw [hU], by rw [hU]; exact hPc, va_K.moved hW.alike hKc, hDc.weaken (fun _ _ _ _ => trivial), hN.warm hW⟩⟩ rfl rfl hl.1 rfl (lv_room (Nat.le_of_ble_eq_true rfl)) px_d356_63 ⟨hkc, hks⟩) hS (fun q _ h => hFc q h) hFc (fun u t H1 locs ht hvm hw hB hz1 hk1 hS => ?_)
    obtain ⟨v14, v15, v16, v17, v18, v19, v20, v21, v22, v23, v24, v25⟩ := u
    obtain ⟨hP1, hK1, hD1⟩ := hB
    rw [ht] at hP1
    obtain ⟨hP, hD⟩ := va_joinP (wr := []) (rx := [(h_d, .inr (0, [.ref q_y, .int v14, .int v15, .int v16, .int v17, va_rf (Option.map hm v18), .ref q_ms, .ref q_e, .ref ho, .ref h_m, .ref h_w, .ref h_t, .ref h_s, .ref h_p])), (q_ms, .inl (c_ms, 26, .inr (.inr (.inr (.inr (px_mo hm d_lm)))))), (q_y, .inl (cc.2.2.2.1, l_y, .inl v19)), (ho, .inr (1, [.ref v20, .ref q_t, .int v22])), (v20, .inl (cc.2.1, v21, .inl v23)), (q_t, .inl (cc.2.1, 182, .inl v24))]) hP hD [0, 1, 2, 3, 4, 5] [] rfl rfl (by decide) (by decide) hk1 hFc hP1 hD1
    generalize H1 = H at hP hS ⊢
    have hP : va_P (dC, dI) vwCl (([(h_d, .inr (0, [.ref q_y, .int v14, .int v15, .int v16, .int v17, va_rf (Option.map hm v18), .ref q_ms, .ref q_e, .ref ho, .ref h_m, .ref h_w, .ref h_t, .ref h_s, .ref h_p])), (q_ms, .inl (c_ms, 26, .inr (.inr (.inr (.inr (px_mo hm d_lm)))))), (q_y, .inl (cc.2.2.2.1, l_y, .inl v19)), (ho, .inr (1, [.ref v20, .ref q_t, .int v22])), (v20, .inl (cc.2.1, v21, .inl v23)), (q_t, .inl (cc.2.1, 182, .inl v24))] : va_W) ++ px_cp cc ho cm np ns hm pa sa v25 pp ss) H := hP
    have hD : va_D A (([(h_d, .inr (0, [.ref q_y, .int v14, .int v15, .int v16, .int v17, va_rf (Option.map hm v18), .ref q_ms, .ref q_e, .ref ho, .ref h_m, .ref h_w, .ref h_t, .ref h_s, .ref h_p])), (q_ms, .inl (c_ms, 26, .inr (.inr (.inr (.inr (px_mo hm d_lm)))))), (q_y, .inl (cc.2.2.2.1, l_y, .inl v19)), (ho, .inr (1, [.ref v20, .ref q_t, .int v22])), (v20, .inl (cc.2.1, v21, .inl v23)), (q_t, .inl (cc.2.1, 182, .inl v24))] : va_W) ++ px_cp cc ho cm np ns hm pa sa v25 pp ss) := hD
    refine lv_aload_n hx hb px_d356_66 rfl (lv_at hl 0 rfl) ?_
    refine lv_iload_n hx hb px_d356_67 rfl (lv_at hl 3 rfl) ?_
    have hPc := hP.part (cx := [(h_d, .inr (0, [.ref q_y, .int v14, .int v15, .int v16, .int v17, va_rf (Option.map hm v18), .ref q_ms, .ref q_e, .ref ho, .ref h_m, .ref h_w, .ref h_t, .ref h_s, .ref h_p])), (q_ms, .inl (c_ms, 26, .inr (.inr (.inr (.inr (px_mo hm d_lm)))))), (q_y, .inl (cc.2.2.2.1, l_y, .inl v19)), (ho, .inr (1, [.ref v20, .ref q_t, .int v22])), (v20, .inl (cc.2.1, v21, .inl v23)), (q_t, .inl (cc.2.1, 182, .inl v24))]) [0, 1, 2, 3, 4, 5] rfl
    have hDc := hD.part (cx := [(h_d, .inr (0, [.ref q_y, .int v14, .int v15, .int v16, .int v17, va_rf (Option.map hm v18), .ref q_ms, .ref q_e, .ref ho, .ref h_m, .ref h_w, .ref h_t, .ref h_s, .ref h_p])), (q_ms, .inl (c_ms, 26, .inr (.inr (.inr (.inr (px_mo hm d_lm)))))), (q_y, .inl (cc.2.2.2.1, l_y, .inl v19)), (ho, .inr (1, [.ref v20, .ref q_t, .int v22])), (v20, .inl (cc.2.1, v21, .inl v23)), (q_t, .inl (cc.2.1, 182, .inl v24))]) [0, 1, 2, 3, 4, 5] (by decide) rfl
    have hFc := va_freeP (cx := [(h_d, .inr (0, [.ref q_y, .int v14, .int v15, .int v16, .int v17, va_rf (Option.map hm v18), .ref q_ms, .ref q_e, .ref ho, .ref h_m, .ref h_w, .ref h_t, .ref h_s, .ref h_p])), (q_ms, .inl (c_ms, 26, .inr (.inr (.inr (.inr (px_mo hm d_lm)))))), (q_y, .inl (cc.2.2.2.1, l_y, .inl v19)), (ho, .inr (1, [.ref v20, .ref q_t, .int v22])), (v20, .inl (cc.2.1, v21, .inl v23)), (q_t, .inl (cc.2.1, 182, .inl v24))]) hD hS hA [0, 1, 2, 3, 4, 5] rfl
    have hKc := hK.sub (tys' := [(cc.2.1, .int), (cc.2.2.2.1, .byte), (cc.2.2.2.2, .long), (cc.1, .object "MatroidDesk$Part"), (cc.2.2.1, (.array .int)), (c_ms, .object "MatroidDesk$Matroid")]) [0, 1, 2, 3, 4, 5] rfl
    refine va_callv (va_runV (As := [.int x3]) (rest := []) ⟨hx, hb, hml, hown, htw⟩ (w358_met l dC dI H.size h_d q_y q_ms q_e h_m h_w h_t h_s h_p d_lm l_y q_t ho cc cm np ns hm pa sa pp ss c_ms x3 v14 v15 v16 v17 v18 v19 v20 v21 v22 v23 v24 v25 _ hw) (cwV 1 htw (px_gv px_w1732 px_w1737 px_w1738 px_w6 px_g358) rfl rfl rfl (by decide +kernel) ⟨Nat.le_of_ble_eq_true rfl, Nat.le_of_ble_eq_true rfl⟩) ⟨fun a U g mk q => by obtain ⟨q0, q1, qP, qK, qD, qN⟩ := q; exact ⟨q0, q1, qP, va_K.moved (u := U) (U := U.calling g mk a) (Vm.Alike.refl U.vm) qK, qD, qN.same rfl⟩, va_recv hK hP (ci := 0) (q0 := 0) rfl rfl, fun U hU hW => ⟨rfl, by rw [hU], by rw [hU]; exact hPc, va_K.moved hW.alike hKc, hDc.weaken (fun _ _ _ _ => trivial), hN.warm hW⟩⟩ rfl rfl hl.1 rfl (lv_room (Nat.le_of_ble_eq_true rfl)) px_d356_68 ⟨hkc, hks⟩) hS (fun q _ h => hFc q h) hFc (fun u t H1 locs ht hvm hw hB hz1 hk1 hS => ?_)
    obtain ⟨v27, v28, v29, v30, v31, v32, v33, v34, v35, v36, v37, v38⟩ := u
    obtain ⟨hP1, hK1, hD1⟩ := hB
    rw [ht] at hP1
    obtain ⟨hP, hD⟩ := va_joinP (wr := []) (rx := [(h_d, .inr (0, [.ref q_y, .int v27, .int v28, .int v29, .int v30, va_rf (Option.map hm v31), .ref q_ms, .ref q_e, .ref ho, .ref h_m, .ref h_w, .ref h_t, .ref h_s, .ref h_p])), (q_ms, .inl (c_ms, 26, .inr (.inr (.inr (.inr (px_mo hm d_lm)))))), (q_y, .inl (cc.2.2.2.1, l_y, .inl v32)), (ho, .inr (1, [.ref v33, .ref q_t, .int v35])), (v33, .inl (cc.2.1, v34, .inl v36)), (q_t, .inl (cc.2.1, 182, .inl v37))]) hP hD [0, 1, 2, 3, 4, 5] [] rfl rfl (by decide) (by decide) hk1 hFc hP1 hD1
    generalize H1 = H at hP hS ⊢
    have hP : va_P (dC, dI) vwCl (([(h_d, .inr (0, [.ref q_y, .int v27, .int v28, .int v29, .int v30, va_rf (Option.map hm v31), .ref q_ms, .ref q_e, .ref ho, .ref h_m, .ref h_w, .ref h_t, .ref h_s, .ref h_p])), (q_ms, .inl (c_ms, 26, .inr (.inr (.inr (.inr (px_mo hm d_lm)))))), (q_y, .inl (cc.2.2.2.1, l_y, .inl v32)), (ho, .inr (1, [.ref v33, .ref q_t, .int v35])), (v33, .inl (cc.2.1, v34, .inl v36)), (q_t, .inl (cc.2.1, 182, .inl v37))] : va_W) ++ px_cp cc ho cm np ns hm pa sa v38 pp ss) H := hP
    have hD : va_D A (([(h_d, .inr (0, [.ref q_y, .int v27, .int v28, .int v29, .int v30, va_rf (Option.map hm v31), .ref q_ms, .ref q_e, .ref ho, .ref h_m, .ref h_w, .ref h_t, .ref h_s, .ref h_p])), (q_ms, .inl (c_ms, 26, .inr (.inr (.inr (.inr (px_mo hm d_lm)))))), (q_y, .inl (cc.2.2.2.1, l_y, .inl v32)), (ho, .inr (1, [.ref v33, .ref q_t, .int v35])), (v33, .inl (cc.2.1, v34, .inl v36)), (q_t, .inl (cc.2.1, 182, .inl v37))] : va_W) ++ px_cp cc ho cm np ns hm pa sa v38 pp ss) := hD
    refine lv_aload_n hx hb px_d356_71 rfl (lv_at hl 0 rfl) ?_
    refine lv_iload hx hb px_d356_72 (lv_at hl 4 rfl) ?_
    have hPc := hP.part (cx := [(h_d, .inr (0, [.ref q_y, .int v27, .int v28, .int v29, .int v30, va_rf (Option.map hm v31), .ref q_ms, .ref q_e, .ref ho, .ref h_m, .ref h_w, .ref h_t, .ref h_s, .ref h_p])), (q_ms, .inl (c_ms, 26, .inr (.inr (.inr (.inr (px_mo hm d_lm)))))), (q_y, .inl (cc.2.2.2.1, l_y, .inl v32)), (ho, .inr (1, [.ref v33, .ref q_t, .int v35])), (v33, .inl (cc.2.1, v34, .inl v36)), (q_t, .inl (cc.2.1, 182, .inl v37))]) [0, 1, 2, 3, 4, 5] rfl
    have hDc := hD.part (cx := [(h_d, .inr (0, [.ref q_y, .int v27, .int v28, .int v29, .int v30, va_rf (Option.map hm v31), .ref q_ms, .ref q_e, .ref ho, .ref h_m, .ref h_w, .ref h_t, .ref h_s, .ref h_p])), (q_ms, .inl (c_ms, 26, .inr (.inr (.inr (.inr (px_mo hm d_lm)))))), (q_y, .inl (cc.2.2.2.1, l_y, .inl v32)), (ho, .inr (1, [.ref v33, .ref q_t, .int v35])), (v33, .inl (cc.2.1, v34, .inl v36)), (q_t, .inl (cc.2.1, 182, .inl v37))]) [0, 1, 2, 3, 4, 5] (by decide) rfl
    have hFc := va_freeP (cx := [(h_d, .inr (0, [.ref q_y, .int v27, .int v28, .int v29, .int v30, va_rf (Option.map hm v31), .ref q_ms, .ref q_e, .ref ho, .ref h_m, .ref h_w, .ref h_t, .ref h_s, .ref h_p])), (q_ms, .inl (c_ms, 26, .inr (.inr (.inr (.inr (px_mo hm d_lm)))))), (q_y, .inl (cc.2.2.2.1, l_y, .inl v32)), (ho, .inr (1, [.ref v33, .ref q_t, .int v35])), (v33, .inl (cc.2.1, v34, .inl v36)), (q_t, .inl (cc.2.1, 182, .inl v37))]) hD hS hA [0, 1, 2, 3, 4, 5] rfl
    have hKc := hK.sub (tys' := [(cc.2.1, .int), (cc.2.2.2.1, .byte), (cc.2.2.2.2, .long), (cc.1, .object "MatroidDesk$Part"), (cc.2.2.1, (.array .int)), (c_ms, .object "MatroidDesk$Matroid")]) [0, 1, 2, 3, 4, 5] rfl
    refine va_callv (va_runV (As := [.int x4]) (rest := []) ⟨hx, hb, hml, hown, htw⟩ (w358_met l dC dI H.size h_d q_y q_ms q_e h_m h_w h_t h_s h_p d_lm l_y q_t ho cc cm np ns hm pa sa pp ss c_ms x4 v27 v28 v29 v30 v31 v32 v33 v34 v35 v36 v37 v38 _ hw) (cwV 1 htw (px_gv px_w1732 px_w1737 px_w1738 px_w6 px_g358) rfl rfl rfl (by decide +kernel) ⟨Nat.le_of_ble_eq_true rfl, Nat.le_of_ble_eq_true rfl⟩) ⟨fun a U g mk q => by obtain ⟨q0, q1, qP, qK, qD, qN⟩ := q; exact ⟨q0, q1, qP, va_K.moved (u := U) (U := U.calling g mk a) (Vm.Alike.refl U.vm) qK, qD, qN.same rfl⟩, va_recv hK hP (ci := 0) (q0 := 0) rfl rfl, fun U hU hW => ⟨rfl, by rw [hU], by rw [hU]; exact hPc, va_K.moved hW.alike hKc, hDc.weaken (fun _ _ _ _ => trivial), hN.warm hW⟩⟩ rfl rfl hl.1 rfl (lv_room (Nat.le_of_ble_eq_true rfl)) px_d356_74 ⟨hkc, hks⟩) hS (fun q _ h => hFc q h) hFc (fun u t H1 locs ht hvm hw hB hz1 hk1 hS => ?_)
    obtain ⟨v40, v41, v42, v43, v44, v45, v46, v47, v48, v49, v50, v51⟩ := u
    obtain ⟨hP1, hK1, hD1⟩ := hB
    rw [ht] at hP1
    obtain ⟨hP, hD⟩ := va_joinP (wr := []) (rx := [(h_d, .inr (0, [.ref q_y, .int v40, .int v41, .int v42, .int v43, va_rf (Option.map hm v44), .ref q_ms, .ref q_e, .ref ho, .ref h_m, .ref h_w, .ref h_t, .ref h_s, .ref h_p])), (q_ms, .inl (c_ms, 26, .inr (.inr (.inr (.inr (px_mo hm d_lm)))))), (q_y, .inl (cc.2.2.2.1, l_y, .inl v45)), (ho, .inr (1, [.ref v46, .ref q_t, .int v48])), (v46, .inl (cc.2.1, v47, .inl v49)), (q_t, .inl (cc.2.1, 182, .inl v50))]) hP hD [0, 1, 2, 3, 4, 5] [] rfl rfl (by decide) (by decide) hk1 hFc hP1 hD1
    generalize H1 = H at hP hS ⊢
    have hP : va_P (dC, dI) vwCl (([(h_d, .inr (0, [.ref q_y, .int v40, .int v41, .int v42, .int v43, va_rf (Option.map hm v44), .ref q_ms, .ref q_e, .ref ho, .ref h_m, .ref h_w, .ref h_t, .ref h_s, .ref h_p])), (q_ms, .inl (c_ms, 26, .inr (.inr (.inr (.inr (px_mo hm d_lm)))))), (q_y, .inl (cc.2.2.2.1, l_y, .inl v45)), (ho, .inr (1, [.ref v46, .ref q_t, .int v48])), (v46, .inl (cc.2.1, v47, .inl v49)), (q_t, .inl (cc.2.1, 182, .inl v50))] : va_W) ++ px_cp cc ho cm np ns hm pa sa v51 pp ss) H := hP
    have hD : va_D A (([(h_d, .inr (0, [.ref q_y, .int v40, .int v41, .int v42, .int v43, va_rf (Option.map hm v44), .ref q_ms, .ref q_e, .ref ho, .ref h_m, .ref h_w, .ref h_t, .ref h_s, .ref h_p])), (q_ms, .inl (c_ms, 26, .inr (.inr (.inr (.inr (px_mo hm d_lm)))))), (q_y, .inl (cc.2.2.2.1, l_y, .inl v45)), (ho, .inr (1, [.ref v46, .ref q_t, .int v48])), (v46, .inl (cc.2.1, v47, .inl v49)), (q_t, .inl (cc.2.1, 182, .inl v50))] : va_W) ++ px_cp cc ho cm np ns hm pa sa v51 pp ss) := hD
    refine lv_aload_n hx hb px_d356_77 rfl (lv_at hl 0 rfl) ?_
    refine lv_iload hx hb px_d356_78 (lv_at hl 5 rfl) ?_
    have hPc := hP.part (cx := [(h_d, .inr (0, [.ref q_y, .int v40, .int v41, .int v42, .int v43, va_rf (Option.map hm v44), .ref q_ms, .ref q_e, .ref ho, .ref h_m, .ref h_w, .ref h_t, .ref h_s, .ref h_p])), (q_ms, .inl (c_ms, 26, .inr (.inr (.inr (.inr (px_mo hm d_lm)))))), (q_y, .inl (cc.2.2.2.1, l_y, .inl v45)), (ho, .inr (1, [.ref v46, .ref q_t, .int v48])), (v46, .inl (cc.2.1, v47, .inl v49)), (q_t, .inl (cc.2.1, 182, .inl v50))]) [0, 1, 2, 3, 4, 5] rfl
    have hDc := hD.part (cx := [(h_d, .inr (0, [.ref q_y, .int v40, .int v41, .int v42, .int v43, va_rf (Option.map hm v44), .ref q_ms, .ref q_e, .ref ho, .ref h_m, .ref h_w, .ref h_t, .ref h_s, .ref h_p])), (q_ms, .inl (c_ms, 26, .inr (.inr (.inr (.inr (px_mo hm d_lm)))))), (q_y, .inl (cc.2.2.2.1, l_y, .inl v45)), (ho, .inr (1, [.ref v46, .ref q_t, .int v48])), (v46, .inl (cc.2.1, v47, .inl v49)), (q_t, .inl (cc.2.1, 182, .inl v50))]) [0, 1, 2, 3, 4, 5] (by decide) rfl
    have hFc := va_freeP (cx := [(h_d, .inr (0, [.ref q_y, .int v40, .int v41, .int v42, .int v43, va_rf (Option.map hm v44), .ref q_ms, .ref q_e, .ref ho, .ref h_m, .ref h_w, .ref h_t, .ref h_s, .ref h_p])), (q_ms, .inl (c_ms, 26, .inr (.inr (.inr (.inr (px_mo hm d_lm)))))), (q_y, .inl (cc.2.2.2.1, l_y, .inl v45)), (ho, .inr (1, [.ref v46, .ref q_t, .int v48])), (v46, .inl (cc.2.1, v47, .inl v49)), (q_t, .inl (cc.2.1, 182, .inl v50))]) hD hS hA [0, 1, 2, 3, 4, 5] rfl
    have hKc := hK.sub (tys' := [(cc.2.1, .int), (cc.2.2.2.1, .byte), (cc.2.2.2.2, .long), (cc.1, .object "MatroidDesk$Part"), (cc.2.2.1, (.array .int)), (c_ms, .object "MatroidDesk$Matroid")]) [0, 1, 2, 3, 4, 5] rfl
    refine va_callv (va_runV (As := [.int x5]) (rest := []) ⟨hx, hb, hml, hown, htw⟩ (w358_met l dC dI H.size h_d q_y q_ms q_e h_m h_w h_t h_s h_p d_lm l_y q_t ho cc cm np ns hm pa sa pp ss c_ms x5 v40 v41 v42 v43 v44 v45 v46 v47 v48 v49 v50 v51 _ hw) (cwV 1 htw (px_gv px_w1732 px_w1737 px_w1738 px_w6 px_g358) rfl rfl rfl (by decide +kernel) ⟨Nat.le_of_ble_eq_true rfl, Nat.le_of_ble_eq_true rfl⟩) ⟨fun a U g mk q => by obtain ⟨q0, q1, qP, qK, qD, qN⟩ := q; exact ⟨q0, q1, qP, va_K.moved (u := U) (U := U.calling g mk a) (Vm.Alike.refl U.vm) qK, qD, qN.same rfl⟩, va_recv hK hP (ci := 0) (q0 := 0) rfl rfl, fun U hU hW => ⟨rfl, by rw [hU], by rw [hU]; exact hPc, va_K.moved hW.alike hKc, hDc.weaken (fun _ _ _ _ => trivial), hN.warm hW⟩⟩ rfl rfl hl.1 rfl (lv_room (Nat.le_of_ble_eq_true rfl)) px_d356_80 ⟨hkc, hks⟩) hS (fun q _ h => hFc q h) hFc (fun u t H1 locs ht hvm hw hB hz1 hk1 hS => ?_)
    obtain ⟨v53, v54, v55, v56, v57, v58, v59, v60, v61, v62, v63, v64⟩ := u
    obtain ⟨hP1, hK1, hD1⟩ := hB
    rw [ht] at hP1
    obtain ⟨hP, hD⟩ := va_joinP (wr := []) (rx := [(h_d, .inr (0, [.ref q_y, .int v53, .int v54, .int v55, .int v56, va_rf (Option.map hm v57), .ref q_ms, .ref q_e, .ref ho, .ref h_m, .ref h_w, .ref h_t, .ref h_s, .ref h_p])), (q_ms, .inl (c_ms, 26, .inr (.inr (.inr (.inr (px_mo hm d_lm)))))), (q_y, .inl (cc.2.2.2.1, l_y, .inl v58)), (ho, .inr (1, [.ref v59, .ref q_t, .int v61])), (v59, .inl (cc.2.1, v60, .inl v62)), (q_t, .inl (cc.2.1, 182, .inl v63))]) hP hD [0, 1, 2, 3, 4, 5] [] rfl rfl (by decide) (by decide) hk1 hFc hP1 hD1
    generalize H1 = H at hP hS ⊢
    have hP : va_P (dC, dI) vwCl (([(h_d, .inr (0, [.ref q_y, .int v53, .int v54, .int v55, .int v56, va_rf (Option.map hm v57), .ref q_ms, .ref q_e, .ref ho, .ref h_m, .ref h_w, .ref h_t, .ref h_s, .ref h_p])), (q_ms, .inl (c_ms, 26, .inr (.inr (.inr (.inr (px_mo hm d_lm)))))), (q_y, .inl (cc.2.2.2.1, l_y, .inl v58)), (ho, .inr (1, [.ref v59, .ref q_t, .int v61])), (v59, .inl (cc.2.1, v60, .inl v62)), (q_t, .inl (cc.2.1, 182, .inl v63))] : va_W) ++ px_cp cc ho cm np ns hm pa sa v64 pp ss) H := hP
    have hD : va_D A (([(h_d, .inr (0, [.ref q_y, .int v53, .int v54, .int v55, .int v56, va_rf (Option.map hm v57), .ref q_ms, .ref q_e, .ref ho, .ref h_m, .ref h_w, .ref h_t, .ref h_s, .ref h_p])), (q_ms, .inl (c_ms, 26, .inr (.inr (.inr (.inr (px_mo hm d_lm)))))), (q_y, .inl (cc.2.2.2.1, l_y, .inl v58)), (ho, .inr (1, [.ref v59, .ref q_t, .int v61])), (v59, .inl (cc.2.1, v60, .inl v62)), (q_t, .inl (cc.2.1, 182, .inl v63))] : va_W) ++ px_cp cc ho cm np ns hm pa sa v64 pp ss) := hD
    refine W.widen (k := mc) (n := ms) hkc hks ?_
    rw [← hQ]
    exact W.vret hx hb hr (fun t ht hW => ⟨⟨(v53, v54, v55, v56, v57, q_y, l_y, v58, v59, v60, v61, v62, v63, v64), rfl, hw, by rw [ht]; exact hP, va_K.moved hW.alike hK, hD⟩, hS.F ht⟩) hS.2.2 px_d356_83
  unfold w356_wp at hw
  have hS0 := hS
  obtain ⟨H, hH9⟩ : ∃ z, z = s.heap := ⟨_, rfl⟩
  have hP : va_P (dC, dI) vwCl (([(h_d, .inr (0, [.ref q_y, .int d_fed, .int d_refusedAt, .int d_reason, .int d_stamps, va_rf (Option.map hm d_spare), .ref q_ms, .ref q_e, .ref ho, .ref h_m, .ref h_w, .ref h_t, .ref h_s, .ref h_p])), (q_ms, .inl (c_ms, 26, .inr (.inr (.inr (.inr (px_mo hm d_lm)))))), (q_y, .inl (cc.2.2.2.1, l_y, .inl g_y)), (ho, .inr (1, [.ref q_o, .ref q_t, .int o_reached])), (q_o, .inl (cc.2.1, l_o, .inl g_o)), (q_t, .inl (cc.2.1, 182, .inl g_t))] : va_W) ++ px_cp cc ho cm np ns hm pa sa mm pp ss) H := by rw [hH9]; exact hP
  obtain ⟨locs, hlo9⟩ : ∃ z : List Loc, z = [] := ⟨_, rfl⟩
  have hS : va_S A s.heap H locs := by rw [hH9, hlo9]; exact hS
  suffices hG : W p l e (headSpec px_s356 ({ frames := 2, cells := mc, slots := ms, locals := 43 })).room s m ([.ref h_d, .int a1x, .int a2x, .int a3x, .int a4x, .int a5x]).toArray below meth c H locs 0 0 Q (F0 m 0 ls []) by rw [hH9, hlo9] at hG; exact hG
  refine lv_aload_n hx hb px_d356_0 rfl (lv_at hl 0 rfl) ?_
  refine va_get (D := (dC, dI)) (ci := 0) (v := .int d_fed) (C := "MatroidDesk") (T := px_T0) (N := 14) hx hb htw px_in0 hown hK hP 0 rfl rfl 1 (by decide) (htw _ px_w238) (fun _ h9 => h9) rfl px_d356_1 ?_
  refine lv_bipush (v := 20) hx hb px_d356_4 (by decide) ?_
  refine lv_iadd hx hb px_d356_6 ?_
  refine lv_sipush (v := 16384) hx hb px_d356_7 (by decide) ?_
  refine lv_icmp_le (tgt := 23) hx hb px_d356_10 (by decide) (fun c10 => ?_) (fun c10 => ?_)
  · have hw := hw.1 c10
    refine lv_aload_n hx hb px_d356_23 rfl (lv_at hl 0 rfl) ?_
    refine va_get (D := (dC, dI)) (ci := 0) (v := .int d_fed) (C := "MatroidDesk") (T := px_T0) (N := 14) hx hb htw px_in0 hown hK hP 0 rfl rfl 1 (by decide) (htw _ px_w238) (fun _ h9 => h9) rfl px_d356_24 ?_
    refine lv_bipush (v := 20) hx hb px_d356_27 (by decide) ?_
    refine lv_iadd hx hb px_d356_29 ?_
    refine lv_aload_n hx hb px_d356_30 rfl (lv_at hl 0 rfl) ?_
    refine va_get (D := (dC, dI)) (ci := 0) (v := .ref q_y) (C := "MatroidDesk") (T := px_T0) (N := 14) hx hb htw px_in0 hown hK hP 0 rfl rfl 0 (by decide) (htw _ px_w237) (fun _ h9 => h9) rfl px_d356_31 ?_
    refine va_alen (v := nI l_y) hx hb hK hP 2 1 rfl rfl rfl px_d356_34 ?_
    refine lv_icmp_le (tgt := 56) hx hb px_d356_35 (by decide) (fun c35 => ?_) (fun c35 => ?_)
    · have hw := hw.1 c35
      exact S56 a1x a2x a3x a4x a5x d_fed d_refusedAt d_reason d_stamps d_spare q_y l_y g_y q_o l_o o_reached g_o g_t mm 0 0 H locs ls (Nat.zero_le mc) (Nat.zero_le ms) hP hD hS (lv_sub hl [0, 1, 2, 3, 4, 5] rfl) hw
    · have hw := hw.2 c35
      refine lv_aload_n hx hb px_d356_38 rfl (lv_at hl 0 rfl) ?_
      refine lv_aload_n hx hb px_d356_39 rfl (lv_at hl 0 rfl) ?_
      refine va_get (D := (dC, dI)) (ci := 0) (v := .ref q_y) (C := "MatroidDesk") (T := px_T0) (N := 14) hx hb htw px_in0 hown hK hP 0 rfl rfl 0 (by decide) (htw _ px_w237) (fun _ h9 => h9) rfl px_d356_40 ?_
      refine lv_iconst (v := 2) hx hb px_d356_43 (by decide) ?_
      refine lv_aload_n hx hb px_d356_44 rfl (lv_at hl 0 rfl) ?_
      refine va_get (D := (dC, dI)) (ci := 0) (v := .ref q_y) (C := "MatroidDesk") (T := px_T0) (N := 14) hx hb htw px_in0 hown hK hP 0 rfl rfl 0 (by decide) (htw _ px_w237) (fun _ h9 => h9) rfl px_d356_45 ?_
      refine va_alen (v := nI l_y) hx hb hK hP 2 1 rfl rfl rfl px_d356_48 ?_
      refine lv_imul hx hb px_d356_49 ?_
      obtain ⟨m50_68, s50_68, hm50_68, hs50_68, hw⟩ := hw
      have hPc := hP.sub (ws' := [(q_y, .inl (cc.2.2.2.1, l_y, .inl g_y))]) [2] rfl
      have hDc := hD.sub (ws' := [(q_y, .inl (cc.2.2.2.1, l_y, .inl g_y))]) [2] (by decide) rfl
      have hFc := va_free (wc := [(q_y, .inl (cc.2.2.2.1, l_y, .inl g_y))]) hD hS hA [2] rfl
      have hKc := hK.sub (tys' := [(cc.2.2.2.1, .byte)]) [1] rfl
      refine va_callq (va_runS (As := [.ref q_y, .int (2 * (nI l_y))]) (rest := [.ref h_d]) ⟨hx, hb, hml, hown, htw⟩ (w200_met l dC dI H.size q_y l_y cc.2.2.2.1 m50_68 s50_68 (2 * (nI l_y)) g_y _ hw) (va_cwS 2 htw (px_gs2 px_w1731 px_w1110 px_w1752 px_g200) rfl rfl rfl (by decide +kernel) ⟨Nat.le_of_ble_eq_true rfl, Nat.le_of_ble_eq_true rfl⟩) ⟨fun a U g mk q => by obtain ⟨q0, q1, qP, qK, qD, qN⟩ := q; exact ⟨q0, q1, qP, va_K.moved (u := U) (U := U.calling g mk a) (Vm.Alike.refl U.vm) qK, qD, qN.same rfl⟩, fun U hU hW => ⟨rfl, by rw [hU], by rw [hU]; exact hPc, va_K.moved hW.alike hKc, hDc.weaken (fun _ _ _ _ => trivial), hN.warm hW⟩⟩ rfl rfl hl.1 rfl (lv_room (Nat.le_of_ble_eq_true rfl)) px_d356_50 ⟨hm50_68, hs50_68⟩) hS (fun q _ h => hFc q h) hFc (fun r9 u t H1 locs ht hvm hw hB hz1 hk1 hS => ?_)
      obtain ⟨nq50_67, nn50_67, nf50_67, v66⟩ := u
      obtain ⟨hr9, hw⟩ := hw
      subst hr9
      obtain ⟨hP1, hK1, hD1⟩ := hB
      rw [ht] at hP1
      obtain ⟨hP, hD⟩ := va_joinQ (wr := [(h_d, .inr (0, [.ref q_y, .int d_fed, .int d_refusedAt, .int d_reason, .int d_stamps, va_rf (Option.map hm d_spare), .ref q_ms, .ref q_e, .ref ho, .ref h_m, .ref h_w, .ref h_t, .ref h_s, .ref h_p])), (q_ms, .inl (c_ms, 26, .inr (.inr (.inr (.inr (px_mo hm d_lm)))))), (ho, .inr (1, [.ref q_o, .ref q_t, .int o_reached])), (q_o, .inl (cc.2.1, l_o, .inl g_o)), (q_t, .inl (cc.2.1, 182, .inl g_t))]) (w1 := [(q_y, .inl (cc.2.2.2.1, l_y, .inl v66)), (nq50_67, .inl (cc.2.2.2.1, nn50_67, .inl nf50_67))]) hP hD [2] [0, 1, 3, 4, 5] rfl rfl (by decide) (by decide) hk1 hFc hP1 hD1
      generalize H1 = H at hP hS ⊢
      have hP : va_P (dC, dI) vwCl (([(h_d, .inr (0, [.ref q_y, .int d_fed, .int d_refusedAt, .int d_reason, .int d_stamps, va_rf (Option.map hm d_spare), .ref q_ms, .ref q_e, .ref ho, .ref h_m, .ref h_w, .ref h_t, .ref h_s, .ref h_p])), (q_ms, .inl (c_ms, 26, .inr (.inr (.inr (.inr (px_mo hm d_lm)))))), (ho, .inr (1, [.ref q_o, .ref q_t, .int o_reached])), (q_o, .inl (cc.2.1, l_o, .inl g_o)), (q_t, .inl (cc.2.1, 182, .inl g_t)), (q_y, .inl (cc.2.2.2.1, l_y, .inl v66)), (nq50_67, .inl (cc.2.2.2.1, nn50_67, .inl nf50_67))] : va_W) ++ px_cp cc ho cm np ns hm pa sa mm pp ss) H := hP
      have hD : va_D A (([(h_d, .inr (0, [.ref q_y, .int d_fed, .int d_refusedAt, .int d_reason, .int d_stamps, va_rf (Option.map hm d_spare), .ref q_ms, .ref q_e, .ref ho, .ref h_m, .ref h_w, .ref h_t, .ref h_s, .ref h_p])), (q_ms, .inl (c_ms, 26, .inr (.inr (.inr (.inr (px_mo hm d_lm)))))), (ho, .inr (1, [.ref q_o, .ref q_t, .int o_reached])), (q_o, .inl (cc.2.1, l_o, .inl g_o)), (q_t, .inl (cc.2.1, 182, .inl g_t)), (q_y, .inl (cc.2.2.2.1, l_y, .inl v66)), (nq50_67, .inl (cc.2.2.2.1, nn50_67, .inl nf50_67))] : va_W) ++ px_cp cc ho cm np ns hm pa sa mm pp ss) := hD
      refine W.eq (g2 := F0 m 53 ls (.ref nq50_67 :: [.ref h_d])) rfl ?_
      have hP := hP.part (cx := [(h_d, .inr (0, [.ref q_y, .int d_fed, .int d_refusedAt, .int d_reason, .int d_stamps, va_rf (Option.map hm d_spare), .ref q_ms, .ref q_e, .ref ho, .ref h_m, .ref h_w, .ref h_t, .ref h_s, .ref h_p])), (q_ms, .inl (c_ms, 26, .inr (.inr (.inr (.inr (px_mo hm d_lm)))))), (q_y, .inl (cc.2.2.2.1, l_y, .inl v66)), (ho, .inr (1, [.ref q_o, .ref q_t, .int o_reached])), (q_o, .inl (cc.2.1, l_o, .inl g_o)), (q_t, .inl (cc.2.1, 182, .inl g_t)), (nq50_67, .inl (cc.2.2.2.1, nn50_67, .inl nf50_67))]) [0, 1, 5, 2, 3, 4, 6] rfl
      have hD := hD.part (cx := [(h_d, .inr (0, [.ref q_y, .int d_fed, .int d_refusedAt, .int d_reason, .int d_stamps, va_rf (Option.map hm d_spare), .ref q_ms, .ref q_e, .ref ho, .ref h_m, .ref h_w, .ref h_t, .ref h_s, .ref h_p])), (q_ms, .inl (c_ms, 26, .inr (.inr (.inr (.inr (px_mo hm d_lm)))))), (q_y, .inl (cc.2.2.2.1, l_y, .inl v66)), (ho, .inr (1, [.ref q_o, .ref q_t, .int o_reached])), (q_o, .inl (cc.2.1, l_o, .inl g_o)), (q_t, .inl (cc.2.1, 182, .inl g_t)), (nq50_67, .inl (cc.2.2.2.1, nn50_67, .inl nf50_67))]) [0, 1, 5, 2, 3, 4, 6] (by decide) rfl
      refine va_put (D := (dC, dI)) (ci := 0) (v := .ref nq50_67) (ty := (.array .byte)) (C := "MatroidDesk") (T := px_T0) (N := 14) hx hb htw px_in0 px_ty0 px_tyok0 px_nm0 hown hK hP hD hS 0 rfl rfl 0 (by decide) (htw _ px_w237) (fun _ h9 => h9) rfl (by decide +kernel) rfl rfl (Nat.le_of_ble_eq_true rfl) px_d356_53 (fun H locs hP hD hS => ?_)
      have hP : va_P (dC, dI) vwCl (([(h_d, .inr (0, [.ref nq50_67, .int d_fed, .int d_refusedAt, .int d_reason, .int d_stamps, va_rf (Option.map hm d_spare), .ref q_ms, .ref q_e, .ref ho, .ref h_m, .ref h_w, .ref h_t, .ref h_s, .ref h_p])), (q_ms, .inl (c_ms, 26, .inr (.inr (.inr (.inr (px_mo hm d_lm)))))), (q_y, .inl (cc.2.2.2.1, l_y, .inl v66)), (ho, .inr (1, [.ref q_o, .ref q_t, .int o_reached])), (q_o, .inl (cc.2.1, l_o, .inl g_o)), (q_t, .inl (cc.2.1, 182, .inl g_t)), (nq50_67, .inl (cc.2.2.2.1, nn50_67, .inl nf50_67))] : va_W) ++ px_cp cc ho cm np ns hm pa sa mm pp ss) H := hP
      have hD : va_D A (([(h_d, .inr (0, [.ref nq50_67, .int d_fed, .int d_refusedAt, .int d_reason, .int d_stamps, va_rf (Option.map hm d_spare), .ref q_ms, .ref q_e, .ref ho, .ref h_m, .ref h_w, .ref h_t, .ref h_s, .ref h_p])), (q_ms, .inl (c_ms, 26, .inr (.inr (.inr (.inr (px_mo hm d_lm)))))), (q_y, .inl (cc.2.2.2.1, l_y, .inl v66)), (ho, .inr (1, [.ref q_o, .ref q_t, .int o_reached])), (q_o, .inl (cc.2.1, l_o, .inl g_o)), (q_t, .inl (cc.2.1, 182, .inl g_t)), (nq50_67, .inl (cc.2.2.2.1, nn50_67, .inl nf50_67))] : va_W) ++ px_cp cc ho cm np ns hm pa sa mm pp ss) := hD
      have hP := hP.part (cx := [(h_d, .inr (0, [.ref nq50_67, .int d_fed, .int d_refusedAt, .int d_reason, .int d_stamps, va_rf (Option.map hm d_spare), .ref q_ms, .ref q_e, .ref ho, .ref h_m, .ref h_w, .ref h_t, .ref h_s, .ref h_p])), (q_ms, .inl (c_ms, 26, .inr (.inr (.inr (.inr (px_mo hm d_lm)))))), (nq50_67, .inl (cc.2.2.2.1, nn50_67, .inl nf50_67)), (ho, .inr (1, [.ref q_o, .ref q_t, .int o_reached])), (q_o, .inl (cc.2.1, l_o, .inl g_o)), (q_t, .inl (cc.2.1, 182, .inl g_t))]) [0, 1, 6, 3, 4, 5] rfl
      have hD := hD.part (cx := [(h_d, .inr (0, [.ref nq50_67, .int d_fed, .int d_refusedAt, .int d_reason, .int d_stamps, va_rf (Option.map hm d_spare), .ref q_ms, .ref q_e, .ref ho, .ref h_m, .ref h_w, .ref h_t, .ref h_s, .ref h_p])), (q_ms, .inl (c_ms, 26, .inr (.inr (.inr (.inr (px_mo hm d_lm)))))), (nq50_67, .inl (cc.2.2.2.1, nn50_67, .inl nf50_67)), (ho, .inr (1, [.ref q_o, .ref q_t, .int o_reached])), (q_o, .inl (cc.2.1, l_o, .inl g_o)), (q_t, .inl (cc.2.1, 182, .inl g_t))]) [0, 1, 6, 3, 4, 5] (by decide) rfl
      exact S56 a1x a2x a3x a4x a5x d_fed d_refusedAt d_reason d_stamps d_spare nq50_67 nn50_67 nf50_67 q_o l_o o_reached g_o g_t mm (0 + m50_68) (0 + s50_68) H locs ls hm50_68 hs50_68 hP hD hS (lv_sub hl [0, 1, 2, 3, 4, 5] rfl) hw
  · have hw := hw.2 c10
    exact False.elim hw

/-! MatroidDesk.end(I)I  -/
def w360_L12 (post : Int32 → Int32 → Int32 → Int32 → Int32 → Option Nat → Prop) (d_fed : Int32) (d_refusedAt : Int32) (d_reason : Int32) (d_stamps : Int32) (d_spare : Option Nat) : Prop := False
def w360_wp (post : Int32 → Int32 → Int32 → Int32 → Int32 → Option Nat → Prop) (a1x : Int32) (d_fed : Int32) (d_refusedAt : Int32) (d_reason : Int32) (d_stamps : Int32) (d_spare : Option Nat) : Prop := (a1x < 0 → w360_L12 post d_fed d_refusedAt d_reason d_stamps d_spare) ∧ (¬ a1x < 0 → (a1x ≤ d_fed → post d_fed a1x d_refusedAt d_reason d_stamps d_spare) ∧ (¬ a1x ≤ d_fed → w360_L12 post d_fed d_refusedAt d_reason d_stamps d_spare))
set_option maxHeartbeats 8000000 in
set_option maxRecDepth 100000 in
theorem w360_met (l : Launch) (dC : Nat → ClassId) (dI : Nat → Nat → Nat) (sz : Nat) (h_d : Nat) (q_y : Nat) (q_ms : Nat) (q_e : Nat) (h_m : Nat) (h_w : Nat) (h_t : Nat) (h_s : Nat) (h_p : Nat) (ho : Nat) (hm : Nat → Nat) (a1x : Int32) (d_fed : Int32) (d_refusedAt : Int32) (d_reason : Int32) (d_stamps : Int32) (d_spare : Option Nat) (post : Int32 → Int32 → Int32 → Int32 → Int32 → Option Nat → Prop) (hw : w360_wp post a1x d_fed d_refusedAt d_reason d_stamps d_spare) : Met l px_y360 px_s360 ({ frames := 0, cells := 0, slots := 0, locals := 0 }) (va_Pc [.ref h_d, .int a1x] (fun U => U.heap.size = sz ∧ va_P (dC, dI) vwCl [(h_d, .inr (0, [.ref q_y, .int d_fed, .int d_refusedAt, .int d_reason, .int d_stamps, va_rf (Option.map hm d_spare), .ref q_ms, .ref q_e, .ref ho, .ref h_m, .ref h_w, .ref h_t, .ref h_s, .ref h_p]))] U.heap ∧ va_K (dC, dI) vwCl [] U ∧ va_D (fun _ => True) [(h_d, .inr (0, [.ref q_y, .int d_fed, .int d_refusedAt, .int d_reason, .int d_stamps, va_rf (Option.map hm d_spare), .ref q_ms, .ref q_e, .ref ho, .ref h_m, .ref h_w, .ref h_t, .ref h_s, .ref h_p]))] ∧ px_N U)) (va_Qi (fun (r : Int32) (u : Int32 × Int32 × Int32 × Int32 × Option Nat) => post r u.1 u.2.1 u.2.2.1 u.2.2.2.1 u.2.2.2.2) (fun (u : Int32 × Int32 × Int32 × Int32 × Option Nat) (t : State) => va_P (dC, dI) vwCl [(h_d, .inr (0, [.ref q_y, .int u.1, .int u.2.1, .int u.2.2.1, .int u.2.2.2.1, va_rf (Option.map hm u.2.2.2.2), .ref q_ms, .ref q_e, .ref ho, .ref h_m, .ref h_w, .ref h_t, .ref h_s, .ref h_p]))] t.heap ∧ va_K (dC, dI) vwCl [] t ∧ va_D (va_A [(h_d, .inr (0, [.ref q_y, .int d_fed, .int d_refusedAt, .int d_reason, .int d_stamps, va_rf (Option.map hm d_spare), .ref q_ms, .ref q_e, .ref ho, .ref h_m, .ref h_w, .ref h_t, .ref h_s, .ref h_p]))] sz) [(h_d, .inr (0, [.ref q_y, .int u.1, .int u.2.1, .int u.2.2.1, .int u.2.2.2.1, va_rf (Option.map hm u.2.2.2.2), .ref q_ms, .ref q_e, .ref ho, .ref h_m, .ref h_w, .ref h_t, .ref h_s, .ref h_p]))]) (va_A [(h_d, .inr (0, [.ref q_y, .int d_fed, .int d_refusedAt, .int d_reason, .int d_stamps, va_rf (Option.map hm d_spare), .ref q_ms, .ref q_e, .ref ho, .ref h_m, .ref h_w, .ref h_t, .ref h_s, .ref h_p]))] sz)) 0 0 (va_A [(h_d, .inr (0, [.ref q_y, .int d_fed, .int d_refusedAt, .int d_reason, .int d_stamps, va_rf (Option.map hm d_spare), .ref q_ms, .ref q_e, .ref ho, .ref h_m, .ref h_w, .ref h_t, .ref h_s, .ref h_p]))] sz) := by
  refine Met.ofW (cc := prog_1_method_3_code) (maxL := 3) (ret := (some .int)) (by decide) rfl ?_
  intro p e s m args below meth c s₁ B hml hv
  obtain ⟨rfl, hsz, hP, hK, hD0, hN⟩ := hv
  have hx := B.exec
  have hb := B.bytes
  have hr := B.returns
  have htw : ∀ w ∈ px_all, w.before _ s = true := fun w h => atoms_spec (ws := px_s360) B.pre w (List.mem_cons_of_mem _ h)
  have hown : s.vm.findClass "MatroidDesk" = some m.cls := findClass_of_methodNamed B.named
  have hlocks := B.notSynchronized
  subst hsz
  have hD := hD0.self (sz := s.heap.size)
  generalize hAe : va_A [(h_d, .inr (0, [.ref q_y, .int d_fed, .int d_refusedAt, .int d_reason, .int d_stamps, va_rf (Option.map hm d_spare), .ref q_ms, .ref q_e, .ref ho, .ref h_m, .ref h_w, .ref h_t, .ref h_s, .ref h_p]))] s.heap.size = A at hD ⊢
  have hA : ∀ q : Nat, s.heap.size ≤ q → A q := fun q h => by rw [← hAe]; exact Or.inr h
  have hS : va_S A s.heap s.heap [] := va_S.rf
  have hP : va_P (dC, dI) vwCl [(h_d, .inr (0, [.ref q_y, .int d_fed, .int d_refusedAt, .int d_reason, .int d_stamps, va_rf (Option.map hm d_spare), .ref q_ms, .ref q_e, .ref ho, .ref h_m, .ref h_w, .ref h_t, .ref h_s, .ref h_p]))] s.heap := hP
  have hl := lv_entry ([.ref h_d, .int a1x]) (n := 3) (Nat.le_of_ble_eq_true rfl)
  rw [lg_entry_eq]
  generalize (lg_sl ([.ref h_d, .int a1x]) ++ List.replicate (3 - (lg_sl ([.ref h_d, .int a1x])).length) Slot.unset).toArray = ls at hl ⊢
  have hl : lv_has ls 3 [(0, .ref h_d), (1, .int a1x)] := hl
  generalize hQ : MQ _ _ _ _ _ _ _ = Q
  have S12 : ∀ (d_fed : Int32) (d_refusedAt : Int32) (d_reason : Int32) (d_stamps : Int32) (d_spare : Option Nat) (H : Heap) (locs : List Loc) (ls : Array Slot), va_P (dC, dI) vwCl [(h_d, .inr (0, [.ref q_y, .int d_fed, .int d_refusedAt, .int d_reason, .int d_stamps, va_rf (Option.map hm d_spare), .ref q_ms, .ref q_e, .ref ho, .ref h_m, .ref h_w, .ref h_t, .ref h_s, .ref h_p]))] H → va_D A [(h_d, .inr (0, [.ref q_y, .int d_fed, .int d_refusedAt, .int d_reason, .int d_stamps, va_rf (Option.map hm d_spare), .ref q_ms, .ref q_e, .ref ho, .ref h_m, .ref h_w, .ref h_t, .ref h_s, .ref h_p]))] → va_S A s.heap H locs → lv_has ls 3 [] → w360_L12 post d_fed d_refusedAt d_reason d_stamps d_spare → W p l e (headSpec px_s360 ({ frames := 0, cells := 0, slots := 0, locals := 0 })).room s m ([.ref h_d, .int a1x]).toArray below meth c H locs 0 0 Q (F0 m 12 ls []) := by
    intro d_fed d_refusedAt d_reason d_stamps d_spare H locs ls hP hD hS hl hw
    unfold w360_L12 at hw
    exact False.elim hw
  unfold w360_wp at hw
  have hS0 := hS
  obtain ⟨H, hH9⟩ : ∃ z, z = s.heap := ⟨_, rfl⟩
  have hP : va_P (dC, dI) vwCl [(h_d, .inr (0, [.ref q_y, .int d_fed, .int d_refusedAt, .int d_reason, .int d_stamps, va_rf (Option.map hm d_spare), .ref q_ms, .ref q_e, .ref ho, .ref h_m, .ref h_w, .ref h_t, .ref h_s, .ref h_p]))] H := by rw [hH9]; exact hP
  obtain ⟨locs, hlo9⟩ : ∃ z : List Loc, z = [] := ⟨_, rfl⟩
  have hS : va_S A s.heap H locs := by rw [hH9, hlo9]; exact hS
  suffices hG : W p l e (headSpec px_s360 ({ frames := 0, cells := 0, slots := 0, locals := 0 })).room s m ([.ref h_d, .int a1x]).toArray below meth c H locs 0 0 Q (F0 m 0 ls []) by rw [hH9, hlo9] at hG; exact hG
  refine lv_iload_n hx hb px_d360_0 rfl (lv_at hl 1 rfl) ?_
  refine lv_if_lt (tgt := 12) hx hb px_d360_1 (by decide) (fun c1 => ?_) (fun c1 => ?_)
  · have hw := hw.1 c1
    exact S12 d_fed d_refusedAt d_reason d_stamps d_spare H locs ls hP hD hS (lv_sub hl [] rfl) hw
  · have hw := hw.2 c1
    refine lv_iload_n hx hb px_d360_4 rfl (lv_at hl 1 rfl) ?_
    refine lv_aload_n hx hb px_d360_5 rfl (lv_at hl 0 rfl) ?_
    refine va_get (D := (dC, dI)) (ci := 0) (v := .int d_fed) (C := "MatroidDesk") (T := px_T0) (N := 14) hx hb htw px_in0 hown hK hP 0 rfl rfl 1 (by decide) (htw _ px_w238) (fun _ h9 => h9) rfl px_d360_6 ?_
    refine lv_icmp_le (tgt := 22) hx hb px_d360_9 (by decide) (fun c9 => ?_) (fun c9 => ?_)
    · have hw := hw.1 c9
      refine lv_aload_n hx hb px_d360_22 rfl (lv_at hl 0 rfl) ?_
      refine va_get (D := (dC, dI)) (ci := 0) (v := .int d_fed) (C := "MatroidDesk") (T := px_T0) (N := 14) hx hb htw px_in0 hown hK hP 0 rfl rfl 1 (by decide) (htw _ px_w238) (fun _ h9 => h9) rfl px_d360_23 ?_
      refine lv_istore_n (lv' := [(2, .int d_fed), (0, .ref h_d), (1, .int a1x)]) hx hb px_d360_26 rfl hl (by decide) rfl (fun ls hl => ?_)
      refine lv_aload_n hx hb px_d360_27 rfl (lv_at hl 1 rfl) ?_
      refine lv_iload_n hx hb px_d360_28 rfl (lv_at hl 2 rfl) ?_
      refine va_put (D := (dC, dI)) (ci := 0) (v := .int a1x) (ty := .int) (C := "MatroidDesk") (T := px_T0) (N := 14) hx hb htw px_in0 px_ty0 px_tyok0 px_nm0 hown hK hP hD hS 0 rfl rfl 1 (by decide) (htw _ px_w238) (fun _ h9 => h9) rfl (by decide +kernel) rfl rfl (Nat.le_of_ble_eq_true rfl) px_d360_29 (fun H locs hP hD hS => ?_)
      have hP : va_P (dC, dI) vwCl [(h_d, .inr (0, [.ref q_y, .int a1x, .int d_refusedAt, .int d_reason, .int d_stamps, va_rf (Option.map hm d_spare), .ref q_ms, .ref q_e, .ref ho, .ref h_m, .ref h_w, .ref h_t, .ref h_s, .ref h_p]))] H := hP
      have hD : va_D A [(h_d, .inr (0, [.ref q_y, .int a1x, .int d_refusedAt, .int d_reason, .int d_stamps, va_rf (Option.map hm d_spare), .ref q_ms, .ref q_e, .ref ho, .ref h_m, .ref h_w, .ref h_t, .ref h_s, .ref h_p]))] := hD
      refine lv_iload_n hx hb px_d360_32 rfl (lv_at hl 0 rfl) ?_
      rw [← hQ]
      exact W.iret (v := d_fed) hx hb hr (fun t ht hW => ⟨⟨d_fed, (a1x, d_refusedAt, d_reason, d_stamps, d_spare), rfl, hw, by rw [ht]; exact hP, va_K.moved hW.alike hK, hD⟩, hS.F ht⟩) hS.2.2 px_d360_33
    · have hw := hw.2 c9
      exact S12 d_fed d_refusedAt d_reason d_stamps d_spare H locs ls hP hD hS (lv_sub hl [] rfl) hw

