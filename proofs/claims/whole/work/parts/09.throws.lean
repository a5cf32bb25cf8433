/-! ===== throws: the contract of a method that throws, the row of 'athrow', a call that throws and is caught in the caller's own table ===== -/
def xt_MQ (below : List Frame) (Qt : Array Value → State → Addr → State → Prop) (a : Array Value) (s : State) (mc ms : Nat) (free : Addr → Prop) : State → Prop := fun t =>
  ∃ x : Addr, t.status = .running ∧ Ended t below (.threw x) ∧ Qt a s x t ∧ ∃ L : List Loc, (s.WarmedH t.vm ∧ s.sameButNew ({ t with vm := s.vm } : State) L mc ms) ∧ ∀ q ∈ L, free q.base
def xt_Met (l : Launch) (y : MethodName) (ws : List Cond) (rm : Room) (Pc : Array Value → State → Prop) (Qt : Array Value → State → Addr → State → Prop) (mc ms : Nat) (free : Addr → Prop) : Prop :=
  MetFree l y (headSpec ws rm) Pc (fun _ _ _ _ _ => True) (fun a st o t => ∃ x : Addr, o = .threw x ∧ Qt a st x t ∧ ∃ L : List Loc, (st.WarmedH t.vm ∧ st.sameButNew ({ t with vm := st.vm } : State) L mc ms) ∧ ∀ q ∈ L, free q.base)
theorem xt_ofW {l : Launch} {y : MethodName} {ws ws' : List Cond} {rm : Room} {Pc : Array Value → State → Prop} {Qt : Array Value → State → Addr → State → Prop} {mc ms : Nat} {free : Addr → Prop} {cc : ByteArray} {maxL : Nat} {ret : Option FieldType}
    (hy : plainName y.cls = true) (hw : ws = Cond.code y cc maxL ret :: ws')
    (body : ∀ p e s m args below meth c s₁, BodyLoose p l y (headSpec ws rm) cc maxL ret e s m args below meth c s₁ → c.maxLocals = maxL → Pc args s →
      W p l e (headSpec ws rm).room s m args below meth c s.heap [] 0 0 (xt_MQ below Qt args s mc ms free) (entryFrame m args maxL)) : xt_Met l y ws rm Pc Qt mc ms free := by
  refine MetFree.of_bodyS (code := cc) (maxLocals := maxL) (ret := ret) hy ?_ ?_
  · intro args s m h hn
    obtain ⟨meth, c, h1, h2, h3, h4, h5, h6, -, -⟩ := Cond.code_spec hn (atoms_spec (ws := ws) h _ (by rw [hw]; exact List.mem_cons_self))
    exact ⟨meth, c, h1, h2, h3, h4, h5, h6⟩
  · intro p e s m args below meth c s₁ B hml hP _
    have hh0 : s₁.heap = s.heap := by rw [B.state]; rfl
    obtain ⟨t, a1, x, b1, b2, b3, b4⟩ := body p e s m args below meth c s₁ B hml hP s₁ hh0 (Stand.of_body B)
    exact ⟨t, .threw x, a1, b1, b2, x, rfl, b3, b4⟩
section XT
variable {p : Program} {l : Launch} {e : Env} {R : Room} {s : State} {m : MethodId} {args : Array Value} {below : List Frame} {meth : Method} {c : Code} {H : Heap} {locs : List Loc} {cells slots : Nat} {Q : State → Prop}
variable {y : MethodName} {bytes cc : ByteArray} {maxL nL mc ms n index : Nat} {ret : Option FieldType} {ws : List Cond} {rm : Room} {Pc : Array Value → State → Prop} {Qt : Array Value → State → Addr → State → Prop} {free : Addr → Prop} {Ts : List Cond} {own C : String} {b : Addr} {As rest : List Value} {g : JFrame}
/-- the method's own end by a throw: it has no table -/
theorem xt_thr {pc : Nat} {ls : Array Slot} {a : Addr} (hexec : p.tables.exec = Jvm.exec) (hb : c.code = cc) (hne : c.exceptionTable.isEmpty = true) (hlocks : meth.locks = false)
    (hq : ∀ t : State, t.heap = H → s.WarmedH t.vm → Qt args s a t) (hf : ∀ q ∈ locs, free q.base) (hdg : decode cc pc = .ok (.athrow, 1)) :
    W p l e R s m args below meth c H locs cells slots (xt_MQ below Qt args s cells slots free) (F0 m pc ls (.ref a :: rest)) := by
  intro T hT X
  subst hb
  have hout : ∀ x ∈ c.exceptionTable.toList, covers x pc = false := by
    have h0 : c.exceptionTable.size = 0 := by simpa [Array.isEmpty] using hne
    have h1 : c.exceptionTable.toList = [] := List.eq_nil_of_length_eq_zero (by simpa using h0)
    intro x hx
    rw [h1] at hx
    cases hx
  obtain ⟨h1, h2, h3, h4, h5⟩ := X.athrowLeaves hexec (g := F0 m pc ls (.ref a :: rest)) rfl rfl rfl hout (a := a) (rest := rest) rfl hdg hlocks
  exact ⟨_, h1, a, h2, h3, hq _ hT h4, locs, ⟨h4, h5⟩, hf⟩
/-- the call of a method that throws comes back with the exception laid over the caller's frame -/
theorem xt_back {len Wt : Nat} {U : State} {ig : Instr} {mk : MethodId} {a : Array Value} (hM : xt_Met l y ws rm Pc Qt mc ms free) (hblind : FrameBlind Pc) (hrc : rm.cells = mc) (hrs : rm.slots = ms)
    (hframes : rm.frames + 1 ≤ R.frames) (hlocals : Wt + (maxL + 11) + rm.locals ≤ R.locals)
    (hws : ∀ w ∈ ws, ∀ (a' : Array Value) (U : State), s.WarmedH U.vm → w.before a' U = true) (hcode : Cond.code y bytes maxL ret ∈ ws) (hinit : ∀ (a' : Array Value) (U : State), s.WarmedH U.vm → (Cond.initialized y.cls).before a' U = true)
    (X : Stand p l e R s m args below meth c U locs cells slots) (hg : g.method = m) (hsize : g.locals.size = c.maxLocals) (hdg : decode c.code g.pc = .ok (ig, len))
    (hWt : 2 * g.monitorRoom + (g.stack.map fun v => v.category).sum ≤ Wt) (hn : U.methodNamed? y = some mk) (hc1 : cells + mc ≤ R.cells) (hc2 : slots + ms ≤ R.slots) (hp : Pc a U) :
    ∃ (x : Addr) (t U' : State) (L : List Loc), Stand p l e R s m args below meth c U' (locs ++ L) (cells + mc) (slots + ms) ∧ U'.heap = t.heap ∧ U'.vm = t.vm ∧ Qt a (U.calling g mk a) x t ∧ (∀ q ∈ L, free q.base) ∧
      Steps p.tables e below (doInvoke e (U.setTop g) [] mk a).1 ((U'.setTop g).pushFrame (.throwing x)) := by
  have hw : ∀ w ∈ ws, w.before a U = true := fun w h => hws w h a U X.warmed
  obtain ⟨methY, cY, hmY, hcY, -, hlY, -, -, -, -⟩ := Cond.code_spec hn (hw _ hcode)
  obtain ⟨kY, hkY, -⟩ := className_of_methodNamed hn
  have hiY : kY.init = .initialized := Cond.initialized_spec (findClass_of_methodNamed hn) hkY (hinit a U X.warmed)
  have h : At U g.method c below := by rw [hg]; exact X.here
  have happ : (headSpec ws rm).appliesLoose y e.platform (U.calling g mk a) = true :=
    Spec.appliesLoose_calling (g := g) h hdg hn hkY hiY
      (X.room_calling (g := g) (R' := rm) hsize hmY hcY hframes (by rw [hlY]; omega) (by rw [hrc]; exact hc1) (by rw [hrs]; exact hc2)) (atoms_intro hw)
  obtain ⟨mid, hmid⟩ := h.above
  have hfr : (U.setTop g).frames = (.java g :: mid) ++ below := by rw [State.frames_setTop' g h.top, hmid]; rfl
  obtain ⟨o, s2, hsteps, -, hend, hq0⟩ := Steps.callFree hM p X.admits X.cas X.clock (acts := []) hfr happ (hblind _ _ _ _ hp) trivial
  have hq1 : ∃ x : Addr, o = .threw x ∧ Qt a (U.calling g mk a) x s2 ∧ ∃ L : List Loc, ((U.calling g mk a).WarmedH s2.vm ∧ (U.calling g mk a).sameButNew ({ s2 with vm := (U.calling g mk a).vm } : State) L mc ms) ∧ ∀ q ∈ L, free q.base := hq0
  obtain ⟨x, rfl, hq, L, ⟨hW2, hsame⟩, hL⟩ := hq1
  rw [State.frames_setTop' g h.top] at hend
  have hf2 : s2.frames = .throwing x :: .java g :: U.frames.tail := hend
  have hWU : U.WarmedH s2.vm := hW2
  obtain ⟨e2, q2, q3, q4, q5, q6⟩ := hsame
  have e3 : s2 = ({ (U.calling g mk a).setFrames s2.frames with heap := s2.heap, slotsUsed := s2.slotsUsed } : State).setVm s2.vm := by
    have e4 : s2 = ({ s2 with vm := (U.calling g mk a).vm } : State).setVm s2.vm := rfl
    rw [e2] at e4
    exact e4
  obtain ⟨g0, hg0⟩ := Option.isSome_iff_exists.mp h.top
  obtain ⟨r, hr⟩ := State.topJava?_eq_some.mp hg0
  have hs2 : s2 = ((({ U with heap := s2.heap, slotsUsed := s2.slotsUsed } : State).setVm s2.vm).setTop g).pushFrame (.throwing x) := by
    have hr2 : (({ U with heap := s2.heap, slotsUsed := s2.slotsUsed } : State).setVm s2.vm).frames = .java g0 :: r := hr
    refine e3.trans ?_
    rw [hf2, State.calling_eq h.top, State.setFrames_setFrames, State.pushFrame, State.frames_setTop _ hr2, State.setTop_of_frames _ hr2, State.setFrames_setFrames, hr]
    rfl
  have hsU : U.sameButNew ({ U with heap := s2.heap, slotsUsed := s2.slotsUsed } : State) L mc ms := by
    refine ⟨?_, q2, q3, q4, q5, q6⟩
    obtain ⟨tt, ht, -⟩ := State.frames_cons hr
    show ({ U with heap := s2.heap, slotsUsed := s2.slotsUsed } : State) = { U.setFrames U.frames with heap := s2.heap, slotsUsed := s2.slotsUsed }
    rw [State.setFrames_self ht]
  subst hg
  refine ⟨x, s2, (({ U with heap := s2.heap, slotsUsed := s2.slotsUsed } : State).setVm s2.vm), L,
    ⟨X.admits, X.cas, X.clock, X.frames, X.room, X.hears, X.method, X.code, (X.here.setHeapUsed s2.heap s2.slotsUsed).setVm hWU.alike, X.tail, State.WarmedH.trans X.warmed hWU, X.limits, X.bytes, X.same.trans (hsU.setVm s.vm)⟩, rfl, rfl, hq, hL, ?_⟩
  rw [← hs2]
  exact hsteps
/-- what the search for a handler gives, and the tables that it leaves -/
def xt_Fd (e : Env) (s : State) (f : JFrame) (a : Addr) (h : Handler) (vm' : Vm) : Prop :=
  ∀ (Q : Handler → Pre) (E : CtlPost) (d : Bool) (acts : List Action), wp (findHandler f a) Q E e d acts s ↔ Q h d acts (s.setVm vm')
/-- one row of the table whose class is linked: it takes the object, or the search goes on -/
theorem xt_row {U : State} {f : JFrame} {a : Addr} {Qh : Handler → Pre} {E : CtlPost} {d : Bool} {acts : List Action} {x : ExceptionTableEntry} {tl : List ExceptionTableEntry} {cT : ClassId} {cell : Cell} (hx : covers x f.pc = true) (h0 : x.catchType ≠ 0)
    (hl : U.vm.ClassLinks e.platform f.method.cls x.catchType cT) (hcell : U.heap[a]? = some cell) (hobj : ∀ k, cell.vm ≠ .statics k)
    (hk : ∃ k, U.vm.classes[cell.cls]? = some k) (hc : ∃ k, U.vm.classes[cT]? = some k) :
    wp (findHandler.go f a (x :: tl)) Qh E e d acts U ↔ if U.vm.assignable cell.cls cT = true then Qh (.found x.handlerPc) d acts (U.setVm (U.vm.noted f.method.cls x.catchType (.cls cT))) else wp (findHandler.go f a tl) Qh E e d acts (U.setVm (U.vm.noted f.method.cls x.catchType (.cls cT))) := by
  simp only [covers] at hx
  obtain ⟨ha, ht⟩ := (resolveClass_links e.toSetting hl).op (op := VmOp.resolveClass f.method.cls x.catchType) rfl
  have hal : U.vm.Alike (U.vm.noted f.method.cls x.catchType (.cls cT)) := (Vm.Alike.refl U.vm).noted _ _ _
  obtain ⟨k1, hk1⟩ := hk
  obtain ⟨k2, hk2⟩ := hc
  obtain ⟨k1', hk1', -⟩ := hal.2.2 _ _ hk1
  obtain ⟨k2', hk2', -⟩ := hal.2.2 _ _ hk2
  have hfit : (U.vm.noted f.method.cls x.catchType (.cls cT)).assignable cell.cls cT = U.vm.assignable cell.cls cT := hal.assignable ..
  cases hq : U.vm.assignable cell.cls cT <;> rw [hq] at hfit <;>
    simp [findHandler.go, hx, h0, ha, ht, hcell, hobj, hk1', hk2', hfit, VmOp.dirties, VmOp.acts]
/-- from the note over the caller's frame to the handler: its first row, or its second where the first doesn't take the object; the rows' classes cold or warm -/
theorem xt_note {T : State} {a : Addr} {cell : Cell} {tx : String} {hpc : Nat} (X : Stand p l e R s m args below meth c T locs cells slots) (hg : g.method = m) (hown : s.vm.findClass own = some m.cls) (hcell : T.heap[a]? = some cell) (hobj : cell.vm.isStatics = false) (hcl : s.vm.findClass tx = some cell.cls)
    (hh : ∃ (x : ExceptionTableEntry) (tl : List ExceptionTableEntry) (nx : String), c.exceptionTable.toList = x :: tl ∧ covers x g.pc = true ∧ x.catchType ≠ 0 ∧ (Cond.classLink own x.catchType nx).before args s = true ∧
      ((x.handlerPc = hpc ∧ ∃ cT, s.vm.findClass nx = some cT ∧ s.vm.assignable cell.cls cT = true) ∨
       ((∃ cT, s.vm.findClass nx = some cT ∧ s.vm.assignable cell.cls cT = false) ∧ ∃ (y : ExceptionTableEntry) (t2 : List ExceptionTableEntry) (ny : String), tl = y :: t2 ∧ covers y g.pc = true ∧ y.catchType ≠ 0 ∧ y.handlerPc = hpc ∧ (Cond.classLink own y.catchType ny).before args s = true ∧ ∃ cT, s.vm.findClass ny = some cT ∧ s.vm.assignable cell.cls cT = true))) :
    ∃ vm' : Vm, Stand p l e R s m args below meth c (T.setVm vm') locs cells slots ∧ ∀ target, Steps p.tables e below ((T.setVm vm').setTop { g with pc := hpc, stack := [.ref a] }) target → Steps p.tables e below ((T.setTop g).pushFrame (.throwing a)) target := by
  have hpl : e.platform.magicAccessors = ({} : Platform).magicAccessors := by rw [X.admits.platform]
  obtain ⟨k0, hk0⟩ := Vm.classAt_of_findClass hcl
  have hob := VmData.ne_statics_of hobj
  subst hg
  have fin : ∀ vm' : Vm, s.WarmedH vm' → xt_Fd e ((T.setTop g).pushFrame (.throwing a)) g a (.found hpc) vm' → ∃ vm' : Vm, Stand p l e R s g.method args below meth c (T.setVm vm') locs cells slots ∧ ∀ target, Steps p.tables e below ((T.setVm vm').setTop { g with pc := hpc, stack := [.ref a] }) target → Steps p.tables e below ((T.setTop g).pushFrame (.throwing a)) target := by
    intro vm' hW hF
    refine ⟨vm', X.noted hW, fun target hrest => ?_⟩
    obtain ⟨hgo, hw⟩ := X.here.throwing a
    refine Steps.head hgo hw ?_
    have hstep : (stepThrowing e ((T.setTop g).pushFrame (.throwing a)) a (.java g :: T.frames.tail)).Is ((((T.setTop g).pushFrame (.throwing a)).setVm vm').setFrames (.java { g with pc := hpc, stack := [.ref a] } :: T.frames.tail)) [] := by
      simp only [stepThrowing, searchFrame, vmDo]
      generalize hr : Sem.go _ e false [] ((T.setTop g).pushFrame (.throwing a)) = res
      obtain ⟨as, rfl, ha⟩ := Sem.eq_ok_of hr (a := Handler.found hpc) (s' := ((T.setTop g).pushFrame (.throwing a)).setVm vm') (acts' := []) (by simp [hF _ _ _ _])
      exact ⟨rfl, ha⟩
    rw [stepThread_throwing (frames_entered X.here.top _), hstep.1]
    obtain ⟨g0, hg0⟩ := Option.isSome_iff_exists.mp X.here.top
    obtain ⟨r, hr⟩ := State.topJava?_eq_some.mp hg0
    have hr2 : (T.setVm vm').frames = .java g0 :: r := hr
    rw [State.setTop_of_frames _ hr2] at hrest
    have e1 : (((T.setTop g).pushFrame (.throwing a)).setVm vm').setFrames (.java { g with pc := hpc, stack := [.ref a] } :: T.frames.tail) = (T.setVm vm').setFrames (.java { g with pc := hpc, stack := [.ref a] } :: r) := by
      rw [State.pushFrame, State.setTop_of_frames _ hr, State.setFrames_setFrames, hr]
      show ((T.setVm vm').setFrames _).setFrames _ = _
      rw [State.setFrames_setFrames]
      rfl
    rw [e1]
    exact hrest
  obtain ⟨x, tl, nx, htab, hcx, hx0, hlx, hcase⟩ := hh
  obtain ⟨cx, hcx1, hlinkx⟩ := Cond.classLink_spec hown hlx e.platform hpl
  obtain ⟨dk, _, _, kt, hd, _, _, _, _, hkt, _, hopen⟩ := hlinkx.here
  have hal := X.warmed.alike
  obtain ⟨kt1, hkt1, -⟩ := hal.2.2 _ _ hkt
  obtain ⟨k1, hk1, -⟩ := hal.2.2 _ _ hk0
  have hW1 : s.WarmedH (T.vm.noted g.method.cls x.catchType (.cls cx)) := X.warmed.noted hd hopen (State.rightAt_cls hlinkx)
  rcases hcase with ⟨hp1, cT, hcT, hfit⟩ | ⟨⟨cT, hcT, hno⟩, y, t2, ny, htl, hcy, hy0, hp2, hly, cU, hcU, hfit⟩
  · cases hcT.symm.trans hcx1
    refine fin _ hW1 (fun Qh E d acts => ?_)
    rw [W.findHandler_eq (s := (T.setTop g).pushFrame (.throwing a)) (meth := meth) (code := c) X.method' X.code, htab,
      xt_row (U := (T.setTop g).pushFrame (.throwing a)) hcx hx0 (X.warmed.classLinks hlinkx) hcell hob ⟨k1, hk1⟩ ⟨kt1, hkt1⟩, if_pos (by show T.vm.assignable _ _ = true; rw [hal.assignable]; exact hfit), hp1]
    exact Iff.rfl
  · cases hcT.symm.trans hcx1
    obtain ⟨cy, hcy1, hlinky⟩ := Cond.classLink_spec hown hly e.platform hpl
    cases hcU.symm.trans hcy1
    obtain ⟨dk2, _, _, kt2, hd2, _, _, _, _, hkt2, _, hopen2⟩ := hlinky.here
    obtain ⟨kt3, hkt3, -⟩ := hW1.alike.2.2 _ _ hkt2
    obtain ⟨k3, hk3, -⟩ := hW1.alike.2.2 _ _ hk0
    have hW2 : s.WarmedH ((T.vm.noted g.method.cls x.catchType (.cls cx)).noted g.method.cls y.catchType (.cls cU)) := hW1.noted hd2 hopen2 (State.rightAt_cls hlinky)
    refine fin _ hW2 (fun Qh E d acts => ?_)
    rw [W.findHandler_eq (s := (T.setTop g).pushFrame (.throwing a)) (meth := meth) (code := c) X.method' X.code, htab,
      xt_row (U := (T.setTop g).pushFrame (.throwing a)) hcx hx0 (X.warmed.classLinks hlinkx) hcell hob ⟨k1, hk1⟩ ⟨kt1, hkt1⟩, if_neg (by show ¬ T.vm.assignable _ _ = true; rw [hal.assignable, hno]; decide), htl]
    refine (xt_row (U := ((T.setTop g).pushFrame (.throwing a)).setVm (T.vm.noted g.method.cls x.catchType (.cls cx))) hcy hy0 (hW1.classLinks hlinky) hcell hob ⟨k3, hk3⟩ ⟨kt3, hkt3⟩).trans ?_
    rw [if_pos (by show (T.vm.noted g.method.cls x.catchType (.cls cx)).assignable _ _ = true; rw [hW1.alike.assignable]; exact hfit), hp2]
    exact Iff.rfl
/-- the call of a method that throws, from a frame whose own table takes the exception -/
theorem xt_callV {pc hpc : Nat} {ls : Array Slot} {st0 : List Value} {A0 A1 : Nat → Prop} {H0 : Heap} {tx : String} {B : State → Prop} {hhs : List (Nat × Nat × Nat × Nat)} (S : CallFix p m c cc nL s args Ts own)
    (hM : xt_Met l y ws rm Pc Qt mc ms free) (cw : CallW R s args own C index y bytes maxL ret ws rm mc ms n) (hp : PreV s H C b Pc As)
    (hn : As.length = n) (hsize : ls.size = nL) (hstack : st0 = As.reverse ++ .ref b :: rest) (hWt : (rest.map fun v => v.category).sum ≤ 8) (hdg : decode cc pc = .ok (.invokevirtual index, 3)) (hf : cells + mc ≤ R.cells ∧ slots + ms ≤ R.slots)
    (hQ : ∀ (st t : State) (q : Addr), st.heap = H → Qt (Value.ref b :: As).toArray st q t → va_F A1 st t ∧ B t ∧ ∃ ce : Cell, t.heap[q]? = some ce ∧ ce.vm.isStatics = false ∧ st.vm.findClass tx = some ce.cls)
    (htab : c.exceptionTable.toList.map (fun h => (h.startPc, h.endPc, h.handlerPc, h.catchType)) = hhs)
    (hh : ∀ cT : ClassId, s.vm.findClass tx = some cT → ∃ (x : Nat × Nat × Nat × Nat) (tl : List (Nat × Nat × Nat × Nat)) (nx : String), hhs = x :: tl ∧ (decide (x.1 ≤ pc) && decide (pc < x.2.1)) = true ∧ x.2.2.2 ≠ 0 ∧ (Cond.classLink own x.2.2.2 nx).before args s = true ∧
      ((x.2.2.1 = hpc ∧ ∃ cN, s.vm.findClass nx = some cN ∧ s.vm.assignable cT cN = true) ∨
       ((∃ cN, s.vm.findClass nx = some cN ∧ s.vm.assignable cT cN = false) ∧ ∃ (z : Nat × Nat × Nat × Nat) (t2 : List (Nat × Nat × Nat × Nat)) (ny : String), tl = z :: t2 ∧ (decide (z.1 ≤ pc) && decide (pc < z.2.1)) = true ∧ z.2.2.2 ≠ 0 ∧ z.2.2.1 = hpc ∧ (Cond.classLink own z.2.2.2 ny).before args s = true ∧ ∃ cN, s.vm.findClass ny = some cN ∧ s.vm.assignable cT cN = true)))
    (hS : va_S A0 H0 H locs) (hA : ∀ q, q < H.size → A1 q → A0 q) (hfr : ∀ q, free q → A0 q)
    (kk : ∀ (q : Addr) (t : State) (H1 : Heap) (locs1 : List Loc), t.heap = H1 → s.vm.Alike t.vm → B t → H.size ≤ H1.size → (∀ q : Nat, q < H.size → ¬ A1 q → H1[q]? = H[q]?) → va_S A0 H0 H1 locs1 → W p l e R s m args below meth c H1 locs1 (cells + mc) (slots + ms) Q (F0 m hpc ls [.ref q])) :
    W p l e R s m args below meth c H locs cells slots Q (F0 m pc ls st0) := by
  obtain ⟨⟨hrc, hrs, hfrm, hlo, hws, hcw, hcode, hini, hy, hlen, hl⟩, hin, hse⟩ := cw
  obtain ⟨hx, hb, hml, ho, -⟩ := S
  obtain ⟨hbl, ⟨cellB, hcB, hoB, hclB⟩, hPc⟩ := hp
  intro T hT X
  obtain ⟨mk, methM, hnamed, hmethM, hstM, habM⟩ := Cond.instanceMethod_spec hin
  obtain ⟨methM2, cM, hmethM2, -, -, -, -, -, -, hsigM⟩ := Cond.code_spec hnamed hcode
  cases hmethM.symm.trans hmethM2
  obtain ⟨c2, r2, m2, q1, q2, q3, q4, kP, hkP, hkPi⟩ := Cond.selects_spec hse
  cases hclB.symm.trans q1
  cases (State.methodFound?_of_named hnamed hy).symm.trans q2
  cases hnamed.symm.trans q3
  have hselP : selectMethod e.platform s.vm cellB.cls mk = .method mk := by rw [Launch.admits_selectMethod X.admits]; exact q4
  obtain ⟨vm1, X1, hstep1⟩ := X.invokevirtual hx ho hl hnamed hmethM hstM hkP hkPi hy (a := b) (cell := cellB) (by rw [hT]; exact hcB)
    (fun z h => by rw [h] at hoB; cases hoB) hselP hmethM habM hkP hkPi (g := F0 m pc ls st0) rfl (argsL := As) (rest := rest) (hn.trans (hlen _ hsigM)) hstack (by rw [hb]; exact hdg)
  obtain ⟨q, t, U2, L, X2, e1, e2, hq, hL, hsteps⟩ := xt_back (g := F0 m pc ls rest) (Wt := 8) (a := (Value.ref b :: As).toArray) hM hbl hrc hrs hfrm hlo hws hcw (fun a' U hW => word_at hW (Or.inl (by first | rfl | simp [Cond.onTables, Cond.keeps, Cond.steady])) hini) X1 rfl (hsize.trans hml.symm) (by rw [hb]; exact hdg) (by show 2 * 0 + _ ≤ 8; simpa using hWt) (X1.named hnamed) hf.1 hf.2 (hPc _ hT X1.warmed)
  obtain ⟨⟨hz, hk⟩, hB, ce, hce, hcv, hcc⟩ := hQ _ t q (by exact hT) hq
  have hz : H.size ≤ t.heap.size := by rw [← hT]; exact hz
  have hk : ∀ q : Nat, q < H.size → ¬ A1 q → t.heap[q]? = H[q]? := by rw [← hT]; exact hk
  have hcc : s.vm.findClass tx = some ce.cls := by rw [← X1.warmed.alike.findClass]; exact hcc
  obtain ⟨x, tl, nx, g1, g2, g3, g4, g5⟩ := hh ce.cls hcc
  obtain ⟨vm2, X3, hst⟩ := xt_note (own := own) (tx := tx) (hpc := hpc) (g := F0 m pc ls rest) (cell := ce) (a := q) X2 rfl ho (by rw [e1]; exact hce) hcv hcc (by
    rw [g1] at htab
    obtain ⟨x', tl', h1, rfl, h3⟩ := List.map_eq_cons_iff.mp htab
    refine ⟨x', tl', nx, h1, g2, g3, g4, ?_⟩
    rcases g5 with g5 | ⟨g5, z, t2, ny, g6, g7, g8, g9, g10, g11⟩
    · exact Or.inl g5
    · rw [g6] at h3
      obtain ⟨z', tz', h4, rfl, h6⟩ := List.map_eq_cons_iff.mp h3
      exact Or.inr ⟨g5, z', tz', ny, h4, g7, g8, g9, g10, g11⟩)
  obtain ⟨t2, a1, b1⟩ := kk q t U2.heap (locs ++ L) e1.symm (by rw [← e2]; exact X2.warmed.alike) hB (by rw [e1]; exact hz) (fun z h1 h2 => by rw [e1]; exact hk z h1 h2)
    ⟨Nat.le_trans hS.1 (by rw [e1]; exact hz), fun z h1 h2 => by rw [e1, hk z (Nat.lt_of_lt_of_le h1 hS.1) (fun w => h2 (hA z (Nat.lt_of_lt_of_le h1 hS.1) w))]; exact hS.2.1 z h1 h2, fun z hz => by
      rcases List.mem_append.mp hz with h | h
      · exact hS.2.2 z h
      · exact hfr _ (hL z h)⟩ (U2.setVm vm2) rfl X3
  exact ⟨t2, hstep1 _ (fun acts => by rw [doInvoke_state]; exact hsteps.trans (hst _ a1)), b1⟩
end XT
