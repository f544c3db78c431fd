/-! a throw that the method's own first row catches (no trace is kept): the search for the handler, and the step to it -/
section UXC
/-- the search meets a row that covers the place and names a class that takes the object -/
theorem ux_go {Q : Handler → Pre} {E : CtlPost} {e : Env} {d : Bool} {acts : List Action} {s : State} {f : JFrame} {a : Addr} {x : ExceptionTableEntry} {t : List ExceptionTableEntry} {k : ClassId} {cell : Cell}
    (hx : covers x f.pc = true) (h0 : x.catchType ≠ 0) (hl : s.vm.ClassLinks e.platform f.method.cls x.catchType k) (hcell : s.heap[a]? = some cell) (hobj : cell.vm.isStatics = false)
    (h1 : ∃ z, s.vm.classes[cell.cls]? = some z) (h2 : ∃ z, s.vm.classes[k]? = some z) (hfit : s.vm.assignable cell.cls k = true) :
    wp (findHandler.go f a (x :: t)) Q E e d acts s ↔ Q (.found x.handlerPc) d acts (s.setVm (s.vm.noted f.method.cls x.catchType (.cls k))) := by
  have hal : s.vm.Alike (s.vm.noted f.method.cls x.catchType (.cls k)) := (Vm.Alike.refl s.vm).noted _ _ _
  have hno : ∀ z, cell.vm ≠ .statics z := fun z hz => by rw [hz] at hobj; cases hobj
  have hf : (s.vm.noted f.method.cls x.catchType (.cls k)).assignable cell.cls k = true := hal.assignable .. ▸ hfit
  obtain ⟨z1, e1⟩ := h1
  obtain ⟨z2, e2⟩ := h2
  obtain ⟨y1, g1, -⟩ := hal.2.2 _ _ e1
  obtain ⟨y2, g2, -⟩ := hal.2.2 _ _ e2
  obtain ⟨r1, r2⟩ := (resolveClass_links e.toSetting hl).op (op := VmOp.resolveClass f.method.cls x.catchType) rfl
  simp only [covers] at hx
  simp [findHandler.go, hx, h0, r1, r2, hcell, hno, g1, g2, hf, VmOp.dirties, VmOp.acts]
variable {p : Program} {l : Launch} {e : Env} {R : Room} {s : State} {m : MethodId} {args : Array Value} {below : List Frame} {meth : Method} {c : Code} {T : State} {locs : List Loc} {cells slots : Nat}
/-- thrown in this frame, caught by the first row of its table -/
theorem ux_caught (X : Stand p l e R s m args below meth c T locs cells slots) (a : Addr) {g : JFrame} (hg : g.method = m) {cell : Cell} (hcell : T.heap[a]? = some cell) (hobj : cell.vm.isStatics = false) (hk0 : ∃ z, s.vm.classes[cell.cls]? = some z)
    (x : ExceptionTableEntry) (suf : List ExceptionTableEntry) (hsplit : c.exceptionTable.toList = x :: suf) (hx : covers x g.pc = true) (h0 : x.catchType ≠ 0) {k : ClassId} (hl : s.vm.ClassLinks e.platform m.cls x.catchType k) (hfit : s.vm.assignable cell.cls k = true) :
    ∃ vm', Stand p l e R s m args below meth c (T.setVm vm') locs cells slots ∧ ∀ tg, Steps p.tables e below ((T.setVm vm').setTop { g with pc := x.handlerPc, stack := [.ref a] }) tg → Steps p.tables e below ((T.setTop g).pushFrame (.throwing a)) tg := by
  subst hg
  obtain ⟨dk, _, _, kt, hd, _, _, _, _, hkt, _, hdone⟩ := hl.here
  obtain ⟨z0, hz0⟩ := hk0
  have hal := X.warmed.alike
  obtain ⟨y0, hy0, -⟩ := hal.2.2 _ _ hz0
  obtain ⟨yt, hyt, -⟩ := hal.2.2 _ _ hkt
  have hW' := X.warmed.noted hd hdone (State.rightAt_cls hl)
  refine ⟨T.vm.noted g.method.cls x.catchType (.cls k), X.noted hW', fun tg hrest => ?_⟩
  have hfind : ∀ (Q : Handler → Pre) (E : CtlPost) (d : Bool) (acts : List Action), wp (findHandler g a) Q E e d acts ((T.setTop g).pushFrame (.throwing a)) ↔ Q (.found x.handlerPc) d acts (((T.setTop g).pushFrame (.throwing a)).setVm (T.vm.noted g.method.cls x.catchType (.cls k))) := by
    intro Q E d acts
    rw [W.findHandler_eq (s := (T.setTop g).pushFrame (.throwing a)) (meth := meth) (code := c) X.method' X.code, hsplit]
    exact ux_go (s := (T.setTop g).pushFrame (.throwing a)) hx h0 (X.warmed.classLinks hl) hcell hobj ⟨y0, hy0⟩ ⟨yt, hyt⟩ (by show T.vm.assignable _ _ = true; rw [hal.assignable]; exact hfit)
  obtain ⟨hgo, hw⟩ := X.here.throwing a
  refine Steps.head hgo hw ?_
  have hst : (stepThrowing e ((T.setTop g).pushFrame (.throwing a)) a (.java g :: below)).1 = (((T.setTop g).pushFrame (.throwing a)).setVm (T.vm.noted g.method.cls x.catchType (.cls k))).setFrames (.java { g with pc := x.handlerPc, stack := [.ref a] } :: below) := by
    simp only [stepThrowing, searchFrame, vmDo]
    generalize hr : Sem.go _ e false [] _ = res
    obtain ⟨as, rfl, ha⟩ := Sem.eq_ok_of hr (a := Handler.found x.handlerPc) (s' := ((T.setTop g).pushFrame (.throwing a)).setVm (T.vm.noted g.method.cls x.catchType (.cls k))) (acts' := []) (by simp [hfind _ _ _ _])
    rfl
  obtain ⟨g1, hfr⟩ := X.frames_eq
  have hfr' : (T.setVm (T.vm.noted g.method.cls x.catchType (.cls k))).frames = .java g1 :: below := hfr
  have hF : ((T.setTop g).pushFrame (.throwing a)).frames = .throwing a :: .java g :: below := by
    rw [frames_entered X.here.top, hfr, List.tail_cons]
  rw [stepThread_throwing hF, hst]
  rw [State.setTop_of_frames _ hfr'] at hrest
  have e9 : ∀ (u : State) (vm' : Vm) (F G : List Frame), ((u.setFrames F).setVm vm').setFrames G = (u.setVm vm').setFrames G := fun u vm' F G => by
    show ((u.setVm vm').setFrames F).setFrames G = _
    rw [State.setFrames_setFrames]
  rw [State.pushFrame, e9, State.setTop_of_frames _ hfr, e9]
  exact hrest
end UXC
