section ZQ
variable {p : Program} {l : Launch} {e : Env} {R : Room} {s : State} {m : MethodId} {args : Array Value} {below : List Frame} {meth : Method} {c : Code} {H : Heap} {locs : List Loc} {cells slots : Nat} {Q : State → Prop}
/-- one entry, whose class the tables can link: the search ends at it, and the link is noted -/
theorem zq_go {P9 : Handler → Pre} {E : CtlPost} {d : Bool} {acts : List Action} {U : State} {f : JFrame} {x : Addr} {t : ExceptionTableEntry} {k : ClassId} {cell : Cell} (h1 : t.startPc ≤ f.pc) (h2 : f.pc < t.endPc) (h0 : t.catchType ≠ 0)
    (hl : U.vm.ClassLinks e.platform f.method.cls t.catchType k) (hc : U.heap[x]? = some cell) (hs : cell.vm.isStatics = false) (hk : ∃ q, U.vm.classes[k]? = some q) (he : cell.cls = k) :
    wp (findHandler.go f x [t]) P9 E e d acts U ↔ P9 (.found t.handlerPc) d acts (U.setVm (U.vm.noted f.method.cls t.catchType (.cls k))) := by
  subst he
  obtain ⟨g1, g2⟩ := (resolveClass_links e.toSetting hl).op (op := VmOp.resolveClass f.method.cls t.catchType) rfl
  obtain ⟨q, hq⟩ := hk
  obtain ⟨q', hq', -⟩ := ((Vm.Alike.refl U.vm).noted f.method.cls t.catchType (.cls cell.cls)).2.2 _ _ hq
  have hn : ∀ j, cell.vm ≠ .statics j := fun j => VmData.ne_statics_of hs j
  have ha := va_asg (U.vm.noted f.method.cls t.catchType (.cls cell.cls)) cell.cls
  simp [findHandler.go, h1, h2, h0, g1, g2, hc, hn, hq', ha, VmOp.dirties, VmOp.acts]
theorem zq_step {U : State} {x : Addr} {f : JFrame} {r : List Frame} {pc : Nat} {vm' : Vm} (hfind : ∀ (P9 : Handler → Pre) (E : CtlPost) (d : Bool) (acts : List Action), wp (findHandler f x) P9 E e d acts U ↔ P9 (.found pc) d acts (U.setVm vm')) :
    (stepThrowing e U x (.java f :: r)).Is ((U.setVm vm').setFrames (.java { f with pc := pc, stack := [.ref x] } :: r)) [] := by
  simp only [stepThrowing, searchFrame, vmDo]
  generalize hr : Sem.go _ e false [] U = res
  obtain ⟨as, rfl, ha⟩ := Sem.eq_ok_of hr (a := Handler.found pc) (s' := U.setVm vm') (acts' := []) (by simp [hfind _ _ _ _])
  exact ⟨rfl, ha⟩
/-- caught by the one entry of the law's own table -/
theorem zCaught {T : State} (X : Stand p l e R s m args below meth c T locs cells slots) {g : JFrame} (hg : g.method = m) (hown : s.vm.findClass RL = some m.cls)
    (htab : c.exceptionTable.toList.map (fun h => (h.startPc, h.endPc, h.handlerPc, h.catchType)) = [(0, 11, 14, 13)]) (hpc : g.pc < 11) (hlink : (Cond.classLink RL 13 zAX).before args s = true)
    {x : Addr} {cell : Cell} (hc : T.heap[x]? = some cell) (hs : cell.vm.isStatics = false) (hcls : s.vm.findClass zAX = some cell.cls) :
    ∃ vm', Stand p l e R s m args below meth c (T.setVm vm') locs cells slots ∧
      ∀ target, Steps p.tables e below ((T.setVm vm').setTop { g with pc := 14, stack := [.ref x] }) target → Steps p.tables e below ((T.setTop g).pushFrame (.throwing x)) target := by
  have hpl : e.platform.magicAccessors = ({} : Platform).magicAccessors := by rw [X.admits.platform]
  obtain ⟨k, hk, hcl⟩ := Cond.classLink_spec hown hlink e.platform hpl
  cases hcls.symm.trans hk
  obtain ⟨t, htl, ht⟩ : ∃ t : ExceptionTableEntry, c.exceptionTable.toList = [t] ∧ (t.startPc, t.endPc, t.handlerPc, t.catchType) = (0, 11, 14, 13) := by
    cases hq : c.exceptionTable.toList with
    | nil => rw [hq] at htab; cases htab
    | cons t r =>
      rw [hq] at htab
      cases r with
      | nil => exact ⟨t, rfl, by simpa using htab⟩
      | cons _ _ => simp at htab
  simp only [Prod.mk.injEq] at ht
  obtain ⟨e1, e2, e3, e4⟩ := ht
  have hcl0 := X.warmed.classLinks hcl
  obtain ⟨dk, _, _, kt, hd, _, _, _, _, hkt, _, hopen⟩ := hcl.here
  have hW' : s.WarmedH (T.vm.noted m.cls 13 (.cls cell.cls)) := X.warmed.noted hd hopen (State.rightAt_cls hcl)
  obtain ⟨kt', hkt', -⟩ := X.warmed.alike.2.2 _ _ hkt
  refine ⟨_, X.noted hW', fun target hrest => ?_⟩
  subst hg
  obtain ⟨hgo, hw⟩ := X.here.throwing x (g := g)
  refine Steps.head hgo hw ?_
  have hfind : ∀ (P9 : Handler → Pre) (E : CtlPost) (d : Bool) (acts : List Action), wp (findHandler g x) P9 E e d acts ((T.setTop g).pushFrame (.throwing x)) ↔ P9 (.found 14) d acts (((T.setTop g).pushFrame (.throwing x)).setVm (T.vm.noted g.method.cls 13 (.cls cell.cls))) := by
    intro P9 E d acts
    refine (Jvm.W.findHandler_eq (s := (T.setTop g).pushFrame (.throwing x)) (f := g) (meth := meth) (code := c) X.method' X.code).trans ?_
    rw [htl]
    have := zq_go (e := e) (P9 := P9) (E := E) (d := d) (acts := acts) (U := (T.setTop g).pushFrame (.throwing x)) (f := g) (x := x) (t := t) (k := cell.cls) (cell := cell) (by omega) (by omega) (by omega) (by rw [e4]; exact hcl0) hc hs ⟨kt', hkt'⟩ rfl
    rw [e3, e4] at this
    exact this
  rw [stepThread_throwing (frames_entered X.here.top _), (zq_step (U := (T.setTop g).pushFrame (.throwing x)) hfind).1]
  obtain ⟨g₀, hr⟩ := X.frames_eq
  have hr' : (T.setVm (T.vm.noted g.method.cls 13 (.cls cell.cls))).frames = .java g₀ :: below := hr
  rw [State.setTop_of_frames _ hr'] at hrest
  have q1 : (T.setTop g) = T.setFrames (.java g :: below) := State.setTop_of_frames _ hr
  rw [hr, List.tail_cons, q1]
  have q2 : ∀ (F G : List Frame), (((T.setFrames F).setFrames G).setVm (T.vm.noted g.method.cls 13 (.cls cell.cls))).setFrames (.java { g with pc := 14, stack := [.ref x] } :: below) = (T.setVm (T.vm.noted g.method.cls 13 (.cls cell.cls))).setFrames (.java { g with pc := 14, stack := [.ref x] } :: below) := by
    intro F G
    have q3 : (T.setFrames G).setVm (T.vm.noted g.method.cls 13 (.cls cell.cls)) = (T.setVm (T.vm.noted g.method.cls 13 (.cls cell.cls))).setFrames G := rfl
    rw [State.setFrames_setFrames, q3, State.setFrames_setFrames]
  rw [State.pushFrame, q2]
  exact hrest
end ZQ
