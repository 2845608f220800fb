section ZQ
variable {p : Program} {l : Launch} {e : Env} {R : Room} {s : State} {m : MethodId} {args : Array Value} {below : List Frame} {meth : Method} {c : Code} {H : Heap} {locs : List Loc} {cells slots : Nat} {Q : State → Prop}
/-- one entry, whose class the tables can link: the search ends at it, and the link is noted -/
theorem zq_go {P9 : Handler → Pre} {E : CtlPost} {d : Bool} {acts : List Action} {U : State} {f : JFrame} {x : Addr} {t : ExceptionTableEntry} {k : ClassId} {cell : Cell} (h1 : t.startPc ≤ f.pc) (h2 : f.pc < t.endPc) (h0 : t.catchType ≠ 0)
    (hl : U.vm.ClassLinks e.platform f.method.cls t.catchType k) (hc : U.heap[x]? = some cell) (hs : cell.vm.isStatics = false) (hk : ∃ q, U.vm.classes[k]? = some q) (he : cell.cls = k) :
    wp (findHandler.go f x [t]) P9 E e d acts U ↔ P9 (.found t.handlerPc) d acts (U.setVm (U.vm.noted f.method.cls t.catchType (.cls k))) := by
  subst he
  obtain ⟨g1, g2⟩ := (resolveClass_links e.toSetting hl).op (op := VmOp.resolveClass f.method.cls t.catchType) rfl
  obtain ⟨q, hq⟩ := hk
  obtain ⟨q', hq', -⟩ := ((Vm.Alike.refl U.vm).noted f.method.cls t.catchType (.cls cell.cls)).2.2 _ _ hq
  have hn : ∀ j, cell.vm ≠ .statics j := fun j => VmData.ne_statics_of hs j
  have ha := va_asg (U.vm.noted f.method.cls t.catchType (.cls cell.cls)) cell.cls
  simp [findHandler.go, h1, h2, h0, g1, g2, hc, hn, hq', ha, VmOp.dirties, VmOp.acts]
theorem zq_step {U : State} {x : Addr} {f : JFrame} {r : List Frame} {pc : Nat} {vm' : Vm} (hfind : ∀ (P9 : Handler → Pre) (E : CtlPost) (d : Bool) (acts : List Action), wp (findHandler f x) P9 E e d acts U ↔ P9 (.found pc) d acts (U.setVm vm')) :
    (stepThrowing e U x (.java f :: r)).Is ((U.setVm vm').setFrames (.java { f with pc := pc, stack := [.ref x] } :: r)) [] := by
  simp only [stepThrowing, searchFrame, vmDo]
  generalize hr : Sem.go _ e false [] U = res
  obtain ⟨as, rfl, ha⟩ := Sem.eq_ok_of hr (a := Handler.found pc) (s' := U.setVm vm') (acts' := []) (by simp [hfind _ _ _ _])
  exact ⟨rfl, ha⟩
/-- caught by the one entry of the law's own table -/
theorem zCaught {T : State} (X : Stand p l e R s m args below meth c T locs cells slots) {g : JFrame} (hg : g.method = m) (hown : s.vm.findClass RL = some m.cls)
    (htab : c.exceptionTable.toList.map (fun h => (h.startPc, h.endPc, h.handlerPc, h.catchType)) = [(0, 11, 14, 13)]) (hpc : g.pc < 11) (hlink : (Cond.classLink RL 13 zAX).before args s = true)
    {x : Addr} {cell : Cell} (hc : T.heap[x]? = some cell) (hs : cell.vm.isStatics = false) (hcls : s.vm.findClass zAX = some cell.cls) :
    ∃ vm', Stand p l e R s m args below meth c (T.setVm vm') locs cells slots ∧
      ∀ target, Steps p.tables e below ((T.setVm vm').setTop { g with pc := 14, stack := [.ref x] }) target → Steps p.tables e below ((T.setTop g).pushFrame (.throwing x)) target := by
  have hpl : e.platform.magicAccessors = ({} : Platform).magicAccessors := by rw [X.admits.platform]
  obtain ⟨k, hk, hcl⟩ := Cond.classLink_spec hown hlink e.platform hpl
  cases hcls.symm.trans hk
  obtain ⟨t, htl, ht⟩ : ∃ t : ExceptionTableEntry, c.exceptionTable.toList = [t] ∧ (t.startPc, t.endPc, t.handlerPc, t.catchType) = (0, 11, 14, 13) := by
    cases hq : c.exceptionTable.toList with
    | nil => rw [hq] at htab; cases htab
    | cons t r =>
      rw [hq] at htab
      cases r with
      | nil => exact ⟨t, rfl, by simpa using htab⟩
      | cons _ _ => simp at htab
  simp only [Prod.mk.injEq] at ht
  obtain ⟨e1, e2, e3, e4⟩ := ht
  have hcl0 := X.warmed.classLinks hcl
  obtain ⟨dk, _, _, kt, hd, _, _, _, _, hkt, _, hopen⟩ := hcl.here
  have hW' : s.WarmedH (T.vm.noted m.cls 13 (.cls cell.cls)) := X.warmed.noted hd hopen (State.rightAt_cls hcl)
  obtain ⟨kt', hkt', -⟩ := X.warmed.alike.2.2 _ _ hkt
  refine ⟨_, X.noted hW', fun target hrest => ?_⟩
  subst hg
  obtain ⟨hgo, hw⟩ := X.here.throwing x (g := g)
  refine Steps.head hgo hw ?_
  have hfind : ∀ (P9 : Handler → Pre) (E : CtlPost) (d : Bool) (acts : List Action), wp (findHandler g x) P9 E e d acts ((T.setTop g).pushFrame (.throwing x)) ↔ P9 (.found 14) d acts (((T.setTop g).pushFrame (.throwing x)).setVm (T.vm.noted g.method.cls 13 (.cls cell.cls))) := by
    intro P9 E d acts
    refine (Jvm.W.findHandler_eq (s := (T.setTop g).pushFrame (.throwing x)) (f := g) (meth := meth) (code := c) X.method' X.code).trans ?_
    rw [htl]
    have := zq_go (e := e) (P9 := P9) (E := E) (d := d) (acts := acts) (U := (T.setTop g).pushFrame (.throwing x)) (f := g) (x := x) (t := t) (k := cell.cls) (cell := cell) (by omega) (by omega) (by omega) (by rw [e4]; exact hcl0) hc hs ⟨kt', hkt'⟩ rfl
    rw [e3, e4] at this
    exact this
  rw [stepThread_throwing (frames_entered X.here.top _), (zq_step (U := (T.setTop g).pushFrame (.throwing x)) hfind).1]
  obtain ⟨g₀, hr⟩ := X.frames_eq
  have hr' : (T.setVm (T.vm.noted g.method.cls 13 (.cls cell.cls))).frames = .java g₀ :: below := hr
  rw [State.setTop_of_frames _ hr'] at hrest
  have q1 : (T.setTop g) = T.setFrames (.java g :: below) := State.setTop_of_frames _ hr
  rw [hr, List.tail_cons, q1]
  have q2 : ∀ (F G : List Frame), (((T.setFrames F).setFrames G).setVm (T.vm.noted g.method.cls 13 (.cls cell.cls))).setFrames (.java { g with pc := 14, stack := [.ref x] } :: below) = (T.setVm (T.vm.noted g.method.cls 13 (.cls cell.cls))).setFrames (.java { g with pc := 14, stack := [.ref x] } :: below) := by
    intro F G
    have q3 : (T.setFrames G).setVm (T.vm.noted g.method.cls 13 (.cls cell.cls)) = (T.setVm (T.vm.noted g.method.cls 13 (.cls cell.cls))).setFrames G := rfl
    rw [State.setFrames_setFrames, q3, State.setFrames_setFrames]
  rw [State.pushFrame, q2]
  exact hrest
/-- the call that throws, and the handler behind it -/
theorem zCallT {D : va_G} {z : zG} {A : Nat → Prop} {ws : va_W} {tys : List (ClassId × FieldType)} {oo q0 : Nat} {fs : List Value} {p0 : Int64} {p1 : Int32} {ls : Array Slot} {rest : List Value} (hx : p.tables.exec = Jvm.exec) (hb : c.code = cL_letter) (hml : c.maxLocals = 6) (hown : s.vm.findClass RL = some m.cls)
    (hts : ∀ w ∈ wsL_letter, w.before args s = true) (htab : c.exceptionTable.toList.map (fun h => (h.startPc, h.endPc, h.handlerPc, h.catchType)) = [(0, 11, 14, 13)]) (hl13 : (Cond.classLink RL 13 zAX).before args s = true)
    (hfl : l.stackTraces = false) (hTA : zTA s) (hC : zC z A s) (hA : ∀ q, s.heap.size ≤ q → A q) (hS : va_S A s.heap H locs) (hP : va_P D vwCl ws H) (hK : va_K D vwCl tys s) (he : ws[q0]? = some (oo, .inr (6, fs))) (hN : zIsN p0) (hi : ¬ (0 ≤ p1.toInt ∧ p1.toInt ≤ 8))
    (hls : ls.size = 6) (hrest : (rest.map fun v => v.category).sum ≤ 8) (hR : 8 ≤ R.frames ∧ 133 ≤ R.locals) (hR2 : cells + 1 ≤ R.cells ∧ slots + 6 ≤ R.slots)
    (kk : ∀ (x : Nat) (H1 : Heap), va_P D vwCl ws H1 → va_S A s.heap H1 locs → W p l e R s m args below meth c H1 locs (cells + 1) (slots + 6) Q (F0 m 14 ls [.ref x])) :
    W p l e R s m args below meth c H locs cells slots Q (F0 m 6 ls (.int p1 :: .long p0 :: .ref oo :: rest)) := by
  intro T hT X
  obtain ⟨cellB, hcB, hoB, hclB⟩ := va_recv hK hP (ci := 6) (q0 := q0) rfl he
  have hy : yX6_letter.cls ≠ "java/lang/invoke/MethodHandle" ∧ yX6_letter.cls ≠ "java/lang/invoke/VarHandle" := by decide +kernel
  have hcode := hts (.code yX6_letter cX6_letter 4 (some .int)) (by decide +kernel)
  obtain ⟨mk, methM, hnamed, hmethM, hstM, habM⟩ := Cond.instanceMethod_spec (hts (.instanceMethod yX6_letter) (by decide +kernel))
  obtain ⟨methM', cM, hmethM', hcM, -, hlM, -, -, -, hsigM⟩ := Cond.code_spec hnamed hcode
  cases hmethM.symm.trans hmethM'
  obtain ⟨c2, r2, m2, q1, q2, q3, q4, kP, hkP, hkPi⟩ := Cond.selects_spec (hts (.selects RX6 yX6_letter yX6_letter) (by decide +kernel))
  cases hclB.symm.trans q1
  cases (State.methodFound?_of_named hnamed hy).symm.trans q2
  cases hnamed.symm.trans q3
  have hselP : selectMethod e.platform s.vm cellB.cls mk = .method mk := by rw [Launch.admits_selectMethod X.admits]; exact q4
  have hlen : ([.long p0, .int p1] : List Value).length = methM.sig.parameters.length := by
    have h9 : parseMethodDescriptor yX6_letter.desc = some ⟨[.long, .int], some .int⟩ := by decide +kernel
    rw [h9] at hsigM; rw [← Option.some.inj hsigM]; rfl
  obtain ⟨vm₁, X₁, hstep₁⟩ := X.invokevirtual hx hown (hts (.methodLink RL 7 yX6_letter) (by decide +kernel)) hnamed hmethM hstM hkP hkPi hy (a := oo) (cell := cellB) (by rw [hT]; exact hcB)
    (fun q h => by rw [h] at hoB; cases hoB) hselP hmethM habM hkP hkPi (g := F0 m 6 ls (.int p1 :: .long p0 :: .ref oo :: rest)) rfl (argsL := [.long p0, .int p1]) (rest := rest) hlen rfl (by rw [hb]; exact dL_letter_6)
  have hn1 := X₁.named hnamed
  obtain ⟨kY, hkY, -⟩ := className_of_methodNamed hn1
  have hini : kY.init = .initialized := Cond.initialized_spec (findClass_of_methodNamed hn1) hkY (word_at (args := args) (a' := args) X₁.warmed (Or.inl (by first | rfl | simp [Cond.onTables, Cond.keeps, Cond.steady])) (hts (.initialized RX6) (by decide +kernel)))
  have hpre9 : (headSpec wsX6_letter ({ frames := 7, cells := 1, slots := 6, locals := 110 })).pre.before (Value.ref oo :: [.long p0, .int p1]).toArray (T.setVm vm₁) = true :=
    atoms_intro (fun w hw => word_at X₁.warmed (ggL_letter_X6_letter w hw).2 (hts w (ggL_letter_X6_letter w hw).1))
  have hm1 : (T.setVm vm₁).vm.method? mk = some methM := by
    rw [X₁.warmed.alike.method?]; exact hmethM
  have happ := Spec.appliesLoose_calling (e := e) (S := headSpec wsX6_letter ({ frames := 7, cells := 1, slots := 6, locals := 110 })) (x := yX6_letter) (args := (Value.ref oo :: [.long p0, .int p1]).toArray) (g := F0 m 6 ls rest) X₁.here (by rw [hb]; exact dL_letter_6) hn1 hkY hini
    (X₁.room_calling (g := F0 m 6 ls rest) (R' := ({ frames := 7, cells := 1, slots := 6, locals := 110 })) (hls.trans hml.symm) hm1 hcM (by show 7 + 1 ≤ _; omega) (by rw [hlM]; show 2 * 0 + _ + (4 + 11) + 110 ≤ _; simp only [Nat.mul_zero, Nat.zero_add]; omega) (by show cells + 1 ≤ _; omega) (by show slots + 6 ≤ _; omega)) hpre9
  obtain ⟨g₀, hfr0⟩ := X₁.frames_eq
  have hfr1 : ((T.setVm vm₁).setTop (F0 m 6 ls rest)).frames = .java (F0 m 6 ls rest) :: below := by rw [State.frames_setTop' _ X₁.here.top, hfr0]; rfl
  have hz0 : zC z A (T.setVm vm₁) := hC.call hS X₁.warmed hT (fun _ h => h)
  have hp9 : zPre D z [.ref oo, .long p0, .int p1] H.size [] [] (va_A [] H.size) (Value.ref oo :: [.long p0, .int p1]).toArray ((T.setVm vm₁).calling (F0 m 6 ls rest) mk (Value.ref oo :: [.long p0, .int p1]).toArray) :=
    zPre_blind _ _ _ _ ⟨rfl, by show T.heap.size = _; rw [hT], fun k q h => by simp at h, va_K.moved X₁.warmed.alike (hK.sub [] rfl), ⟨fun i j p q h => by simp at h, fun k q h => by simp at h⟩, hC.call hS X₁.warmed hT (zro_free hS hA)⟩
  have ht9 : zTA ((T.setVm vm₁).calling (F0 m 6 ls rest) mk (Value.ref oo :: [.long p0, .int p1]).toArray) := (hTA.call (U := T.setVm vm₁) hC.2.2.2 hS X₁.warmed hT).calling hz0.2.2.2
  obtain ⟨o, s₂, hsteps, -, hend, hq⟩ := Steps.callFree (ct_letter l hfl D z H.size oo p0 p1 hN hi) p X.admits X.cas X.clock (acts := []) (mid := [.java (F0 m 6 ls rest)]) (below := below) hfr1 happ ⟨hp9, ht9⟩ trivial
  obtain ⟨x, cell, rfl, hW2, hsame, hcell, hst, hcl⟩ := hq
  rw [hfr1] at hend
  obtain ⟨T', X', hWT, hsT, ht⟩ := X₁.outOfThrown (g := F0 m 6 ls rest) rfl hend hW2 hsame
  have hh : s₂.heap = T'.heap := by rw [ht]; exact Stand.throwing_heap _ _ _
  obtain ⟨vm2, X2, hst2⟩ := zCaught X' (g := F0 m 6 ls rest) rfl hown htab (by show 6 < 11; decide) hl13 (by rw [← hh]; exact hcell) hst (by rw [← X₁.warmed.alike.findClass]; exact hcl)
  have hold : ∀ q : Nat, q < H.size → T'.heap[q]? = H[q]? := by
    intro q hq9
    have hq8 : q < T.heap.size := by rw [hT]; exact hq9
    have h8 : (T.setVm vm₁).heap[q]? = some (T.heap[q]'hq8) := by show T.heap[q]? = _; exact Array.getElem?_eq_getElem hq8
    have h7 := hsT.old_cell h8
    have h6 : T'.heap[q]? = some (T.heap[q]'hq8) := h7
    rw [h6, ← hT]; exact h8.symm
  have hsz : H.size ≤ T'.heap.size := by have := hsT.2.1; rw [← hT]; exact this
  obtain ⟨t, a1, b1⟩ := kk x T'.heap (hP.kept (fun k q h => hold q.1 (hP k q h).lt)) ⟨Nat.le_trans hS.1 hsz, fun q g1 g2 => (hold q (Nat.lt_of_lt_of_le g1 hS.1)).trans (hS.2.1 q g1 g2), hS.2.2⟩ (T'.setVm vm2) rfl (by simpa using X2)
  refine ⟨t, hstep₁ t (fun acts => ?_), b1⟩
  rw [doInvoke_state]
  refine hsteps.trans ?_
  rw [ht]
  exact hst2 t a1
end ZQ
