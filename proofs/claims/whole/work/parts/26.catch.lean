section ZQ
variable {p : Program} {l : Launch} {e : Env} {R : Room} {s : State} {m : MethodId} {args : Array Value} {below : List Frame} {meth : Method} {c : Code} {H : Heap} {locs : List Loc} {cells slots : Nat} {Q : State → Prop}
/-- one entry, whose class the tables can link: the search ends at it, and the link is noted -/
theorem zq_go {P9 : Handler → Pre} {E : CtlPost} {d : Bool} {acts : List Action} {U : State} {f : JFrame} {x : Addr} {t : ExceptionTableEntry} {k : ClassId} {cell : Cell} (h1 : t.startPc ≤ f.pc) (h2 : f.pc < t.endPc) (h0 : t.catchType ≠ 0)
    (hl : U.vm.ClassLinks e.platform f.method.cls t.catchType k) (hc : U.heap[x]? = some cell) (hs : cell.vm.isStatics = false) (hk : ∃ q, U.vm.classes[k]? = some q) (he : cell.cls = k) :
    wp (findHandler.go f x [t]) P9 E e d acts U ↔ P9 (.found t.handlerPc) d acts (U.setVm (U.vm.noted f.method.cls t.catchType (.cls k))) := by
  subst he
  obtain ⟨g1, g2⟩ := (resolveClass_links e.toSetting hl).op (op := VmOp.resolveClass f.method.cls t.catchType) rfl
  obtain ⟨q, hq⟩ := hk
  obtain ⟨q', hq', -⟩ := ((Vm.Alike.refl U.vm).noted f.method.cls t.catchType (.cls cell.cls)).2.2 _ _ hq
  have hn : ∀ j, cell.vm ≠ .statics j := fun j => VmData.ne_statics_of hs j
  have ha := va_asg (U.vm.noted f.method.cls t.catchType (.cls cell.cls)) cell.cls
  simp [findHandler.go, h1, h2, h0, g1, g2, hc, hn, hq', ha, VmOp.dirties, VmOp.acts]
end ZQ
