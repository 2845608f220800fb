/-! the throw of letter, and where it is caught: words that it rests on -/
def zAX : String := "java/lang/ArrayIndexOutOfBoundsException"
def zChain : List String := ["java/lang/IndexOutOfBoundsException", "java/lang/RuntimeException", "java/lang/Exception"]
def zOwn : List Cond := Bundle.ownAtoms RX6 95 zAX zChain
def zSte : String := "[Ljava/lang/StackTraceElement;"
def zOdd : List Cond := [.laysStatic "java/lang/Throwable" "UNASSIGNED_STACK" zSte, .laysStatic "java/lang/Throwable" "SUPPRESSED_SENTINEL" "Ljava/util/List;",
  .declares ⟨"java/lang/IndexOutOfBoundsException", "<init>", "(Ljava/lang/String;)V"⟩, .declares ⟨"java/lang/RuntimeException", "<init>", "(Ljava/lang/String;)V"⟩, .declares ⟨"java/lang/Exception", "<init>", "(Ljava/lang/String;)V"⟩, .declares ⟨"java/lang/Throwable", "<init>", "(Ljava/lang/String;)V"⟩,
  .castable zAX zAX, .isRef (.static "java/lang/Throwable" "UNASSIGNED_STACK" zSte), .isRef (.static "java/lang/Throwable" "SUPPRESSED_SENTINEL" "Ljava/util/List;")]
theorem zOwn_odd : zOwn.filter (fun w => !goodWord w) = zOdd := by decide +kernel
theorem zOwn_or : zOwn.all (fun w => w.onTables || decide (w ∈ zOdd)) = true := by decide +kernel
/-- all that the throw asks of the start, for any arguments -/
def zTA (U : State) : Prop := ∀ w ∈ zOwn, ∀ a : Array Value, w.before a U = true
theorem zlays {C n d : String} {A : Nat → Prop} {s U : State} {H : Heap} {locs : List Loc} {a a' : Array Value} (h : (Cond.laysStatic C n d).before a s = true) (hZ : va_Zq C n d A s s.heap) (hS : va_S A s.heap H locs) (hv : s.vm.Alike U.vm) (hU : U.heap = H) : (Cond.laysStatic C n d).before a' U = true := by
  obtain ⟨c, k, i, f, ad, cell, hc, hi, hst, ha, hcell, hs, hcls, hlt, hty⟩ := Cond.laysStatic_spec h
  have hn : ¬ A ad := by
    rcases hZ with ⟨cf, kf, fi, f', a9, cell', g1, g2, g3, g4, g5, g6, g7, g8⟩ | ⟨t, cf, kf, fi, f', a9, cell', g1, g2, g3, g4, g5, g6, g7, g8⟩ <;>
    · cases hi.symm.trans g1
      cases ha.symm.trans g4
      exact g8
  obtain ⟨k', hi', hek⟩ := State.fieldFound?_setVm hv hi
  have hcell' : U.heap[ad]? = some cell := by rw [hU, hS.2.1 ad (Array.getElem?_eq_some_iff.mp hcell).1 hn]; exact hcell
  exact Cond.laysStatic_of (s := U) (by rw [hv.findClass]; exact hc) hi' hst (by rw [hek]; exact ha) hcell' hs hcls hlt (by rw [hek]; exact hty)
theorem zisref {C n d : String} {A : Nat → Prop} {U : State} {a : Array Value} (hZ : va_Zq C n d A U U.heap) : (Cond.isRef (.static C n d)).before a U = true := by
  rcases hZ with ⟨cf, kf, fi, f, a9, cell, g1, g2, g3, g4, g5, g6, g7, g8⟩ | ⟨t, cf, kf, fi, f, a9, cell, g1, g2, g3, g4, g5, g6, g7, g8⟩ <;>
  · simp [Cond.before, Cond.holds, Cond.value, Term.eval, State.fieldNamed?, g1, g2, g4, g5, g6, g7]
theorem zTA.call {z : zG} {A : Nat → Prop} {s U : State} {H : Heap} {locs : List Loc} (h : zTA s) (hz : zS z A s s.heap) (hS : va_S A s.heap H locs) (hW : s.WarmedH U.vm) (hU : U.heap = H) : zTA U := by
  intro w hw a
  by_cases hg : goodWord w = true
  · exact word_at (args := #[]) hW (good_of_word hg) (h w hw #[])
  · have hb : w ∈ zOwn.filter (fun w => !goodWord w) := List.mem_filter.mpr ⟨hw, by simp [hg]⟩
    have hz1 : zS z A U U.heap := by rw [hU]; exact (hz.kept hS.2.1).moved hW.alike
    have h0 := h w hw #[]
    rw [zOwn_odd] at hb
    simp only [zOdd, List.mem_cons, List.not_mem_nil, or_false] at hb
    rcases hb with rfl | rfl | rfl | rfl | rfl | rfl | rfl | rfl | rfl
    · exact zlays h0 hz.2.2.2.2.2.2.2.2.1 hS hW.alike hU
    · exact zlays h0 hz.2.2.2.2.2.2.2.2.2 hS hW.alike hU
    · exact va_Nw.use rfl (va_Nw.warmD hW h0)
    · exact va_Nw.use rfl (va_Nw.warmD hW h0)
    · exact va_Nw.use rfl (va_Nw.warmD hW h0)
    · exact va_Nw.use rfl (va_Nw.warmD hW h0)
    · exact va_Nw.use rfl (va_Nw.warmC hW h0)
    · exact zisref hz1.2.2.2.2.2.2.2.2.1
    · exact zisref hz1.2.2.2.2.2.2.2.2.2
theorem zTA.calling {U : State} {g : JFrame} {mk : MethodId} {a0 : Array Value} {z : zG} {A : Nat → Prop} (h : zTA U) (hz : zS z A U U.heap) : zTA (U.calling g mk a0) := by
  intro w hw a
  by_cases hg : w.onTables = true
  · exact va_tabs (u := U) hg rfl (h w hw #[])
  · have hb : w ∈ zOdd := by
      have q := List.all_eq_true.mp zOwn_or w hw
      rw [Bool.or_eq_true] at q
      rcases q with q | q
      · exact absurd q hg
      · exact of_decide_eq_true q
    have h0 := h w hw #[]
    simp only [zOdd, List.mem_cons, List.not_mem_nil, or_false] at hb
    rcases hb with rfl | rfl | rfl | rfl | rfl | rfl | rfl | rfl | rfl
    · exact zlays (U := U.calling g mk a0) h0 hz.2.2.2.2.2.2.2.2.1 va_S.rf (Vm.Alike.refl U.vm) rfl
    · exact zlays (U := U.calling g mk a0) h0 hz.2.2.2.2.2.2.2.2.2 va_S.rf (Vm.Alike.refl U.vm) rfl
    · exact va_tabs (u := U) rfl rfl h0
    · exact va_tabs (u := U) rfl rfl h0
    · exact va_tabs (u := U) rfl rfl h0
    · exact va_tabs (u := U) rfl rfl h0
    · exact va_tabs (u := U) rfl rfl h0
    · exact zisref (hz.2.2.2.2.2.2.2.2.1.moved (u := U) (U := U.calling g mk a0) (Vm.Alike.refl U.vm))
    · exact zisref (hz.2.2.2.2.2.2.2.2.2.moved (u := U) (U := U.calling g mk a0) (Vm.Alike.refl U.vm))

section ZT
variable {p : Program} {l : Launch} {e : Env} {R : Room} {s : State} {m : MethodId} {args : Array Value} {below : List Frame} {meth : Method} {c : Code} {H : Heap} {locs : List Loc} {cells slots : Nat} {Q : State → Prop}
/-- what a call that threw has left -/
def zThQ (s : State) (o : Outcome) (t : State) : Prop := ∃ (x : Addr) (cell : Cell), o = .threw x ∧ s.WarmedH t.vm ∧ s.sameButNew ({ t with vm := s.vm } : State) [] 1 6 ∧ t.heap[x]? = some cell ∧ cell.vm.isStatics = false ∧ s.vm.findClass zAX = some cell.cls
def zThZ (below : List Frame) (s : State) : State → Prop := fun t => ∃ o, t.status = .running ∧ Ended t below o ∧ zThQ s o t
theorem zflag {l : Launch} {e : Env} (hl : l.stackTraces = false) (h : l.admits e) : e.platform.stackTraces = false := by
  rw [← hl, h.platform]
theorem zfitC : ∀ n ∈ zChain, Bundle.fit n = true := by decide +kernel
/-- the constructor, athrow -/
theorem zThrowW (hx : p.tables.exec = Jvm.exec) (hl : l.stackTraces = false) (hown : s.vm.findClass RX6 = some m.cls) (hT : ∀ w ∈ zOwn, w.before args s = true) (hlocks : meth.locks = false) {cX : ClassId} {kX : Class} (hf : s.vm.findClass zAX = some cX) (hk : s.vm.classes[cX]? = some kX)
    {a msg pc : Nat} {ls : Array Slot} (hcell : H[a]? = some (blank cX kX)) (hnew : s.heap.size ≤ a) (hsz : ls.size = c.maxLocals) (hout : c.exceptionTable.isEmpty = true)
    (d1 : decode c.code pc = .ok (.invokespecial 95, 3)) (d2 : decode c.code (pc + 3) = .ok (.athrow, 1)) (hR : 6 < R.frames ∧ 110 ≤ R.locals) : W p l e R s m args below meth c H [] 1 6 (zThZ below s) (F0 m pc ls [.ref msg, .ref a, .ref a]) := by
  intro T hT9 X
  obtain ⟨U, h1, h2, h3, h4, h5, ce, h6, h7⟩ := X.ctorThrowS (own := RX6) (cls := zAX) (names := zChain) (ic := 95) (a := a) (cX := cX) (kX := kX) (msg := .ref msg) (g := F0 m pc ls [.ref msg, .ref a, .ref a]) (rest := []) hx (zflag hl X.admits) hown (by decide +kernel) zfitC hT (fun q h => by cases h) hf hk (by rw [hT9]; exact hcell) hnew rfl rfl hsz rfl rfl rfl d1 d2
    (fun x hx9 => by
      have : c.exceptionTable.toList = [] := by simpa using hout
      rw [this] at hx9; cases hx9) (by show 3 + 3 < _; omega) (by show 2 * 0 + _ + _ ≤ _; simp [Value.category, zChain]; omega) hlocks
  exact ⟨U, h1, .threw a, h2, h3, a, ce, rfl, h4, h5, h6, by rw [h7.vm]; rfl, h7.cls⟩
end ZT
