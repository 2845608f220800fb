/-! the law's own letter, which catches -/
def wsLL : List Cond := .codeWith yL_letter cL_letter 6 (some .int) [(0, 11, 14, 13)] :: (wsL_letter ++ [.classLink RL 13 RJx00060])
theorem wsLL_sub : ∀ w ∈ wsL_letter, w ∈ wsLL := fun _ h => List.mem_cons_of_mem _ (List.mem_append_left _ h)
theorem wsLL_13 : Cond.classLink RL 13 RJx00060 ∈ wsLL := List.mem_cons_of_mem _ (List.mem_append_right _ List.mem_cons_self)
def zPreT (D : va_G) (z : zG) (av : List Value) (sz : Nat) (ws : va_W) (tys : List (ClassId × FieldType)) (A : Nat → Prop) : Array Value → State → Prop := fun a U => zPre D z av sz ws tys A a U ∧ zTA U
theorem zPreT_blind {D : va_G} {z : zG} {av : List Value} {sz : Nat} {ws : va_W} {tys : List (ClassId × FieldType)} {A : Nat → Prop} : FrameBlind (zPreT D z av sz ws tys A) := by
  intro a U g mk q
  exact ⟨zPre_blind a U g mk q.1, q.2.calling q.1.2.2.2.2.2.2.2.2⟩
set_option maxHeartbeats 4000000 in
set_option maxRecDepth 100000 in
theorem cl_letter_n (l : Launch) (D : va_G) (z : zG) (sz : Nat) (oo ob oq ov on ot ou : Nat) (ku : ClassId) (f : Nat → Int64) (p0 : Int64) (p1 : Int32) (hok : ¬ zIsN p0 ∨ (0 ≤ p1.toInt ∧ p1.toInt ≤ 8)) : Met l yL_letter wsLL ({ frames := 6, cells := 0, slots := 0, locals := 128 }) (zPre D z [.ref oo, .long p0, .int p1, .ref ou] sz [(oo, .inr (6, [.ref ob, .ref oq, .ref ov, .ref on, .ref ot])), (ou, .inl (ku, 1, .inr (.inl f)))] [(ku, .long)] (va_A [(oo, .inr (6, [.ref ob, .ref oq, .ref ov, .ref on, .ref ot])), (ou, .inl (ku, 1, .inr (.inl f)))] sz)) (va_Qi (fun (r : Int32) (u : Nat → Int64) => r = 0 ∧ ∃ v : Int32, ((¬ zIsN p0 ∧ v = -101) ∨ (zIsN p0 ∧ v = zLetter (zVA p0 p1.toInt.toNat))) ∧ u = vp_updL f 0 v.toInt64) (zAt D [(ku, .long)] (va_A [(oo, .inr (6, [.ref ob, .ref oq, .ref ov, .ref on, .ref ot])), (ou, .inl (ku, 1, .inr (.inl f)))] sz) (fun u => [(oo, .inr (6, [.ref ob, .ref oq, .ref ov, .ref on, .ref ot])), (ou, .inl (ku, 1, .inr (.inl u)))])) (va_A [(oo, .inr (6, [.ref ob, .ref oq, .ref ov, .ref on, .ref ot])), (ou, .inl (ku, 1, .inr (.inl f)))] sz)) 0 0 (va_A [(oo, .inr (6, [.ref ob, .ref oq, .ref ov, .ref on, .ref ot])), (ou, .inl (ku, 1, .inr (.inl f)))] sz) := by
  refine va_MetW (cc := cL_letter) (maxL := 6) (ret := some .int) (hh := [(0, 11, 14, 13)]) (by decide) rfl ?_
  intro p e s m args below meth c s₁ B hml hv
  obtain ⟨rfl, hsz, hP, hK, hD, hC⟩ := hv
  have hx := B.exec
  have hb := B.bytes
  have hr := B.returns
  have hts0 := atoms_spec (ws := wsLL) B.pre
  obtain ⟨m9, meth9, c9, hn9, g1, g2, -, -, htab, -⟩ := Cond.codeWith_spec (hts0 _ List.mem_cons_self)
  cases B.named.symm.trans hn9
  cases B.method.symm.trans g1
  cases (Stand.of_body B).code.symm.trans g2
  have hts : ∀ w ∈ wsL_letter, w.before _ s = true := fun w h => hts0 w (wsLL_sub w h)
  have hown : s.vm.findClass RL = some m.cls := findClass_of_methodNamed B.named
  have hlocks := B.notSynchronized
  subst hsz
  have hD := hD.self (sz := s.heap.size)
  generalize hAe : va_A [(oo, .inr (6, [.ref ob, .ref oq, .ref ov, .ref on, .ref ot])), (ou, .inl (ku, 1, .inr (.inl f)))] s.heap.size = A at hC hD ⊢
  have hA : ∀ q : Nat, s.heap.size ≤ q → A q := fun q h => by rw [← hAe]; exact Or.inr h
  have hS : va_S A s.heap s.heap [] := va_S.rf
  have hP : va_P D vwCl [(oo, .inr (6, [.ref ob, .ref oq, .ref ov, .ref on, .ref ot])), (ou, .inl (ku, 1, .inr (.inl f)))] s.heap := hP
  have hl := lv_entry ([.ref oo, .long p0, .int p1, .ref ou]) (n := 6) (Nat.le_of_ble_eq_true rfl)
  rw [lg_entry_eq]
  generalize (lg_sl ([.ref oo, .long p0, .int p1, .ref ou]) ++ List.replicate (6 - (lg_sl ([.ref oo, .long p0, .int p1, .ref ou])).length) Slot.unset).toArray = ls at hl ⊢
  have hl : lv_has ls 6 [(0, .ref oo), (1, .long p0), (3, .int p1), (4, .ref ou)] := hl
  refine zNameH (D := D) (A := A) (ws := [(oo, .inr (6, [.ref ob, .ref oq, .ref ov, .ref on, .ref ot])), (ou, .inl (ku, 1, .inr (.inl f)))]) (fun H locs hP hS => ?_) hP hS
  refine lv_aload hx hb dL_letter_0 (lv_at hl 3 rfl) ?_
  refine lv_iconst (v := 0) hx hb dL_letter_2 (by decide) ?_
  refine lv_aload_n hx hb dL_letter_3 rfl (lv_at hl 0 rfl) ?_
  refine lv_lload_n hx hb dL_letter_4 rfl (lv_at hl 1 rfl) ?_
  refine lv_iload_n hx hb dL_letter_5 rfl (lv_at hl 2 rfl) ?_
  refine zRo_i (va_runV (As := [.long p0, .int p1]) (rest := [.int 0, .ref ou]) ⟨hx, hb, hml, hown, hts⟩ (cc_X6_letter l D z H.size oo p0 p1 hok) (cwV 2 hts gL_letter_X6_letter rfl rfl rfl (by decide +kernel) ⟨Nat.le_of_ble_eq_true rfl, Nat.le_of_ble_eq_true rfl⟩) ⟨zPre_blind, va_recv hK hP (ci := 6) (q0 := 0) rfl rfl, (zPre_mk (wc := []) (tc := []) hP hK hD hC hS [] (by decide) rfl rfl [] rfl (zro_free hS hA))⟩ rfl rfl hl.1 rfl (lv_room (Nat.le_of_ble_eq_true rfl)) dL_letter_6 ⟨Nat.zero_le _, Nat.zero_le _⟩) hS hA hP (fun r_6 H locs hw hP hS => ?_)
  have hw_6 : (¬ zIsN p0 ∧ r_6 = -101) ∨ (zIsN p0 ∧ r_6 = zLetter (zVA p0 p1.toInt.toNat)) := hw
  refine lv_i2l (v := r_6.toInt64) hx hb dL_letter_9 rfl ?_
  refine z_last (k := 0) hx hb hK hP hD hS 1 0 rfl rfl (by omega) (by decide) dL_letter_10 (fun H locs hP hD hS => ?_)
  have hP : va_P D vwCl [(oo, .inr (6, [.ref ob, .ref oq, .ref ov, .ref on, .ref ot])), (ou, .inl (ku, 1, .inr (.inl (vp_updL f 0 r_6.toInt64))))] H := hP
  have hD : va_D A [(oo, .inr (6, [.ref ob, .ref oq, .ref ov, .ref on, .ref ot])), (ou, .inl (ku, 1, .inr (.inl (vp_updL f 0 r_6.toInt64))))] := hD
  refine lv_goto (tgt := 18) hx hb dL_letter_11 (by decide) ?_
  refine lv_iconst (v := 0) hx hb dL_letter_18 (by decide) ?_
  exact W.iret (v := 0) hx hb hr (fun t9 ht9 hW9 => ⟨⟨_, (vp_updL f 0 r_6.toInt64), rfl, ⟨rfl, r_6, hw_6, rfl⟩, by rw [ht9]; exact hP, va_K.moved hW9.alike hK, hD⟩, hS.F ht9⟩) hS.2.2 dL_letter_19
set_option maxHeartbeats 4000000 in
set_option maxRecDepth 100000 in
theorem cl_letter_t (l : Launch) (hfl : l.stackTraces = false) (D : va_G) (z : zG) (sz : Nat) (oo ob oq ov on ot ou : Nat) (ku : ClassId) (f : Nat → Int64) (p0 : Int64) (p1 : Int32) (hN : zIsN p0) (hi : ¬ (0 ≤ p1.toInt ∧ p1.toInt ≤ 8)) : Met l yL_letter wsLL ({ frames := 8, cells := 1, slots := 6, locals := 133 }) (zPreT D z [.ref oo, .long p0, .int p1, .ref ou] sz [(oo, .inr (6, [.ref ob, .ref oq, .ref ov, .ref on, .ref ot])), (ou, .inl (ku, 1, .inr (.inl f)))] [(ku, .long)] (va_A [(oo, .inr (6, [.ref ob, .ref oq, .ref ov, .ref on, .ref ot])), (ou, .inl (ku, 1, .inr (.inl f)))] sz)) (va_Qi (fun (r : Int32) (u : Unit) => r = 1) (zAt D [(ku, .long)] (va_A [(oo, .inr (6, [.ref ob, .ref oq, .ref ov, .ref on, .ref ot])), (ou, .inl (ku, 1, .inr (.inl f)))] sz) (fun u : Unit => [(oo, .inr (6, [.ref ob, .ref oq, .ref ov, .ref on, .ref ot])), (ou, .inl (ku, 1, .inr (.inl f)))])) (va_A [(oo, .inr (6, [.ref ob, .ref oq, .ref ov, .ref on, .ref ot])), (ou, .inl (ku, 1, .inr (.inl f)))] sz)) 1 6 (va_A [(oo, .inr (6, [.ref ob, .ref oq, .ref ov, .ref on, .ref ot])), (ou, .inl (ku, 1, .inr (.inl f)))] sz) := by
  refine va_MetW (cc := cL_letter) (maxL := 6) (ret := some .int) (hh := [(0, 11, 14, 13)]) (by decide) rfl ?_
  intro p e s m args below meth c s₁ B hml hv
  obtain ⟨⟨rfl, hsz, hP, hK, hD, hC⟩, hTA⟩ := hv
  have hx := B.exec
  have hb := B.bytes
  have hr := B.returns
  have hts0 := atoms_spec (ws := wsLL) B.pre
  obtain ⟨m9, meth9, c9, hn9, g1, g2, -, -, htab, -⟩ := Cond.codeWith_spec (hts0 _ List.mem_cons_self)
  cases B.named.symm.trans hn9
  cases B.method.symm.trans g1
  cases (Stand.of_body B).code.symm.trans g2
  have hts : ∀ w ∈ wsL_letter, w.before _ s = true := fun w h => hts0 w (wsLL_sub w h)
  have hown : s.vm.findClass RL = some m.cls := findClass_of_methodNamed B.named
  have hlocks := B.notSynchronized
  subst hsz
  have hD := hD.self (sz := s.heap.size)
  generalize hAe : va_A [(oo, .inr (6, [.ref ob, .ref oq, .ref ov, .ref on, .ref ot])), (ou, .inl (ku, 1, .inr (.inl f)))] s.heap.size = A at hC hD ⊢
  have hA : ∀ q : Nat, s.heap.size ≤ q → A q := fun q h => by rw [← hAe]; exact Or.inr h
  have hS : va_S A s.heap s.heap [] := va_S.rf
  have hP : va_P D vwCl [(oo, .inr (6, [.ref ob, .ref oq, .ref ov, .ref on, .ref ot])), (ou, .inl (ku, 1, .inr (.inl f)))] s.heap := hP
  have hl := lv_entry ([.ref oo, .long p0, .int p1, .ref ou]) (n := 6) (Nat.le_of_ble_eq_true rfl)
  rw [lg_entry_eq]
  generalize (lg_sl ([.ref oo, .long p0, .int p1, .ref ou]) ++ List.replicate (6 - (lg_sl ([.ref oo, .long p0, .int p1, .ref ou])).length) Slot.unset).toArray = ls at hl ⊢
  have hl : lv_has ls 6 [(0, .ref oo), (1, .long p0), (3, .int p1), (4, .ref ou)] := hl
  refine zNameH (D := D) (A := A) (ws := [(oo, .inr (6, [.ref ob, .ref oq, .ref ov, .ref on, .ref ot])), (ou, .inl (ku, 1, .inr (.inl f)))]) (fun H locs hP hS => ?_) hP hS
  refine lv_aload hx hb dL_letter_0 (lv_at hl 3 rfl) ?_
  refine lv_iconst (v := 0) hx hb dL_letter_2 (by decide) ?_
  refine lv_aload_n hx hb dL_letter_3 rfl (lv_at hl 0 rfl) ?_
  refine lv_lload_n hx hb dL_letter_4 rfl (lv_at hl 1 rfl) ?_
  refine lv_iload_n hx hb dL_letter_5 rfl (lv_at hl 2 rfl) ?_
  refine zCallT (D := D) (z := z) (A := A) (ws := [(oo, .inr (6, [.ref ob, .ref oq, .ref ov, .ref on, .ref ot])), (ou, .inl (ku, 1, .inr (.inl f)))]) (tys := [(ku, .long)]) (oo := oo) (q0 := 0) hx hb hml hown hts htab (hts0 _ wsLL_13) hfl hTA hC hA hS hP hK rfl hN hi hl.1 (Nat.le_of_ble_eq_true rfl) ⟨Nat.le_of_ble_eq_true rfl, Nat.le_of_ble_eq_true rfl⟩ ⟨Nat.le_of_ble_eq_true rfl, Nat.le_of_ble_eq_true rfl⟩ (fun x H hP hS => ?_)
  refine lv_astore (lv' := [(5, .ref x), (0, .ref oo), (1, .long p0), (3, .int p1), (4, .ref ou)]) hx hb dL_letter_14 hl (by decide) rfl (fun ls hl => ?_)
  refine lv_iconst (v := 1) hx hb dL_letter_16 (by decide) ?_
  exact W.iret (v := 1) hx hb hr (fun t9 ht9 hW9 => ⟨⟨_, (), rfl, rfl, by rw [ht9]; exact hP, va_K.moved hW9.alike hK, hD⟩, hS.F ht9⟩) hS.2.2 dL_letter_17
section ZL
variable {p : Program} {l : Launch} {e : Env} {R : Room} {s : State} {m : MethodId} {args : Array Value} {below : List Frame} {meth : Method} {c : Code} {H : Heap} {locs : List Loc} {cells slots mc ms : Nat} {Q : State → Prop}
/-- the law's call of it -/
theorem zRunL {rm : Room} {Pc : Array Value → State → Prop} {Qc : Array Value → State → Outcome → State → Prop} {free : Addr → Prop} {cc : ByteArray} {nL : Nat} {Ts : List Cond} {As rest : List Value} {g : JFrame} (S : CallFix p m c cc nL s args Ts RL) (hM : Met l yL_letter wsLL rm Pc Qc mc ms free)
    (hG : GoodIn Ts wsLL) (hlink : (Cond.methodLink RL 31 yL_letter).before args s = true) (hstat : (Cond.static yL_letter).before args s = true) (hini : (Cond.initialized RL).before args s = true) (hrc : rm.cells = mc) (hrs : rm.slots = ms) (hfr : rm.frames + 1 ≤ R.frames) (hlo : 8 + (6 + 11) + rm.locals ≤ R.locals) (hp : PreS s H Pc As)
    (hg : g.method = m) (hn : As.length = 4) (hsize : g.locals.size = nL) (hstack : g.stack = As.reverse ++ rest) (hW : 2 * g.monitorRoom + (rest.map fun v => v.category).sum ≤ 8) (hdg : decode cc g.pc = .ok (.invokestatic 31, 3)) (hf : cells + mc ≤ R.cells ∧ slots + ms ≤ R.slots) :
    va_Run p l e R s m args below meth c H locs cells slots mc ms g rest (Qc As.toArray) free := by
  obtain ⟨hx, hb, hml, hown, hts⟩ := S
  have hK : Back l R p e below s args yL_letter 3 8 (PreOf R mc ms Pc) (PostOf Qc mc ms free) := va_backW (hh := [(0, 11, 14, 13)]) (bytes := cL_letter) (maxL := 6) (ret := some .int) hM hp.1 hrc hrs hfr hlo (fun w hw a' U hW9 => word_at hW9 (hG w hw).2 (hts w (hG w hw).1)) List.mem_cons_self
    (fun a' U hW9 => word_at hW9 (Or.inl (by first | rfl | simp [Cond.onTables, Cond.keeps, Cond.steady])) hini)
  obtain ⟨mk, methM, cM, hnamed, hmethM, -, -, -, -, -, -, hsigM⟩ := Cond.codeWith_spec (hts _ (hG (.codeWith yL_letter cL_letter 6 (some .int) [(0, 11, 14, 13)]) List.mem_cons_self).1)
  have hstatic : methM.isStatic = true := Cond.static_spec hnamed hmethM hstat
  obtain ⟨kP, hkP, -⟩ := className_of_methodNamed hnamed
  have hinitP : kP.init = .initialized := Cond.initialized_spec (findClass_of_methodNamed hnamed) hkP hini
  have hlen : As.length = methM.sig.parameters.length := by
    have h9 : parseMethodDescriptor yL_letter.desc = some ⟨[.object "NumberRows2", .long, .int, .array .long], some .int⟩ := by decide +kernel
    rw [h9] at hsigM; rw [hn, ← Option.some.inj hsigM]; rfl
  intro T hT X
  obtain ⟨vm₁, X₁, hstep₁⟩ := X.invokestatic hx hown hlink hnamed hmethM hstatic hkP hinitP (by decide +kernel) (g := g) hg (argsL := As) (rest := rest) hlen hstack (by rw [hb]; exact hdg)
  obtain ⟨v, ⟨U', l2, c2, s2⟩, X', ⟨g', mk', t, L, e1, e2, hq, h1, hL, h2, h3⟩, hsteps⟩ := hK m meth c ⟨T.setVm vm₁, locs, cells, slots⟩ { g with stack := rest } (.invokestatic 31) mk As.toArray X₁ hg (hsize.trans hml.symm) (by rw [hb]; exact hdg) hW (X₁.named hnamed) ⟨hf.1, hf.2, hp.2 (T.setVm vm₁) hT X₁.warmed⟩
  dsimp only [Pt.U, Pt.locs, Pt.cells, Pt.slots] at X' e1 e2 h1 h2 h3 hsteps
  subst h1; subst h2; subst h3
  exact ⟨v, (T.setVm vm₁).calling g' mk' As.toArray, t, U', L, hT, X', hL, e1, e2, hq, fun target h => hstep₁ _ fun acts => by rw [doInvoke_state]; exact hsteps.trans h⟩
end ZL
