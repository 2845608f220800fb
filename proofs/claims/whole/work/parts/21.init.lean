/-! constructors -/
def zAtN {S : Type} (D : va_G) (tf : S → List (ClassId × FieldType)) (A : Nat → Prop) (wf : S → va_W) (u : S) (t : State) : Prop := va_P D vwCl (wf u) t.heap ∧ va_K D vwCl (tf u) t ∧ va_D A (wf u)
section ZN
variable {p : Program} {l : Launch} {e : Env} {R : Room} {s : State} {m : MethodId} {args : Array Value} {below : List Frame} {meth : Method} {c : Code} {H : Heap} {locs : List Loc} {cells slots mc ms : Nat} {Q : State → Prop}
variable {pc : Nat} {ls : Array Slot} {rest st0 : List Value} {a : Array Value} {A0 : Nat → Prop} {H0 : Heap} {D : va_G} {ws : va_W} {S : Type} {wf : S → va_W} {wc wr : va_W} {tf : S → List (ClassId × FieldType)} {tys : List (ClassId × FieldType)}
theorem zNew_v {post : S → Prop} (hr : va_Run p l e R s m args below meth c H locs cells slots mc ms (F0 m pc ls st0) rest (va_Qv post (zAtN D tf (va_A wc H.size) wf) (va_A wc H.size) a) (va_A wc H.size)) (hS : va_S A0 H0 H locs) (hA : ∀ q, H0.size ≤ q → A0 q) (hP : va_P D vwCl ws H) (hD : va_D A0 ws) (hK : va_K D vwCl tys s)
    (isC isR : List Nat) (hC : isC.map (fun i => ws[i]?) = wc.map some) (hR : isR.map (fun i => ws[i]?) = wr.map some) (hn : va_nd isR = true) (hdis : ∀ i ∈ isR, i ∉ isC)
    (kk : ∀ (u : S) (H1 : Heap) (locs1 : List Loc), post u → va_P D vwCl (wr ++ wf u) H1 → va_D A0 (wr ++ wf u) → va_K D vwCl (tys ++ tf u) s → va_S A0 H0 H1 locs1 → W p l e R s m args below meth c H1 locs1 (cells + mc) (slots + ms) Q (F0 m (pc + 3) ls rest)) : W p l e R s m args below meth c H locs cells slots Q (F0 m pc ls st0) := by
  have hFc := va_free (wc := wc) hD hS hA isC hC
  refine va_callv hr hS (fun q _ h => hFc q h) hFc (fun u t H1 locs1 ht hvm hw hB hz hk hS1 => ?_)
  obtain ⟨hP1, hK1, hD1⟩ := hB
  rw [ht] at hP1
  obtain ⟨hP, hD⟩ := va_join hP hD isC isR hC hR hn hdis hk hFc hP1 hD1
  exact kk u H1 locs1 hw hP hD (hK.app (va_K.moved hvm.symm hK1)) hS1
end ZN

set_option maxHeartbeats 4000000 in
set_option maxRecDepth 100000 in
theorem ci_X0 (l : Launch) (D : va_G) (z : zG) (sz : Nat) (h : Nat)  : Met l yX0_init wsX0_init ({ frames := 1, cells := 2, slots := 100, locals := 12 }) (zPre D z [.ref h] sz [(h, .inr (1, [.null, .null, .int 0]))] [] (va_A [(h, .inr (1, [.null, .null, .int 0]))] sz)) (va_Qv (fun u : Nat × Nat × ClassId × ClassId => True) (zAtN D (fun u : Nat × Nat × ClassId × ClassId => [(u.2.2.1, .long), (u.2.2.2, .long)]) (va_A [(h, .inr (1, [.null, .null, .int 0]))] sz) (fun u : Nat × Nat × ClassId × ClassId => [(h, .inr (1, [.ref u.1, .ref u.2.1, .int (nI 0)])), (u.1, .inl (u.2.2.1, 50, .inr (.inl (fun _ => 0)))), (u.2.1, .inl (u.2.2.2, 50, .inr (.inl (fun _ => 0))))])) (va_A [(h, .inr (1, [.null, .null, .int 0]))] sz)) 2 100 (va_A [(h, .inr (1, [.null, .null, .int 0]))] sz) := by
  refine Met.ofW (cc := cX0_init) (maxL := 1) (ret := none) (by decide) rfl ?_
  intro p e s m args below meth c s₁ B hml hv
  obtain ⟨rfl, hsz, hP, hK, hD, hC⟩ := hv
  have hx := B.exec
  have hb := B.bytes
  have hr := B.returns
  have hts := atoms_spec (ws := wsX0_init) B.pre
  have hown : s.vm.findClass RX0 = some m.cls := findClass_of_methodNamed B.named
  have hlocks := B.notSynchronized
  have hin : meth.name = "<init>" := (name_of_methodNamed B.named B.method).1
  subst hsz
  have hD := hD.self (sz := s.heap.size)
  generalize hAe : va_A [(h, .inr (1, [.null, .null, .int 0]))] s.heap.size = A at hC hD ⊢
  have hA : ∀ q : Nat, s.heap.size ≤ q → A q := fun q h => by rw [← hAe]; exact Or.inr h
  have hS : va_S A s.heap s.heap [] := va_S.rf
  have hP : va_P D vwCl [(h, .inr (1, [.null, .null, .int 0]))] s.heap := hP
  have hl := lv_entry ([.ref h]) (n := 1) (Nat.le_of_ble_eq_true rfl)
  rw [lg_entry_eq]
  generalize (lg_sl ([.ref h]) ++ List.replicate (1 - (lg_sl ([.ref h])).length) Slot.unset).toArray = ls at hl ⊢
  have hl : lv_has ls 1 [(0, .ref h)] := hl
  refine zNameH (D := D) (A := A) (ws := [(h, .inr (1, [.null, .null, .int 0]))]) (fun H locs hP hS => ?_) hP hS
  have k_0 := hts (.methodLink RX0 3 objectInit) (by decide +kernel)
  have k_1 := hts (.instanceMethod objectInit) (by decide +kernel)
  have k_2 := hts (.code objectInit ⟨#[0xb1]⟩ 1 none) (by decide +kernel)
  have k_3 := hts (.arrayClass .long) (by decide +kernel)
  have k_4 := hts (.fieldLink RX0 9 "NumberRows2$BarredRows" "firsts" "[J") (by decide +kernel)
  have k_5 : ∀ w ∈ wsX00, w ∈ wsX0_init := by decide +kernel
  have k_6 := hts (.fieldLink RX0 15 "NumberRows2$BarredRows" "lasts" "[J") (by decide +kernel)
  have k_7 := hts (.fieldLink RX0 18 "NumberRows2$BarredRows" "count" "I") (by decide +kernel)
  refine lv_aload_n hx hb dX0_init_0 rfl (lv_at hl 0 rfl) ?_
  refine W.objInit hx hb hown k_0 k_1 k_2 rfl (by rw [hml]; exact hl.1) rfl dX0_init_1 (Nat.le_of_ble_eq_true rfl) (Nat.le_of_ble_eq_true rfl) ?_
  refine W.eq (g2 := F0 m 4 ls []) rfl ?_
  refine lv_aload_n hx hb dX0_init_4 rfl (lv_at hl 0 rfl) ?_
  refine lv_bipush (v := 50) hx hb dX0_init_5 (by decide) ?_
  refine va_newa (atype := .long) (ty := .long) (N' := 50) (a0 := (50, .inr (.inl (fun _ => 0)))) hx hb k_3 rfl hK hP hD hS hA (fun _ => rfl) (by decide) (by decide) (by decide) (Nat.le_of_ble_eq_true rfl) (Nat.le_of_ble_eq_true rfl) dX0_init_7 (fun q_7 k_7a H hK hP hD hS => ?_)
  refine W.widen (k := 1) (n := 50) (by omega) (by omega) ?_
  have hK : va_K D vwCl [(k_7a, .long)] s := hK
  have hP : va_P D vwCl [(h, .inr (1, [.null, .null, .int 0])), (q_7, .inl (k_7a, 50, .inr (.inl (fun _ => 0))))] H := hP
  have hD : va_D A [(h, .inr (1, [.null, .null, .int 0])), (q_7, .inl (k_7a, 50, .inr (.inl (fun _ => 0))))] := hD
  refine va_putF (D := D) (ci := 1) (v := .ref q_7) (ty := .array .long) (C := RX0) (T := TX0) (N := 3) hx hb hts k_5 tyX0 tyX0_ok nmX0 hown hK hP hD hS 0 rfl rfl 0 (by decide) k_4 (fun _ h9 => h9) rfl hin rfl (by decide +kernel) rfl rfl (Nat.le_of_ble_eq_true rfl) dX0_init_9 (fun H locs hP hD hS => ?_)
  have hP : va_P D vwCl [(h, .inr (1, [.ref q_7, .null, .int 0])), (q_7, .inl (k_7a, 50, .inr (.inl (fun _ => 0))))] H := hP
  have hD : va_D A [(h, .inr (1, [.ref q_7, .null, .int 0])), (q_7, .inl (k_7a, 50, .inr (.inl (fun _ => 0))))] := hD
  refine lv_aload_n hx hb dX0_init_12 rfl (lv_at hl 0 rfl) ?_
  refine lv_bipush (v := 50) hx hb dX0_init_13 (by decide) ?_
  refine va_newa (atype := .long) (ty := .long) (N' := 50) (a0 := (50, .inr (.inl (fun _ => 0)))) hx hb k_3 rfl hK hP hD hS hA (fun _ => rfl) (by decide) (by decide) (by decide) (Nat.le_of_ble_eq_true rfl) (Nat.le_of_ble_eq_true rfl) dX0_init_15 (fun q_15 k_15a H hK hP hD hS => ?_)
  refine W.widen (k := 2) (n := 100) (by omega) (by omega) ?_
  have hK : va_K D vwCl [(k_7a, .long), (k_15a, .long)] s := hK
  have hP : va_P D vwCl [(h, .inr (1, [.ref q_7, .null, .int 0])), (q_7, .inl (k_7a, 50, .inr (.inl (fun _ => 0)))), (q_15, .inl (k_15a, 50, .inr (.inl (fun _ => 0))))] H := hP
  have hD : va_D A [(h, .inr (1, [.ref q_7, .null, .int 0])), (q_7, .inl (k_7a, 50, .inr (.inl (fun _ => 0)))), (q_15, .inl (k_15a, 50, .inr (.inl (fun _ => 0))))] := hD
  refine va_putF (D := D) (ci := 1) (v := .ref q_15) (ty := .array .long) (C := RX0) (T := TX0) (N := 3) hx hb hts k_5 tyX0 tyX0_ok nmX0 hown hK hP hD hS 0 rfl rfl 1 (by decide) k_6 (fun _ h9 => h9) rfl hin rfl (by decide +kernel) rfl rfl (Nat.le_of_ble_eq_true rfl) dX0_init_17 (fun H locs hP hD hS => ?_)
  have hP : va_P D vwCl [(h, .inr (1, [.ref q_7, .ref q_15, .int 0])), (q_7, .inl (k_7a, 50, .inr (.inl (fun _ => 0)))), (q_15, .inl (k_15a, 50, .inr (.inl (fun _ => 0))))] H := hP
  have hD : va_D A [(h, .inr (1, [.ref q_7, .ref q_15, .int 0])), (q_7, .inl (k_7a, 50, .inr (.inl (fun _ => 0)))), (q_15, .inl (k_15a, 50, .inr (.inl (fun _ => 0))))] := hD
  refine lv_aload_n hx hb dX0_init_20 rfl (lv_at hl 0 rfl) ?_
  refine lv_iconst (v := 0) hx hb dX0_init_21 (by decide) ?_
  refine va_put (D := D) (ci := 1) (v := .int 0) (ty := .int) (C := RX0) (T := TX0) (N := 3) hx hb hts k_5 tyX0 tyX0_ok nmX0 hown hK hP hD hS 0 rfl rfl 2 (by decide) k_7 (fun _ h9 => h9) rfl (by decide +kernel) rfl rfl (Nat.le_of_ble_eq_true rfl) dX0_init_22 (fun H locs hP hD hS => ?_)
  have hP : va_P D vwCl [(h, .inr (1, [.ref q_7, .ref q_15, .int 0])), (q_7, .inl (k_7a, 50, .inr (.inl (fun _ => 0)))), (q_15, .inl (k_15a, 50, .inr (.inl (fun _ => 0))))] H := hP
  have hD : va_D A [(h, .inr (1, [.ref q_7, .ref q_15, .int 0])), (q_7, .inl (k_7a, 50, .inr (.inl (fun _ => 0)))), (q_15, .inl (k_15a, 50, .inr (.inl (fun _ => 0))))] := hD
  exact W.vret hx hb hr (fun t9 ht9 hW9 => ⟨⟨(q_7, q_15, k_7a, k_15a), rfl, trivial, by rw [ht9]; exact hP, va_K.moved hW9.alike (hK.sub [0, 1] rfl), hD⟩, hS.F ht9⟩) hS.2.2 dX0_init_25

set_option maxHeartbeats 4000000 in
set_option maxRecDepth 100000 in
theorem ci_X1 (l : Launch) (D : va_G) (z : zG) (sz : Nat) (h : Nat)  : Met l yX1_init wsX1_init ({ frames := 1, cells := 4, slots := 200, locals := 12 }) (zPre D z [.ref h] sz [(h, .inr (2, [.null, .null, .null, .null, .int 0]))] [] (va_A [(h, .inr (2, [.null, .null, .null, .null, .int 0]))] sz)) (va_Qv (fun u : Nat × Nat × Nat × Nat × ClassId × ClassId × ClassId × ClassId => True) (zAtN D (fun u : Nat × Nat × Nat × Nat × ClassId × ClassId × ClassId × ClassId => [(u.2.2.2.2.1, .int), (u.2.2.2.2.2.1, .long), (u.2.2.2.2.2.2.1, .long), (u.2.2.2.2.2.2.2, .long)]) (va_A [(h, .inr (2, [.null, .null, .null, .null, .int 0]))] sz) (fun u : Nat × Nat × Nat × Nat × ClassId × ClassId × ClassId × ClassId => [(h, .inr (2, [.ref u.1, .ref u.2.1, .ref u.2.2.1, .ref u.2.2.2.1, .int (nI 0)])), (u.1, .inl (u.2.2.2.2.1, 50, .inl (fun _ => 0))), (u.2.1, .inl (u.2.2.2.2.2.1, 50, .inr (.inl (fun _ => 0)))), (u.2.2.1, .inl (u.2.2.2.2.2.2.1, 50, .inr (.inl (fun _ => 0)))), (u.2.2.2.1, .inl (u.2.2.2.2.2.2.2, 50, .inr (.inl (fun _ => 0))))])) (va_A [(h, .inr (2, [.null, .null, .null, .null, .int 0]))] sz)) 4 200 (va_A [(h, .inr (2, [.null, .null, .null, .null, .int 0]))] sz) := by
  refine Met.ofW (cc := cX1_init) (maxL := 1) (ret := none) (by decide) rfl ?_
  intro p e s m args below meth c s₁ B hml hv
  obtain ⟨rfl, hsz, hP, hK, hD, hC⟩ := hv
  have hx := B.exec
  have hb := B.bytes
  have hr := B.returns
  have hts := atoms_spec (ws := wsX1_init) B.pre
  have hown : s.vm.findClass RX1 = some m.cls := findClass_of_methodNamed B.named
  have hlocks := B.notSynchronized
  have hin : meth.name = "<init>" := (name_of_methodNamed B.named B.method).1
  subst hsz
  have hD := hD.self (sz := s.heap.size)
  generalize hAe : va_A [(h, .inr (2, [.null, .null, .null, .null, .int 0]))] s.heap.size = A at hC hD ⊢
  have hA : ∀ q : Nat, s.heap.size ≤ q → A q := fun q h => by rw [← hAe]; exact Or.inr h
  have hS : va_S A s.heap s.heap [] := va_S.rf
  have hP : va_P D vwCl [(h, .inr (2, [.null, .null, .null, .null, .int 0]))] s.heap := hP
  have hl := lv_entry ([.ref h]) (n := 1) (Nat.le_of_ble_eq_true rfl)
  rw [lg_entry_eq]
  generalize (lg_sl ([.ref h]) ++ List.replicate (1 - (lg_sl ([.ref h])).length) Slot.unset).toArray = ls at hl ⊢
  have hl : lv_has ls 1 [(0, .ref h)] := hl
  refine zNameH (D := D) (A := A) (ws := [(h, .inr (2, [.null, .null, .null, .null, .int 0]))]) (fun H locs hP hS => ?_) hP hS
  have k_0 := hts (.methodLink RX1 3 objectInit) (by decide +kernel)
  have k_1 := hts (.instanceMethod objectInit) (by decide +kernel)
  have k_2 := hts (.code objectInit ⟨#[0xb1]⟩ 1 none) (by decide +kernel)
  have k_3 := hts (.arrayClass .int) (by decide +kernel)
  have k_4 := hts (.fieldLink RX1 9 "NumberRows2$Blocks" "offices" "[I") (by decide +kernel)
  have k_5 : ∀ w ∈ wsX10, w ∈ wsX1_init := by decide +kernel
  have k_6 := hts (.arrayClass .long) (by decide +kernel)
  have k_7 := hts (.fieldLink RX1 15 "NumberRows2$Blocks" "firsts" "[J") (by decide +kernel)
  have k_8 := hts (.fieldLink RX1 19 "NumberRows2$Blocks" "lasts" "[J") (by decide +kernel)
  have k_9 := hts (.fieldLink RX1 22 "NumberRows2$Blocks" "fresh" "[J") (by decide +kernel)
  have k_10 := hts (.fieldLink RX1 25 "NumberRows2$Blocks" "count" "I") (by decide +kernel)
  refine lv_aload_n hx hb dX1_init_0 rfl (lv_at hl 0 rfl) ?_
  refine W.objInit hx hb hown k_0 k_1 k_2 rfl (by rw [hml]; exact hl.1) rfl dX1_init_1 (Nat.le_of_ble_eq_true rfl) (Nat.le_of_ble_eq_true rfl) ?_
  refine W.eq (g2 := F0 m 4 ls []) rfl ?_
  refine lv_aload_n hx hb dX1_init_4 rfl (lv_at hl 0 rfl) ?_
  refine lv_bipush (v := 50) hx hb dX1_init_5 (by decide) ?_
  refine va_newa (atype := .int) (ty := .int) (N' := 50) (a0 := (50, .inl (fun _ => 0))) hx hb k_3 rfl hK hP hD hS hA (fun _ => rfl) (by decide) (by decide) (by decide) (Nat.le_of_ble_eq_true rfl) (Nat.le_of_ble_eq_true rfl) dX1_init_7 (fun q_7 k_7a H hK hP hD hS => ?_)
  refine W.widen (k := 1) (n := 50) (by omega) (by omega) ?_
  have hK : va_K D vwCl [(k_7a, .int)] s := hK
  have hP : va_P D vwCl [(h, .inr (2, [.null, .null, .null, .null, .int 0])), (q_7, .inl (k_7a, 50, .inl (fun _ => 0)))] H := hP
  have hD : va_D A [(h, .inr (2, [.null, .null, .null, .null, .int 0])), (q_7, .inl (k_7a, 50, .inl (fun _ => 0)))] := hD
  refine va_putF (D := D) (ci := 2) (v := .ref q_7) (ty := .array .int) (C := RX1) (T := TX1) (N := 5) hx hb hts k_5 tyX1 tyX1_ok nmX1 hown hK hP hD hS 0 rfl rfl 0 (by decide) k_4 (fun _ h9 => h9) rfl hin rfl (by decide +kernel) rfl rfl (Nat.le_of_ble_eq_true rfl) dX1_init_9 (fun H locs hP hD hS => ?_)
  have hP : va_P D vwCl [(h, .inr (2, [.ref q_7, .null, .null, .null, .int 0])), (q_7, .inl (k_7a, 50, .inl (fun _ => 0)))] H := hP
  have hD : va_D A [(h, .inr (2, [.ref q_7, .null, .null, .null, .int 0])), (q_7, .inl (k_7a, 50, .inl (fun _ => 0)))] := hD
  refine lv_aload_n hx hb dX1_init_12 rfl (lv_at hl 0 rfl) ?_
  refine lv_bipush (v := 50) hx hb dX1_init_13 (by decide) ?_
  refine va_newa (atype := .long) (ty := .long) (N' := 50) (a0 := (50, .inr (.inl (fun _ => 0)))) hx hb k_6 rfl hK hP hD hS hA (fun _ => rfl) (by decide) (by decide) (by decide) (Nat.le_of_ble_eq_true rfl) (Nat.le_of_ble_eq_true rfl) dX1_init_15 (fun q_15 k_15a H hK hP hD hS => ?_)
  refine W.widen (k := 2) (n := 100) (by omega) (by omega) ?_
  have hK : va_K D vwCl [(k_7a, .int), (k_15a, .long)] s := hK
  have hP : va_P D vwCl [(h, .inr (2, [.ref q_7, .null, .null, .null, .int 0])), (q_7, .inl (k_7a, 50, .inl (fun _ => 0))), (q_15, .inl (k_15a, 50, .inr (.inl (fun _ => 0))))] H := hP
  have hD : va_D A [(h, .inr (2, [.ref q_7, .null, .null, .null, .int 0])), (q_7, .inl (k_7a, 50, .inl (fun _ => 0))), (q_15, .inl (k_15a, 50, .inr (.inl (fun _ => 0))))] := hD
  refine va_putF (D := D) (ci := 2) (v := .ref q_15) (ty := .array .long) (C := RX1) (T := TX1) (N := 5) hx hb hts k_5 tyX1 tyX1_ok nmX1 hown hK hP hD hS 0 rfl rfl 1 (by decide) k_7 (fun _ h9 => h9) rfl hin rfl (by decide +kernel) rfl rfl (Nat.le_of_ble_eq_true rfl) dX1_init_17 (fun H locs hP hD hS => ?_)
  have hP : va_P D vwCl [(h, .inr (2, [.ref q_7, .ref q_15, .null, .null, .int 0])), (q_7, .inl (k_7a, 50, .inl (fun _ => 0))), (q_15, .inl (k_15a, 50, .inr (.inl (fun _ => 0))))] H := hP
  have hD : va_D A [(h, .inr (2, [.ref q_7, .ref q_15, .null, .null, .int 0])), (q_7, .inl (k_7a, 50, .inl (fun _ => 0))), (q_15, .inl (k_15a, 50, .inr (.inl (fun _ => 0))))] := hD
  refine lv_aload_n hx hb dX1_init_20 rfl (lv_at hl 0 rfl) ?_
  refine lv_bipush (v := 50) hx hb dX1_init_21 (by decide) ?_
  refine va_newa (atype := .long) (ty := .long) (N' := 50) (a0 := (50, .inr (.inl (fun _ => 0)))) hx hb k_6 rfl hK hP hD hS hA (fun _ => rfl) (by decide) (by decide) (by decide) (Nat.le_of_ble_eq_true rfl) (Nat.le_of_ble_eq_true rfl) dX1_init_23 (fun q_23 k_23a H hK hP hD hS => ?_)
  refine W.widen (k := 3) (n := 150) (by omega) (by omega) ?_
  have hK : va_K D vwCl [(k_7a, .int), (k_15a, .long), (k_23a, .long)] s := hK
  have hP : va_P D vwCl [(h, .inr (2, [.ref q_7, .ref q_15, .null, .null, .int 0])), (q_7, .inl (k_7a, 50, .inl (fun _ => 0))), (q_15, .inl (k_15a, 50, .inr (.inl (fun _ => 0)))), (q_23, .inl (k_23a, 50, .inr (.inl (fun _ => 0))))] H := hP
  have hD : va_D A [(h, .inr (2, [.ref q_7, .ref q_15, .null, .null, .int 0])), (q_7, .inl (k_7a, 50, .inl (fun _ => 0))), (q_15, .inl (k_15a, 50, .inr (.inl (fun _ => 0)))), (q_23, .inl (k_23a, 50, .inr (.inl (fun _ => 0))))] := hD
  refine va_putF (D := D) (ci := 2) (v := .ref q_23) (ty := .array .long) (C := RX1) (T := TX1) (N := 5) hx hb hts k_5 tyX1 tyX1_ok nmX1 hown hK hP hD hS 0 rfl rfl 2 (by decide) k_8 (fun _ h9 => h9) rfl hin rfl (by decide +kernel) rfl rfl (Nat.le_of_ble_eq_true rfl) dX1_init_25 (fun H locs hP hD hS => ?_)
  have hP : va_P D vwCl [(h, .inr (2, [.ref q_7, .ref q_15, .ref q_23, .null, .int 0])), (q_7, .inl (k_7a, 50, .inl (fun _ => 0))), (q_15, .inl (k_15a, 50, .inr (.inl (fun _ => 0)))), (q_23, .inl (k_23a, 50, .inr (.inl (fun _ => 0))))] H := hP
  have hD : va_D A [(h, .inr (2, [.ref q_7, .ref q_15, .ref q_23, .null, .int 0])), (q_7, .inl (k_7a, 50, .inl (fun _ => 0))), (q_15, .inl (k_15a, 50, .inr (.inl (fun _ => 0)))), (q_23, .inl (k_23a, 50, .inr (.inl (fun _ => 0))))] := hD
  refine lv_aload_n hx hb dX1_init_28 rfl (lv_at hl 0 rfl) ?_
  refine lv_bipush (v := 50) hx hb dX1_init_29 (by decide) ?_
  refine va_newa (atype := .long) (ty := .long) (N' := 50) (a0 := (50, .inr (.inl (fun _ => 0)))) hx hb k_6 rfl hK hP hD hS hA (fun _ => rfl) (by decide) (by decide) (by decide) (Nat.le_of_ble_eq_true rfl) (Nat.le_of_ble_eq_true rfl) dX1_init_31 (fun q_31 k_31a H hK hP hD hS => ?_)
  refine W.widen (k := 4) (n := 200) (by omega) (by omega) ?_
  have hK : va_K D vwCl [(k_7a, .int), (k_15a, .long), (k_23a, .long), (k_31a, .long)] s := hK
  have hP : va_P D vwCl [(h, .inr (2, [.ref q_7, .ref q_15, .ref q_23, .null, .int 0])), (q_7, .inl (k_7a, 50, .inl (fun _ => 0))), (q_15, .inl (k_15a, 50, .inr (.inl (fun _ => 0)))), (q_23, .inl (k_23a, 50, .inr (.inl (fun _ => 0)))), (q_31, .inl (k_31a, 50, .inr (.inl (fun _ => 0))))] H := hP
  have hD : va_D A [(h, .inr (2, [.ref q_7, .ref q_15, .ref q_23, .null, .int 0])), (q_7, .inl (k_7a, 50, .inl (fun _ => 0))), (q_15, .inl (k_15a, 50, .inr (.inl (fun _ => 0)))), (q_23, .inl (k_23a, 50, .inr (.inl (fun _ => 0)))), (q_31, .inl (k_31a, 50, .inr (.inl (fun _ => 0))))] := hD
  refine va_putF (D := D) (ci := 2) (v := .ref q_31) (ty := .array .long) (C := RX1) (T := TX1) (N := 5) hx hb hts k_5 tyX1 tyX1_ok nmX1 hown hK hP hD hS 0 rfl rfl 3 (by decide) k_9 (fun _ h9 => h9) rfl hin rfl (by decide +kernel) rfl rfl (Nat.le_of_ble_eq_true rfl) dX1_init_33 (fun H locs hP hD hS => ?_)
  have hP : va_P D vwCl [(h, .inr (2, [.ref q_7, .ref q_15, .ref q_23, .ref q_31, .int 0])), (q_7, .inl (k_7a, 50, .inl (fun _ => 0))), (q_15, .inl (k_15a, 50, .inr (.inl (fun _ => 0)))), (q_23, .inl (k_23a, 50, .inr (.inl (fun _ => 0)))), (q_31, .inl (k_31a, 50, .inr (.inl (fun _ => 0))))] H := hP
  have hD : va_D A [(h, .inr (2, [.ref q_7, .ref q_15, .ref q_23, .ref q_31, .int 0])), (q_7, .inl (k_7a, 50, .inl (fun _ => 0))), (q_15, .inl (k_15a, 50, .inr (.inl (fun _ => 0)))), (q_23, .inl (k_23a, 50, .inr (.inl (fun _ => 0)))), (q_31, .inl (k_31a, 50, .inr (.inl (fun _ => 0))))] := hD
  refine lv_aload_n hx hb dX1_init_36 rfl (lv_at hl 0 rfl) ?_
  refine lv_iconst (v := 0) hx hb dX1_init_37 (by decide) ?_
  refine va_put (D := D) (ci := 2) (v := .int 0) (ty := .int) (C := RX1) (T := TX1) (N := 5) hx hb hts k_5 tyX1 tyX1_ok nmX1 hown hK hP hD hS 0 rfl rfl 4 (by decide) k_10 (fun _ h9 => h9) rfl (by decide +kernel) rfl rfl (Nat.le_of_ble_eq_true rfl) dX1_init_38 (fun H locs hP hD hS => ?_)
  have hP : va_P D vwCl [(h, .inr (2, [.ref q_7, .ref q_15, .ref q_23, .ref q_31, .int 0])), (q_7, .inl (k_7a, 50, .inl (fun _ => 0))), (q_15, .inl (k_15a, 50, .inr (.inl (fun _ => 0)))), (q_23, .inl (k_23a, 50, .inr (.inl (fun _ => 0)))), (q_31, .inl (k_31a, 50, .inr (.inl (fun _ => 0))))] H := hP
  have hD : va_D A [(h, .inr (2, [.ref q_7, .ref q_15, .ref q_23, .ref q_31, .int 0])), (q_7, .inl (k_7a, 50, .inl (fun _ => 0))), (q_15, .inl (k_15a, 50, .inr (.inl (fun _ => 0)))), (q_23, .inl (k_23a, 50, .inr (.inl (fun _ => 0)))), (q_31, .inl (k_31a, 50, .inr (.inl (fun _ => 0))))] := hD
  exact W.vret hx hb hr (fun t9 ht9 hW9 => ⟨⟨(q_7, q_15, q_23, q_31, k_7a, k_15a, k_23a, k_31a), rfl, trivial, by rw [ht9]; exact hP, va_K.moved hW9.alike (hK.sub [0, 1, 2, 3] rfl), hD⟩, hS.F ht9⟩) hS.2.2 dX1_init_41

set_option maxHeartbeats 4000000 in
set_option maxRecDepth 100000 in
theorem ci_X3 (l : Launch) (D : va_G) (z : zG) (sz : Nat) (h : Nat)  : Met l yX3_init wsX3_init ({ frames := 1, cells := 1, slots := 512, locals := 12 }) (zPre D z [.ref h] sz [(h, .inr (3, [.null, .int 0]))] [] (va_A [(h, .inr (3, [.null, .int 0]))] sz)) (va_Qv (fun u : Nat × ClassId => True) (zAtN D (fun u : Nat × ClassId => [(u.2, .long)]) (va_A [(h, .inr (3, [.null, .int 0]))] sz) (fun u : Nat × ClassId => [(h, .inr (3, [.ref u.1, .int (nI 0)])), (u.1, .inl (u.2, 512, .inr (.inl (fun _ => 0))))])) (va_A [(h, .inr (3, [.null, .int 0]))] sz)) 1 512 (va_A [(h, .inr (3, [.null, .int 0]))] sz) := by
  refine Met.ofW (cc := cX3_init) (maxL := 1) (ret := none) (by decide) rfl ?_
  intro p e s m args below meth c s₁ B hml hv
  obtain ⟨rfl, hsz, hP, hK, hD, hC⟩ := hv
  have hx := B.exec
  have hb := B.bytes
  have hr := B.returns
  have hts := atoms_spec (ws := wsX3_init) B.pre
  have hown : s.vm.findClass RX3 = some m.cls := findClass_of_methodNamed B.named
  have hlocks := B.notSynchronized
  have hin : meth.name = "<init>" := (name_of_methodNamed B.named B.method).1
  subst hsz
  have hD := hD.self (sz := s.heap.size)
  generalize hAe : va_A [(h, .inr (3, [.null, .int 0]))] s.heap.size = A at hC hD ⊢
  have hA : ∀ q : Nat, s.heap.size ≤ q → A q := fun q h => by rw [← hAe]; exact Or.inr h
  have hS : va_S A s.heap s.heap [] := va_S.rf
  have hP : va_P D vwCl [(h, .inr (3, [.null, .int 0]))] s.heap := hP
  have hl := lv_entry ([.ref h]) (n := 1) (Nat.le_of_ble_eq_true rfl)
  rw [lg_entry_eq]
  generalize (lg_sl ([.ref h]) ++ List.replicate (1 - (lg_sl ([.ref h])).length) Slot.unset).toArray = ls at hl ⊢
  have hl : lv_has ls 1 [(0, .ref h)] := hl
  refine zNameH (D := D) (A := A) (ws := [(h, .inr (3, [.null, .int 0]))]) (fun H locs hP hS => ?_) hP hS
  have k_0 := hts (.methodLink RX3 3 objectInit) (by decide +kernel)
  have k_1 := hts (.instanceMethod objectInit) (by decide +kernel)
  have k_2 := hts (.code objectInit ⟨#[0xb1]⟩ 1 none) (by decide +kernel)
  have k_3 := hts (.arrayClass .long) (by decide +kernel)
  have k_4 := hts (.fieldLink RX3 9 "NumberRows2$GivenNumbers" "numbers" "[J") (by decide +kernel)
  have k_5 : ∀ w ∈ wsX30, w ∈ wsX3_init := by decide +kernel
  have k_6 := hts (.fieldLink RX3 15 "NumberRows2$GivenNumbers" "count" "I") (by decide +kernel)
  refine lv_aload_n hx hb dX3_init_0 rfl (lv_at hl 0 rfl) ?_
  refine W.objInit hx hb hown k_0 k_1 k_2 rfl (by rw [hml]; exact hl.1) rfl dX3_init_1 (Nat.le_of_ble_eq_true rfl) (Nat.le_of_ble_eq_true rfl) ?_
  refine W.eq (g2 := F0 m 4 ls []) rfl ?_
  refine lv_aload_n hx hb dX3_init_4 rfl (lv_at hl 0 rfl) ?_
  refine lv_sipush (v := 512) hx hb dX3_init_5 (by decide) ?_
  refine va_newa (atype := .long) (ty := .long) (N' := 512) (a0 := (512, .inr (.inl (fun _ => 0)))) hx hb k_3 rfl hK hP hD hS hA (fun _ => rfl) (by decide) (by decide) (by decide) (Nat.le_of_ble_eq_true rfl) (Nat.le_of_ble_eq_true rfl) dX3_init_8 (fun q_8 k_8a H hK hP hD hS => ?_)
  refine W.widen (k := 1) (n := 512) (by omega) (by omega) ?_
  have hK : va_K D vwCl [(k_8a, .long)] s := hK
  have hP : va_P D vwCl [(h, .inr (3, [.null, .int 0])), (q_8, .inl (k_8a, 512, .inr (.inl (fun _ => 0))))] H := hP
  have hD : va_D A [(h, .inr (3, [.null, .int 0])), (q_8, .inl (k_8a, 512, .inr (.inl (fun _ => 0))))] := hD
  refine va_putF (D := D) (ci := 3) (v := .ref q_8) (ty := .array .long) (C := RX3) (T := TX3) (N := 2) hx hb hts k_5 tyX3 tyX3_ok nmX3 hown hK hP hD hS 0 rfl rfl 0 (by decide) k_4 (fun _ h9 => h9) rfl hin rfl (by decide +kernel) rfl rfl (Nat.le_of_ble_eq_true rfl) dX3_init_10 (fun H locs hP hD hS => ?_)
  have hP : va_P D vwCl [(h, .inr (3, [.ref q_8, .int 0])), (q_8, .inl (k_8a, 512, .inr (.inl (fun _ => 0))))] H := hP
  have hD : va_D A [(h, .inr (3, [.ref q_8, .int 0])), (q_8, .inl (k_8a, 512, .inr (.inl (fun _ => 0))))] := hD
  refine lv_aload_n hx hb dX3_init_13 rfl (lv_at hl 0 rfl) ?_
  refine lv_iconst (v := 0) hx hb dX3_init_14 (by decide) ?_
  refine va_put (D := D) (ci := 3) (v := .int 0) (ty := .int) (C := RX3) (T := TX3) (N := 2) hx hb hts k_5 tyX3 tyX3_ok nmX3 hown hK hP hD hS 0 rfl rfl 1 (by decide) k_6 (fun _ h9 => h9) rfl (by decide +kernel) rfl rfl (Nat.le_of_ble_eq_true rfl) dX3_init_15 (fun H locs hP hD hS => ?_)
  have hP : va_P D vwCl [(h, .inr (3, [.ref q_8, .int 0])), (q_8, .inl (k_8a, 512, .inr (.inl (fun _ => 0))))] H := hP
  have hD : va_D A [(h, .inr (3, [.ref q_8, .int 0])), (q_8, .inl (k_8a, 512, .inr (.inl (fun _ => 0))))] := hD
  exact W.vret hx hb hr (fun t9 ht9 hW9 => ⟨⟨(q_8, k_8a), rfl, trivial, by rw [ht9]; exact hP, va_K.moved hW9.alike (hK.sub [0] rfl), hD⟩, hS.F ht9⟩) hS.2.2 dX3_init_18

set_option maxHeartbeats 4000000 in
set_option maxRecDepth 100000 in
theorem ci_X4 (l : Launch) (D : va_G) (z : zG) (sz : Nat) (h : Nat)  : Met l yX4_init wsX4_init ({ frames := 1, cells := 3, slots := 900, locals := 12 }) (zPre D z [.ref h] sz [(h, .inr (4, [.null, .null, .null, .int 0]))] [] (va_A [(h, .inr (4, [.null, .null, .null, .int 0]))] sz)) (va_Qv (fun u : Nat × Nat × Nat × ClassId × ClassId × ClassId => True) (zAtN D (fun u : Nat × Nat × Nat × ClassId × ClassId × ClassId => [(u.2.2.2.1, .int), (u.2.2.2.2.1, .long), (u.2.2.2.2.2, .long)]) (va_A [(h, .inr (4, [.null, .null, .null, .int 0]))] sz) (fun u : Nat × Nat × Nat × ClassId × ClassId × ClassId => [(h, .inr (4, [.ref u.1, .ref u.2.1, .ref u.2.2.1, .int (nI 0)])), (u.1, .inl (u.2.2.2.1, 300, .inl (fun _ => 0))), (u.2.1, .inl (u.2.2.2.2.1, 300, .inr (.inl (fun _ => 0)))), (u.2.2.1, .inl (u.2.2.2.2.2, 300, .inr (.inl (fun _ => 0))))])) (va_A [(h, .inr (4, [.null, .null, .null, .int 0]))] sz)) 3 900 (va_A [(h, .inr (4, [.null, .null, .null, .int 0]))] sz) := by
  refine Met.ofW (cc := cX4_init) (maxL := 1) (ret := none) (by decide) rfl ?_
  intro p e s m args below meth c s₁ B hml hv
  obtain ⟨rfl, hsz, hP, hK, hD, hC⟩ := hv
  have hx := B.exec
  have hb := B.bytes
  have hr := B.returns
  have hts := atoms_spec (ws := wsX4_init) B.pre
  have hown : s.vm.findClass RX4 = some m.cls := findClass_of_methodNamed B.named
  have hlocks := B.notSynchronized
  have hin : meth.name = "<init>" := (name_of_methodNamed B.named B.method).1
  subst hsz
  have hD := hD.self (sz := s.heap.size)
  generalize hAe : va_A [(h, .inr (4, [.null, .null, .null, .int 0]))] s.heap.size = A at hC hD ⊢
  have hA : ∀ q : Nat, s.heap.size ≤ q → A q := fun q h => by rw [← hAe]; exact Or.inr h
  have hS : va_S A s.heap s.heap [] := va_S.rf
  have hP : va_P D vwCl [(h, .inr (4, [.null, .null, .null, .int 0]))] s.heap := hP
  have hl := lv_entry ([.ref h]) (n := 1) (Nat.le_of_ble_eq_true rfl)
  rw [lg_entry_eq]
  generalize (lg_sl ([.ref h]) ++ List.replicate (1 - (lg_sl ([.ref h])).length) Slot.unset).toArray = ls at hl ⊢
  have hl : lv_has ls 1 [(0, .ref h)] := hl
  refine zNameH (D := D) (A := A) (ws := [(h, .inr (4, [.null, .null, .null, .int 0]))]) (fun H locs hP hS => ?_) hP hS
  have k_0 := hts (.methodLink RX4 3 objectInit) (by decide +kernel)
  have k_1 := hts (.instanceMethod objectInit) (by decide +kernel)
  have k_2 := hts (.code objectInit ⟨#[0xb1]⟩ 1 none) (by decide +kernel)
  have k_3 := hts (.arrayClass .int) (by decide +kernel)
  have k_4 := hts (.fieldLink RX4 9 "NumberRows2$Names" "senders" "[I") (by decide +kernel)
  have k_5 : ∀ w ∈ wsX40, w ∈ wsX4_init := by decide +kernel
  have k_6 := hts (.arrayClass .long) (by decide +kernel)
  have k_7 := hts (.fieldLink RX4 15 "NumberRows2$Names" "references" "[J") (by decide +kernel)
  have k_8 := hts (.fieldLink RX4 19 "NumberRows2$Names" "numbers" "[J") (by decide +kernel)
  have k_9 := hts (.fieldLink RX4 22 "NumberRows2$Names" "count" "I") (by decide +kernel)
  refine lv_aload_n hx hb dX4_init_0 rfl (lv_at hl 0 rfl) ?_
  refine W.objInit hx hb hown k_0 k_1 k_2 rfl (by rw [hml]; exact hl.1) rfl dX4_init_1 (Nat.le_of_ble_eq_true rfl) (Nat.le_of_ble_eq_true rfl) ?_
  refine W.eq (g2 := F0 m 4 ls []) rfl ?_
  refine lv_aload_n hx hb dX4_init_4 rfl (lv_at hl 0 rfl) ?_
  refine lv_sipush (v := 300) hx hb dX4_init_5 (by decide) ?_
  refine va_newa (atype := .int) (ty := .int) (N' := 300) (a0 := (300, .inl (fun _ => 0))) hx hb k_3 rfl hK hP hD hS hA (fun _ => rfl) (by decide) (by decide) (by decide) (Nat.le_of_ble_eq_true rfl) (Nat.le_of_ble_eq_true rfl) dX4_init_8 (fun q_8 k_8a H hK hP hD hS => ?_)
  refine W.widen (k := 1) (n := 300) (by omega) (by omega) ?_
  have hK : va_K D vwCl [(k_8a, .int)] s := hK
  have hP : va_P D vwCl [(h, .inr (4, [.null, .null, .null, .int 0])), (q_8, .inl (k_8a, 300, .inl (fun _ => 0)))] H := hP
  have hD : va_D A [(h, .inr (4, [.null, .null, .null, .int 0])), (q_8, .inl (k_8a, 300, .inl (fun _ => 0)))] := hD
  refine va_putF (D := D) (ci := 4) (v := .ref q_8) (ty := .array .int) (C := RX4) (T := TX4) (N := 4) hx hb hts k_5 tyX4 tyX4_ok nmX4 hown hK hP hD hS 0 rfl rfl 0 (by decide) k_4 (fun _ h9 => h9) rfl hin rfl (by decide +kernel) rfl rfl (Nat.le_of_ble_eq_true rfl) dX4_init_10 (fun H locs hP hD hS => ?_)
  have hP : va_P D vwCl [(h, .inr (4, [.ref q_8, .null, .null, .int 0])), (q_8, .inl (k_8a, 300, .inl (fun _ => 0)))] H := hP
  have hD : va_D A [(h, .inr (4, [.ref q_8, .null, .null, .int 0])), (q_8, .inl (k_8a, 300, .inl (fun _ => 0)))] := hD
  refine lv_aload_n hx hb dX4_init_13 rfl (lv_at hl 0 rfl) ?_
  refine lv_sipush (v := 300) hx hb dX4_init_14 (by decide) ?_
  refine va_newa (atype := .long) (ty := .long) (N' := 300) (a0 := (300, .inr (.inl (fun _ => 0)))) hx hb k_6 rfl hK hP hD hS hA (fun _ => rfl) (by decide) (by decide) (by decide) (Nat.le_of_ble_eq_true rfl) (Nat.le_of_ble_eq_true rfl) dX4_init_17 (fun q_17 k_17a H hK hP hD hS => ?_)
  refine W.widen (k := 2) (n := 600) (by omega) (by omega) ?_
  have hK : va_K D vwCl [(k_8a, .int), (k_17a, .long)] s := hK
  have hP : va_P D vwCl [(h, .inr (4, [.ref q_8, .null, .null, .int 0])), (q_8, .inl (k_8a, 300, .inl (fun _ => 0))), (q_17, .inl (k_17a, 300, .inr (.inl (fun _ => 0))))] H := hP
  have hD : va_D A [(h, .inr (4, [.ref q_8, .null, .null, .int 0])), (q_8, .inl (k_8a, 300, .inl (fun _ => 0))), (q_17, .inl (k_17a, 300, .inr (.inl (fun _ => 0))))] := hD
  refine va_putF (D := D) (ci := 4) (v := .ref q_17) (ty := .array .long) (C := RX4) (T := TX4) (N := 4) hx hb hts k_5 tyX4 tyX4_ok nmX4 hown hK hP hD hS 0 rfl rfl 1 (by decide) k_7 (fun _ h9 => h9) rfl hin rfl (by decide +kernel) rfl rfl (Nat.le_of_ble_eq_true rfl) dX4_init_19 (fun H locs hP hD hS => ?_)
  have hP : va_P D vwCl [(h, .inr (4, [.ref q_8, .ref q_17, .null, .int 0])), (q_8, .inl (k_8a, 300, .inl (fun _ => 0))), (q_17, .inl (k_17a, 300, .inr (.inl (fun _ => 0))))] H := hP
  have hD : va_D A [(h, .inr (4, [.ref q_8, .ref q_17, .null, .int 0])), (q_8, .inl (k_8a, 300, .inl (fun _ => 0))), (q_17, .inl (k_17a, 300, .inr (.inl (fun _ => 0))))] := hD
  refine lv_aload_n hx hb dX4_init_22 rfl (lv_at hl 0 rfl) ?_
  refine lv_sipush (v := 300) hx hb dX4_init_23 (by decide) ?_
  refine va_newa (atype := .long) (ty := .long) (N' := 300) (a0 := (300, .inr (.inl (fun _ => 0)))) hx hb k_6 rfl hK hP hD hS hA (fun _ => rfl) (by decide) (by decide) (by decide) (Nat.le_of_ble_eq_true rfl) (Nat.le_of_ble_eq_true rfl) dX4_init_26 (fun q_26 k_26a H hK hP hD hS => ?_)
  refine W.widen (k := 3) (n := 900) (by omega) (by omega) ?_
  have hK : va_K D vwCl [(k_8a, .int), (k_17a, .long), (k_26a, .long)] s := hK
  have hP : va_P D vwCl [(h, .inr (4, [.ref q_8, .ref q_17, .null, .int 0])), (q_8, .inl (k_8a, 300, .inl (fun _ => 0))), (q_17, .inl (k_17a, 300, .inr (.inl (fun _ => 0)))), (q_26, .inl (k_26a, 300, .inr (.inl (fun _ => 0))))] H := hP
  have hD : va_D A [(h, .inr (4, [.ref q_8, .ref q_17, .null, .int 0])), (q_8, .inl (k_8a, 300, .inl (fun _ => 0))), (q_17, .inl (k_17a, 300, .inr (.inl (fun _ => 0)))), (q_26, .inl (k_26a, 300, .inr (.inl (fun _ => 0))))] := hD
  refine va_putF (D := D) (ci := 4) (v := .ref q_26) (ty := .array .long) (C := RX4) (T := TX4) (N := 4) hx hb hts k_5 tyX4 tyX4_ok nmX4 hown hK hP hD hS 0 rfl rfl 2 (by decide) k_8 (fun _ h9 => h9) rfl hin rfl (by decide +kernel) rfl rfl (Nat.le_of_ble_eq_true rfl) dX4_init_28 (fun H locs hP hD hS => ?_)
  have hP : va_P D vwCl [(h, .inr (4, [.ref q_8, .ref q_17, .ref q_26, .int 0])), (q_8, .inl (k_8a, 300, .inl (fun _ => 0))), (q_17, .inl (k_17a, 300, .inr (.inl (fun _ => 0)))), (q_26, .inl (k_26a, 300, .inr (.inl (fun _ => 0))))] H := hP
  have hD : va_D A [(h, .inr (4, [.ref q_8, .ref q_17, .ref q_26, .int 0])), (q_8, .inl (k_8a, 300, .inl (fun _ => 0))), (q_17, .inl (k_17a, 300, .inr (.inl (fun _ => 0)))), (q_26, .inl (k_26a, 300, .inr (.inl (fun _ => 0))))] := hD
  refine lv_aload_n hx hb dX4_init_31 rfl (lv_at hl 0 rfl) ?_
  refine lv_iconst (v := 0) hx hb dX4_init_32 (by decide) ?_
  refine va_put (D := D) (ci := 4) (v := .int 0) (ty := .int) (C := RX4) (T := TX4) (N := 4) hx hb hts k_5 tyX4 tyX4_ok nmX4 hown hK hP hD hS 0 rfl rfl 3 (by decide) k_9 (fun _ h9 => h9) rfl (by decide +kernel) rfl rfl (Nat.le_of_ble_eq_true rfl) dX4_init_33 (fun H locs hP hD hS => ?_)
  have hP : va_P D vwCl [(h, .inr (4, [.ref q_8, .ref q_17, .ref q_26, .int 0])), (q_8, .inl (k_8a, 300, .inl (fun _ => 0))), (q_17, .inl (k_17a, 300, .inr (.inl (fun _ => 0)))), (q_26, .inl (k_26a, 300, .inr (.inl (fun _ => 0))))] H := hP
  have hD : va_D A [(h, .inr (4, [.ref q_8, .ref q_17, .ref q_26, .int 0])), (q_8, .inl (k_8a, 300, .inl (fun _ => 0))), (q_17, .inl (k_17a, 300, .inr (.inl (fun _ => 0)))), (q_26, .inl (k_26a, 300, .inr (.inl (fun _ => 0))))] := hD
  exact W.vret hx hb hr (fun t9 ht9 hW9 => ⟨⟨(q_8, q_17, q_26, k_8a, k_17a, k_26a), rfl, trivial, by rw [ht9]; exact hP, va_K.moved hW9.alike (hK.sub [0, 1, 2] rfl), hD⟩, hS.F ht9⟩) hS.2.2 dX4_init_36

set_option maxHeartbeats 4000000 in
set_option maxRecDepth 100000 in
theorem ci_X5 (l : Launch) (D : va_G) (z : zG) (sz : Nat) (h : Nat)  : Met l yX5_init wsX5_init ({ frames := 1, cells := 1, slots := 60, locals := 12 }) (zPre D z [.ref h] sz [(h, .inr (5, [.null, .int 0]))] [] (va_A [(h, .inr (5, [.null, .int 0]))] sz)) (va_Qv (fun u : Nat × ClassId => True) (zAtN D (fun u : Nat × ClassId => [(u.2, .int)]) (va_A [(h, .inr (5, [.null, .int 0]))] sz) (fun u : Nat × ClassId => [(h, .inr (5, [.ref u.1, .int (nI 0)])), (u.1, .inl (u.2, 60, .inl (fun _ => 0)))])) (va_A [(h, .inr (5, [.null, .int 0]))] sz)) 1 60 (va_A [(h, .inr (5, [.null, .int 0]))] sz) := by
  refine Met.ofW (cc := cX5_init) (maxL := 1) (ret := none) (by decide) rfl ?_
  intro p e s m args below meth c s₁ B hml hv
  obtain ⟨rfl, hsz, hP, hK, hD, hC⟩ := hv
  have hx := B.exec
  have hb := B.bytes
  have hr := B.returns
  have hts := atoms_spec (ws := wsX5_init) B.pre
  have hown : s.vm.findClass RX5 = some m.cls := findClass_of_methodNamed B.named
  have hlocks := B.notSynchronized
  have hin : meth.name = "<init>" := (name_of_methodNamed B.named B.method).1
  subst hsz
  have hD := hD.self (sz := s.heap.size)
  generalize hAe : va_A [(h, .inr (5, [.null, .int 0]))] s.heap.size = A at hC hD ⊢
  have hA : ∀ q : Nat, s.heap.size ≤ q → A q := fun q h => by rw [← hAe]; exact Or.inr h
  have hS : va_S A s.heap s.heap [] := va_S.rf
  have hP : va_P D vwCl [(h, .inr (5, [.null, .int 0]))] s.heap := hP
  have hl := lv_entry ([.ref h]) (n := 1) (Nat.le_of_ble_eq_true rfl)
  rw [lg_entry_eq]
  generalize (lg_sl ([.ref h]) ++ List.replicate (1 - (lg_sl ([.ref h])).length) Slot.unset).toArray = ls at hl ⊢
  have hl : lv_has ls 1 [(0, .ref h)] := hl
  refine zNameH (D := D) (A := A) (ws := [(h, .inr (5, [.null, .int 0]))]) (fun H locs hP hS => ?_) hP hS
  have k_0 := hts (.methodLink RX5 3 objectInit) (by decide +kernel)
  have k_1 := hts (.instanceMethod objectInit) (by decide +kernel)
  have k_2 := hts (.code objectInit ⟨#[0xb1]⟩ 1 none) (by decide +kernel)
  have k_3 := hts (.arrayClass .int) (by decide +kernel)
  have k_4 := hts (.fieldLink RX5 9 "NumberRows2$TypedText" "characters" "[I") (by decide +kernel)
  have k_5 : ∀ w ∈ wsX50, w ∈ wsX5_init := by decide +kernel
  have k_6 := hts (.fieldLink RX5 15 "NumberRows2$TypedText" "length" "I") (by decide +kernel)
  refine lv_aload_n hx hb dX5_init_0 rfl (lv_at hl 0 rfl) ?_
  refine W.objInit hx hb hown k_0 k_1 k_2 rfl (by rw [hml]; exact hl.1) rfl dX5_init_1 (Nat.le_of_ble_eq_true rfl) (Nat.le_of_ble_eq_true rfl) ?_
  refine W.eq (g2 := F0 m 4 ls []) rfl ?_
  refine lv_aload_n hx hb dX5_init_4 rfl (lv_at hl 0 rfl) ?_
  refine lv_bipush (v := 60) hx hb dX5_init_5 (by decide) ?_
  refine va_newa (atype := .int) (ty := .int) (N' := 60) (a0 := (60, .inl (fun _ => 0))) hx hb k_3 rfl hK hP hD hS hA (fun _ => rfl) (by decide) (by decide) (by decide) (Nat.le_of_ble_eq_true rfl) (Nat.le_of_ble_eq_true rfl) dX5_init_7 (fun q_7 k_7a H hK hP hD hS => ?_)
  refine W.widen (k := 1) (n := 60) (by omega) (by omega) ?_
  have hK : va_K D vwCl [(k_7a, .int)] s := hK
  have hP : va_P D vwCl [(h, .inr (5, [.null, .int 0])), (q_7, .inl (k_7a, 60, .inl (fun _ => 0)))] H := hP
  have hD : va_D A [(h, .inr (5, [.null, .int 0])), (q_7, .inl (k_7a, 60, .inl (fun _ => 0)))] := hD
  refine va_putF (D := D) (ci := 5) (v := .ref q_7) (ty := .array .int) (C := RX5) (T := TX5) (N := 2) hx hb hts k_5 tyX5 tyX5_ok nmX5 hown hK hP hD hS 0 rfl rfl 0 (by decide) k_4 (fun _ h9 => h9) rfl hin rfl (by decide +kernel) rfl rfl (Nat.le_of_ble_eq_true rfl) dX5_init_9 (fun H locs hP hD hS => ?_)
  have hP : va_P D vwCl [(h, .inr (5, [.ref q_7, .int 0])), (q_7, .inl (k_7a, 60, .inl (fun _ => 0)))] H := hP
  have hD : va_D A [(h, .inr (5, [.ref q_7, .int 0])), (q_7, .inl (k_7a, 60, .inl (fun _ => 0)))] := hD
  refine lv_aload_n hx hb dX5_init_12 rfl (lv_at hl 0 rfl) ?_
  refine lv_iconst (v := 0) hx hb dX5_init_13 (by decide) ?_
  refine va_put (D := D) (ci := 5) (v := .int 0) (ty := .int) (C := RX5) (T := TX5) (N := 2) hx hb hts k_5 tyX5 tyX5_ok nmX5 hown hK hP hD hS 0 rfl rfl 1 (by decide) k_6 (fun _ h9 => h9) rfl (by decide +kernel) rfl rfl (Nat.le_of_ble_eq_true rfl) dX5_init_14 (fun H locs hP hD hS => ?_)
  have hP : va_P D vwCl [(h, .inr (5, [.ref q_7, .int 0])), (q_7, .inl (k_7a, 60, .inl (fun _ => 0)))] H := hP
  have hD : va_D A [(h, .inr (5, [.ref q_7, .int 0])), (q_7, .inl (k_7a, 60, .inl (fun _ => 0)))] := hD
  exact W.vret hx hb hr (fun t9 ht9 hW9 => ⟨⟨(q_7, k_7a), rfl, trivial, by rw [ht9]; exact hP, va_K.moved hW9.alike (hK.sub [0] rfl), hD⟩, hS.F ht9⟩) hS.2.2 dX5_init_17
