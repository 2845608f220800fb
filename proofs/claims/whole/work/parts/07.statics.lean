def zser (x : Int64) : Int64 := x - x / 27512614111 * 27512614111
def zsvc (x : Int64) : Int64 := x / 27512614111 - 1
def znum (k : Int32) (x : Int64) : Int64 := (k + 1).toInt64 * 27512614111 + x

set_option maxHeartbeats 4000000 in
set_option maxRecDepth 100000 in
theorem cc_X6_isOffice (l : Launch) (D : va_G) (z : zG) (sz : Nat) (p0 : Int32)  : Met l yX6_isOffice wsX6_isOffice ({ frames := 0, cells := 0, slots := 0, locals := 0 }) (zPre D z [.int p0] sz [] [] (va_A [] sz)) (va_Qi (fun (r : Int32) (u : Unit) => zB r (0 ≤ p0.toInt ∧ p0.toInt < 100)) zT (va_A [] sz)) 0 0 (va_A [] sz) := by
  refine Met.ofW (cc := cX6_isOffice) (maxL := 1) (ret := (some .boolean)) (by decide) rfl ?_
  intro p e s m args below meth c s₁ B hml hv
  obtain ⟨rfl, hsz, hP, hK, hD, hC⟩ := hv
  have hx := B.exec
  have hb := B.bytes
  have hr := B.returns
  have hts := atoms_spec (ws := wsX6_isOffice) B.pre
  have hown : s.vm.findClass RX6 = some m.cls := findClass_of_methodNamed B.named
  have hlocks := B.notSynchronized
  subst hsz
  generalize hAe : va_A [] s.heap.size = A at hC ⊢
  have hA : ∀ q : Nat, s.heap.size ≤ q → A q := fun q h => by rw [← hAe]; exact Or.inr h
  have hS : va_S A s.heap s.heap [] := va_S.rf
  have hP : va_P D vwCl [] s.heap := hP
  have hl := lv_entry ([.int p0]) (n := 1) (Nat.le_of_ble_eq_true rfl)
  rw [lg_entry_eq]
  generalize (lg_sl ([.int p0]) ++ List.replicate (1 - (lg_sl ([.int p0])).length) Slot.unset).toArray = ls at hl ⊢
  have hl : lv_has ls 1 [(0, .int p0)] := hl
  refine zNameH (D := D) (A := A) (ws := []) (fun H locs hP hS => ?_) hP hS
  refine lv_iload_n hx hb dX6_isOffice_0 rfl (lv_at hl 0 rfl) ?_
  refine lv_if_lt (tgt := 14) hx hb dX6_isOffice_1 (by decide) (fun c_1 => ?_) (fun c_1 => ?_)
  · have i_1 : p0.toInt < 0 := zi_lt.mp c_1
    refine lv_iconst (v := 0) hx hb dX6_isOffice_14 (by decide) ?_
    exact W.zret (v := 0) hx hb hr rfl (fun t9 ht9 hW9 => ⟨⟨_, (), rfl, zB_f (by omega), trivial⟩, hS.F ht9⟩) hS.2.2 dX6_isOffice_15
  · have i_1 : ¬ (p0.toInt < 0) := fun q9 => c_1 (zi_lt.mpr q9)
    refine lv_iload_n hx hb dX6_isOffice_4 rfl (lv_at hl 0 rfl) ?_
    refine lv_bipush (v := 100) hx hb dX6_isOffice_5 (by decide) ?_
    refine lv_icmp_ge (tgt := 14) hx hb dX6_isOffice_7 (by decide) (fun c_7 => ?_) (fun c_7 => ?_)
    · have i_7 : 100 ≤ p0.toInt := zi_le.mp c_7
      refine lv_iconst (v := 0) hx hb dX6_isOffice_14 (by decide) ?_
      exact W.zret (v := 0) hx hb hr rfl (fun t9 ht9 hW9 => ⟨⟨_, (), rfl, zB_f (by omega), trivial⟩, hS.F ht9⟩) hS.2.2 dX6_isOffice_15
    · have i_7 : ¬ (100 ≤ p0.toInt) := fun q9 => c_7 (zi_le.mpr q9)
      refine lv_iconst (v := 1) hx hb dX6_isOffice_10 (by decide) ?_
      refine lv_goto (tgt := 15) hx hb dX6_isOffice_11 (by decide) ?_
      exact W.zret (v := 1) hx hb hr rfl (fun t9 ht9 hW9 => ⟨⟨_, (), rfl, zB_t (by omega), trivial⟩, hS.F ht9⟩) hS.2.2 dX6_isOffice_15

set_option maxHeartbeats 4000000 in
set_option maxRecDepth 100000 in
theorem cc_X6_isService (l : Launch) (D : va_G) (z : zG) (sz : Nat) (p0 : Int32)  : Met l yX6_isService wsX6_isService ({ frames := 0, cells := 0, slots := 0, locals := 0 }) (zPre D z [.int p0] sz [] [] (va_A [] sz)) (va_Qi (fun (r : Int32) (u : Unit) => zB r (0 ≤ p0.toInt ∧ p0.toInt < 10)) zT (va_A [] sz)) 0 0 (va_A [] sz) := by
  refine Met.ofW (cc := cX6_isService) (maxL := 1) (ret := (some .boolean)) (by decide) rfl ?_
  intro p e s m args below meth c s₁ B hml hv
  obtain ⟨rfl, hsz, hP, hK, hD, hC⟩ := hv
  have hx := B.exec
  have hb := B.bytes
  have hr := B.returns
  have hts := atoms_spec (ws := wsX6_isService) B.pre
  have hown : s.vm.findClass RX6 = some m.cls := findClass_of_methodNamed B.named
  have hlocks := B.notSynchronized
  subst hsz
  generalize hAe : va_A [] s.heap.size = A at hC ⊢
  have hA : ∀ q : Nat, s.heap.size ≤ q → A q := fun q h => by rw [← hAe]; exact Or.inr h
  have hS : va_S A s.heap s.heap [] := va_S.rf
  have hP : va_P D vwCl [] s.heap := hP
  have hl := lv_entry ([.int p0]) (n := 1) (Nat.le_of_ble_eq_true rfl)
  rw [lg_entry_eq]
  generalize (lg_sl ([.int p0]) ++ List.replicate (1 - (lg_sl ([.int p0])).length) Slot.unset).toArray = ls at hl ⊢
  have hl : lv_has ls 1 [(0, .int p0)] := hl
  refine zNameH (D := D) (A := A) (ws := []) (fun H locs hP hS => ?_) hP hS
  refine lv_iload_n hx hb dX6_isService_0 rfl (lv_at hl 0 rfl) ?_
  refine lv_if_lt (tgt := 14) hx hb dX6_isService_1 (by decide) (fun c_1 => ?_) (fun c_1 => ?_)
  · have i_1 : p0.toInt < 0 := zi_lt.mp c_1
    refine lv_iconst (v := 0) hx hb dX6_isService_14 (by decide) ?_
    exact W.zret (v := 0) hx hb hr rfl (fun t9 ht9 hW9 => ⟨⟨_, (), rfl, zB_f (by omega), trivial⟩, hS.F ht9⟩) hS.2.2 dX6_isService_15
  · have i_1 : ¬ (p0.toInt < 0) := fun q9 => c_1 (zi_lt.mpr q9)
    refine lv_iload_n hx hb dX6_isService_4 rfl (lv_at hl 0 rfl) ?_
    refine lv_bipush (v := 10) hx hb dX6_isService_5 (by decide) ?_
    refine lv_icmp_ge (tgt := 14) hx hb dX6_isService_7 (by decide) (fun c_7 => ?_) (fun c_7 => ?_)
    · have i_7 : 10 ≤ p0.toInt := zi_le.mp c_7
      refine lv_iconst (v := 0) hx hb dX6_isService_14 (by decide) ?_
      exact W.zret (v := 0) hx hb hr rfl (fun t9 ht9 hW9 => ⟨⟨_, (), rfl, zB_f (by omega), trivial⟩, hS.F ht9⟩) hS.2.2 dX6_isService_15
    · have i_7 : ¬ (10 ≤ p0.toInt) := fun q9 => c_7 (zi_le.mpr q9)
      refine lv_iconst (v := 1) hx hb dX6_isService_10 (by decide) ?_
      refine lv_goto (tgt := 15) hx hb dX6_isService_11 (by decide) ?_
      exact W.zret (v := 1) hx hb hr rfl (fun t9 ht9 hW9 => ⟨⟨_, (), rfl, zB_t (by omega), trivial⟩, hS.F ht9⟩) hS.2.2 dX6_isService_15

set_option maxHeartbeats 4000000 in
set_option maxRecDepth 100000 in
theorem cc_X6_isRowBelow (l : Launch) (D : va_G) (z : zG) (sz : Nat) (p0 : Int64) (p1 : Int64) (p2 : Int64)  : Met l yX6_isRowBelow wsX6_isRowBelow ({ frames := 0, cells := 0, slots := 0, locals := 0 }) (zPre D z [.long p0, .long p1, .long p2] sz [] [] (va_A [] sz)) (va_Qi (fun (r : Int32) (u : Unit) => zB r (0 ≤ p0.toInt ∧ p0.toInt ≤ p1.toInt ∧ p1.toInt < p2.toInt)) zT (va_A [] sz)) 0 0 (va_A [] sz) := by
  refine Met.ofW (cc := cX6_isRowBelow) (maxL := 6) (ret := (some .boolean)) (by decide) rfl ?_
  intro p e s m args below meth c s₁ B hml hv
  obtain ⟨rfl, hsz, hP, hK, hD, hC⟩ := hv
  have hx := B.exec
  have hb := B.bytes
  have hr := B.returns
  have hts := atoms_spec (ws := wsX6_isRowBelow) B.pre
  have hown : s.vm.findClass RX6 = some m.cls := findClass_of_methodNamed B.named
  have hlocks := B.notSynchronized
  subst hsz
  generalize hAe : va_A [] s.heap.size = A at hC ⊢
  have hA : ∀ q : Nat, s.heap.size ≤ q → A q := fun q h => by rw [← hAe]; exact Or.inr h
  have hS : va_S A s.heap s.heap [] := va_S.rf
  have hP : va_P D vwCl [] s.heap := hP
  have hl := lv_entry ([.long p0, .long p1, .long p2]) (n := 6) (Nat.le_of_ble_eq_true rfl)
  rw [lg_entry_eq]
  generalize (lg_sl ([.long p0, .long p1, .long p2]) ++ List.replicate (6 - (lg_sl ([.long p0, .long p1, .long p2])).length) Slot.unset).toArray = ls at hl ⊢
  have hl : lv_has ls 6 [(0, .long p0), (2, .long p1), (4, .long p2)] := hl
  refine zNameH (D := D) (A := A) (ws := []) (fun H locs hP hS => ?_) hP hS
  refine lv_lconst (v := 0) hx hb dX6_isRowBelow_0 (by decide) ?_
  refine lv_lload_n hx hb dX6_isRowBelow_1 rfl (lv_at hl 0 rfl) ?_
  refine W.lcmp hx hb dX6_isRowBelow_2 ?_
  refine lv_if_gt (tgt := 23) hx hb dX6_isRowBelow_3 (by decide) (fun c_3 => ?_) (fun c_3 => ?_)
  · have c_3 : p0 < 0 := (lg_cmp_gt _ _).mp c_3
    have i_3 : p0.toInt < 0 := zl_lt.mp c_3
    refine lv_iconst (v := 0) hx hb dX6_isRowBelow_23 (by decide) ?_
    exact W.zret (v := 0) hx hb hr rfl (fun t9 ht9 hW9 => ⟨⟨_, (), rfl, zB_f (by omega), trivial⟩, hS.F ht9⟩) hS.2.2 dX6_isRowBelow_24
  · have c_3 : ¬ (p0 < 0) := fun q9 => c_3 ((lg_cmp_gt _ _).mpr q9)
    have i_3 : ¬ (p0.toInt < 0) := fun q9 => c_3 (zl_lt.mpr q9)
    refine lv_lload_n hx hb dX6_isRowBelow_6 rfl (lv_at hl 0 rfl) ?_
    refine lv_lload_n hx hb dX6_isRowBelow_7 rfl (lv_at hl 1 rfl) ?_
    refine W.lcmp hx hb dX6_isRowBelow_8 ?_
    refine lv_if_gt (tgt := 23) hx hb dX6_isRowBelow_9 (by decide) (fun c_9 => ?_) (fun c_9 => ?_)
    · have c_9 : p1 < p0 := (lg_cmp_gt _ _).mp c_9
      have i_9 : p1.toInt < p0.toInt := zl_lt.mp c_9
      refine lv_iconst (v := 0) hx hb dX6_isRowBelow_23 (by decide) ?_
      exact W.zret (v := 0) hx hb hr rfl (fun t9 ht9 hW9 => ⟨⟨_, (), rfl, zB_f (by omega), trivial⟩, hS.F ht9⟩) hS.2.2 dX6_isRowBelow_24
    · have c_9 : ¬ (p1 < p0) := fun q9 => c_9 ((lg_cmp_gt _ _).mpr q9)
      have i_9 : ¬ (p1.toInt < p0.toInt) := fun q9 => c_9 (zl_lt.mpr q9)
      refine lv_lload_n hx hb dX6_isRowBelow_12 rfl (lv_at hl 1 rfl) ?_
      refine lv_lload hx hb dX6_isRowBelow_13 (lv_at hl 2 rfl) ?_
      refine W.lcmp hx hb dX6_isRowBelow_15 ?_
      refine lv_if_ge (tgt := 23) hx hb dX6_isRowBelow_16 (by decide) (fun c_16 => ?_) (fun c_16 => ?_)
      · have c_16 : p2 ≤ p1 := (lg_cmp_ge _ _).mp c_16
        have i_16 : p2.toInt ≤ p1.toInt := zl_le.mp c_16
        refine lv_iconst (v := 0) hx hb dX6_isRowBelow_23 (by decide) ?_
        exact W.zret (v := 0) hx hb hr rfl (fun t9 ht9 hW9 => ⟨⟨_, (), rfl, zB_f (by omega), trivial⟩, hS.F ht9⟩) hS.2.2 dX6_isRowBelow_24
      · have c_16 : ¬ (p2 ≤ p1) := fun q9 => c_16 ((lg_cmp_ge _ _).mpr q9)
        have i_16 : ¬ (p2.toInt ≤ p1.toInt) := fun q9 => c_16 (zl_le.mpr q9)
        refine lv_iconst (v := 1) hx hb dX6_isRowBelow_19 (by decide) ?_
        refine lv_goto (tgt := 24) hx hb dX6_isRowBelow_20 (by decide) ?_
        exact W.zret (v := 1) hx hb hr rfl (fun t9 ht9 hW9 => ⟨⟨_, (), rfl, zB_t (by omega), trivial⟩, hS.F ht9⟩) hS.2.2 dX6_isRowBelow_24

set_option maxHeartbeats 4000000 in
set_option maxRecDepth 100000 in
theorem cc_X6_isNumber (l : Launch) (D : va_G) (z : zG) (sz : Nat) (p0 : Int64)  : Met l yX6_isNumber wsX6_isNumber ({ frames := 0, cells := 0, slots := 0, locals := 0 }) (zPre D z [.long p0] sz [] [] (va_A [] sz)) (va_Qi (fun (r : Int32) (u : Unit) => zB r (27512614111 ≤ p0.toInt ∧ p0.toInt < 302638755221)) zT (va_A [] sz)) 0 0 (va_A [] sz) := by
  refine Met.ofW (cc := cX6_isNumber) (maxL := 2) (ret := (some .boolean)) (by decide) rfl ?_
  intro p e s m args below meth c s₁ B hml hv
  obtain ⟨rfl, hsz, hP, hK, hD, hC⟩ := hv
  have hx := B.exec
  have hb := B.bytes
  have hr := B.returns
  have hts := atoms_spec (ws := wsX6_isNumber) B.pre
  have hown : s.vm.findClass RX6 = some m.cls := findClass_of_methodNamed B.named
  have hlocks := B.notSynchronized
  subst hsz
  generalize hAe : va_A [] s.heap.size = A at hC ⊢
  have hA : ∀ q : Nat, s.heap.size ≤ q → A q := fun q h => by rw [← hAe]; exact Or.inr h
  have hS : va_S A s.heap s.heap [] := va_S.rf
  have hP : va_P D vwCl [] s.heap := hP
  have hl := lv_entry ([.long p0]) (n := 2) (Nat.le_of_ble_eq_true rfl)
  rw [lg_entry_eq]
  generalize (lg_sl ([.long p0]) ++ List.replicate (2 - (lg_sl ([.long p0])).length) Slot.unset).toArray = ls at hl ⊢
  have hl : lv_has ls 2 [(0, .long p0)] := hl
  refine zNameH (D := D) (A := A) (ws := []) (fun H locs hP hS => ?_) hP hS
  have k_0 := hts (.constantLong RX6 116 (27512614111)) (by decide +kernel)
  have k_1 := hts (.constantLong RX6 153 (302638755221)) (by decide +kernel)
  refine lv_lload_n hx hb dX6_isNumber_0 rfl (lv_at hl 0 rfl) ?_
  refine lv_ldc2 hx hb hown k_0 dX6_isNumber_1 ?_
  refine W.lcmp hx hb dX6_isNumber_4 ?_
  refine lv_if_lt (tgt := 20) hx hb dX6_isNumber_5 (by decide) (fun c_5 => ?_) (fun c_5 => ?_)
  · have c_5 : p0 < 27512614111 := (lg_cmp_lt _ _).mp c_5
    have i_5 : p0.toInt < 27512614111 := zl_lt.mp c_5
    refine lv_iconst (v := 0) hx hb dX6_isNumber_20 (by decide) ?_
    exact W.zret (v := 0) hx hb hr rfl (fun t9 ht9 hW9 => ⟨⟨_, (), rfl, zB_f (by omega), trivial⟩, hS.F ht9⟩) hS.2.2 dX6_isNumber_21
  · have c_5 : ¬ (p0 < 27512614111) := fun q9 => c_5 ((lg_cmp_lt _ _).mpr q9)
    have i_5 : ¬ (p0.toInt < 27512614111) := fun q9 => c_5 (zl_lt.mpr q9)
    refine lv_lload_n hx hb dX6_isNumber_8 rfl (lv_at hl 0 rfl) ?_
    refine lv_ldc2 hx hb hown k_1 dX6_isNumber_9 ?_
    refine W.lcmp hx hb dX6_isNumber_12 ?_
    refine lv_if_ge (tgt := 20) hx hb dX6_isNumber_13 (by decide) (fun c_13 => ?_) (fun c_13 => ?_)
    · have c_13 : 302638755221 ≤ p0 := (lg_cmp_ge _ _).mp c_13
      have i_13 : 302638755221 ≤ p0.toInt := zl_le.mp c_13
      refine lv_iconst (v := 0) hx hb dX6_isNumber_20 (by decide) ?_
      exact W.zret (v := 0) hx hb hr rfl (fun t9 ht9 hW9 => ⟨⟨_, (), rfl, zB_f (by omega), trivial⟩, hS.F ht9⟩) hS.2.2 dX6_isNumber_21
    · have c_13 : ¬ (302638755221 ≤ p0) := fun q9 => c_13 ((lg_cmp_ge _ _).mpr q9)
      have i_13 : ¬ (302638755221 ≤ p0.toInt) := fun q9 => c_13 (zl_le.mpr q9)
      refine lv_iconst (v := 1) hx hb dX6_isNumber_16 (by decide) ?_
      refine lv_goto (tgt := 21) hx hb dX6_isNumber_17 (by decide) ?_
      exact W.zret (v := 1) hx hb hr rfl (fun t9 ht9 hW9 => ⟨⟨_, (), rfl, zB_t (by omega), trivial⟩, hS.F ht9⟩) hS.2.2 dX6_isNumber_21

set_option maxHeartbeats 4000000 in
set_option maxRecDepth 100000 in
theorem cc_X6_numberOf (l : Launch) (D : va_G) (z : zG) (sz : Nat) (p0 : Int32) (p1 : Int64)  : Met l yX6_numberOf wsX6_numberOf ({ frames := 0, cells := 0, slots := 0, locals := 0 }) (zPre D z [.int p0, .long p1] sz [] [] (va_A [] sz)) (va_Ql (fun (r : Int64) (u : Unit) => r = znum p0 p1) zT (va_A [] sz)) 0 0 (va_A [] sz) := by
  refine Met.ofW (cc := cX6_numberOf) (maxL := 3) (ret := (some .long)) (by decide) rfl ?_
  intro p e s m args below meth c s₁ B hml hv
  obtain ⟨rfl, hsz, hP, hK, hD, hC⟩ := hv
  have hx := B.exec
  have hb := B.bytes
  have hr := B.returns
  have hts := atoms_spec (ws := wsX6_numberOf) B.pre
  have hown : s.vm.findClass RX6 = some m.cls := findClass_of_methodNamed B.named
  have hlocks := B.notSynchronized
  subst hsz
  generalize hAe : va_A [] s.heap.size = A at hC ⊢
  have hA : ∀ q : Nat, s.heap.size ≤ q → A q := fun q h => by rw [← hAe]; exact Or.inr h
  have hS : va_S A s.heap s.heap [] := va_S.rf
  have hP : va_P D vwCl [] s.heap := hP
  have hl := lv_entry ([.int p0, .long p1]) (n := 3) (Nat.le_of_ble_eq_true rfl)
  rw [lg_entry_eq]
  generalize (lg_sl ([.int p0, .long p1]) ++ List.replicate (3 - (lg_sl ([.int p0, .long p1])).length) Slot.unset).toArray = ls at hl ⊢
  have hl : lv_has ls 3 [(0, .int p0), (1, .long p1)] := hl
  refine zNameH (D := D) (A := A) (ws := []) (fun H locs hP hS => ?_) hP hS
  have k_0 := hts (.constantLong RX6 116 (27512614111)) (by decide +kernel)
  refine lv_iload_n hx hb dX6_numberOf_0 rfl (lv_at hl 0 rfl) ?_
  refine lv_iconst (v := 1) hx hb dX6_numberOf_1 (by decide) ?_
  refine lv_iadd hx hb dX6_numberOf_2 ?_
  refine lv_i2l (v := (p0 + 1).toInt64) hx hb dX6_numberOf_3 rfl ?_
  refine lv_ldc2 hx hb hown k_0 dX6_numberOf_4 ?_
  refine lv_lmul hx hb dX6_numberOf_7 ?_
  refine lv_lload_n hx hb dX6_numberOf_8 rfl (lv_at hl 1 rfl) ?_
  refine lv_ladd hx hb dX6_numberOf_9 ?_
  exact W.lret (v := ((((p0 + 1).toInt64) * 27512614111) + p1)) hx hb hr (fun t9 ht9 hW9 => ⟨⟨_, (), rfl, rfl, trivial⟩, hS.F ht9⟩) hS.2.2 dX6_numberOf_10

set_option maxHeartbeats 4000000 in
set_option maxRecDepth 100000 in
theorem cc_X6_serviceOf (l : Launch) (D : va_G) (z : zG) (sz : Nat) (p0 : Int64)  : Met l yX6_serviceOf wsX6_serviceOf ({ frames := 0, cells := 0, slots := 0, locals := 0 }) (zPre D z [.long p0] sz [] [] (va_A [] sz)) (va_Ql (fun (r : Int64) (u : Unit) => r = zsvc p0) zT (va_A [] sz)) 0 0 (va_A [] sz) := by
  refine Met.ofW (cc := cX6_serviceOf) (maxL := 2) (ret := (some .long)) (by decide) rfl ?_
  intro p e s m args below meth c s₁ B hml hv
  obtain ⟨rfl, hsz, hP, hK, hD, hC⟩ := hv
  have hx := B.exec
  have hb := B.bytes
  have hr := B.returns
  have hts := atoms_spec (ws := wsX6_serviceOf) B.pre
  have hown : s.vm.findClass RX6 = some m.cls := findClass_of_methodNamed B.named
  have hlocks := B.notSynchronized
  subst hsz
  generalize hAe : va_A [] s.heap.size = A at hC ⊢
  have hA : ∀ q : Nat, s.heap.size ≤ q → A q := fun q h => by rw [← hAe]; exact Or.inr h
  have hS : va_S A s.heap s.heap [] := va_S.rf
  have hP : va_P D vwCl [] s.heap := hP
  have hl := lv_entry ([.long p0]) (n := 2) (Nat.le_of_ble_eq_true rfl)
  rw [lg_entry_eq]
  generalize (lg_sl ([.long p0]) ++ List.replicate (2 - (lg_sl ([.long p0])).length) Slot.unset).toArray = ls at hl ⊢
  have hl : lv_has ls 2 [(0, .long p0)] := hl
  refine zNameH (D := D) (A := A) (ws := []) (fun H locs hP hS => ?_) hP hS
  have k_0 := hts (.constantLong RX6 116 (27512614111)) (by decide +kernel)
  refine lv_lload_n hx hb dX6_serviceOf_0 rfl (lv_at hl 0 rfl) ?_
  refine lv_ldc2 hx hb hown k_0 dX6_serviceOf_1 ?_
  refine lv_ldiv hx hb dX6_serviceOf_4 (by decide) ?_
  refine lv_lconst (v := 1) hx hb dX6_serviceOf_5 (by decide) ?_
  refine lv_lsub hx hb dX6_serviceOf_6 ?_
  exact W.lret (v := ((p0 / 27512614111) - 1)) hx hb hr (fun t9 ht9 hW9 => ⟨⟨_, (), rfl, rfl, trivial⟩, hS.F ht9⟩) hS.2.2 dX6_serviceOf_7

set_option maxHeartbeats 4000000 in
set_option maxRecDepth 100000 in
theorem cc_X6_serialOf (l : Launch) (D : va_G) (z : zG) (sz : Nat) (p0 : Int64)  : Met l yX6_serialOf wsX6_serialOf ({ frames := 0, cells := 0, slots := 0, locals := 0 }) (zPre D z [.long p0] sz [] [] (va_A [] sz)) (va_Ql (fun (r : Int64) (u : Unit) => r = zser p0) zT (va_A [] sz)) 0 0 (va_A [] sz) := by
  refine Met.ofW (cc := cX6_serialOf) (maxL := 2) (ret := (some .long)) (by decide) rfl ?_
  intro p e s m args below meth c s₁ B hml hv
  obtain ⟨rfl, hsz, hP, hK, hD, hC⟩ := hv
  have hx := B.exec
  have hb := B.bytes
  have hr := B.returns
  have hts := atoms_spec (ws := wsX6_serialOf) B.pre
  have hown : s.vm.findClass RX6 = some m.cls := findClass_of_methodNamed B.named
  have hlocks := B.notSynchronized
  subst hsz
  generalize hAe : va_A [] s.heap.size = A at hC ⊢
  have hA : ∀ q : Nat, s.heap.size ≤ q → A q := fun q h => by rw [← hAe]; exact Or.inr h
  have hS : va_S A s.heap s.heap [] := va_S.rf
  have hP : va_P D vwCl [] s.heap := hP
  have hl := lv_entry ([.long p0]) (n := 2) (Nat.le_of_ble_eq_true rfl)
  rw [lg_entry_eq]
  generalize (lg_sl ([.long p0]) ++ List.replicate (2 - (lg_sl ([.long p0])).length) Slot.unset).toArray = ls at hl ⊢
  have hl : lv_has ls 2 [(0, .long p0)] := hl
  refine zNameH (D := D) (A := A) (ws := []) (fun H locs hP hS => ?_) hP hS
  have k_0 := hts (.constantLong RX6 116 (27512614111)) (by decide +kernel)
  refine lv_lload_n hx hb dX6_serialOf_0 rfl (lv_at hl 0 rfl) ?_
  refine lv_ldc2 hx hb hown k_0 dX6_serialOf_1 ?_
  refine lv_lrem hx hb dX6_serialOf_4 (by decide) ?_
  exact W.lret (v := (p0 - p0 / 27512614111 * 27512614111)) hx hb hr (fun t9 ht9 hW9 => ⟨⟨_, (), rfl, rfl, trivial⟩, hS.F ht9⟩) hS.2.2 dX6_serialOf_5
