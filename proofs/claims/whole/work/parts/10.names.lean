set_option maxHeartbeats 4000000 in
set_option maxRecDepth 100000 in
theorem cc_X4_isFull (l : Launch) (D : va_G) (z : zG) (sz : Nat) (h : Nat) (a1 : Nat) (a2 : Nat) (a3 : Nat) (k1 : ClassId) (k2 : ClassId) (k3 : ClassId) (n : Nat) (sd : Nat → Int32) (rf : Nat → Int64) (nm : Nat → Int64) (hn : n ≤ 300) : Met l yX4_isFull wsX4_isFull ({ frames := 0, cells := 0, slots := 0, locals := 0 }) (zPre D z [.ref h] sz [(h, .inr (4, [.ref a1, .ref a2, .ref a3, .int (nI n)])), (a1, .inl (k1, 300, .inl sd)), (a2, .inl (k2, 300, .inr (.inl rf))), (a3, .inl (k3, 300, .inr (.inl nm)))] [(k1, .int), (k2, .long), (k3, .long)] (va_A [] sz)) (va_Qi (fun (r : Int32) (u : Unit) => zB r (300 ≤ n)) zT (va_A [] sz)) 0 0 (va_A [] sz) := by
  refine Met.ofW (cc := cX4_isFull) (maxL := 1) (ret := (some .boolean)) (by decide) rfl ?_
  intro p e s m args below meth c s₁ B hml hv
  obtain ⟨rfl, hsz, hP, hK, hD, hC⟩ := hv
  have hx := B.exec
  have hb := B.bytes
  have hr := B.returns
  have hts := atoms_spec (ws := wsX4_isFull) B.pre
  have hown : s.vm.findClass RX4 = some m.cls := findClass_of_methodNamed B.named
  have hlocks := B.notSynchronized
  subst hsz
  generalize hAe : va_A [] s.heap.size = A at hC ⊢
  have hA : ∀ q : Nat, s.heap.size ≤ q → A q := fun q h => by rw [← hAe]; exact Or.inr h
  have hS : va_S A s.heap s.heap [] := va_S.rf
  have hP : va_P D vwCl [(h, .inr (4, [.ref a1, .ref a2, .ref a3, .int (nI n)])), (a1, .inl (k1, 300, .inl sd)), (a2, .inl (k2, 300, .inr (.inl rf))), (a3, .inl (k3, 300, .inr (.inl nm)))] s.heap := hP
  have hl := lv_entry ([.ref h]) (n := 1) (Nat.le_of_ble_eq_true rfl)
  rw [lg_entry_eq]
  generalize (lg_sl ([.ref h]) ++ List.replicate (1 - (lg_sl ([.ref h])).length) Slot.unset).toArray = ls at hl ⊢
  have hl : lv_has ls 1 [(0, .ref h)] := hl
  refine zNameH (D := D) (A := A) (ws := [(h, .inr (4, [.ref a1, .ref a2, .ref a3, .int (nI n)])), (a1, .inl (k1, 300, .inl sd)), (a2, .inl (k2, 300, .inr (.inl rf))), (a3, .inl (k3, 300, .inr (.inl nm)))]) (fun H locs hP hS => ?_) hP hS
  have k_0 := hts (.fieldLink RX4 22 "NumberRows2$Names" "count" "I") (by decide +kernel)
  have k_1 : ∀ w ∈ wsX40, w ∈ wsX4_isFull := by decide +kernel
  refine lv_aload_n hx hb dX4_isFull_0 rfl (lv_at hl 0 rfl) ?_
  refine va_get (D := D) (ci := 4) (v := .int (nI n)) (C := RX4) (T := TX4) (N := 4) hx hb hts k_1 hown hK hP 0 rfl rfl 3 (by decide) k_0 (fun _ h9 => h9) rfl dX4_isFull_1 ?_
  refine lv_sipush (v := 300) hx hb dX4_isFull_4 (by decide) ?_
  refine lv_icmp_lt (tgt := 14) hx hb dX4_isFull_7 (by decide) (fun c_7 => ?_) (fun c_7 => ?_)
  · have c_7 : n < 300 := (nI_ltI (a := n) (b := 300) (by omega) (by omega)).mp c_7
    refine lv_iconst (v := 0) hx hb dX4_isFull_14 (by decide) ?_
    exact W.zret (v := 0) hx hb hr rfl (fun t9 ht9 hW9 => ⟨⟨_, (), rfl, zB_f (by omega), trivial⟩, hS.F ht9⟩) hS.2.2 dX4_isFull_15
  · have c_7 : ¬ (n < 300) := fun q9 => c_7 ((nI_ltI (a := n) (b := 300) (by omega) (by omega)).mpr q9)
    refine lv_iconst (v := 1) hx hb dX4_isFull_10 (by decide) ?_
    refine lv_goto (tgt := 15) hx hb dX4_isFull_11 (by decide) ?_
    exact W.zret (v := 1) hx hb hr rfl (fun t9 ht9 hW9 => ⟨⟨_, (), rfl, zB_t (by omega), trivial⟩, hS.F ht9⟩) hS.2.2 dX4_isFull_15

set_option maxHeartbeats 4000000 in
set_option maxRecDepth 100000 in
theorem cc_X4_numberOfReference (l : Launch) (D : va_G) (z : zG) (sz : Nat) (h : Nat) (a1 : Nat) (a2 : Nat) (a3 : Nat) (k1 : ClassId) (k2 : ClassId) (k3 : ClassId) (n : Nat) (sd : Nat → Int32) (rf : Nat → Int64) (nm : Nat → Int64) (p0 : Int32) (p1 : Int64) (hn : n ≤ 300) : Met l yX4_numberOfReference wsX4_numberOfReference ({ frames := 0, cells := 0, slots := 0, locals := 0 }) (zPre D z [.ref h, .int p0, .long p1] sz [(h, .inr (4, [.ref a1, .ref a2, .ref a3, .int (nI n)])), (a1, .inl (k1, 300, .inl sd)), (a2, .inl (k2, 300, .inr (.inl rf))), (a3, .inl (k3, 300, .inr (.inl nm)))] [(k1, .int), (k2, .long), (k3, .long)] (va_A [] sz)) (va_Ql (fun (r : Int64) (u : Unit) => (∃ j, j < n ∧ sd j = p0 ∧ rf j = p1 ∧ r = nm j) ∨ ((∀ j, j < n → ¬ (sd j = p0 ∧ rf j = p1)) ∧ r = -101)) zT (va_A [] sz)) 0 0 (va_A [] sz) := by
  refine Met.ofW (cc := cX4_numberOfReference) (maxL := 5) (ret := (some .long)) (by decide) rfl ?_
  intro p e s m args below meth c s₁ B hml hv
  obtain ⟨rfl, hsz, hP, hK, hD, hC⟩ := hv
  have hx := B.exec
  have hb := B.bytes
  have hr := B.returns
  have hts := atoms_spec (ws := wsX4_numberOfReference) B.pre
  have hown : s.vm.findClass RX4 = some m.cls := findClass_of_methodNamed B.named
  have hlocks := B.notSynchronized
  subst hsz
  generalize hAe : va_A [] s.heap.size = A at hC ⊢
  have hA : ∀ q : Nat, s.heap.size ≤ q → A q := fun q h => by rw [← hAe]; exact Or.inr h
  have hS : va_S A s.heap s.heap [] := va_S.rf
  have hP : va_P D vwCl [(h, .inr (4, [.ref a1, .ref a2, .ref a3, .int (nI n)])), (a1, .inl (k1, 300, .inl sd)), (a2, .inl (k2, 300, .inr (.inl rf))), (a3, .inl (k3, 300, .inr (.inl nm)))] s.heap := hP
  have hl := lv_entry ([.ref h, .int p0, .long p1]) (n := 5) (Nat.le_of_ble_eq_true rfl)
  rw [lg_entry_eq]
  generalize (lg_sl ([.ref h, .int p0, .long p1]) ++ List.replicate (5 - (lg_sl ([.ref h, .int p0, .long p1])).length) Slot.unset).toArray = ls at hl ⊢
  have hl : lv_has ls 5 [(0, .ref h), (1, .int p0), (2, .long p1)] := hl
  refine zNameH (D := D) (A := A) (ws := [(h, .inr (4, [.ref a1, .ref a2, .ref a3, .int (nI n)])), (a1, .inl (k1, 300, .inl sd)), (a2, .inl (k2, 300, .inr (.inl rf))), (a3, .inl (k3, 300, .inr (.inl nm)))]) (fun H locs hP hS => ?_) hP hS
  have k_0 := hts (.fieldLink RX4 22 "NumberRows2$Names" "count" "I") (by decide +kernel)
  have k_1 : ∀ w ∈ wsX40, w ∈ wsX4_numberOfReference := by decide +kernel
  have k_2 := hts (.constantLong RX4 26 (-101)) (by decide +kernel)
  have k_3 := hts (.fieldLink RX4 9 "NumberRows2$Names" "senders" "[I") (by decide +kernel)
  have k_4 := hts (.fieldLink RX4 15 "NumberRows2$Names" "references" "[J") (by decide +kernel)
  have k_5 := hts (.fieldLink RX4 19 "NumberRows2$Names" "numbers" "[J") (by decide +kernel)
  refine lv_iconst (v := 0) hx hb dX4_numberOfReference_0 (by decide) ?_
  refine lv_istore (lv' := [(4, .int 0), (0, .ref h), (1, .int p0), (2, .long p1)]) hx hb dX4_numberOfReference_1 hl (by decide) rfl (fun ls hl => ?_)
  refine zLoop (σ := Nat) (nL := 5) (μ := fun (i : Nat) => n - i) (lv := fun (i : Nat) => [(4, .int (nI i)), (0, .ref h), (1, .int p0), (2, .long p1)]) (wf := fun (i : Nat) => [(h, .inr (4, [.ref a1, .ref a2, .ref a3, .int (nI n)])), (a1, .inl (k1, 300, .inl sd)), (a2, .inl (k2, 300, .inr (.inl rf))), (a3, .inl (k3, 300, .inr (.inl nm)))]) (I := fun (i : Nat) => i ≤ n ∧ ∀ j, j < i → ¬ (sd j = p0 ∧ rf j = p1)) (fun x H locs ls hI hP hD hS hl ih => ?_) 0 ⟨Nat.zero_le _, fun j hj => absurd hj (Nat.not_lt_zero j)⟩ hP hD hS (lv_sub hl [0, 1, 2, 3] rfl)
  obtain ⟨i, rfl⟩ : ∃ y9, y9 = x := ⟨_, rfl⟩
  have hI : i ≤ n ∧ ∀ j, j < i → ¬ (sd j = p0 ∧ rf j = p1) := hI
  have hl : lv_has ls 5 [(4, .int (nI i)), (0, .ref h), (1, .int p0), (2, .long p1)] := hl
  have hP : va_P D vwCl [(h, .inr (4, [.ref a1, .ref a2, .ref a3, .int (nI n)])), (a1, .inl (k1, 300, .inl sd)), (a2, .inl (k2, 300, .inr (.inl rf))), (a3, .inl (k3, 300, .inr (.inl nm)))] H := hP
  have hD : va_D (fun _ => True) [(h, .inr (4, [.ref a1, .ref a2, .ref a3, .int (nI n)])), (a1, .inl (k1, 300, .inl sd)), (a2, .inl (k2, 300, .inr (.inl rf))), (a3, .inl (k3, 300, .inr (.inl nm)))] := hD
  refine lv_iload hx hb dX4_numberOfReference_3 (lv_at hl 0 rfl) ?_
  refine lv_aload_n hx hb dX4_numberOfReference_5 rfl (lv_at hl 1 rfl) ?_
  refine va_get (D := D) (ci := 4) (v := .int (nI n)) (C := RX4) (T := TX4) (N := 4) hx hb hts k_1 hown hK hP 0 rfl rfl 3 (by decide) k_0 (fun _ h9 => h9) rfl dX4_numberOfReference_6 ?_
  refine lv_icmp_ge (tgt := 49) hx hb dX4_numberOfReference_9 (by decide) (fun c_9 => ?_) (fun c_9 => ?_)
  · have c_9 : n ≤ i := (nI_leI (a := n) (b := i) (by omega) (by omega)).mp c_9
    refine lv_ldc2 hx hb hown k_2 dX4_numberOfReference_49 ?_
    exact W.lret (v := (-101)) hx hb hr (fun t9 ht9 hW9 => ⟨⟨_, (), rfl, Or.inr ⟨fun j hj => hI.2 j (by omega), rfl⟩, trivial⟩, hS.F ht9⟩) hS.2.2 dX4_numberOfReference_52
  · have c_9 : ¬ (n ≤ i) := fun q9 => c_9 ((nI_leI (a := n) (b := i) (by omega) (by omega)).mpr q9)
    refine lv_aload_n hx hb dX4_numberOfReference_12 rfl (lv_at hl 1 rfl) ?_
    refine va_get (D := D) (ci := 4) (v := .ref a1) (C := RX4) (T := TX4) (N := 4) hx hb hts k_1 hown hK hP 0 rfl rfl 0 (by decide) k_3 (fun _ h9 => h9) rfl dX4_numberOfReference_13 ?_
    refine lv_iload hx hb dX4_numberOfReference_16 (lv_at hl 0 rfl) ?_
    refine z_iald (k := i) hx hb hK hP 1 0 rfl rfl (by omega) (by decide) dX4_numberOfReference_18 ?_
    refine lv_iload_n hx hb dX4_numberOfReference_19 rfl (lv_at hl 2 rfl) ?_
    refine lv_icmp_ne (tgt := 43) hx hb dX4_numberOfReference_20 (by decide) (fun c_20 => ?_) (fun c_20 => ?_)
    · have i_20 : ¬ ((sd i).toInt = p0.toInt) := fun q9 => c_20 (zi_eq.mpr q9)
      refine lv_iinc (v := (nI (i + 1))) (lv' := [(4, .int (nI (i + 1))), (0, .ref h), (1, .int p0), (2, .long p1)]) hx hb dX4_numberOfReference_43 hl (k := 0) rfl (by first | exact nI_1 _ | rfl) (by decide) rfl (fun ls hl => ?_)
      refine lv_goto (tgt := 3) hx hb dX4_numberOfReference_46 (by decide) ?_
      exact ih (i + 1) _ _ _ (show n - (i + 1) < n - i from (by omega)) ⟨by omega, lt_s hI.2 (fun q => c_20 q.1)⟩ hP hD hS (lv_sub hl [0, 1, 2, 3] rfl)
    · have i_20 : (sd i).toInt = p0.toInt := zi_eq.mp c_20
      refine lv_aload_n hx hb dX4_numberOfReference_23 rfl (lv_at hl 1 rfl) ?_
      refine va_get (D := D) (ci := 4) (v := .ref a2) (C := RX4) (T := TX4) (N := 4) hx hb hts k_1 hown hK hP 0 rfl rfl 1 (by decide) k_4 (fun _ h9 => h9) rfl dX4_numberOfReference_24 ?_
      refine lv_iload hx hb dX4_numberOfReference_27 (lv_at hl 0 rfl) ?_
      refine z_lald (k := i) hx hb hK hP 2 1 rfl rfl (by omega) (by decide) dX4_numberOfReference_29 ?_
      refine lv_lload_n hx hb dX4_numberOfReference_30 rfl (lv_at hl 3 rfl) ?_
      refine W.lcmp hx hb dX4_numberOfReference_31 ?_
      refine lv_if_ne (tgt := 43) hx hb dX4_numberOfReference_32 (by decide) (fun c_32 => ?_) (fun c_32 => ?_)
      · have c_32 : ¬ ((rf i) = p1) := fun q9 => c_32 ((lg_cmp_eq _ _).mpr q9)
        have i_32 : ¬ ((rf i).toInt = p1.toInt) := fun q9 => c_32 (zl_eq.mpr q9)
        refine lv_iinc (v := (nI (i + 1))) (lv' := [(4, .int (nI (i + 1))), (0, .ref h), (1, .int p0), (2, .long p1)]) hx hb dX4_numberOfReference_43 hl (k := 0) rfl (by first | exact nI_1 _ | rfl) (by decide) rfl (fun ls hl => ?_)
        refine lv_goto (tgt := 3) hx hb dX4_numberOfReference_46 (by decide) ?_
        exact ih (i + 1) _ _ _ (show n - (i + 1) < n - i from (by omega)) ⟨by omega, lt_s hI.2 (fun q => c_32 q.2)⟩ hP hD hS (lv_sub hl [0, 1, 2, 3] rfl)
      · have c_32 : (rf i) = p1 := (lg_cmp_eq _ _).mp c_32
        have i_32 : (rf i).toInt = p1.toInt := zl_eq.mp c_32
        refine lv_aload_n hx hb dX4_numberOfReference_35 rfl (lv_at hl 1 rfl) ?_
        refine va_get (D := D) (ci := 4) (v := .ref a3) (C := RX4) (T := TX4) (N := 4) hx hb hts k_1 hown hK hP 0 rfl rfl 2 (by decide) k_5 (fun _ h9 => h9) rfl dX4_numberOfReference_36 ?_
        refine lv_iload hx hb dX4_numberOfReference_39 (lv_at hl 0 rfl) ?_
        refine z_lald (k := i) hx hb hK hP 3 2 rfl rfl (by omega) (by decide) dX4_numberOfReference_41 ?_
        exact W.lret (v := (nm i)) hx hb hr (fun t9 ht9 hW9 => ⟨⟨_, (), rfl, Or.inl ⟨i, by omega, c_20, c_32, rfl⟩, trivial⟩, hS.F ht9⟩) hS.2.2 dX4_numberOfReference_42

set_option maxHeartbeats 4000000 in
set_option maxRecDepth 100000 in
theorem cc_X4_replace (l : Launch) (D : va_G) (z : zG) (sz : Nat) (h : Nat) (a1 : Nat) (a2 : Nat) (a3 : Nat) (k1 : ClassId) (k2 : ClassId) (k3 : ClassId) (n : Nat) (sd : Nat → Int32) (rf : Nat → Int64) (nm : Nat → Int64) (p0 : Int32) (p1 : Int64) (p2 : Int64) (hn : n ≤ 300) : Met l yX4_replace wsX4_replace ({ frames := 0, cells := 0, slots := 0, locals := 0 }) (zPre D z [.ref h, .int p0, .long p1, .long p2] sz [(h, .inr (4, [.ref a1, .ref a2, .ref a3, .int (nI n)])), (a1, .inl (k1, 300, .inl sd)), (a2, .inl (k2, 300, .inr (.inl rf))), (a3, .inl (k3, 300, .inr (.inl nm)))] [(k1, .int), (k2, .long), (k3, .long)] (va_A [(h, .inr (4, [.ref a1, .ref a2, .ref a3, .int (nI n)])), (a1, .inl (k1, 300, .inl sd)), (a2, .inl (k2, 300, .inr (.inl rf))), (a3, .inl (k3, 300, .inr (.inl nm)))] sz)) (va_Qi (fun (r : Int32) (u : (Nat → Int64)) => (∃ j, j < n ∧ sd j = p0 ∧ nm j = p2 ∧ u = vp_updL rf j p1 ∧ r = 1) ∨ ((∀ j, j < n → ¬ (sd j = p0 ∧ nm j = p2)) ∧ u = rf ∧ r = 0)) (zAt D [(k1, .int), (k2, .long), (k3, .long)] (va_A [(h, .inr (4, [.ref a1, .ref a2, .ref a3, .int (nI n)])), (a1, .inl (k1, 300, .inl sd)), (a2, .inl (k2, 300, .inr (.inl rf))), (a3, .inl (k3, 300, .inr (.inl nm)))] sz) (fun u : (Nat → Int64) => [(h, .inr (4, [.ref a1, .ref a2, .ref a3, .int (nI n)])), (a1, .inl (k1, 300, .inl sd)), (a2, .inl (k2, 300, .inr (.inl u))), (a3, .inl (k3, 300, .inr (.inl nm)))])) (va_A [(h, .inr (4, [.ref a1, .ref a2, .ref a3, .int (nI n)])), (a1, .inl (k1, 300, .inl sd)), (a2, .inl (k2, 300, .inr (.inl rf))), (a3, .inl (k3, 300, .inr (.inl nm)))] sz)) 0 0 (va_A [(h, .inr (4, [.ref a1, .ref a2, .ref a3, .int (nI n)])), (a1, .inl (k1, 300, .inl sd)), (a2, .inl (k2, 300, .inr (.inl rf))), (a3, .inl (k3, 300, .inr (.inl nm)))] sz) := by
  refine Met.ofW (cc := cX4_replace) (maxL := 7) (ret := (some .boolean)) (by decide) rfl ?_
  intro p e s m args below meth c s₁ B hml hv
  obtain ⟨rfl, hsz, hP, hK, hD, hC⟩ := hv
  have hx := B.exec
  have hb := B.bytes
  have hr := B.returns
  have hts := atoms_spec (ws := wsX4_replace) B.pre
  have hown : s.vm.findClass RX4 = some m.cls := findClass_of_methodNamed B.named
  have hlocks := B.notSynchronized
  subst hsz
  have hD := hD.self (sz := s.heap.size)
  generalize hAe : va_A [(h, .inr (4, [.ref a1, .ref a2, .ref a3, .int (nI n)])), (a1, .inl (k1, 300, .inl sd)), (a2, .inl (k2, 300, .inr (.inl rf))), (a3, .inl (k3, 300, .inr (.inl nm)))] s.heap.size = A at hC hD ⊢
  have hA : ∀ q : Nat, s.heap.size ≤ q → A q := fun q h => by rw [← hAe]; exact Or.inr h
  have hS : va_S A s.heap s.heap [] := va_S.rf
  have hP : va_P D vwCl [(h, .inr (4, [.ref a1, .ref a2, .ref a3, .int (nI n)])), (a1, .inl (k1, 300, .inl sd)), (a2, .inl (k2, 300, .inr (.inl rf))), (a3, .inl (k3, 300, .inr (.inl nm)))] s.heap := hP
  have hl := lv_entry ([.ref h, .int p0, .long p1, .long p2]) (n := 7) (Nat.le_of_ble_eq_true rfl)
  rw [lg_entry_eq]
  generalize (lg_sl ([.ref h, .int p0, .long p1, .long p2]) ++ List.replicate (7 - (lg_sl ([.ref h, .int p0, .long p1, .long p2])).length) Slot.unset).toArray = ls at hl ⊢
  have hl : lv_has ls 7 [(0, .ref h), (1, .int p0), (2, .long p1), (4, .long p2)] := hl
  refine zNameH (D := D) (A := A) (ws := [(h, .inr (4, [.ref a1, .ref a2, .ref a3, .int (nI n)])), (a1, .inl (k1, 300, .inl sd)), (a2, .inl (k2, 300, .inr (.inl rf))), (a3, .inl (k3, 300, .inr (.inl nm)))]) (fun H locs hP hS => ?_) hP hS
  have k_0 := hts (.fieldLink RX4 22 "NumberRows2$Names" "count" "I") (by decide +kernel)
  have k_1 : ∀ w ∈ wsX40, w ∈ wsX4_replace := by decide +kernel
  have k_2 := hts (.fieldLink RX4 9 "NumberRows2$Names" "senders" "[I") (by decide +kernel)
  have k_3 := hts (.fieldLink RX4 19 "NumberRows2$Names" "numbers" "[J") (by decide +kernel)
  have k_4 := hts (.fieldLink RX4 15 "NumberRows2$Names" "references" "[J") (by decide +kernel)
  refine lv_iconst (v := 0) hx hb dX4_replace_0 (by decide) ?_
  refine lv_istore (lv' := [(6, .int 0), (0, .ref h), (1, .int p0), (2, .long p1), (4, .long p2)]) hx hb dX4_replace_1 hl (by decide) rfl (fun ls hl => ?_)
  refine zLoop (σ := Nat) (nL := 7) (μ := fun (i : Nat) => n - i) (lv := fun (i : Nat) => [(6, .int (nI i)), (0, .ref h), (1, .int p0), (2, .long p1), (4, .long p2)]) (wf := fun (i : Nat) => [(h, .inr (4, [.ref a1, .ref a2, .ref a3, .int (nI n)])), (a1, .inl (k1, 300, .inl sd)), (a2, .inl (k2, 300, .inr (.inl rf))), (a3, .inl (k3, 300, .inr (.inl nm)))]) (I := fun (i : Nat) => i ≤ n ∧ ∀ j, j < i → ¬ (sd j = p0 ∧ nm j = p2)) (fun x H locs ls hI hP hD hS hl ih => ?_) 0 ⟨Nat.zero_le _, fun j hj => absurd hj (Nat.not_lt_zero j)⟩ hP hD hS (lv_sub hl [0, 1, 2, 3, 4] rfl)
  obtain ⟨i, rfl⟩ : ∃ y9, y9 = x := ⟨_, rfl⟩
  have hI : i ≤ n ∧ ∀ j, j < i → ¬ (sd j = p0 ∧ nm j = p2) := hI
  have hl : lv_has ls 7 [(6, .int (nI i)), (0, .ref h), (1, .int p0), (2, .long p1), (4, .long p2)] := hl
  have hP : va_P D vwCl [(h, .inr (4, [.ref a1, .ref a2, .ref a3, .int (nI n)])), (a1, .inl (k1, 300, .inl sd)), (a2, .inl (k2, 300, .inr (.inl rf))), (a3, .inl (k3, 300, .inr (.inl nm)))] H := hP
  have hD : va_D A [(h, .inr (4, [.ref a1, .ref a2, .ref a3, .int (nI n)])), (a1, .inl (k1, 300, .inl sd)), (a2, .inl (k2, 300, .inr (.inl rf))), (a3, .inl (k3, 300, .inr (.inl nm)))] := hD
  refine lv_iload hx hb dX4_replace_3 (lv_at hl 0 rfl) ?_
  refine lv_aload_n hx hb dX4_replace_5 rfl (lv_at hl 1 rfl) ?_
  refine va_get (D := D) (ci := 4) (v := .int (nI n)) (C := RX4) (T := TX4) (N := 4) hx hb hts k_1 hown hK hP 0 rfl rfl 3 (by decide) k_0 (fun _ h9 => h9) rfl dX4_replace_6 ?_
  refine lv_icmp_ge (tgt := 52) hx hb dX4_replace_9 (by decide) (fun c_9 => ?_) (fun c_9 => ?_)
  · have c_9 : n ≤ i := (nI_leI (a := n) (b := i) (by omega) (by omega)).mp c_9
    refine lv_iconst (v := 0) hx hb dX4_replace_52 (by decide) ?_
    exact W.zret (v := 0) hx hb hr rfl (fun t9 ht9 hW9 => ⟨⟨_, rf, rfl, Or.inr ⟨fun j hj => hI.2 j (by omega), rfl, rfl⟩, by rw [ht9]; exact hP, va_K.moved hW9.alike hK, hD⟩, hS.F ht9⟩) hS.2.2 dX4_replace_53
  · have c_9 : ¬ (n ≤ i) := fun q9 => c_9 ((nI_leI (a := n) (b := i) (by omega) (by omega)).mpr q9)
    refine lv_aload_n hx hb dX4_replace_12 rfl (lv_at hl 1 rfl) ?_
    refine va_get (D := D) (ci := 4) (v := .ref a1) (C := RX4) (T := TX4) (N := 4) hx hb hts k_1 hown hK hP 0 rfl rfl 0 (by decide) k_2 (fun _ h9 => h9) rfl dX4_replace_13 ?_
    refine lv_iload hx hb dX4_replace_16 (lv_at hl 0 rfl) ?_
    refine z_iald (k := i) hx hb hK hP 1 0 rfl rfl (by omega) (by decide) dX4_replace_18 ?_
    refine lv_iload_n hx hb dX4_replace_19 rfl (lv_at hl 2 rfl) ?_
    refine lv_icmp_ne (tgt := 46) hx hb dX4_replace_20 (by decide) (fun c_20 => ?_) (fun c_20 => ?_)
    · have i_20 : ¬ ((sd i).toInt = p0.toInt) := fun q9 => c_20 (zi_eq.mpr q9)
      refine lv_iinc (v := (nI (i + 1))) (lv' := [(6, .int (nI (i + 1))), (0, .ref h), (1, .int p0), (2, .long p1), (4, .long p2)]) hx hb dX4_replace_46 hl (k := 0) rfl (by first | exact nI_1 _ | rfl) (by decide) rfl (fun ls hl => ?_)
      refine lv_goto (tgt := 3) hx hb dX4_replace_49 (by decide) ?_
      exact ih (i + 1) _ _ _ (show n - (i + 1) < n - i from (by omega)) ⟨by omega, lt_s hI.2 (fun q => c_20 q.1)⟩ hP hD hS (lv_sub hl [0, 1, 2, 3, 4] rfl)
    · have i_20 : (sd i).toInt = p0.toInt := zi_eq.mp c_20
      refine lv_aload_n hx hb dX4_replace_23 rfl (lv_at hl 1 rfl) ?_
      refine va_get (D := D) (ci := 4) (v := .ref a3) (C := RX4) (T := TX4) (N := 4) hx hb hts k_1 hown hK hP 0 rfl rfl 2 (by decide) k_3 (fun _ h9 => h9) rfl dX4_replace_24 ?_
      refine lv_iload hx hb dX4_replace_27 (lv_at hl 0 rfl) ?_
      refine z_lald (k := i) hx hb hK hP 3 2 rfl rfl (by omega) (by decide) dX4_replace_29 ?_
      refine lv_lload hx hb dX4_replace_30 (lv_at hl 4 rfl) ?_
      refine W.lcmp hx hb dX4_replace_32 ?_
      refine lv_if_ne (tgt := 46) hx hb dX4_replace_33 (by decide) (fun c_33 => ?_) (fun c_33 => ?_)
      · have c_33 : ¬ ((nm i) = p2) := fun q9 => c_33 ((lg_cmp_eq _ _).mpr q9)
        have i_33 : ¬ ((nm i).toInt = p2.toInt) := fun q9 => c_33 (zl_eq.mpr q9)
        refine lv_iinc (v := (nI (i + 1))) (lv' := [(6, .int (nI (i + 1))), (0, .ref h), (1, .int p0), (2, .long p1), (4, .long p2)]) hx hb dX4_replace_46 hl (k := 0) rfl (by first | exact nI_1 _ | rfl) (by decide) rfl (fun ls hl => ?_)
        refine lv_goto (tgt := 3) hx hb dX4_replace_49 (by decide) ?_
        exact ih (i + 1) _ _ _ (show n - (i + 1) < n - i from (by omega)) ⟨by omega, lt_s hI.2 (fun q => c_33 q.2)⟩ hP hD hS (lv_sub hl [0, 1, 2, 3, 4] rfl)
      · have c_33 : (nm i) = p2 := (lg_cmp_eq _ _).mp c_33
        have i_33 : (nm i).toInt = p2.toInt := zl_eq.mp c_33
        refine lv_aload_n hx hb dX4_replace_36 rfl (lv_at hl 1 rfl) ?_
        refine va_get (D := D) (ci := 4) (v := .ref a2) (C := RX4) (T := TX4) (N := 4) hx hb hts k_1 hown hK hP 0 rfl rfl 1 (by decide) k_4 (fun _ h9 => h9) rfl dX4_replace_37 ?_
        refine lv_iload hx hb dX4_replace_40 (lv_at hl 0 rfl) ?_
        refine lv_lload_n hx hb dX4_replace_42 rfl (lv_at hl 3 rfl) ?_
        refine z_last (k := i) hx hb hK hP hD hS 2 1 rfl rfl (by omega) (by decide) dX4_replace_43 (fun H locs hP hD hS => ?_)
        have hP : va_P D vwCl [(h, .inr (4, [.ref a1, .ref a2, .ref a3, .int (nI n)])), (a1, .inl (k1, 300, .inl sd)), (a2, .inl (k2, 300, .inr (.inl (vp_updL rf i p1)))), (a3, .inl (k3, 300, .inr (.inl nm)))] H := hP
        have hD : va_D A [(h, .inr (4, [.ref a1, .ref a2, .ref a3, .int (nI n)])), (a1, .inl (k1, 300, .inl sd)), (a2, .inl (k2, 300, .inr (.inl (vp_updL rf i p1)))), (a3, .inl (k3, 300, .inr (.inl nm)))] := hD
        refine lv_iconst (v := 1) hx hb dX4_replace_44 (by decide) ?_
        exact W.zret (v := 1) hx hb hr rfl (fun t9 ht9 hW9 => ⟨⟨_, (vp_updL rf i p1), rfl, Or.inl ⟨i, by omega, c_20, c_33, rfl, rfl⟩, by rw [ht9]; exact hP, va_K.moved hW9.alike hK, hD⟩, hS.F ht9⟩) hS.2.2 dX4_replace_45

set_option maxHeartbeats 4000000 in
set_option maxRecDepth 100000 in
theorem cc_X4_add (l : Launch) (D : va_G) (z : zG) (sz : Nat) (h : Nat) (a1 : Nat) (a2 : Nat) (a3 : Nat) (k1 : ClassId) (k2 : ClassId) (k3 : ClassId) (n : Nat) (sd : Nat → Int32) (rf : Nat → Int64) (nm : Nat → Int64) (p0 : Int32) (p1 : Int64) (p2 : Int64) (hn : n < 300) : Met l yX4_add wsX4_add ({ frames := 0, cells := 0, slots := 0, locals := 0 }) (zPre D z [.ref h, .int p0, .long p1, .long p2] sz [(h, .inr (4, [.ref a1, .ref a2, .ref a3, .int (nI n)])), (a1, .inl (k1, 300, .inl sd)), (a2, .inl (k2, 300, .inr (.inl rf))), (a3, .inl (k3, 300, .inr (.inl nm)))] [(k1, .int), (k2, .long), (k3, .long)] (va_A [(h, .inr (4, [.ref a1, .ref a2, .ref a3, .int (nI n)])), (a1, .inl (k1, 300, .inl sd)), (a2, .inl (k2, 300, .inr (.inl rf))), (a3, .inl (k3, 300, .inr (.inl nm)))] sz)) (va_Qv (fun u : Nat × (Nat → Int32) × (Nat → Int64) × (Nat → Int64) => u.1 = n + 1 ∧ u.2.1 = upd sd n p0 ∧ u.2.2.1 = vp_updL rf n p1 ∧ u.2.2.2 = vp_updL nm n p2) (zAt D [(k1, .int), (k2, .long), (k3, .long)] (va_A [(h, .inr (4, [.ref a1, .ref a2, .ref a3, .int (nI n)])), (a1, .inl (k1, 300, .inl sd)), (a2, .inl (k2, 300, .inr (.inl rf))), (a3, .inl (k3, 300, .inr (.inl nm)))] sz) (fun u : Nat × (Nat → Int32) × (Nat → Int64) × (Nat → Int64) => [(h, .inr (4, [.ref a1, .ref a2, .ref a3, .int (nI u.1)])), (a1, .inl (k1, 300, .inl u.2.1)), (a2, .inl (k2, 300, .inr (.inl u.2.2.1))), (a3, .inl (k3, 300, .inr (.inl u.2.2.2)))])) (va_A [(h, .inr (4, [.ref a1, .ref a2, .ref a3, .int (nI n)])), (a1, .inl (k1, 300, .inl sd)), (a2, .inl (k2, 300, .inr (.inl rf))), (a3, .inl (k3, 300, .inr (.inl nm)))] sz)) 0 0 (va_A [(h, .inr (4, [.ref a1, .ref a2, .ref a3, .int (nI n)])), (a1, .inl (k1, 300, .inl sd)), (a2, .inl (k2, 300, .inr (.inl rf))), (a3, .inl (k3, 300, .inr (.inl nm)))] sz) := by
  refine Met.ofW (cc := cX4_add) (maxL := 6) (ret := none) (by decide) rfl ?_
  intro p e s m args below meth c s₁ B hml hv
  obtain ⟨rfl, hsz, hP, hK, hD, hC⟩ := hv
  have hx := B.exec
  have hb := B.bytes
  have hr := B.returns
  have hts := atoms_spec (ws := wsX4_add) B.pre
  have hown : s.vm.findClass RX4 = some m.cls := findClass_of_methodNamed B.named
  have hlocks := B.notSynchronized
  subst hsz
  have hD := hD.self (sz := s.heap.size)
  generalize hAe : va_A [(h, .inr (4, [.ref a1, .ref a2, .ref a3, .int (nI n)])), (a1, .inl (k1, 300, .inl sd)), (a2, .inl (k2, 300, .inr (.inl rf))), (a3, .inl (k3, 300, .inr (.inl nm)))] s.heap.size = A at hC hD ⊢
  have hA : ∀ q : Nat, s.heap.size ≤ q → A q := fun q h => by rw [← hAe]; exact Or.inr h
  have hS : va_S A s.heap s.heap [] := va_S.rf
  have hP : va_P D vwCl [(h, .inr (4, [.ref a1, .ref a2, .ref a3, .int (nI n)])), (a1, .inl (k1, 300, .inl sd)), (a2, .inl (k2, 300, .inr (.inl rf))), (a3, .inl (k3, 300, .inr (.inl nm)))] s.heap := hP
  have hl := lv_entry ([.ref h, .int p0, .long p1, .long p2]) (n := 6) (Nat.le_of_ble_eq_true rfl)
  rw [lg_entry_eq]
  generalize (lg_sl ([.ref h, .int p0, .long p1, .long p2]) ++ List.replicate (6 - (lg_sl ([.ref h, .int p0, .long p1, .long p2])).length) Slot.unset).toArray = ls at hl ⊢
  have hl : lv_has ls 6 [(0, .ref h), (1, .int p0), (2, .long p1), (4, .long p2)] := hl
  refine zNameH (D := D) (A := A) (ws := [(h, .inr (4, [.ref a1, .ref a2, .ref a3, .int (nI n)])), (a1, .inl (k1, 300, .inl sd)), (a2, .inl (k2, 300, .inr (.inl rf))), (a3, .inl (k3, 300, .inr (.inl nm)))]) (fun H locs hP hS => ?_) hP hS
  have k_0 := hts (.fieldLink RX4 22 "NumberRows2$Names" "count" "I") (by decide +kernel)
  have k_1 : ∀ w ∈ wsX40, w ∈ wsX4_add := by decide +kernel
  have k_2 := hts (.fieldLink RX4 9 "NumberRows2$Names" "senders" "[I") (by decide +kernel)
  have k_3 := hts (.fieldLink RX4 15 "NumberRows2$Names" "references" "[J") (by decide +kernel)
  have k_4 := hts (.fieldLink RX4 19 "NumberRows2$Names" "numbers" "[J") (by decide +kernel)
  refine lv_aload_n hx hb dX4_add_0 rfl (lv_at hl 0 rfl) ?_
  refine va_get (D := D) (ci := 4) (v := .int (nI n)) (C := RX4) (T := TX4) (N := 4) hx hb hts k_1 hown hK hP 0 rfl rfl 3 (by decide) k_0 (fun _ h9 => h9) rfl dX4_add_1 ?_
  refine lv_sipush (v := 300) hx hb dX4_add_4 (by decide) ?_
  refine lv_icmp_ge (tgt := 51) hx hb dX4_add_7 (by decide) (fun c_7 => ?_) (fun c_7 => ?_)
  · have c_7 : 300 ≤ n := (nI_leI (a := 300) (b := n) (by omega) (by omega)).mp c_7
    exact absurd c_7 (by omega)
  · have c_7 : ¬ (300 ≤ n) := fun q9 => c_7 ((nI_leI (a := 300) (b := n) (by omega) (by omega)).mpr q9)
    refine lv_aload_n hx hb dX4_add_10 rfl (lv_at hl 0 rfl) ?_
    refine va_get (D := D) (ci := 4) (v := .ref a1) (C := RX4) (T := TX4) (N := 4) hx hb hts k_1 hown hK hP 0 rfl rfl 0 (by decide) k_2 (fun _ h9 => h9) rfl dX4_add_11 ?_
    refine lv_aload_n hx hb dX4_add_14 rfl (lv_at hl 0 rfl) ?_
    refine va_get (D := D) (ci := 4) (v := .int (nI n)) (C := RX4) (T := TX4) (N := 4) hx hb hts k_1 hown hK hP 0 rfl rfl 3 (by decide) k_0 (fun _ h9 => h9) rfl dX4_add_15 ?_
    refine lv_iload_n hx hb dX4_add_18 rfl (lv_at hl 1 rfl) ?_
    refine z_iast (k := n) hx hb hK hP hD hS 1 0 rfl rfl (by omega) (by decide) dX4_add_19 (fun H locs hP hD hS => ?_)
    have hP : va_P D vwCl [(h, .inr (4, [.ref a1, .ref a2, .ref a3, .int (nI n)])), (a1, .inl (k1, 300, .inl (upd sd n p0))), (a2, .inl (k2, 300, .inr (.inl rf))), (a3, .inl (k3, 300, .inr (.inl nm)))] H := hP
    have hD : va_D A [(h, .inr (4, [.ref a1, .ref a2, .ref a3, .int (nI n)])), (a1, .inl (k1, 300, .inl (upd sd n p0))), (a2, .inl (k2, 300, .inr (.inl rf))), (a3, .inl (k3, 300, .inr (.inl nm)))] := hD
    refine lv_aload_n hx hb dX4_add_20 rfl (lv_at hl 0 rfl) ?_
    refine va_get (D := D) (ci := 4) (v := .ref a2) (C := RX4) (T := TX4) (N := 4) hx hb hts k_1 hown hK hP 0 rfl rfl 1 (by decide) k_3 (fun _ h9 => h9) rfl dX4_add_21 ?_
    refine lv_aload_n hx hb dX4_add_24 rfl (lv_at hl 0 rfl) ?_
    refine va_get (D := D) (ci := 4) (v := .int (nI n)) (C := RX4) (T := TX4) (N := 4) hx hb hts k_1 hown hK hP 0 rfl rfl 3 (by decide) k_0 (fun _ h9 => h9) rfl dX4_add_25 ?_
    refine lv_lload_n hx hb dX4_add_28 rfl (lv_at hl 2 rfl) ?_
    refine z_last (k := n) hx hb hK hP hD hS 2 1 rfl rfl (by omega) (by decide) dX4_add_29 (fun H locs hP hD hS => ?_)
    have hP : va_P D vwCl [(h, .inr (4, [.ref a1, .ref a2, .ref a3, .int (nI n)])), (a1, .inl (k1, 300, .inl (upd sd n p0))), (a2, .inl (k2, 300, .inr (.inl (vp_updL rf n p1)))), (a3, .inl (k3, 300, .inr (.inl nm)))] H := hP
    have hD : va_D A [(h, .inr (4, [.ref a1, .ref a2, .ref a3, .int (nI n)])), (a1, .inl (k1, 300, .inl (upd sd n p0))), (a2, .inl (k2, 300, .inr (.inl (vp_updL rf n p1)))), (a3, .inl (k3, 300, .inr (.inl nm)))] := hD
    refine lv_aload_n hx hb dX4_add_30 rfl (lv_at hl 0 rfl) ?_
    refine va_get (D := D) (ci := 4) (v := .ref a3) (C := RX4) (T := TX4) (N := 4) hx hb hts k_1 hown hK hP 0 rfl rfl 2 (by decide) k_4 (fun _ h9 => h9) rfl dX4_add_31 ?_
    refine lv_aload_n hx hb dX4_add_34 rfl (lv_at hl 0 rfl) ?_
    refine va_get (D := D) (ci := 4) (v := .int (nI n)) (C := RX4) (T := TX4) (N := 4) hx hb hts k_1 hown hK hP 0 rfl rfl 3 (by decide) k_0 (fun _ h9 => h9) rfl dX4_add_35 ?_
    refine lv_lload hx hb dX4_add_38 (lv_at hl 3 rfl) ?_
    refine z_last (k := n) hx hb hK hP hD hS 3 2 rfl rfl (by omega) (by decide) dX4_add_40 (fun H locs hP hD hS => ?_)
    have hP : va_P D vwCl [(h, .inr (4, [.ref a1, .ref a2, .ref a3, .int (nI n)])), (a1, .inl (k1, 300, .inl (upd sd n p0))), (a2, .inl (k2, 300, .inr (.inl (vp_updL rf n p1)))), (a3, .inl (k3, 300, .inr (.inl (vp_updL nm n p2))))] H := hP
    have hD : va_D A [(h, .inr (4, [.ref a1, .ref a2, .ref a3, .int (nI n)])), (a1, .inl (k1, 300, .inl (upd sd n p0))), (a2, .inl (k2, 300, .inr (.inl (vp_updL rf n p1)))), (a3, .inl (k3, 300, .inr (.inl (vp_updL nm n p2))))] := hD
    refine lv_aload_n hx hb dX4_add_41 rfl (lv_at hl 0 rfl) ?_
    refine lv_dup hx hb dX4_add_42 rfl ?_
    refine va_get (D := D) (ci := 4) (v := .int (nI n)) (C := RX4) (T := TX4) (N := 4) hx hb hts k_1 hown hK hP 0 rfl rfl 3 (by decide) k_0 (fun _ h9 => h9) rfl dX4_add_43 ?_
    refine lv_iconst (v := 1) hx hb dX4_add_46 (by decide) ?_
    refine lv_iadd hx hb dX4_add_47 ?_
    refine lv_topi (fun y_1 e_1 => ?_)
    obtain rfl : y_1 = nI (n + 1) := e_1.trans (by first | exact nI_1 _ | exact nI_add _ 1)
    refine va_put (D := D) (ci := 4) (v := .int (nI (n + 1))) (ty := .int) (C := RX4) (T := TX4) (N := 4) hx hb hts k_1 tyX4 tyX4_ok nmX4 hown hK hP hD hS 0 rfl rfl 3 (by decide) k_0 (fun _ h9 => h9) rfl (by decide +kernel) rfl rfl (Nat.le_of_ble_eq_true rfl) dX4_add_48 (fun H locs hP hD hS => ?_)
    have hP : va_P D vwCl [(h, .inr (4, [.ref a1, .ref a2, .ref a3, .int (nI (n + 1))])), (a1, .inl (k1, 300, .inl (upd sd n p0))), (a2, .inl (k2, 300, .inr (.inl (vp_updL rf n p1)))), (a3, .inl (k3, 300, .inr (.inl (vp_updL nm n p2))))] H := hP
    have hD : va_D A [(h, .inr (4, [.ref a1, .ref a2, .ref a3, .int (nI (n + 1))])), (a1, .inl (k1, 300, .inl (upd sd n p0))), (a2, .inl (k2, 300, .inr (.inl (vp_updL rf n p1)))), (a3, .inl (k3, 300, .inr (.inl (vp_updL nm n p2))))] := hD
    exact W.vret hx hb hr (fun t9 ht9 hW9 => ⟨⟨((n + 1), (upd sd n p0), (vp_updL rf n p1), (vp_updL nm n p2)), rfl, ⟨rfl, rfl, rfl, rfl⟩, by rw [ht9]; exact hP, va_K.moved hW9.alike hK, hD⟩, hS.F ht9⟩) hS.2.2 dX4_add_51

set_option maxHeartbeats 4000000 in
set_option maxRecDepth 100000 in
theorem cc_X5_add (l : Launch) (D : va_G) (z : zG) (sz : Nat) (h : Nat) (a1 : Nat) (k1 : ClassId) (n : Nat) (ch : Nat → Int32) (p0 : Int32) (hn : n ≤ 60) : Met l yX5_add wsX5_add ({ frames := 0, cells := 0, slots := 0, locals := 0 }) (zPre D z [.ref h, .int p0] sz [(h, .inr (5, [.ref a1, .int (nI n)])), (a1, .inl (k1, 60, .inl ch))] [(k1, .int)] (va_A [(h, .inr (5, [.ref a1, .int (nI n)])), (a1, .inl (k1, 60, .inl ch))] sz)) (va_Qv (fun u : Nat × (Nat → Int32) => (n < 60 → u.1 = n + 1 ∧ u.2 = upd ch n p0) ∧ (¬ n < 60 → u.1 = n ∧ u.2 = ch)) (zAt D [(k1, .int)] (va_A [(h, .inr (5, [.ref a1, .int (nI n)])), (a1, .inl (k1, 60, .inl ch))] sz) (fun u : Nat × (Nat → Int32) => [(h, .inr (5, [.ref a1, .int (nI u.1)])), (a1, .inl (k1, 60, .inl u.2))])) (va_A [(h, .inr (5, [.ref a1, .int (nI n)])), (a1, .inl (k1, 60, .inl ch))] sz)) 0 0 (va_A [(h, .inr (5, [.ref a1, .int (nI n)])), (a1, .inl (k1, 60, .inl ch))] sz) := by
  refine Met.ofW (cc := cX5_add) (maxL := 2) (ret := none) (by decide) rfl ?_
  intro p e s m args below meth c s₁ B hml hv
  obtain ⟨rfl, hsz, hP, hK, hD, hC⟩ := hv
  have hx := B.exec
  have hb := B.bytes
  have hr := B.returns
  have hts := atoms_spec (ws := wsX5_add) B.pre
  have hown : s.vm.findClass RX5 = some m.cls := findClass_of_methodNamed B.named
  have hlocks := B.notSynchronized
  subst hsz
  have hD := hD.self (sz := s.heap.size)
  generalize hAe : va_A [(h, .inr (5, [.ref a1, .int (nI n)])), (a1, .inl (k1, 60, .inl ch))] s.heap.size = A at hC hD ⊢
  have hA : ∀ q : Nat, s.heap.size ≤ q → A q := fun q h => by rw [← hAe]; exact Or.inr h
  have hS : va_S A s.heap s.heap [] := va_S.rf
  have hP : va_P D vwCl [(h, .inr (5, [.ref a1, .int (nI n)])), (a1, .inl (k1, 60, .inl ch))] s.heap := hP
  have hl := lv_entry ([.ref h, .int p0]) (n := 2) (Nat.le_of_ble_eq_true rfl)
  rw [lg_entry_eq]
  generalize (lg_sl ([.ref h, .int p0]) ++ List.replicate (2 - (lg_sl ([.ref h, .int p0])).length) Slot.unset).toArray = ls at hl ⊢
  have hl : lv_has ls 2 [(0, .ref h), (1, .int p0)] := hl
  refine zNameH (D := D) (A := A) (ws := [(h, .inr (5, [.ref a1, .int (nI n)])), (a1, .inl (k1, 60, .inl ch))]) (fun H locs hP hS => ?_) hP hS
  have k_0 := hts (.fieldLink RX5 15 "NumberRows2$TypedText" "length" "I") (by decide +kernel)
  have k_1 : ∀ w ∈ wsX50, w ∈ wsX5_add := by decide +kernel
  have k_2 := hts (.fieldLink RX5 9 "NumberRows2$TypedText" "characters" "[I") (by decide +kernel)
  refine lv_aload_n hx hb dX5_add_0 rfl (lv_at hl 0 rfl) ?_
  refine va_get (D := D) (ci := 5) (v := .int (nI n)) (C := RX5) (T := TX5) (N := 2) hx hb hts k_1 hown hK hP 0 rfl rfl 1 (by decide) k_0 (fun _ h9 => h9) rfl dX5_add_1 ?_
  refine lv_bipush (v := 60) hx hb dX5_add_4 (by decide) ?_
  refine lv_icmp_ge (tgt := 29) hx hb dX5_add_6 (by decide) (fun c_6 => ?_) (fun c_6 => ?_)
  · have c_6 : 60 ≤ n := (nI_leI (a := 60) (b := n) (by omega) (by omega)).mp c_6
    exact W.vret hx hb hr (fun t9 ht9 hW9 => ⟨⟨(n, ch), rfl, ⟨fun q => absurd q (by omega), fun _ => ⟨rfl, rfl⟩⟩, by rw [ht9]; exact hP, va_K.moved hW9.alike hK, hD⟩, hS.F ht9⟩) hS.2.2 dX5_add_29
  · have c_6 : ¬ (60 ≤ n) := fun q9 => c_6 ((nI_leI (a := 60) (b := n) (by omega) (by omega)).mpr q9)
    refine lv_aload_n hx hb dX5_add_9 rfl (lv_at hl 0 rfl) ?_
    refine va_get (D := D) (ci := 5) (v := .ref a1) (C := RX5) (T := TX5) (N := 2) hx hb hts k_1 hown hK hP 0 rfl rfl 0 (by decide) k_2 (fun _ h9 => h9) rfl dX5_add_10 ?_
    refine lv_aload_n hx hb dX5_add_13 rfl (lv_at hl 0 rfl) ?_
    refine va_get (D := D) (ci := 5) (v := .int (nI n)) (C := RX5) (T := TX5) (N := 2) hx hb hts k_1 hown hK hP 0 rfl rfl 1 (by decide) k_0 (fun _ h9 => h9) rfl dX5_add_14 ?_
    refine lv_iload_n hx hb dX5_add_17 rfl (lv_at hl 1 rfl) ?_
    refine z_iast (k := n) hx hb hK hP hD hS 1 0 rfl rfl (by omega) (by decide) dX5_add_18 (fun H locs hP hD hS => ?_)
    have hP : va_P D vwCl [(h, .inr (5, [.ref a1, .int (nI n)])), (a1, .inl (k1, 60, .inl (upd ch n p0)))] H := hP
    have hD : va_D A [(h, .inr (5, [.ref a1, .int (nI n)])), (a1, .inl (k1, 60, .inl (upd ch n p0)))] := hD
    refine lv_aload_n hx hb dX5_add_19 rfl (lv_at hl 0 rfl) ?_
    refine lv_dup hx hb dX5_add_20 rfl ?_
    refine va_get (D := D) (ci := 5) (v := .int (nI n)) (C := RX5) (T := TX5) (N := 2) hx hb hts k_1 hown hK hP 0 rfl rfl 1 (by decide) k_0 (fun _ h9 => h9) rfl dX5_add_21 ?_
    refine lv_iconst (v := 1) hx hb dX5_add_24 (by decide) ?_
    refine lv_iadd hx hb dX5_add_25 ?_
    refine lv_topi (fun y_1 e_1 => ?_)
    obtain rfl : y_1 = nI (n + 1) := e_1.trans (by first | exact nI_1 _ | exact nI_add _ 1)
    refine va_put (D := D) (ci := 5) (v := .int (nI (n + 1))) (ty := .int) (C := RX5) (T := TX5) (N := 2) hx hb hts k_1 tyX5 tyX5_ok nmX5 hown hK hP hD hS 0 rfl rfl 1 (by decide) k_0 (fun _ h9 => h9) rfl (by decide +kernel) rfl rfl (Nat.le_of_ble_eq_true rfl) dX5_add_26 (fun H locs hP hD hS => ?_)
    have hP : va_P D vwCl [(h, .inr (5, [.ref a1, .int (nI (n + 1))])), (a1, .inl (k1, 60, .inl (upd ch n p0)))] H := hP
    have hD : va_D A [(h, .inr (5, [.ref a1, .int (nI (n + 1))])), (a1, .inl (k1, 60, .inl (upd ch n p0)))] := hD
    exact W.vret hx hb hr (fun t9 ht9 hW9 => ⟨⟨((n + 1), (upd ch n p0)), rfl, ⟨fun _ => ⟨rfl, rfl⟩, fun q => absurd q (by omega)⟩, by rw [ht9]; exact hP, va_K.moved hW9.alike hK, hD⟩, hS.F ht9⟩) hS.2.2 dX5_add_29

set_option maxHeartbeats 4000000 in
set_option maxRecDepth 100000 in
theorem cc_X5_clear (l : Launch) (D : va_G) (z : zG) (sz : Nat) (h : Nat) (a1 : Nat) (k1 : ClassId) (n : Nat) (ch : Nat → Int32) (hn : n ≤ 60) : Met l yX5_clear wsX5_clear ({ frames := 0, cells := 0, slots := 0, locals := 0 }) (zPre D z [.ref h] sz [(h, .inr (5, [.ref a1, .int (nI n)])), (a1, .inl (k1, 60, .inl ch))] [(k1, .int)] (va_A [(h, .inr (5, [.ref a1, .int (nI n)])), (a1, .inl (k1, 60, .inl ch))] sz)) (va_Qv (fun u : Unit => True) (zAt D [(k1, .int)] (va_A [(h, .inr (5, [.ref a1, .int (nI n)])), (a1, .inl (k1, 60, .inl ch))] sz) (fun u : Unit => [(h, .inr (5, [.ref a1, .int (nI 0)])), (a1, .inl (k1, 60, .inl ch))])) (va_A [(h, .inr (5, [.ref a1, .int (nI n)])), (a1, .inl (k1, 60, .inl ch))] sz)) 0 0 (va_A [(h, .inr (5, [.ref a1, .int (nI n)])), (a1, .inl (k1, 60, .inl ch))] sz) := by
  refine Met.ofW (cc := cX5_clear) (maxL := 1) (ret := none) (by decide) rfl ?_
  intro p e s m args below meth c s₁ B hml hv
  obtain ⟨rfl, hsz, hP, hK, hD, hC⟩ := hv
  have hx := B.exec
  have hb := B.bytes
  have hr := B.returns
  have hts := atoms_spec (ws := wsX5_clear) B.pre
  have hown : s.vm.findClass RX5 = some m.cls := findClass_of_methodNamed B.named
  have hlocks := B.notSynchronized
  subst hsz
  have hD := hD.self (sz := s.heap.size)
  generalize hAe : va_A [(h, .inr (5, [.ref a1, .int (nI n)])), (a1, .inl (k1, 60, .inl ch))] s.heap.size = A at hC hD ⊢
  have hA : ∀ q : Nat, s.heap.size ≤ q → A q := fun q h => by rw [← hAe]; exact Or.inr h
  have hS : va_S A s.heap s.heap [] := va_S.rf
  have hP : va_P D vwCl [(h, .inr (5, [.ref a1, .int (nI n)])), (a1, .inl (k1, 60, .inl ch))] s.heap := hP
  have hl := lv_entry ([.ref h]) (n := 1) (Nat.le_of_ble_eq_true rfl)
  rw [lg_entry_eq]
  generalize (lg_sl ([.ref h]) ++ List.replicate (1 - (lg_sl ([.ref h])).length) Slot.unset).toArray = ls at hl ⊢
  have hl : lv_has ls 1 [(0, .ref h)] := hl
  refine zNameH (D := D) (A := A) (ws := [(h, .inr (5, [.ref a1, .int (nI n)])), (a1, .inl (k1, 60, .inl ch))]) (fun H locs hP hS => ?_) hP hS
  have k_0 := hts (.fieldLink RX5 15 "NumberRows2$TypedText" "length" "I") (by decide +kernel)
  have k_1 : ∀ w ∈ wsX50, w ∈ wsX5_clear := by decide +kernel
  refine lv_aload_n hx hb dX5_clear_0 rfl (lv_at hl 0 rfl) ?_
  refine lv_iconst (v := 0) hx hb dX5_clear_1 (by decide) ?_
  refine va_put (D := D) (ci := 5) (v := .int 0) (ty := .int) (C := RX5) (T := TX5) (N := 2) hx hb hts k_1 tyX5 tyX5_ok nmX5 hown hK hP hD hS 0 rfl rfl 1 (by decide) k_0 (fun _ h9 => h9) rfl (by decide +kernel) rfl rfl (Nat.le_of_ble_eq_true rfl) dX5_clear_2 (fun H locs hP hD hS => ?_)
  have hP : va_P D vwCl [(h, .inr (5, [.ref a1, .int 0])), (a1, .inl (k1, 60, .inl ch))] H := hP
  have hD : va_D A [(h, .inr (5, [.ref a1, .int 0])), (a1, .inl (k1, 60, .inl ch))] := hD
  exact W.vret hx hb hr (fun t9 ht9 hW9 => ⟨⟨(), rfl, trivial, by rw [ht9]; exact hP, va_K.moved hW9.alike hK, hD⟩, hS.F ht9⟩) hS.2.2 dX5_clear_5
