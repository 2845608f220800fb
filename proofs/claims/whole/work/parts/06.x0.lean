/-! rows that are barred -/
def zBar (n : Nat) (bf bl : Nat → Int64) (x : Int64) : Prop := ∃ j, j < n ∧ bf j ≤ x ∧ x ≤ bl j
def zBeh (n : Nat) (bf bl : Nat → Int64) (p r : Int64) : Prop := (∃ j, j < n ∧ bf j ≤ p ∧ p ≤ bl j ∧ r = bl j + 1) ∨ ((∀ j, j < n → ¬ (bf j ≤ p ∧ p ≤ bl j)) ∧ r = p)
def zTop (n : Nat) (bl : Nat → Int64) : Prop := ∀ j, j < n → (bl j).toInt < 27512614111
/-- the least serial from p on that is not barred -/
def zFF (n : Nat) (bf bl : Nat → Int64) (p r : Int64) : Prop := p ≤ r ∧ ¬ zBar n bf bl r ∧ (∀ x, p ≤ x → x < r → zBar n bf bl x) ∧ (r = p ∨ r.toInt ≤ 27512614111)
def zFI (n : Nat) (bf bl : Nat → Int64) (p : Int64) (i : Nat) (f : Int64) : Prop := i ≤ n ∧ p ≤ f ∧ (∀ x, p ≤ x → x < f → zBar n bf bl x) ∧ (f = p ∨ f.toInt ≤ 27512614111) ∧ i ≤ zcnt (fun j => decide (bl j < f)) n
theorem zFI_0 {n : Nat} {bf bl : Nat → Int64} {p : Int64} : zFI n bf bl p 0 p :=
  ⟨Nat.zero_le _, zl_le.mpr (Int.le_refl _), fun x h1 h2 => by rw [zl_le] at h1; rw [zl_lt] at h2; omega, Or.inl rfl, Nat.zero_le _⟩
theorem zFI_done {n i : Nat} {bf bl : Nat → Int64} {p f r : Int64} (ht : zTop n bl) (h : zFI n bf bl p i f) (hr : zBeh n bf bl f r) (e : r = f) : zFF n bf bl p f := by
  obtain ⟨h1, h2, h3, h4, h5⟩ := h
  rcases hr with ⟨j, g1, g2, g3, g4⟩ | ⟨g1, g2⟩
  · exfalso
    have := ht j g1
    have e1 : (bl j + 1).toInt = (bl j).toInt + 1 := zl_add (by have := zl_lo (bl j); simp; omega) (by simp; omega)
    rw [e] at g4
    rw [zl_eq, e1] at g4
    rw [zl_le] at g3
    omega
  · exact ⟨h2, fun ⟨j, q1, q2⟩ => g1 j q1 q2, h3, h4⟩
theorem zFI_step {n i : Nat} {bf bl : Nat → Int64} {p f r : Int64} (ht : zTop n bl) (h : zFI n bf bl p i f) (hi : i < n) (hr : zBeh n bf bl f r) (e : ¬ r = f) : zFI n bf bl p (i + 1) r := by
  obtain ⟨h1, h2, h3, h4, h5⟩ := h
  rcases hr with ⟨j, g1, g2, g3, g4⟩ | ⟨g1, g2⟩
  · have hj := ht j g1
    have e1 : (bl j + 1).toInt = (bl j).toInt + 1 := zl_add (by have := zl_lo (bl j); simp; omega) (by simp; omega)
    have er : r.toInt = (bl j).toInt + 1 := by rw [g4, e1]
    rw [zl_le] at g2 g3 h2
    refine ⟨hi, zl_le.mpr (by omega), fun x q1 q2 => ?_, Or.inr (by omega), ?_⟩
    · by_cases hx : x < f
      · exact h3 x q1 hx
      · rw [zl_lt] at hx q2
        exact ⟨j, g1, zl_le.mpr (by omega), zl_le.mpr (by omega)⟩
    · have := zcnt_lt (P := fun j => decide (bl j < f)) (Q := fun j => decide (bl j < r)) (n := n) (j := j) (fun k hk q => by
        simp only [decide_eq_true_eq, zl_lt] at q ⊢; omega) g1 (by simp only [decide_eq_false_iff_not, zl_lt]; omega) (by simp only [decide_eq_true_eq, zl_lt]; omega)
      omega
  · exact absurd g2 e
theorem zFI_end {n i : Nat} {bf bl : Nat → Int64} {p f : Int64} (h : zFI n bf bl p i f) (hi : n ≤ i) : zFF n bf bl p f := by
  obtain ⟨h1, h2, h3, h4, h5⟩ := h
  refine ⟨h2, fun ⟨j, q1, q2, q3⟩ => ?_, h3, h4⟩
  have := zcnt_all (P := fun j => decide (bl j < f)) (n := n) (by omega) j q1
  simp only [decide_eq_true_eq, zl_lt] at this
  rw [zl_le] at q3
  omega

set_option maxHeartbeats 4000000 in
set_option maxRecDepth 100000 in
theorem cc_X0_isFull (l : Launch) (D : va_G) (z : zG) (sz : Nat) (h : Nat) (a1 : Nat) (a2 : Nat) (k1 : ClassId) (k2 : ClassId) (n : Nat) (bf : Nat → Int64) (bl : Nat → Int64) (hn : n ≤ 50) : Met l yX0_isFull wsX0_isFull ({ frames := 0, cells := 0, slots := 0, locals := 0 }) (zPre D z [.ref h] sz [(h, .inr (1, [.ref a1, .ref a2, .int (nI n)])), (a1, .inl (k1, 50, .inr (.inl bf))), (a2, .inl (k2, 50, .inr (.inl bl)))] [(k1, .long), (k2, .long)] (va_A [] sz)) (va_Qi (fun (r : Int32) (u : Unit) => zB r (50 ≤ n)) zT (va_A [] sz)) 0 0 (va_A [] sz) := by
  refine Met.ofW (cc := cX0_isFull) (maxL := 1) (ret := (some .boolean)) (by decide) rfl ?_
  intro p e s m args below meth c s₁ B hml hv
  obtain ⟨rfl, hsz, hP, hK, hD, hC⟩ := hv
  have hx := B.exec
  have hb := B.bytes
  have hr := B.returns
  have hts := atoms_spec (ws := wsX0_isFull) B.pre
  have hown : s.vm.findClass RX0 = some m.cls := findClass_of_methodNamed B.named
  have hlocks := B.notSynchronized
  subst hsz
  generalize hAe : va_A [] s.heap.size = A at hC ⊢
  have hA : ∀ q : Nat, s.heap.size ≤ q → A q := fun q h => by rw [← hAe]; exact Or.inr h
  have hS : va_S A s.heap s.heap [] := va_S.rf
  have hP : va_P D vwCl [(h, .inr (1, [.ref a1, .ref a2, .int (nI n)])), (a1, .inl (k1, 50, .inr (.inl bf))), (a2, .inl (k2, 50, .inr (.inl bl)))] s.heap := hP
  have hl := lv_entry ([.ref h]) (n := 1) (Nat.le_of_ble_eq_true rfl)
  rw [lg_entry_eq]
  generalize (lg_sl ([.ref h]) ++ List.replicate (1 - (lg_sl ([.ref h])).length) Slot.unset).toArray = ls at hl ⊢
  have hl : lv_has ls 1 [(0, .ref h)] := hl
  refine zNameH (D := D) (A := A) (ws := [(h, .inr (1, [.ref a1, .ref a2, .int (nI n)])), (a1, .inl (k1, 50, .inr (.inl bf))), (a2, .inl (k2, 50, .inr (.inl bl)))]) (fun H locs hP hS => ?_) hP hS
  have k_0 := hts (.fieldLink RX0 18 "NumberRows2$BarredRows" "count" "I") (by decide +kernel)
  have k_1 : ∀ w ∈ wsX00, w ∈ wsX0_isFull := by decide +kernel
  refine lv_aload_n hx hb dX0_isFull_0 rfl (lv_at hl 0 rfl) ?_
  refine va_get (D := D) (ci := 1) (v := .int (nI n)) (C := RX0) (T := TX0) (N := 3) hx hb hts k_1 hown hK hP 0 rfl rfl 2 (by decide) k_0 (fun _ h9 => h9) rfl dX0_isFull_1 ?_
  refine lv_bipush (v := 50) hx hb dX0_isFull_4 (by decide) ?_
  refine lv_icmp_lt (tgt := 13) hx hb dX0_isFull_6 (by decide) (fun c_6 => ?_) (fun c_6 => ?_)
  · have c_6 : n < 50 := (nI_ltI (a := n) (b := 50) (by omega) (by omega)).mp c_6
    refine lv_iconst (v := 0) hx hb dX0_isFull_13 (by decide) ?_
    exact W.zret (v := 0) hx hb hr rfl (fun t9 ht9 hW9 => ⟨⟨_, (), rfl, zB_f (by omega), trivial⟩, hS.F ht9⟩) hS.2.2 dX0_isFull_14
  · have c_6 : ¬ (n < 50) := fun q9 => c_6 ((nI_ltI (a := n) (b := 50) (by omega) (by omega)).mpr q9)
    refine lv_iconst (v := 1) hx hb dX0_isFull_9 (by decide) ?_
    refine lv_goto (tgt := 14) hx hb dX0_isFull_10 (by decide) ?_
    exact W.zret (v := 1) hx hb hr rfl (fun t9 ht9 hW9 => ⟨⟨_, (), rfl, zB_t (by omega), trivial⟩, hS.F ht9⟩) hS.2.2 dX0_isFull_14

set_option maxHeartbeats 4000000 in
set_option maxRecDepth 100000 in
theorem cc_X0_behindRowAt (l : Launch) (D : va_G) (z : zG) (sz : Nat) (h : Nat) (a1 : Nat) (a2 : Nat) (k1 : ClassId) (k2 : ClassId) (n : Nat) (bf : Nat → Int64) (bl : Nat → Int64) (p0 : Int64) (hn : n ≤ 50) : Met l yX0_behindRowAt wsX0_behindRowAt ({ frames := 0, cells := 0, slots := 0, locals := 0 }) (zPre D z [.ref h, .long p0] sz [(h, .inr (1, [.ref a1, .ref a2, .int (nI n)])), (a1, .inl (k1, 50, .inr (.inl bf))), (a2, .inl (k2, 50, .inr (.inl bl)))] [(k1, .long), (k2, .long)] (va_A [] sz)) (va_Ql (fun (r : Int64) (u : Unit) => zBeh n bf bl p0 r) zT (va_A [] sz)) 0 0 (va_A [] sz) := by
  refine Met.ofW (cc := cX0_behindRowAt) (maxL := 4) (ret := (some .long)) (by decide) rfl ?_
  intro p e s m args below meth c s₁ B hml hv
  obtain ⟨rfl, hsz, hP, hK, hD, hC⟩ := hv
  have hx := B.exec
  have hb := B.bytes
  have hr := B.returns
  have hts := atoms_spec (ws := wsX0_behindRowAt) B.pre
  have hown : s.vm.findClass RX0 = some m.cls := findClass_of_methodNamed B.named
  have hlocks := B.notSynchronized
  subst hsz
  generalize hAe : va_A [] s.heap.size = A at hC ⊢
  have hA : ∀ q : Nat, s.heap.size ≤ q → A q := fun q h => by rw [← hAe]; exact Or.inr h
  have hS : va_S A s.heap s.heap [] := va_S.rf
  have hP : va_P D vwCl [(h, .inr (1, [.ref a1, .ref a2, .int (nI n)])), (a1, .inl (k1, 50, .inr (.inl bf))), (a2, .inl (k2, 50, .inr (.inl bl)))] s.heap := hP
  have hl := lv_entry ([.ref h, .long p0]) (n := 4) (Nat.le_of_ble_eq_true rfl)
  rw [lg_entry_eq]
  generalize (lg_sl ([.ref h, .long p0]) ++ List.replicate (4 - (lg_sl ([.ref h, .long p0])).length) Slot.unset).toArray = ls at hl ⊢
  have hl : lv_has ls 4 [(0, .ref h), (1, .long p0)] := hl
  refine zNameH (D := D) (A := A) (ws := [(h, .inr (1, [.ref a1, .ref a2, .int (nI n)])), (a1, .inl (k1, 50, .inr (.inl bf))), (a2, .inl (k2, 50, .inr (.inl bl)))]) (fun H locs hP hS => ?_) hP hS
  have k_0 := hts (.fieldLink RX0 18 "NumberRows2$BarredRows" "count" "I") (by decide +kernel)
  have k_1 : ∀ w ∈ wsX00, w ∈ wsX0_behindRowAt := by decide +kernel
  have k_2 := hts (.fieldLink RX0 9 "NumberRows2$BarredRows" "firsts" "[J") (by decide +kernel)
  have k_3 := hts (.fieldLink RX0 15 "NumberRows2$BarredRows" "lasts" "[J") (by decide +kernel)
  refine lv_iconst (v := 0) hx hb dX0_behindRowAt_0 (by decide) ?_
  refine lv_istore_n (lv' := [(3, .int 0), (0, .ref h), (1, .long p0)]) hx hb dX0_behindRowAt_1 rfl hl (by decide) rfl (fun ls hl => ?_)
  refine zLoop (σ := Nat) (nL := 4) (μ := fun (i : Nat) => n - i) (lv := fun (i : Nat) => [(3, .int (nI i)), (0, .ref h), (1, .long p0)]) (wf := fun (i : Nat) => [(h, .inr (1, [.ref a1, .ref a2, .int (nI n)])), (a1, .inl (k1, 50, .inr (.inl bf))), (a2, .inl (k2, 50, .inr (.inl bl)))]) (I := fun (i : Nat) => i ≤ n ∧ ∀ j, j < i → ¬ (bf j ≤ p0 ∧ p0 ≤ bl j)) (fun x H locs ls hI hP hD hS hl ih => ?_) 0 ⟨Nat.zero_le _, fun j hj => absurd hj (Nat.not_lt_zero j)⟩ hP hD hS (lv_sub hl [0, 1, 2] rfl)
  obtain ⟨i, rfl⟩ : ∃ y9, y9 = x := ⟨_, rfl⟩
  have hI : i ≤ n ∧ ∀ j, j < i → ¬ (bf j ≤ p0 ∧ p0 ≤ bl j) := hI
  have hl : lv_has ls 4 [(3, .int (nI i)), (0, .ref h), (1, .long p0)] := hl
  have hP : va_P D vwCl [(h, .inr (1, [.ref a1, .ref a2, .int (nI n)])), (a1, .inl (k1, 50, .inr (.inl bf))), (a2, .inl (k2, 50, .inr (.inl bl)))] H := hP
  have hD : va_D (fun _ => True) [(h, .inr (1, [.ref a1, .ref a2, .int (nI n)])), (a1, .inl (k1, 50, .inr (.inl bf))), (a2, .inl (k2, 50, .inr (.inl bl)))] := hD
  refine lv_iload_n hx hb dX0_behindRowAt_2 rfl (lv_at hl 0 rfl) ?_
  refine lv_aload_n hx hb dX0_behindRowAt_3 rfl (lv_at hl 1 rfl) ?_
  refine va_get (D := D) (ci := 1) (v := .int (nI n)) (C := RX0) (T := TX0) (N := 3) hx hb hts k_1 hown hK hP 0 rfl rfl 2 (by decide) k_0 (fun _ h9 => h9) rfl dX0_behindRowAt_4 ?_
  refine lv_icmp_ge (tgt := 47) hx hb dX0_behindRowAt_7 (by decide) (fun c_7 => ?_) (fun c_7 => ?_)
  · have c_7 : n ≤ i := (nI_leI (a := n) (b := i) (by omega) (by omega)).mp c_7
    refine lv_lload_n hx hb dX0_behindRowAt_47 rfl (lv_at hl 2 rfl) ?_
    exact W.lret (v := p0) hx hb hr (fun t9 ht9 hW9 => ⟨⟨_, (), rfl, Or.inr ⟨fun j hj => hI.2 j (by omega), rfl⟩, trivial⟩, hS.F ht9⟩) hS.2.2 dX0_behindRowAt_48
  · have c_7 : ¬ (n ≤ i) := fun q9 => c_7 ((nI_leI (a := n) (b := i) (by omega) (by omega)).mpr q9)
    refine lv_aload_n hx hb dX0_behindRowAt_10 rfl (lv_at hl 1 rfl) ?_
    refine va_get (D := D) (ci := 1) (v := .ref a1) (C := RX0) (T := TX0) (N := 3) hx hb hts k_1 hown hK hP 0 rfl rfl 0 (by decide) k_2 (fun _ h9 => h9) rfl dX0_behindRowAt_11 ?_
    refine lv_iload_n hx hb dX0_behindRowAt_14 rfl (lv_at hl 0 rfl) ?_
    refine z_lald (k := i) hx hb hK hP 1 0 rfl rfl (by omega) (by decide) dX0_behindRowAt_15 ?_
    refine lv_lload_n hx hb dX0_behindRowAt_16 rfl (lv_at hl 2 rfl) ?_
    refine W.lcmp hx hb dX0_behindRowAt_17 ?_
    refine lv_if_gt (tgt := 41) hx hb dX0_behindRowAt_18 (by decide) (fun c_18 => ?_) (fun c_18 => ?_)
    · have c_18 : p0 < (bf i) := (lg_cmp_gt _ _).mp c_18
      refine lv_iinc (v := (nI (i + 1))) (lv' := [(3, .int (nI (i + 1))), (0, .ref h), (1, .long p0)]) hx hb dX0_behindRowAt_41 hl (k := 0) rfl (by first | exact nI_1 _ | rfl) (by decide) rfl (fun ls hl => ?_)
      refine lv_goto (tgt := 2) hx hb dX0_behindRowAt_44 (by decide) ?_
      exact ih (i + 1) _ _ _ (show n - (i + 1) < n - i from (by omega)) ⟨by omega, lt_s hI.2 (fun q => Int64.not_le.mpr c_18 q.1)⟩ hP hD hS (lv_sub hl [0, 1, 2] rfl)
    · have c_18 : ¬ (p0 < (bf i)) := fun q9 => c_18 ((lg_cmp_gt _ _).mpr q9)
      refine lv_lload_n hx hb dX0_behindRowAt_21 rfl (lv_at hl 2 rfl) ?_
      refine lv_aload_n hx hb dX0_behindRowAt_22 rfl (lv_at hl 1 rfl) ?_
      refine va_get (D := D) (ci := 1) (v := .ref a2) (C := RX0) (T := TX0) (N := 3) hx hb hts k_1 hown hK hP 0 rfl rfl 1 (by decide) k_3 (fun _ h9 => h9) rfl dX0_behindRowAt_23 ?_
      refine lv_iload_n hx hb dX0_behindRowAt_26 rfl (lv_at hl 0 rfl) ?_
      refine z_lald (k := i) hx hb hK hP 2 1 rfl rfl (by omega) (by decide) dX0_behindRowAt_27 ?_
      refine W.lcmp hx hb dX0_behindRowAt_28 ?_
      refine lv_if_gt (tgt := 41) hx hb dX0_behindRowAt_29 (by decide) (fun c_29 => ?_) (fun c_29 => ?_)
      · have c_29 : (bl i) < p0 := (lg_cmp_gt _ _).mp c_29
        refine lv_iinc (v := (nI (i + 1))) (lv' := [(3, .int (nI (i + 1))), (0, .ref h), (1, .long p0)]) hx hb dX0_behindRowAt_41 hl (k := 0) rfl (by first | exact nI_1 _ | rfl) (by decide) rfl (fun ls hl => ?_)
        refine lv_goto (tgt := 2) hx hb dX0_behindRowAt_44 (by decide) ?_
        exact ih (i + 1) _ _ _ (show n - (i + 1) < n - i from (by omega)) ⟨by omega, lt_s hI.2 (fun q => Int64.not_le.mpr c_29 q.2)⟩ hP hD hS (lv_sub hl [0, 1, 2] rfl)
      · have c_29 : ¬ ((bl i) < p0) := fun q9 => c_29 ((lg_cmp_gt _ _).mpr q9)
        refine lv_aload_n hx hb dX0_behindRowAt_32 rfl (lv_at hl 1 rfl) ?_
        refine va_get (D := D) (ci := 1) (v := .ref a2) (C := RX0) (T := TX0) (N := 3) hx hb hts k_1 hown hK hP 0 rfl rfl 1 (by decide) k_3 (fun _ h9 => h9) rfl dX0_behindRowAt_33 ?_
        refine lv_iload_n hx hb dX0_behindRowAt_36 rfl (lv_at hl 0 rfl) ?_
        refine z_lald (k := i) hx hb hK hP 2 1 rfl rfl (by omega) (by decide) dX0_behindRowAt_37 ?_
        refine lv_lconst (v := 1) hx hb dX0_behindRowAt_38 (by decide) ?_
        refine lv_ladd hx hb dX0_behindRowAt_39 ?_
        exact W.lret (v := ((bl i) + 1)) hx hb hr (fun t9 ht9 hW9 => ⟨⟨_, (), rfl, Or.inl ⟨i, by omega, Int64.not_lt.mp c_18, Int64.not_lt.mp c_29, rfl⟩, trivial⟩, hS.F ht9⟩) hS.2.2 dX0_behindRowAt_40

set_option maxHeartbeats 4000000 in
set_option maxRecDepth 100000 in
theorem cc_X0_firstFree (l : Launch) (D : va_G) (z : zG) (sz : Nat) (h : Nat) (a1 : Nat) (a2 : Nat) (k1 : ClassId) (k2 : ClassId) (n : Nat) (bf : Nat → Int64) (bl : Nat → Int64) (p0 : Int64) (hn : n ≤ 50) (ht : zTop n bl) : Met l yX0_firstFree wsX0_firstFree ({ frames := 1, cells := 0, slots := 0, locals := 23 }) (zPre D z [.ref h, .long p0] sz [(h, .inr (1, [.ref a1, .ref a2, .int (nI n)])), (a1, .inl (k1, 50, .inr (.inl bf))), (a2, .inl (k2, 50, .inr (.inl bl)))] [(k1, .long), (k2, .long)] (va_A [] sz)) (va_Ql (fun (r : Int64) (u : Unit) => zFF n bf bl p0 r) zT (va_A [] sz)) 0 0 (va_A [] sz) := by
  refine Met.ofW (cc := cX0_firstFree) (maxL := 8) (ret := (some .long)) (by decide) rfl ?_
  intro p e s m args below meth c s₁ B hml hv
  obtain ⟨rfl, hsz, hP, hK, hD, hC⟩ := hv
  have hx := B.exec
  have hb := B.bytes
  have hr := B.returns
  have hts := atoms_spec (ws := wsX0_firstFree) B.pre
  have hown : s.vm.findClass RX0 = some m.cls := findClass_of_methodNamed B.named
  have hlocks := B.notSynchronized
  subst hsz
  generalize hAe : va_A [] s.heap.size = A at hC ⊢
  have hA : ∀ q : Nat, s.heap.size ≤ q → A q := fun q h => by rw [← hAe]; exact Or.inr h
  have hS : va_S A s.heap s.heap [] := va_S.rf
  have hP : va_P D vwCl [(h, .inr (1, [.ref a1, .ref a2, .int (nI n)])), (a1, .inl (k1, 50, .inr (.inl bf))), (a2, .inl (k2, 50, .inr (.inl bl)))] s.heap := hP
  have hl := lv_entry ([.ref h, .long p0]) (n := 8) (Nat.le_of_ble_eq_true rfl)
  rw [lg_entry_eq]
  generalize (lg_sl ([.ref h, .long p0]) ++ List.replicate (8 - (lg_sl ([.ref h, .long p0])).length) Slot.unset).toArray = ls at hl ⊢
  have hl : lv_has ls 8 [(0, .ref h), (1, .long p0)] := hl
  refine zNameH (D := D) (A := A) (ws := [(h, .inr (1, [.ref a1, .ref a2, .int (nI n)])), (a1, .inl (k1, 50, .inr (.inl bf))), (a2, .inl (k2, 50, .inr (.inl bl)))]) (fun H locs hP hS => ?_) hP hS
  have k_0 := hts (.fieldLink RX0 18 "NumberRows2$BarredRows" "count" "I") (by decide +kernel)
  have k_1 : ∀ w ∈ wsX00, w ∈ wsX0_firstFree := by decide +kernel
  refine lv_lload_n hx hb dX0_firstFree_0 rfl (lv_at hl 1 rfl) ?_
  refine lv_lstore_n (lv' := [(3, .long p0), (0, .ref h), (1, .long p0)]) hx hb dX0_firstFree_1 rfl hl (by decide) rfl (fun ls hl => ?_)
  refine lv_iconst (v := 0) hx hb dX0_firstFree_2 (by decide) ?_
  refine lv_istore (lv' := [(5, .int 0), (3, .long p0), (0, .ref h), (1, .long p0)]) hx hb dX0_firstFree_3 hl (by decide) rfl (fun ls hl => ?_)
  refine zLoop (σ := Nat × Int64) (nL := 8) (μ := fun (x : Nat × Int64) => match x with | (i, f) => n - i) (lv := fun (x : Nat × Int64) => match x with | (i, f) => [(5, .int (nI i)), (3, .long f), (0, .ref h), (1, .long p0)]) (wf := fun (x : Nat × Int64) => match x with | (i, f) => [(h, .inr (1, [.ref a1, .ref a2, .int (nI n)])), (a1, .inl (k1, 50, .inr (.inl bf))), (a2, .inl (k2, 50, .inr (.inl bl)))]) (I := fun (x : Nat × Int64) => match x with | (i, f) => zFI n bf bl p0 i f) (fun x H locs ls hI hP hD hS hl ih => ?_) (0, p0) zFI_0 hP hD hS (lv_sub hl [0, 1, 2, 3] rfl)
  obtain ⟨i, f⟩ := x
  have hI : zFI n bf bl p0 i f := hI
  have hl : lv_has ls 8 [(5, .int (nI i)), (3, .long f), (0, .ref h), (1, .long p0)] := hl
  have hP : va_P D vwCl [(h, .inr (1, [.ref a1, .ref a2, .int (nI n)])), (a1, .inl (k1, 50, .inr (.inl bf))), (a2, .inl (k2, 50, .inr (.inl bl)))] H := hP
  have hD : va_D (fun _ => True) [(h, .inr (1, [.ref a1, .ref a2, .int (nI n)])), (a1, .inl (k1, 50, .inr (.inl bf))), (a2, .inl (k2, 50, .inr (.inl bl)))] := hD
  have hi := hI.1
  refine lv_iload hx hb dX0_firstFree_5 (lv_at hl 0 rfl) ?_
  refine lv_aload_n hx hb dX0_firstFree_7 rfl (lv_at hl 2 rfl) ?_
  refine va_get (D := D) (ci := 1) (v := .int (nI n)) (C := RX0) (T := TX0) (N := 3) hx hb hts k_1 hown hK hP 0 rfl rfl 2 (by decide) k_0 (fun _ h9 => h9) rfl dX0_firstFree_8 ?_
  refine lv_icmp_ge (tgt := 39) hx hb dX0_firstFree_11 (by decide) (fun c_11 => ?_) (fun c_11 => ?_)
  · have c_11 : n ≤ i := (nI_leI (a := n) (b := i) (by omega) (by omega)).mp c_11
    refine lv_lload_n hx hb dX0_firstFree_39 rfl (lv_at hl 1 rfl) ?_
    exact W.lret (v := f) hx hb hr (fun t9 ht9 hW9 => ⟨⟨_, (), rfl, zFI_end hI (by omega), trivial⟩, hS.F ht9⟩) hS.2.2 dX0_firstFree_40
  · have c_11 : ¬ (n ≤ i) := fun q9 => c_11 ((nI_leI (a := n) (b := i) (by omega) (by omega)).mpr q9)
    refine lv_aload_n hx hb dX0_firstFree_14 rfl (lv_at hl 2 rfl) ?_
    refine lv_lload_n hx hb dX0_firstFree_15 rfl (lv_at hl 1 rfl) ?_
    refine zRo_l (va_runV (As := [.long f]) (rest := []) ⟨hx, hb, hml, hown, hts⟩ (cc_X0_behindRowAt l D z H.size h a1 a2 k1 k2 n bf bl f (by omega)) (cwV 1 hts gX0_firstFree_X0_behindRowAt rfl rfl rfl (by decide +kernel) ⟨Nat.le_of_ble_eq_true rfl, Nat.le_of_ble_eq_true rfl⟩) ⟨zPre_blind, va_recv hK hP (ci := 1) (q0 := 0) rfl rfl, (zPre_mk (wc := [(h, .inr (1, [.ref a1, .ref a2, .int (nI n)])), (a1, .inl (k1, 50, .inr (.inl bf))), (a2, .inl (k2, 50, .inr (.inl bl)))]) (tc := [(k1, .long), (k2, .long)]) hP hK hD hC hS [0, 1, 2] (by decide) rfl rfl [0, 1] rfl (zro_free hS hA))⟩ rfl rfl hl.1 rfl (lv_room (Nat.le_of_ble_eq_true rfl)) dX0_firstFree_16 ⟨Nat.zero_le _, Nat.zero_le _⟩) hS hA hP (fun r_16 H locs hw hP hS => ?_)
    have hw_16 : zBeh n bf bl f r_16 := hw
    refine lv_lstore (lv' := [(6, .long r_16), (5, .int (nI i)), (3, .long f), (0, .ref h), (1, .long p0)]) hx hb dX0_firstFree_19 hl (by decide) rfl (fun ls hl => ?_)
    refine lv_lload hx hb dX0_firstFree_21 (lv_at hl 0 rfl) ?_
    refine lv_lload_n hx hb dX0_firstFree_23 rfl (lv_at hl 2 rfl) ?_
    refine W.lcmp hx hb dX0_firstFree_24 ?_
    refine lv_if_ne (tgt := 30) hx hb dX0_firstFree_25 (by decide) (fun c_25 => ?_) (fun c_25 => ?_)
    · have c_25 : ¬ (r_16 = f) := fun q9 => c_25 ((lg_cmp_eq _ _).mpr q9)
      refine lv_lload hx hb dX0_firstFree_30 (lv_at hl 0 rfl) ?_
      refine lv_lstore_n (lv' := [(3, .long r_16), (6, .long r_16), (5, .int (nI i)), (0, .ref h), (1, .long p0)]) hx hb dX0_firstFree_32 rfl hl (by decide) rfl (fun ls hl => ?_)
      refine lv_iinc (v := (nI (i + 1))) (lv' := [(5, .int (nI (i + 1))), (3, .long r_16), (6, .long r_16), (0, .ref h), (1, .long p0)]) hx hb dX0_firstFree_33 hl (k := 2) rfl (by first | exact nI_1 _ | rfl) (by decide) rfl (fun ls hl => ?_)
      refine lv_goto (tgt := 5) hx hb dX0_firstFree_36 (by decide) ?_
      exact ih (i + 1, r_16) _ _ _ (show n - (i + 1) < n - i from (by omega)) (zFI_step ht hI (by omega) hw_16 c_25) hP hD hS (lv_sub hl [0, 1, 3, 4] rfl)
    · have c_25 : r_16 = f := (lg_cmp_eq _ _).mp c_25
      refine lv_lload_n hx hb dX0_firstFree_28 rfl (lv_at hl 2 rfl) ?_
      exact W.lret (v := f) hx hb hr (fun t9 ht9 hW9 => ⟨⟨_, (), rfl, zFI_done ht hI hw_16 c_25, trivial⟩, hS.F ht9⟩) hS.2.2 dX0_firstFree_29

set_option maxHeartbeats 4000000 in
set_option maxRecDepth 100000 in
theorem cc_X0_add (l : Launch) (D : va_G) (z : zG) (sz : Nat) (h : Nat) (a1 : Nat) (a2 : Nat) (k1 : ClassId) (k2 : ClassId) (n : Nat) (bf : Nat → Int64) (bl : Nat → Int64) (p0 : Int64) (p1 : Int64) (hn : n < 50) : Met l yX0_add wsX0_add ({ frames := 0, cells := 0, slots := 0, locals := 0 }) (zPre D z [.ref h, .long p0, .long p1] sz [(h, .inr (1, [.ref a1, .ref a2, .int (nI n)])), (a1, .inl (k1, 50, .inr (.inl bf))), (a2, .inl (k2, 50, .inr (.inl bl)))] [(k1, .long), (k2, .long)] (va_A [(h, .inr (1, [.ref a1, .ref a2, .int (nI n)])), (a1, .inl (k1, 50, .inr (.inl bf))), (a2, .inl (k2, 50, .inr (.inl bl)))] sz)) (va_Qv (fun u : Nat × (Nat → Int64) × (Nat → Int64) => u.1 = n + 1 ∧ u.2.1 = vp_updL bf n p0 ∧ u.2.2 = vp_updL bl n p1) (zAt D [(k1, .long), (k2, .long)] (va_A [(h, .inr (1, [.ref a1, .ref a2, .int (nI n)])), (a1, .inl (k1, 50, .inr (.inl bf))), (a2, .inl (k2, 50, .inr (.inl bl)))] sz) (fun u : Nat × (Nat → Int64) × (Nat → Int64) => [(h, .inr (1, [.ref a1, .ref a2, .int (nI u.1)])), (a1, .inl (k1, 50, .inr (.inl u.2.1))), (a2, .inl (k2, 50, .inr (.inl u.2.2)))])) (va_A [(h, .inr (1, [.ref a1, .ref a2, .int (nI n)])), (a1, .inl (k1, 50, .inr (.inl bf))), (a2, .inl (k2, 50, .inr (.inl bl)))] sz)) 0 0 (va_A [(h, .inr (1, [.ref a1, .ref a2, .int (nI n)])), (a1, .inl (k1, 50, .inr (.inl bf))), (a2, .inl (k2, 50, .inr (.inl bl)))] sz) := by
  refine Met.ofW (cc := cX0_add) (maxL := 5) (ret := none) (by decide) rfl ?_
  intro p e s m args below meth c s₁ B hml hv
  obtain ⟨rfl, hsz, hP, hK, hD, hC⟩ := hv
  have hx := B.exec
  have hb := B.bytes
  have hr := B.returns
  have hts := atoms_spec (ws := wsX0_add) B.pre
  have hown : s.vm.findClass RX0 = some m.cls := findClass_of_methodNamed B.named
  have hlocks := B.notSynchronized
  subst hsz
  have hD := hD.self (sz := s.heap.size)
  generalize hAe : va_A [(h, .inr (1, [.ref a1, .ref a2, .int (nI n)])), (a1, .inl (k1, 50, .inr (.inl bf))), (a2, .inl (k2, 50, .inr (.inl bl)))] s.heap.size = A at hC hD ⊢
  have hA : ∀ q : Nat, s.heap.size ≤ q → A q := fun q h => by rw [← hAe]; exact Or.inr h
  have hS : va_S A s.heap s.heap [] := va_S.rf
  have hP : va_P D vwCl [(h, .inr (1, [.ref a1, .ref a2, .int (nI n)])), (a1, .inl (k1, 50, .inr (.inl bf))), (a2, .inl (k2, 50, .inr (.inl bl)))] s.heap := hP
  have hl := lv_entry ([.ref h, .long p0, .long p1]) (n := 5) (Nat.le_of_ble_eq_true rfl)
  rw [lg_entry_eq]
  generalize (lg_sl ([.ref h, .long p0, .long p1]) ++ List.replicate (5 - (lg_sl ([.ref h, .long p0, .long p1])).length) Slot.unset).toArray = ls at hl ⊢
  have hl : lv_has ls 5 [(0, .ref h), (1, .long p0), (3, .long p1)] := hl
  refine zNameH (D := D) (A := A) (ws := [(h, .inr (1, [.ref a1, .ref a2, .int (nI n)])), (a1, .inl (k1, 50, .inr (.inl bf))), (a2, .inl (k2, 50, .inr (.inl bl)))]) (fun H locs hP hS => ?_) hP hS
  have k_0 := hts (.fieldLink RX0 18 "NumberRows2$BarredRows" "count" "I") (by decide +kernel)
  have k_1 : ∀ w ∈ wsX00, w ∈ wsX0_add := by decide +kernel
  have k_2 := hts (.fieldLink RX0 9 "NumberRows2$BarredRows" "firsts" "[J") (by decide +kernel)
  have k_3 := hts (.fieldLink RX0 15 "NumberRows2$BarredRows" "lasts" "[J") (by decide +kernel)
  refine lv_aload_n hx hb dX0_add_0 rfl (lv_at hl 0 rfl) ?_
  refine va_get (D := D) (ci := 1) (v := .int (nI n)) (C := RX0) (T := TX0) (N := 3) hx hb hts k_1 hown hK hP 0 rfl rfl 2 (by decide) k_0 (fun _ h9 => h9) rfl dX0_add_1 ?_
  refine lv_bipush (v := 50) hx hb dX0_add_4 (by decide) ?_
  refine lv_icmp_ge (tgt := 39) hx hb dX0_add_6 (by decide) (fun c_6 => ?_) (fun c_6 => ?_)
  · have c_6 : 50 ≤ n := (nI_leI (a := 50) (b := n) (by omega) (by omega)).mp c_6
    exact absurd c_6 (by omega)
  · have c_6 : ¬ (50 ≤ n) := fun q9 => c_6 ((nI_leI (a := 50) (b := n) (by omega) (by omega)).mpr q9)
    refine lv_aload_n hx hb dX0_add_9 rfl (lv_at hl 0 rfl) ?_
    refine va_get (D := D) (ci := 1) (v := .ref a1) (C := RX0) (T := TX0) (N := 3) hx hb hts k_1 hown hK hP 0 rfl rfl 0 (by decide) k_2 (fun _ h9 => h9) rfl dX0_add_10 ?_
    refine lv_aload_n hx hb dX0_add_13 rfl (lv_at hl 0 rfl) ?_
    refine va_get (D := D) (ci := 1) (v := .int (nI n)) (C := RX0) (T := TX0) (N := 3) hx hb hts k_1 hown hK hP 0 rfl rfl 2 (by decide) k_0 (fun _ h9 => h9) rfl dX0_add_14 ?_
    refine lv_lload_n hx hb dX0_add_17 rfl (lv_at hl 1 rfl) ?_
    refine z_last (k := n) hx hb hK hP hD hS 1 0 rfl rfl (by omega) (by decide) dX0_add_18 (fun H locs hP hD hS => ?_)
    have hP : va_P D vwCl [(h, .inr (1, [.ref a1, .ref a2, .int (nI n)])), (a1, .inl (k1, 50, .inr (.inl (vp_updL bf n p0)))), (a2, .inl (k2, 50, .inr (.inl bl)))] H := hP
    have hD : va_D A [(h, .inr (1, [.ref a1, .ref a2, .int (nI n)])), (a1, .inl (k1, 50, .inr (.inl (vp_updL bf n p0)))), (a2, .inl (k2, 50, .inr (.inl bl)))] := hD
    refine lv_aload_n hx hb dX0_add_19 rfl (lv_at hl 0 rfl) ?_
    refine va_get (D := D) (ci := 1) (v := .ref a2) (C := RX0) (T := TX0) (N := 3) hx hb hts k_1 hown hK hP 0 rfl rfl 1 (by decide) k_3 (fun _ h9 => h9) rfl dX0_add_20 ?_
    refine lv_aload_n hx hb dX0_add_23 rfl (lv_at hl 0 rfl) ?_
    refine va_get (D := D) (ci := 1) (v := .int (nI n)) (C := RX0) (T := TX0) (N := 3) hx hb hts k_1 hown hK hP 0 rfl rfl 2 (by decide) k_0 (fun _ h9 => h9) rfl dX0_add_24 ?_
    refine lv_lload_n hx hb dX0_add_27 rfl (lv_at hl 2 rfl) ?_
    refine z_last (k := n) hx hb hK hP hD hS 2 1 rfl rfl (by omega) (by decide) dX0_add_28 (fun H locs hP hD hS => ?_)
    have hP : va_P D vwCl [(h, .inr (1, [.ref a1, .ref a2, .int (nI n)])), (a1, .inl (k1, 50, .inr (.inl (vp_updL bf n p0)))), (a2, .inl (k2, 50, .inr (.inl (vp_updL bl n p1))))] H := hP
    have hD : va_D A [(h, .inr (1, [.ref a1, .ref a2, .int (nI n)])), (a1, .inl (k1, 50, .inr (.inl (vp_updL bf n p0)))), (a2, .inl (k2, 50, .inr (.inl (vp_updL bl n p1))))] := hD
    refine lv_aload_n hx hb dX0_add_29 rfl (lv_at hl 0 rfl) ?_
    refine lv_dup hx hb dX0_add_30 rfl ?_
    refine va_get (D := D) (ci := 1) (v := .int (nI n)) (C := RX0) (T := TX0) (N := 3) hx hb hts k_1 hown hK hP 0 rfl rfl 2 (by decide) k_0 (fun _ h9 => h9) rfl dX0_add_31 ?_
    refine lv_iconst (v := 1) hx hb dX0_add_34 (by decide) ?_
    refine lv_iadd hx hb dX0_add_35 ?_
    refine lv_topi (fun y_1 e_1 => ?_)
    obtain rfl : y_1 = nI (n + 1) := e_1.trans (by first | exact nI_1 _ | exact nI_add _ 1)
    refine va_put (D := D) (ci := 1) (v := .int (nI (n + 1))) (ty := .int) (C := RX0) (T := TX0) (N := 3) hx hb hts k_1 tyX0 tyX0_ok nmX0 hown hK hP hD hS 0 rfl rfl 2 (by decide) k_0 (fun _ h9 => h9) rfl (by decide +kernel) rfl rfl (Nat.le_of_ble_eq_true rfl) dX0_add_36 (fun H locs hP hD hS => ?_)
    have hP : va_P D vwCl [(h, .inr (1, [.ref a1, .ref a2, .int (nI (n + 1))])), (a1, .inl (k1, 50, .inr (.inl (vp_updL bf n p0)))), (a2, .inl (k2, 50, .inr (.inl (vp_updL bl n p1))))] H := hP
    have hD : va_D A [(h, .inr (1, [.ref a1, .ref a2, .int (nI (n + 1))])), (a1, .inl (k1, 50, .inr (.inl (vp_updL bf n p0)))), (a2, .inl (k2, 50, .inr (.inl (vp_updL bl n p1))))] := hD
    exact W.vret hx hb hr (fun t9 ht9 hW9 => ⟨⟨(n + 1, (vp_updL bf n p0), (vp_updL bl n p1)), rfl, ⟨rfl, rfl, rfl⟩, by rw [ht9]; exact hP, va_K.moved hW9.alike hK, hD⟩, hS.F ht9⟩) hS.2.2 dX0_add_39
