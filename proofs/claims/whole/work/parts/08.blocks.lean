/-- a block that an office passes by -/
def zSkip (nr : Nat) (qf ql : Nat → Int64) (bo : Nat → Int32) (bl : Nat → Int64) (o : Int32) (br g : Nat → Int64) (j : Nat) : Prop := (g j = br j ∧ (¬ bo j = o ∨ bl j < br j)) ∨ (bo j = o ∧ br j ≤ bl j ∧ zFF nr qf ql (br j) (g j) ∧ bl j < g j)
def zTake (nr : Nat) (qf ql : Nat → Int64) (n : Nat) (bo : Nat → Int32) (bl : Nat → Int64) (o : Int32) (br g : Nat → Int64) (r : Int64) : Prop :=
  (∃ i, i < n ∧ (∀ j, j < i → zSkip nr qf ql bo bl o br g j) ∧ bo i = o ∧ br i ≤ bl i ∧ zFF nr qf ql (br i) r ∧ r ≤ bl i ∧ g i = r + 1 ∧ ∀ j, i < j → g j = br j) ∨ ((∀ j, j < n → zSkip nr qf ql bo bl o br g j) ∧ r = -1)
def zTkI (nr : Nat) (qf ql : Nat → Int64) (n : Nat) (bo : Nat → Int32) (bl : Nat → Int64) (o : Int32) (br g : Nat → Int64) (i : Nat) : Prop := i ≤ n ∧ (∀ j, j < i → zSkip nr qf ql bo bl o br g j) ∧ ∀ j, i ≤ j → g j = br j
theorem zTkI_skip {nr : Nat} {qf ql : Nat → Int64} {n : Nat} {bo : Nat → Int32} {bl : Nat → Int64} {o : Int32} {br g : Nat → Int64} {i : Nat} (h : zTkI nr qf ql n bo bl o br g i) (hi : i < n) (hs : ¬ bo i = o ∨ bl i < g i) : zTkI nr qf ql n bo bl o br g (i + 1) := by
  obtain ⟨h1, h2, h3⟩ := h
  have e := h3 i (Nat.le_refl i)
  refine ⟨hi, lt_s h2 (Or.inl ⟨e, ?_⟩), fun j hj => h3 j (by omega)⟩
  rw [← e]; exact hs
theorem zTkI_used {nr : Nat} {qf ql : Nat → Int64} {n : Nat} {bo : Nat → Int32} {bl : Nat → Int64} {o : Int32} {br g : Nat → Int64} {i : Nat} {x : Int64} (h : zTkI nr qf ql n bo bl o br g i) (hi : i < n) (ho : bo i = o) (hb : ¬ bl i < g i) (hf : zFF nr qf ql (g i) x) (hx : bl i < x) : zTkI nr qf ql n bo bl o br (vp_updL g i x) (i + 1) := by
  obtain ⟨h1, h2, h3⟩ := h
  have e := h3 i (Nat.le_refl i)
  rw [e] at hb hf
  refine ⟨hi, lt_s (fun j hj => ?_) (Or.inr ⟨ho, Int64.not_lt.mp hb, ?_, ?_⟩), fun j hj => by rw [pk_uLn (by omega)]; exact h3 j (by omega)⟩
  · have q := h2 j hj
    unfold zSkip at q ⊢
    rw [pk_uLn (by omega)]; exact q
  · rw [pk_uLs]; exact hf
  · rw [pk_uLs]; exact hx
theorem zTkI_take {nr : Nat} {qf ql : Nat → Int64} {n : Nat} {bo : Nat → Int32} {bl : Nat → Int64} {o : Int32} {br g : Nat → Int64} {i : Nat} {x : Int64} (h : zTkI nr qf ql n bo bl o br g i) (hi : i < n) (ho : bo i = o) (hb : ¬ bl i < g i) (hf : zFF nr qf ql (g i) x) (hx : ¬ bl i < x) : zTake nr qf ql n bo bl o br (vp_updL g i (x + 1)) x := by
  obtain ⟨h1, h2, h3⟩ := h
  have e := h3 i (Nat.le_refl i)
  rw [e] at hb hf
  refine Or.inl ⟨i, hi, fun j hj => ?_, ho, Int64.not_lt.mp hb, hf, Int64.not_lt.mp hx, pk_uLs, fun j hj => by rw [pk_uLn (by omega)]; exact h3 j (by omega)⟩
  have q := h2 j hj
  unfold zSkip at q ⊢
  rw [pk_uLn (by omega)]; exact q

set_option maxHeartbeats 4000000 in
set_option maxRecDepth 100000 in
theorem cc_X1_isFull (l : Launch) (D : va_G) (z : zG) (sz : Nat) (h : Nat) (a1 : Nat) (a2 : Nat) (a3 : Nat) (a4 : Nat) (k1 : ClassId) (k2 : ClassId) (k3 : ClassId) (k4 : ClassId) (n : Nat) (bo : Nat → Int32) (bf : Nat → Int64) (bl : Nat → Int64) (br : Nat → Int64) (hn : n ≤ 50) : Met l yX1_isFull wsX1_isFull ({ frames := 0, cells := 0, slots := 0, locals := 0 }) (zPre D z [.ref h] sz [(h, .inr (2, [.ref a1, .ref a2, .ref a3, .ref a4, .int (nI n)])), (a1, .inl (k1, 50, .inl bo)), (a2, .inl (k2, 50, .inr (.inl bf))), (a3, .inl (k3, 50, .inr (.inl bl))), (a4, .inl (k4, 50, .inr (.inl br)))] [(k1, .int), (k2, .long), (k3, .long), (k4, .long)] (va_A [] sz)) (va_Qi (fun (r : Int32) (u : Unit) => zB r (50 ≤ n)) zT (va_A [] sz)) 0 0 (va_A [] sz) := by
  refine Met.ofW (cc := cX1_isFull) (maxL := 1) (ret := (some .boolean)) (by decide) rfl ?_
  intro p e s m args below meth c s₁ B hml hv
  obtain ⟨rfl, hsz, hP, hK, hD, hC⟩ := hv
  have hx := B.exec
  have hb := B.bytes
  have hr := B.returns
  have hts := atoms_spec (ws := wsX1_isFull) B.pre
  have hown : s.vm.findClass RX1 = some m.cls := findClass_of_methodNamed B.named
  have hlocks := B.notSynchronized
  subst hsz
  generalize hAe : va_A [] s.heap.size = A at hC ⊢
  have hA : ∀ q : Nat, s.heap.size ≤ q → A q := fun q h => by rw [← hAe]; exact Or.inr h
  have hS : va_S A s.heap s.heap [] := va_S.rf
  have hP : va_P D vwCl [(h, .inr (2, [.ref a1, .ref a2, .ref a3, .ref a4, .int (nI n)])), (a1, .inl (k1, 50, .inl bo)), (a2, .inl (k2, 50, .inr (.inl bf))), (a3, .inl (k3, 50, .inr (.inl bl))), (a4, .inl (k4, 50, .inr (.inl br)))] s.heap := hP
  have hl := lv_entry ([.ref h]) (n := 1) (Nat.le_of_ble_eq_true rfl)
  rw [lg_entry_eq]
  generalize (lg_sl ([.ref h]) ++ List.replicate (1 - (lg_sl ([.ref h])).length) Slot.unset).toArray = ls at hl ⊢
  have hl : lv_has ls 1 [(0, .ref h)] := hl
  refine zNameH (D := D) (A := A) (ws := [(h, .inr (2, [.ref a1, .ref a2, .ref a3, .ref a4, .int (nI n)])), (a1, .inl (k1, 50, .inl bo)), (a2, .inl (k2, 50, .inr (.inl bf))), (a3, .inl (k3, 50, .inr (.inl bl))), (a4, .inl (k4, 50, .inr (.inl br)))]) (fun H locs hP hS => ?_) hP hS
  have k_0 := hts (.fieldLink RX1 25 "NumberRows2$Blocks" "count" "I") (by decide +kernel)
  have k_1 : ∀ w ∈ wsX10, w ∈ wsX1_isFull := by decide +kernel
  refine lv_aload_n hx hb dX1_isFull_0 rfl (lv_at hl 0 rfl) ?_
  refine va_get (D := D) (ci := 2) (v := .int (nI n)) (C := RX1) (T := TX1) (N := 5) hx hb hts k_1 hown hK hP 0 rfl rfl 4 (by decide) k_0 (fun _ h9 => h9) rfl dX1_isFull_1 ?_
  refine lv_bipush (v := 50) hx hb dX1_isFull_4 (by decide) ?_
  refine lv_icmp_lt (tgt := 13) hx hb dX1_isFull_6 (by decide) (fun c_6 => ?_) (fun c_6 => ?_)
  · have c_6 : n < 50 := (nI_ltI (a := n) (b := 50) (by omega) (by omega)).mp c_6
    refine lv_iconst (v := 0) hx hb dX1_isFull_13 (by decide) ?_
    exact W.zret (v := 0) hx hb hr rfl (fun t9 ht9 hW9 => ⟨⟨_, (), rfl, zB_f (by omega), trivial⟩, hS.F ht9⟩) hS.2.2 dX1_isFull_14
  · have c_6 : ¬ (n < 50) := fun q9 => c_6 ((nI_ltI (a := n) (b := 50) (by omega) (by omega)).mpr q9)
    refine lv_iconst (v := 1) hx hb dX1_isFull_9 (by decide) ?_
    refine lv_goto (tgt := 14) hx hb dX1_isFull_10 (by decide) ?_
    exact W.zret (v := 1) hx hb hr rfl (fun t9 ht9 hW9 => ⟨⟨_, (), rfl, zB_t (by omega), trivial⟩, hS.F ht9⟩) hS.2.2 dX1_isFull_14

set_option maxHeartbeats 4000000 in
set_option maxRecDepth 100000 in
theorem cc_X1_touches (l : Launch) (D : va_G) (z : zG) (sz : Nat) (h : Nat) (a1 : Nat) (a2 : Nat) (a3 : Nat) (a4 : Nat) (k1 : ClassId) (k2 : ClassId) (k3 : ClassId) (k4 : ClassId) (n : Nat) (bo : Nat → Int32) (bf : Nat → Int64) (bl : Nat → Int64) (br : Nat → Int64) (p0 : Int64) (p1 : Int64) (hn : n ≤ 50) : Met l yX1_touches wsX1_touches ({ frames := 0, cells := 0, slots := 0, locals := 0 }) (zPre D z [.ref h, .long p0, .long p1] sz [(h, .inr (2, [.ref a1, .ref a2, .ref a3, .ref a4, .int (nI n)])), (a1, .inl (k1, 50, .inl bo)), (a2, .inl (k2, 50, .inr (.inl bf))), (a3, .inl (k3, 50, .inr (.inl bl))), (a4, .inl (k4, 50, .inr (.inl br)))] [(k1, .int), (k2, .long), (k3, .long), (k4, .long)] (va_A [] sz)) (va_Qi (fun (r : Int32) (u : Unit) => zB r (∃ j, j < n ∧ p0 ≤ bl j ∧ bf j ≤ p1)) zT (va_A [] sz)) 0 0 (va_A [] sz) := by
  refine Met.ofW (cc := cX1_touches) (maxL := 6) (ret := (some .boolean)) (by decide) rfl ?_
  intro p e s m args below meth c s₁ B hml hv
  obtain ⟨rfl, hsz, hP, hK, hD, hC⟩ := hv
  have hx := B.exec
  have hb := B.bytes
  have hr := B.returns
  have hts := atoms_spec (ws := wsX1_touches) B.pre
  have hown : s.vm.findClass RX1 = some m.cls := findClass_of_methodNamed B.named
  have hlocks := B.notSynchronized
  subst hsz
  generalize hAe : va_A [] s.heap.size = A at hC ⊢
  have hA : ∀ q : Nat, s.heap.size ≤ q → A q := fun q h => by rw [← hAe]; exact Or.inr h
  have hS : va_S A s.heap s.heap [] := va_S.rf
  have hP : va_P D vwCl [(h, .inr (2, [.ref a1, .ref a2, .ref a3, .ref a4, .int (nI n)])), (a1, .inl (k1, 50, .inl bo)), (a2, .inl (k2, 50, .inr (.inl bf))), (a3, .inl (k3, 50, .inr (.inl bl))), (a4, .inl (k4, 50, .inr (.inl br)))] s.heap := hP
  have hl := lv_entry ([.ref h, .long p0, .long p1]) (n := 6) (Nat.le_of_ble_eq_true rfl)
  rw [lg_entry_eq]
  generalize (lg_sl ([.ref h, .long p0, .long p1]) ++ List.replicate (6 - (lg_sl ([.ref h, .long p0, .long p1])).length) Slot.unset).toArray = ls at hl ⊢
  have hl : lv_has ls 6 [(0, .ref h), (1, .long p0), (3, .long p1)] := hl
  refine zNameH (D := D) (A := A) (ws := [(h, .inr (2, [.ref a1, .ref a2, .ref a3, .ref a4, .int (nI n)])), (a1, .inl (k1, 50, .inl bo)), (a2, .inl (k2, 50, .inr (.inl bf))), (a3, .inl (k3, 50, .inr (.inl bl))), (a4, .inl (k4, 50, .inr (.inl br)))]) (fun H locs hP hS => ?_) hP hS
  have k_0 := hts (.fieldLink RX1 25 "NumberRows2$Blocks" "count" "I") (by decide +kernel)
  have k_1 : ∀ w ∈ wsX10, w ∈ wsX1_touches := by decide +kernel
  have k_2 := hts (.fieldLink RX1 19 "NumberRows2$Blocks" "lasts" "[J") (by decide +kernel)
  have k_3 := hts (.fieldLink RX1 15 "NumberRows2$Blocks" "firsts" "[J") (by decide +kernel)
  refine lv_iconst (v := 0) hx hb dX1_touches_0 (by decide) ?_
  refine lv_istore (lv' := [(5, .int 0), (0, .ref h), (1, .long p0), (3, .long p1)]) hx hb dX1_touches_1 hl (by decide) rfl (fun ls hl => ?_)
  refine zLoop (σ := Nat) (nL := 6) (μ := fun (i : Nat) => n - i) (lv := fun (i : Nat) => [(5, .int (nI i)), (0, .ref h), (1, .long p0), (3, .long p1)]) (wf := fun (i : Nat) => [(h, .inr (2, [.ref a1, .ref a2, .ref a3, .ref a4, .int (nI n)])), (a1, .inl (k1, 50, .inl bo)), (a2, .inl (k2, 50, .inr (.inl bf))), (a3, .inl (k3, 50, .inr (.inl bl))), (a4, .inl (k4, 50, .inr (.inl br)))]) (I := fun (i : Nat) => i ≤ n ∧ ∀ j, j < i → ¬ (p0 ≤ bl j ∧ bf j ≤ p1)) (fun x H locs ls hI hP hD hS hl ih => ?_) 0 ⟨Nat.zero_le _, fun j hj => absurd hj (Nat.not_lt_zero j)⟩ hP hD hS (lv_sub hl [0, 1, 2, 3] rfl)
  obtain ⟨i, rfl⟩ : ∃ y9, y9 = x := ⟨_, rfl⟩
  have hI : i ≤ n ∧ ∀ j, j < i → ¬ (p0 ≤ bl j ∧ bf j ≤ p1) := hI
  have hl : lv_has ls 6 [(5, .int (nI i)), (0, .ref h), (1, .long p0), (3, .long p1)] := hl
  have hP : va_P D vwCl [(h, .inr (2, [.ref a1, .ref a2, .ref a3, .ref a4, .int (nI n)])), (a1, .inl (k1, 50, .inl bo)), (a2, .inl (k2, 50, .inr (.inl bf))), (a3, .inl (k3, 50, .inr (.inl bl))), (a4, .inl (k4, 50, .inr (.inl br)))] H := hP
  have hD : va_D (fun _ => True) [(h, .inr (2, [.ref a1, .ref a2, .ref a3, .ref a4, .int (nI n)])), (a1, .inl (k1, 50, .inl bo)), (a2, .inl (k2, 50, .inr (.inl bf))), (a3, .inl (k3, 50, .inr (.inl bl))), (a4, .inl (k4, 50, .inr (.inl br)))] := hD
  refine lv_iload hx hb dX1_touches_3 (lv_at hl 0 rfl) ?_
  refine lv_aload_n hx hb dX1_touches_5 rfl (lv_at hl 1 rfl) ?_
  refine va_get (D := D) (ci := 2) (v := .int (nI n)) (C := RX1) (T := TX1) (N := 5) hx hb hts k_1 hown hK hP 0 rfl rfl 4 (by decide) k_0 (fun _ h9 => h9) rfl dX1_touches_6 ?_
  refine lv_icmp_ge (tgt := 44) hx hb dX1_touches_9 (by decide) (fun c_9 => ?_) (fun c_9 => ?_)
  · have c_9 : n ≤ i := (nI_leI (a := n) (b := i) (by omega) (by omega)).mp c_9
    refine lv_iconst (v := 0) hx hb dX1_touches_44 (by decide) ?_
    exact W.zret (v := 0) hx hb hr rfl (fun t9 ht9 hW9 => ⟨⟨_, (), rfl, zB_f (fun ⟨j, q1, q2⟩ => hI.2 j (by omega) q2), trivial⟩, hS.F ht9⟩) hS.2.2 dX1_touches_45
  · have c_9 : ¬ (n ≤ i) := fun q9 => c_9 ((nI_leI (a := n) (b := i) (by omega) (by omega)).mpr q9)
    refine lv_lload_n hx hb dX1_touches_12 rfl (lv_at hl 2 rfl) ?_
    refine lv_aload_n hx hb dX1_touches_13 rfl (lv_at hl 1 rfl) ?_
    refine va_get (D := D) (ci := 2) (v := .ref a3) (C := RX1) (T := TX1) (N := 5) hx hb hts k_1 hown hK hP 0 rfl rfl 2 (by decide) k_2 (fun _ h9 => h9) rfl dX1_touches_14 ?_
    refine lv_iload hx hb dX1_touches_17 (lv_at hl 0 rfl) ?_
    refine z_lald (k := i) hx hb hK hP 3 2 rfl rfl (by omega) (by decide) dX1_touches_19 ?_
    refine W.lcmp hx hb dX1_touches_20 ?_
    refine lv_if_gt (tgt := 38) hx hb dX1_touches_21 (by decide) (fun c_21 => ?_) (fun c_21 => ?_)
    · have c_21 : (bl i) < p0 := (lg_cmp_gt _ _).mp c_21
      have i_21 : (bl i).toInt < p0.toInt := zl_lt.mp c_21
      refine lv_iinc (v := (nI (i + 1))) (lv' := [(5, .int (nI (i + 1))), (0, .ref h), (1, .long p0), (3, .long p1)]) hx hb dX1_touches_38 hl (k := 0) rfl (by first | exact nI_1 _ | rfl) (by decide) rfl (fun ls hl => ?_)
      refine lv_goto (tgt := 3) hx hb dX1_touches_41 (by decide) ?_
      exact ih (i + 1) _ _ _ (show n - (i + 1) < n - i from (by omega)) ⟨by omega, lt_s hI.2 (fun q => Int64.not_le.mpr c_21 q.1)⟩ hP hD hS (lv_sub hl [0, 1, 2, 3] rfl)
    · have c_21 : ¬ ((bl i) < p0) := fun q9 => c_21 ((lg_cmp_gt _ _).mpr q9)
      have i_21 : ¬ ((bl i).toInt < p0.toInt) := fun q9 => c_21 (zl_lt.mpr q9)
      refine lv_aload_n hx hb dX1_touches_24 rfl (lv_at hl 1 rfl) ?_
      refine va_get (D := D) (ci := 2) (v := .ref a2) (C := RX1) (T := TX1) (N := 5) hx hb hts k_1 hown hK hP 0 rfl rfl 1 (by decide) k_3 (fun _ h9 => h9) rfl dX1_touches_25 ?_
      refine lv_iload hx hb dX1_touches_28 (lv_at hl 0 rfl) ?_
      refine z_lald (k := i) hx hb hK hP 2 1 rfl rfl (by omega) (by decide) dX1_touches_30 ?_
      refine lv_lload_n hx hb dX1_touches_31 rfl (lv_at hl 3 rfl) ?_
      refine W.lcmp hx hb dX1_touches_32 ?_
      refine lv_if_gt (tgt := 38) hx hb dX1_touches_33 (by decide) (fun c_33 => ?_) (fun c_33 => ?_)
      · have c_33 : p1 < (bf i) := (lg_cmp_gt _ _).mp c_33
        have i_33 : p1.toInt < (bf i).toInt := zl_lt.mp c_33
        refine lv_iinc (v := (nI (i + 1))) (lv' := [(5, .int (nI (i + 1))), (0, .ref h), (1, .long p0), (3, .long p1)]) hx hb dX1_touches_38 hl (k := 0) rfl (by first | exact nI_1 _ | rfl) (by decide) rfl (fun ls hl => ?_)
        refine lv_goto (tgt := 3) hx hb dX1_touches_41 (by decide) ?_
        exact ih (i + 1) _ _ _ (show n - (i + 1) < n - i from (by omega)) ⟨by omega, lt_s hI.2 (fun q => Int64.not_le.mpr c_33 q.2)⟩ hP hD hS (lv_sub hl [0, 1, 2, 3] rfl)
      · have c_33 : ¬ (p1 < (bf i)) := fun q9 => c_33 ((lg_cmp_gt _ _).mpr q9)
        have i_33 : ¬ (p1.toInt < (bf i).toInt) := fun q9 => c_33 (zl_lt.mpr q9)
        refine lv_iconst (v := 1) hx hb dX1_touches_36 (by decide) ?_
        exact W.zret (v := 1) hx hb hr rfl (fun t9 ht9 hW9 => ⟨⟨_, (), rfl, zB_t ⟨i, by omega, Int64.not_lt.mp c_21, Int64.not_lt.mp c_33⟩, trivial⟩, hS.F ht9⟩) hS.2.2 dX1_touches_37

set_option maxHeartbeats 4000000 in
set_option maxRecDepth 100000 in
theorem cc_X1_add (l : Launch) (D : va_G) (z : zG) (sz : Nat) (h : Nat) (a1 : Nat) (a2 : Nat) (a3 : Nat) (a4 : Nat) (k1 : ClassId) (k2 : ClassId) (k3 : ClassId) (k4 : ClassId) (n : Nat) (bo : Nat → Int32) (bf : Nat → Int64) (bl : Nat → Int64) (br : Nat → Int64) (p0 : Int32) (p1 : Int64) (p2 : Int64) (hn : n < 50) : Met l yX1_add wsX1_add ({ frames := 0, cells := 0, slots := 0, locals := 0 }) (zPre D z [.ref h, .int p0, .long p1, .long p2] sz [(h, .inr (2, [.ref a1, .ref a2, .ref a3, .ref a4, .int (nI n)])), (a1, .inl (k1, 50, .inl bo)), (a2, .inl (k2, 50, .inr (.inl bf))), (a3, .inl (k3, 50, .inr (.inl bl))), (a4, .inl (k4, 50, .inr (.inl br)))] [(k1, .int), (k2, .long), (k3, .long), (k4, .long)] (va_A [(h, .inr (2, [.ref a1, .ref a2, .ref a3, .ref a4, .int (nI n)])), (a1, .inl (k1, 50, .inl bo)), (a2, .inl (k2, 50, .inr (.inl bf))), (a3, .inl (k3, 50, .inr (.inl bl))), (a4, .inl (k4, 50, .inr (.inl br)))] sz)) (va_Qi (fun (r : Int32) (u : Nat × (Nat → Int32) × (Nat → Int64) × (Nat → Int64) × (Nat → Int64)) => r = nI (n + 1) ∧ u.1 = n + 1 ∧ u.2.1 = upd bo n p0 ∧ u.2.2.1 = vp_updL bf n p1 ∧ u.2.2.2.1 = vp_updL bl n p2 ∧ u.2.2.2.2 = vp_updL br n p1) (zAt D [(k1, .int), (k2, .long), (k3, .long), (k4, .long)] (va_A [(h, .inr (2, [.ref a1, .ref a2, .ref a3, .ref a4, .int (nI n)])), (a1, .inl (k1, 50, .inl bo)), (a2, .inl (k2, 50, .inr (.inl bf))), (a3, .inl (k3, 50, .inr (.inl bl))), (a4, .inl (k4, 50, .inr (.inl br)))] sz) (fun u : Nat × (Nat → Int32) × (Nat → Int64) × (Nat → Int64) × (Nat → Int64) => [(h, .inr (2, [.ref a1, .ref a2, .ref a3, .ref a4, .int (nI u.1)])), (a1, .inl (k1, 50, .inl u.2.1)), (a2, .inl (k2, 50, .inr (.inl u.2.2.1))), (a3, .inl (k3, 50, .inr (.inl u.2.2.2.1))), (a4, .inl (k4, 50, .inr (.inl u.2.2.2.2)))])) (va_A [(h, .inr (2, [.ref a1, .ref a2, .ref a3, .ref a4, .int (nI n)])), (a1, .inl (k1, 50, .inl bo)), (a2, .inl (k2, 50, .inr (.inl bf))), (a3, .inl (k3, 50, .inr (.inl bl))), (a4, .inl (k4, 50, .inr (.inl br)))] sz)) 0 0 (va_A [(h, .inr (2, [.ref a1, .ref a2, .ref a3, .ref a4, .int (nI n)])), (a1, .inl (k1, 50, .inl bo)), (a2, .inl (k2, 50, .inr (.inl bf))), (a3, .inl (k3, 50, .inr (.inl bl))), (a4, .inl (k4, 50, .inr (.inl br)))] sz) := by
  refine Met.ofW (cc := cX1_add) (maxL := 6) (ret := (some .int)) (by decide) rfl ?_
  intro p e s m args below meth c s₁ B hml hv
  obtain ⟨rfl, hsz, hP, hK, hD, hC⟩ := hv
  have hx := B.exec
  have hb := B.bytes
  have hr := B.returns
  have hts := atoms_spec (ws := wsX1_add) B.pre
  have hown : s.vm.findClass RX1 = some m.cls := findClass_of_methodNamed B.named
  have hlocks := B.notSynchronized
  subst hsz
  have hD := hD.self (sz := s.heap.size)
  generalize hAe : va_A [(h, .inr (2, [.ref a1, .ref a2, .ref a3, .ref a4, .int (nI n)])), (a1, .inl (k1, 50, .inl bo)), (a2, .inl (k2, 50, .inr (.inl bf))), (a3, .inl (k3, 50, .inr (.inl bl))), (a4, .inl (k4, 50, .inr (.inl br)))] s.heap.size = A at hC hD ⊢
  have hA : ∀ q : Nat, s.heap.size ≤ q → A q := fun q h => by rw [← hAe]; exact Or.inr h
  have hS : va_S A s.heap s.heap [] := va_S.rf
  have hP : va_P D vwCl [(h, .inr (2, [.ref a1, .ref a2, .ref a3, .ref a4, .int (nI n)])), (a1, .inl (k1, 50, .inl bo)), (a2, .inl (k2, 50, .inr (.inl bf))), (a3, .inl (k3, 50, .inr (.inl bl))), (a4, .inl (k4, 50, .inr (.inl br)))] s.heap := hP
  have hl := lv_entry ([.ref h, .int p0, .long p1, .long p2]) (n := 6) (Nat.le_of_ble_eq_true rfl)
  rw [lg_entry_eq]
  generalize (lg_sl ([.ref h, .int p0, .long p1, .long p2]) ++ List.replicate (6 - (lg_sl ([.ref h, .int p0, .long p1, .long p2])).length) Slot.unset).toArray = ls at hl ⊢
  have hl : lv_has ls 6 [(0, .ref h), (1, .int p0), (2, .long p1), (4, .long p2)] := hl
  refine zNameH (D := D) (A := A) (ws := [(h, .inr (2, [.ref a1, .ref a2, .ref a3, .ref a4, .int (nI n)])), (a1, .inl (k1, 50, .inl bo)), (a2, .inl (k2, 50, .inr (.inl bf))), (a3, .inl (k3, 50, .inr (.inl bl))), (a4, .inl (k4, 50, .inr (.inl br)))]) (fun H locs hP hS => ?_) hP hS
  have k_0 := hts (.fieldLink RX1 25 "NumberRows2$Blocks" "count" "I") (by decide +kernel)
  have k_1 : ∀ w ∈ wsX10, w ∈ wsX1_add := by decide +kernel
  have k_2 := hts (.fieldLink RX1 9 "NumberRows2$Blocks" "offices" "[I") (by decide +kernel)
  have k_3 := hts (.fieldLink RX1 15 "NumberRows2$Blocks" "firsts" "[J") (by decide +kernel)
  have k_4 := hts (.fieldLink RX1 19 "NumberRows2$Blocks" "lasts" "[J") (by decide +kernel)
  have k_5 := hts (.fieldLink RX1 22 "NumberRows2$Blocks" "fresh" "[J") (by decide +kernel)
  refine lv_aload_n hx hb dX1_add_0 rfl (lv_at hl 0 rfl) ?_
  refine va_get (D := D) (ci := 2) (v := .int (nI n)) (C := RX1) (T := TX1) (N := 5) hx hb hts k_1 hown hK hP 0 rfl rfl 4 (by decide) k_0 (fun _ h9 => h9) rfl dX1_add_1 ?_
  refine lv_bipush (v := 50) hx hb dX1_add_4 (by decide) ?_
  refine lv_icmp_ge (tgt := 60) hx hb dX1_add_6 (by decide) (fun c_6 => ?_) (fun c_6 => ?_)
  · have c_6 : 50 ≤ n := (nI_leI (a := 50) (b := n) (by omega) (by omega)).mp c_6
    exact absurd c_6 (by omega)
  · have c_6 : ¬ (50 ≤ n) := fun q9 => c_6 ((nI_leI (a := 50) (b := n) (by omega) (by omega)).mpr q9)
    refine lv_aload_n hx hb dX1_add_9 rfl (lv_at hl 0 rfl) ?_
    refine va_get (D := D) (ci := 2) (v := .ref a1) (C := RX1) (T := TX1) (N := 5) hx hb hts k_1 hown hK hP 0 rfl rfl 0 (by decide) k_2 (fun _ h9 => h9) rfl dX1_add_10 ?_
    refine lv_aload_n hx hb dX1_add_13 rfl (lv_at hl 0 rfl) ?_
    refine va_get (D := D) (ci := 2) (v := .int (nI n)) (C := RX1) (T := TX1) (N := 5) hx hb hts k_1 hown hK hP 0 rfl rfl 4 (by decide) k_0 (fun _ h9 => h9) rfl dX1_add_14 ?_
    refine lv_iload_n hx hb dX1_add_17 rfl (lv_at hl 1 rfl) ?_
    refine z_iast (k := n) hx hb hK hP hD hS 1 0 rfl rfl (by omega) (by decide) dX1_add_18 (fun H locs hP hD hS => ?_)
    have hP : va_P D vwCl [(h, .inr (2, [.ref a1, .ref a2, .ref a3, .ref a4, .int (nI n)])), (a1, .inl (k1, 50, .inl (upd bo n p0))), (a2, .inl (k2, 50, .inr (.inl bf))), (a3, .inl (k3, 50, .inr (.inl bl))), (a4, .inl (k4, 50, .inr (.inl br)))] H := hP
    have hD : va_D A [(h, .inr (2, [.ref a1, .ref a2, .ref a3, .ref a4, .int (nI n)])), (a1, .inl (k1, 50, .inl (upd bo n p0))), (a2, .inl (k2, 50, .inr (.inl bf))), (a3, .inl (k3, 50, .inr (.inl bl))), (a4, .inl (k4, 50, .inr (.inl br)))] := hD
    refine lv_aload_n hx hb dX1_add_19 rfl (lv_at hl 0 rfl) ?_
    refine va_get (D := D) (ci := 2) (v := .ref a2) (C := RX1) (T := TX1) (N := 5) hx hb hts k_1 hown hK hP 0 rfl rfl 1 (by decide) k_3 (fun _ h9 => h9) rfl dX1_add_20 ?_
    refine lv_aload_n hx hb dX1_add_23 rfl (lv_at hl 0 rfl) ?_
    refine va_get (D := D) (ci := 2) (v := .int (nI n)) (C := RX1) (T := TX1) (N := 5) hx hb hts k_1 hown hK hP 0 rfl rfl 4 (by decide) k_0 (fun _ h9 => h9) rfl dX1_add_24 ?_
    refine lv_lload_n hx hb dX1_add_27 rfl (lv_at hl 2 rfl) ?_
    refine z_last (k := n) hx hb hK hP hD hS 2 1 rfl rfl (by omega) (by decide) dX1_add_28 (fun H locs hP hD hS => ?_)
    have hP : va_P D vwCl [(h, .inr (2, [.ref a1, .ref a2, .ref a3, .ref a4, .int (nI n)])), (a1, .inl (k1, 50, .inl (upd bo n p0))), (a2, .inl (k2, 50, .inr (.inl (vp_updL bf n p1)))), (a3, .inl (k3, 50, .inr (.inl bl))), (a4, .inl (k4, 50, .inr (.inl br)))] H := hP
    have hD : va_D A [(h, .inr (2, [.ref a1, .ref a2, .ref a3, .ref a4, .int (nI n)])), (a1, .inl (k1, 50, .inl (upd bo n p0))), (a2, .inl (k2, 50, .inr (.inl (vp_updL bf n p1)))), (a3, .inl (k3, 50, .inr (.inl bl))), (a4, .inl (k4, 50, .inr (.inl br)))] := hD
    refine lv_aload_n hx hb dX1_add_29 rfl (lv_at hl 0 rfl) ?_
    refine va_get (D := D) (ci := 2) (v := .ref a3) (C := RX1) (T := TX1) (N := 5) hx hb hts k_1 hown hK hP 0 rfl rfl 2 (by decide) k_4 (fun _ h9 => h9) rfl dX1_add_30 ?_
    refine lv_aload_n hx hb dX1_add_33 rfl (lv_at hl 0 rfl) ?_
    refine va_get (D := D) (ci := 2) (v := .int (nI n)) (C := RX1) (T := TX1) (N := 5) hx hb hts k_1 hown hK hP 0 rfl rfl 4 (by decide) k_0 (fun _ h9 => h9) rfl dX1_add_34 ?_
    refine lv_lload hx hb dX1_add_37 (lv_at hl 3 rfl) ?_
    refine z_last (k := n) hx hb hK hP hD hS 3 2 rfl rfl (by omega) (by decide) dX1_add_39 (fun H locs hP hD hS => ?_)
    have hP : va_P D vwCl [(h, .inr (2, [.ref a1, .ref a2, .ref a3, .ref a4, .int (nI n)])), (a1, .inl (k1, 50, .inl (upd bo n p0))), (a2, .inl (k2, 50, .inr (.inl (vp_updL bf n p1)))), (a3, .inl (k3, 50, .inr (.inl (vp_updL bl n p2)))), (a4, .inl (k4, 50, .inr (.inl br)))] H := hP
    have hD : va_D A [(h, .inr (2, [.ref a1, .ref a2, .ref a3, .ref a4, .int (nI n)])), (a1, .inl (k1, 50, .inl (upd bo n p0))), (a2, .inl (k2, 50, .inr (.inl (vp_updL bf n p1)))), (a3, .inl (k3, 50, .inr (.inl (vp_updL bl n p2)))), (a4, .inl (k4, 50, .inr (.inl br)))] := hD
    refine lv_aload_n hx hb dX1_add_40 rfl (lv_at hl 0 rfl) ?_
    refine va_get (D := D) (ci := 2) (v := .ref a4) (C := RX1) (T := TX1) (N := 5) hx hb hts k_1 hown hK hP 0 rfl rfl 3 (by decide) k_5 (fun _ h9 => h9) rfl dX1_add_41 ?_
    refine lv_aload_n hx hb dX1_add_44 rfl (lv_at hl 0 rfl) ?_
    refine va_get (D := D) (ci := 2) (v := .int (nI n)) (C := RX1) (T := TX1) (N := 5) hx hb hts k_1 hown hK hP 0 rfl rfl 4 (by decide) k_0 (fun _ h9 => h9) rfl dX1_add_45 ?_
    refine lv_lload_n hx hb dX1_add_48 rfl (lv_at hl 2 rfl) ?_
    refine z_last (k := n) hx hb hK hP hD hS 4 3 rfl rfl (by omega) (by decide) dX1_add_49 (fun H locs hP hD hS => ?_)
    have hP : va_P D vwCl [(h, .inr (2, [.ref a1, .ref a2, .ref a3, .ref a4, .int (nI n)])), (a1, .inl (k1, 50, .inl (upd bo n p0))), (a2, .inl (k2, 50, .inr (.inl (vp_updL bf n p1)))), (a3, .inl (k3, 50, .inr (.inl (vp_updL bl n p2)))), (a4, .inl (k4, 50, .inr (.inl (vp_updL br n p1))))] H := hP
    have hD : va_D A [(h, .inr (2, [.ref a1, .ref a2, .ref a3, .ref a4, .int (nI n)])), (a1, .inl (k1, 50, .inl (upd bo n p0))), (a2, .inl (k2, 50, .inr (.inl (vp_updL bf n p1)))), (a3, .inl (k3, 50, .inr (.inl (vp_updL bl n p2)))), (a4, .inl (k4, 50, .inr (.inl (vp_updL br n p1))))] := hD
    refine lv_aload_n hx hb dX1_add_50 rfl (lv_at hl 0 rfl) ?_
    refine lv_dup hx hb dX1_add_51 rfl ?_
    refine va_get (D := D) (ci := 2) (v := .int (nI n)) (C := RX1) (T := TX1) (N := 5) hx hb hts k_1 hown hK hP 0 rfl rfl 4 (by decide) k_0 (fun _ h9 => h9) rfl dX1_add_52 ?_
    refine lv_iconst (v := 1) hx hb dX1_add_55 (by decide) ?_
    refine lv_iadd hx hb dX1_add_56 ?_
    refine lv_topi (fun y_1 e_1 => ?_)
    obtain rfl : y_1 = nI (n + 1) := e_1.trans (by first | exact nI_1 _ | exact nI_add _ 1)
    refine va_put (D := D) (ci := 2) (v := .int (nI (n + 1))) (ty := .int) (C := RX1) (T := TX1) (N := 5) hx hb hts k_1 tyX1 tyX1_ok nmX1 hown hK hP hD hS 0 rfl rfl 4 (by decide) k_0 (fun _ h9 => h9) rfl (by decide +kernel) rfl rfl (Nat.le_of_ble_eq_true rfl) dX1_add_57 (fun H locs hP hD hS => ?_)
    have hP : va_P D vwCl [(h, .inr (2, [.ref a1, .ref a2, .ref a3, .ref a4, .int (nI (n + 1))])), (a1, .inl (k1, 50, .inl (upd bo n p0))), (a2, .inl (k2, 50, .inr (.inl (vp_updL bf n p1)))), (a3, .inl (k3, 50, .inr (.inl (vp_updL bl n p2)))), (a4, .inl (k4, 50, .inr (.inl (vp_updL br n p1))))] H := hP
    have hD : va_D A [(h, .inr (2, [.ref a1, .ref a2, .ref a3, .ref a4, .int (nI (n + 1))])), (a1, .inl (k1, 50, .inl (upd bo n p0))), (a2, .inl (k2, 50, .inr (.inl (vp_updL bf n p1)))), (a3, .inl (k3, 50, .inr (.inl (vp_updL bl n p2)))), (a4, .inl (k4, 50, .inr (.inl (vp_updL br n p1))))] := hD
    refine lv_aload_n hx hb dX1_add_60 rfl (lv_at hl 0 rfl) ?_
    refine va_get (D := D) (ci := 2) (v := .int (nI (n + 1))) (C := RX1) (T := TX1) (N := 5) hx hb hts k_1 hown hK hP 0 rfl rfl 4 (by decide) k_0 (fun _ h9 => h9) rfl dX1_add_61 ?_
    exact W.iret (v := (nI (n + 1))) hx hb hr (fun t9 ht9 hW9 => ⟨⟨_, ((n + 1), (upd bo n p0), (vp_updL bf n p1), (vp_updL bl n p2), (vp_updL br n p1)), rfl, ⟨rfl, rfl, rfl, rfl, rfl, rfl⟩, by rw [ht9]; exact hP, va_K.moved hW9.alike hK, hD⟩, hS.F ht9⟩) hS.2.2 dX1_add_64

set_option maxHeartbeats 4000000 in
set_option maxRecDepth 100000 in
theorem cc_X1_takeSerial (l : Launch) (D : va_G) (z : zG) (sz : Nat) (h : Nat) (a1 : Nat) (a2 : Nat) (a3 : Nat) (a4 : Nat) (k1 : ClassId) (k2 : ClassId) (k3 : ClassId) (k4 : ClassId) (n : Nat) (bo : Nat → Int32) (bf : Nat → Int64) (bl : Nat → Int64) (br : Nat → Int64) (hq : Nat) (q1 : Nat) (q2 : Nat) (j1 : ClassId) (j2 : ClassId) (nr : Nat) (qf : Nat → Int64) (ql : Nat → Int64) (p0 : Int32) (hn : n ≤ 50) (hq9 : nr ≤ 50) (ht : zTop nr ql) : Met l yX1_takeSerial wsX1_takeSerial ({ frames := 2, cells := 0, slots := 0, locals := 50 }) (zPre D z [.ref h, .int p0, .ref hq] sz [(h, .inr (2, [.ref a1, .ref a2, .ref a3, .ref a4, .int (nI n)])), (a1, .inl (k1, 50, .inl bo)), (a2, .inl (k2, 50, .inr (.inl bf))), (a3, .inl (k3, 50, .inr (.inl bl))), (a4, .inl (k4, 50, .inr (.inl br))), (hq, .inr (1, [.ref q1, .ref q2, .int (nI nr)])), (q1, .inl (j1, 50, .inr (.inl qf))), (q2, .inl (j2, 50, .inr (.inl ql)))] [(k1, .int), (k2, .long), (k3, .long), (k4, .long), (j1, .long), (j2, .long)] (va_A [(h, .inr (2, [.ref a1, .ref a2, .ref a3, .ref a4, .int (nI n)])), (a1, .inl (k1, 50, .inl bo)), (a2, .inl (k2, 50, .inr (.inl bf))), (a3, .inl (k3, 50, .inr (.inl bl))), (a4, .inl (k4, 50, .inr (.inl br))), (hq, .inr (1, [.ref q1, .ref q2, .int (nI nr)])), (q1, .inl (j1, 50, .inr (.inl qf))), (q2, .inl (j2, 50, .inr (.inl ql)))] sz)) (va_Ql (fun (r : Int64) (u : (Nat → Int64)) => zTake nr qf ql n bo bl p0 br u r) (zAt D [(k1, .int), (k2, .long), (k3, .long), (k4, .long), (j1, .long), (j2, .long)] (va_A [(h, .inr (2, [.ref a1, .ref a2, .ref a3, .ref a4, .int (nI n)])), (a1, .inl (k1, 50, .inl bo)), (a2, .inl (k2, 50, .inr (.inl bf))), (a3, .inl (k3, 50, .inr (.inl bl))), (a4, .inl (k4, 50, .inr (.inl br))), (hq, .inr (1, [.ref q1, .ref q2, .int (nI nr)])), (q1, .inl (j1, 50, .inr (.inl qf))), (q2, .inl (j2, 50, .inr (.inl ql)))] sz) (fun u : (Nat → Int64) => [(h, .inr (2, [.ref a1, .ref a2, .ref a3, .ref a4, .int (nI n)])), (a1, .inl (k1, 50, .inl bo)), (a2, .inl (k2, 50, .inr (.inl bf))), (a3, .inl (k3, 50, .inr (.inl bl))), (a4, .inl (k4, 50, .inr (.inl u))), (hq, .inr (1, [.ref q1, .ref q2, .int (nI nr)])), (q1, .inl (j1, 50, .inr (.inl qf))), (q2, .inl (j2, 50, .inr (.inl ql)))])) (va_A [(h, .inr (2, [.ref a1, .ref a2, .ref a3, .ref a4, .int (nI n)])), (a1, .inl (k1, 50, .inl bo)), (a2, .inl (k2, 50, .inr (.inl bf))), (a3, .inl (k3, 50, .inr (.inl bl))), (a4, .inl (k4, 50, .inr (.inl br))), (hq, .inr (1, [.ref q1, .ref q2, .int (nI nr)])), (q1, .inl (j1, 50, .inr (.inl qf))), (q2, .inl (j2, 50, .inr (.inl ql)))] sz)) 0 0 (va_A [(h, .inr (2, [.ref a1, .ref a2, .ref a3, .ref a4, .int (nI n)])), (a1, .inl (k1, 50, .inl bo)), (a2, .inl (k2, 50, .inr (.inl bf))), (a3, .inl (k3, 50, .inr (.inl bl))), (a4, .inl (k4, 50, .inr (.inl br))), (hq, .inr (1, [.ref q1, .ref q2, .int (nI nr)])), (q1, .inl (j1, 50, .inr (.inl qf))), (q2, .inl (j2, 50, .inr (.inl ql)))] sz) := by
  refine Met.ofW (cc := cX1_takeSerial) (maxL := 6) (ret := (some .long)) (by decide) rfl ?_
  intro p e s m args below meth c s₁ B hml hv
  obtain ⟨rfl, hsz, hP, hK, hD, hC⟩ := hv
  have hx := B.exec
  have hb := B.bytes
  have hr := B.returns
  have hts := atoms_spec (ws := wsX1_takeSerial) B.pre
  have hown : s.vm.findClass RX1 = some m.cls := findClass_of_methodNamed B.named
  have hlocks := B.notSynchronized
  subst hsz
  have hD := hD.self (sz := s.heap.size)
  generalize hAe : va_A [(h, .inr (2, [.ref a1, .ref a2, .ref a3, .ref a4, .int (nI n)])), (a1, .inl (k1, 50, .inl bo)), (a2, .inl (k2, 50, .inr (.inl bf))), (a3, .inl (k3, 50, .inr (.inl bl))), (a4, .inl (k4, 50, .inr (.inl br))), (hq, .inr (1, [.ref q1, .ref q2, .int (nI nr)])), (q1, .inl (j1, 50, .inr (.inl qf))), (q2, .inl (j2, 50, .inr (.inl ql)))] s.heap.size = A at hC hD ⊢
  have hA : ∀ q : Nat, s.heap.size ≤ q → A q := fun q h => by rw [← hAe]; exact Or.inr h
  have hS : va_S A s.heap s.heap [] := va_S.rf
  have hP : va_P D vwCl [(h, .inr (2, [.ref a1, .ref a2, .ref a3, .ref a4, .int (nI n)])), (a1, .inl (k1, 50, .inl bo)), (a2, .inl (k2, 50, .inr (.inl bf))), (a3, .inl (k3, 50, .inr (.inl bl))), (a4, .inl (k4, 50, .inr (.inl br))), (hq, .inr (1, [.ref q1, .ref q2, .int (nI nr)])), (q1, .inl (j1, 50, .inr (.inl qf))), (q2, .inl (j2, 50, .inr (.inl ql)))] s.heap := hP
  have hl := lv_entry ([.ref h, .int p0, .ref hq]) (n := 6) (Nat.le_of_ble_eq_true rfl)
  rw [lg_entry_eq]
  generalize (lg_sl ([.ref h, .int p0, .ref hq]) ++ List.replicate (6 - (lg_sl ([.ref h, .int p0, .ref hq])).length) Slot.unset).toArray = ls at hl ⊢
  have hl : lv_has ls 6 [(0, .ref h), (1, .int p0), (2, .ref hq)] := hl
  refine zNameH (D := D) (A := A) (ws := [(h, .inr (2, [.ref a1, .ref a2, .ref a3, .ref a4, .int (nI n)])), (a1, .inl (k1, 50, .inl bo)), (a2, .inl (k2, 50, .inr (.inl bf))), (a3, .inl (k3, 50, .inr (.inl bl))), (a4, .inl (k4, 50, .inr (.inl br))), (hq, .inr (1, [.ref q1, .ref q2, .int (nI nr)])), (q1, .inl (j1, 50, .inr (.inl qf))), (q2, .inl (j2, 50, .inr (.inl ql)))]) (fun H locs hP hS => ?_) hP hS
  have k_0 := hts (.fieldLink RX1 25 "NumberRows2$Blocks" "count" "I") (by decide +kernel)
  have k_1 : ∀ w ∈ wsX10, w ∈ wsX1_takeSerial := by decide +kernel
  have k_2 := hts (.constantLong RX1 35 (-1)) (by decide +kernel)
  have k_3 := hts (.fieldLink RX1 9 "NumberRows2$Blocks" "offices" "[I") (by decide +kernel)
  have k_4 := hts (.fieldLink RX1 22 "NumberRows2$Blocks" "fresh" "[J") (by decide +kernel)
  have k_5 := hts (.fieldLink RX1 19 "NumberRows2$Blocks" "lasts" "[J") (by decide +kernel)
  refine lv_iconst (v := 0) hx hb dX1_takeSerial_0 (by decide) ?_
  refine lv_istore_n (lv' := [(3, .int 0), (0, .ref h), (1, .int p0), (2, .ref hq)]) hx hb dX1_takeSerial_1 rfl hl (by decide) rfl (fun ls hl => ?_)
  refine zLoop (σ := Nat × (Nat → Int64)) (nL := 6) (μ := fun (x : Nat × (Nat → Int64)) => match x with | (i, g) => n - i) (lv := fun (x : Nat × (Nat → Int64)) => match x with | (i, g) => [(3, .int (nI i)), (0, .ref h), (1, .int p0), (2, .ref hq)]) (wf := fun (x : Nat × (Nat → Int64)) => match x with | (i, g) => [(h, .inr (2, [.ref a1, .ref a2, .ref a3, .ref a4, .int (nI n)])), (a1, .inl (k1, 50, .inl bo)), (a2, .inl (k2, 50, .inr (.inl bf))), (a3, .inl (k3, 50, .inr (.inl bl))), (a4, .inl (k4, 50, .inr (.inl g))), (hq, .inr (1, [.ref q1, .ref q2, .int (nI nr)])), (q1, .inl (j1, 50, .inr (.inl qf))), (q2, .inl (j2, 50, .inr (.inl ql)))]) (I := fun (x : Nat × (Nat → Int64)) => match x with | (i, g) => zTkI nr qf ql n bo bl p0 br g i) (fun x H locs ls hI hP hD hS hl ih => ?_) (0, br) ⟨Nat.zero_le _, fun j hj => absurd hj (Nat.not_lt_zero j), fun j _ => rfl⟩ hP hD hS (lv_sub hl [0, 1, 2, 3] rfl)
  obtain ⟨i, g⟩ := x
  have hI : zTkI nr qf ql n bo bl p0 br g i := hI
  have hl : lv_has ls 6 [(3, .int (nI i)), (0, .ref h), (1, .int p0), (2, .ref hq)] := hl
  have hP : va_P D vwCl [(h, .inr (2, [.ref a1, .ref a2, .ref a3, .ref a4, .int (nI n)])), (a1, .inl (k1, 50, .inl bo)), (a2, .inl (k2, 50, .inr (.inl bf))), (a3, .inl (k3, 50, .inr (.inl bl))), (a4, .inl (k4, 50, .inr (.inl g))), (hq, .inr (1, [.ref q1, .ref q2, .int (nI nr)])), (q1, .inl (j1, 50, .inr (.inl qf))), (q2, .inl (j2, 50, .inr (.inl ql)))] H := hP
  have hD : va_D A [(h, .inr (2, [.ref a1, .ref a2, .ref a3, .ref a4, .int (nI n)])), (a1, .inl (k1, 50, .inl bo)), (a2, .inl (k2, 50, .inr (.inl bf))), (a3, .inl (k3, 50, .inr (.inl bl))), (a4, .inl (k4, 50, .inr (.inl g))), (hq, .inr (1, [.ref q1, .ref q2, .int (nI nr)])), (q1, .inl (j1, 50, .inr (.inl qf))), (q2, .inl (j2, 50, .inr (.inl ql)))] := hD
  have hi := hI.1
  refine lv_iload_n hx hb dX1_takeSerial_2 rfl (lv_at hl 0 rfl) ?_
  refine lv_aload_n hx hb dX1_takeSerial_3 rfl (lv_at hl 1 rfl) ?_
  refine va_get (D := D) (ci := 2) (v := .int (nI n)) (C := RX1) (T := TX1) (N := 5) hx hb hts k_1 hown hK hP 0 rfl rfl 4 (by decide) k_0 (fun _ h9 => h9) rfl dX1_takeSerial_4 ?_
  refine lv_icmp_ge (tgt := 87) hx hb dX1_takeSerial_7 (by decide) (fun c_7 => ?_) (fun c_7 => ?_)
  · have c_7 : n ≤ i := (nI_leI (a := n) (b := i) (by omega) (by omega)).mp c_7
    refine lv_ldc2 hx hb hown k_2 dX1_takeSerial_87 ?_
    exact W.lret (v := (-1)) hx hb hr (fun t9 ht9 hW9 => ⟨⟨_, g, rfl, Or.inr ⟨fun j hj => hI.2.1 j (by omega), rfl⟩, by rw [ht9]; exact hP, va_K.moved hW9.alike hK, hD⟩, hS.F ht9⟩) hS.2.2 dX1_takeSerial_90
  · have c_7 : ¬ (n ≤ i) := fun q9 => c_7 ((nI_leI (a := n) (b := i) (by omega) (by omega)).mpr q9)
    refine lv_aload_n hx hb dX1_takeSerial_10 rfl (lv_at hl 1 rfl) ?_
    refine va_get (D := D) (ci := 2) (v := .ref a1) (C := RX1) (T := TX1) (N := 5) hx hb hts k_1 hown hK hP 0 rfl rfl 0 (by decide) k_3 (fun _ h9 => h9) rfl dX1_takeSerial_11 ?_
    refine lv_iload_n hx hb dX1_takeSerial_14 rfl (lv_at hl 0 rfl) ?_
    refine z_iald (k := i) hx hb hK hP 1 0 rfl rfl (by omega) (by decide) dX1_takeSerial_15 ?_
    refine lv_iload_n hx hb dX1_takeSerial_16 rfl (lv_at hl 2 rfl) ?_
    refine lv_icmp_ne (tgt := 81) hx hb dX1_takeSerial_17 (by decide) (fun c_17 => ?_) (fun c_17 => ?_)
    · have i_17 : ¬ ((bo i).toInt = p0.toInt) := fun q9 => c_17 (zi_eq.mpr q9)
      refine lv_iinc (v := (nI (i + 1))) (lv' := [(3, .int (nI (i + 1))), (0, .ref h), (1, .int p0), (2, .ref hq)]) hx hb dX1_takeSerial_81 hl (k := 0) rfl (by first | exact nI_1 _ | rfl) (by decide) rfl (fun ls hl => ?_)
      refine lv_goto (tgt := 2) hx hb dX1_takeSerial_84 (by decide) ?_
      exact ih (i + 1, g) _ _ _ (show n - (i + 1) < n - i from (by omega)) (zTkI_skip hI (by omega) (Or.inl c_17)) hP hD hS (lv_sub hl [0, 1, 2, 3] rfl)
    · have i_17 : (bo i).toInt = p0.toInt := zi_eq.mp c_17
      refine lv_aload_n hx hb dX1_takeSerial_20 rfl (lv_at hl 1 rfl) ?_
      refine va_get (D := D) (ci := 2) (v := .ref a4) (C := RX1) (T := TX1) (N := 5) hx hb hts k_1 hown hK hP 0 rfl rfl 3 (by decide) k_4 (fun _ h9 => h9) rfl dX1_takeSerial_21 ?_
      refine lv_iload_n hx hb dX1_takeSerial_24 rfl (lv_at hl 0 rfl) ?_
      refine z_lald (k := i) hx hb hK hP 4 3 rfl rfl (by omega) (by decide) dX1_takeSerial_25 ?_
      refine lv_aload_n hx hb dX1_takeSerial_26 rfl (lv_at hl 1 rfl) ?_
      refine va_get (D := D) (ci := 2) (v := .ref a3) (C := RX1) (T := TX1) (N := 5) hx hb hts k_1 hown hK hP 0 rfl rfl 2 (by decide) k_5 (fun _ h9 => h9) rfl dX1_takeSerial_27 ?_
      refine lv_iload_n hx hb dX1_takeSerial_30 rfl (lv_at hl 0 rfl) ?_
      refine z_lald (k := i) hx hb hK hP 3 2 rfl rfl (by omega) (by decide) dX1_takeSerial_31 ?_
      refine W.lcmp hx hb dX1_takeSerial_32 ?_
      refine lv_if_gt (tgt := 81) hx hb dX1_takeSerial_33 (by decide) (fun c_33 => ?_) (fun c_33 => ?_)
      · have c_33 : (bl i) < (g i) := (lg_cmp_gt _ _).mp c_33
        have i_33 : (bl i).toInt < (g i).toInt := zl_lt.mp c_33
        refine lv_iinc (v := (nI (i + 1))) (lv' := [(3, .int (nI (i + 1))), (0, .ref h), (1, .int p0), (2, .ref hq)]) hx hb dX1_takeSerial_81 hl (k := 0) rfl (by first | exact nI_1 _ | rfl) (by decide) rfl (fun ls hl => ?_)
        refine lv_goto (tgt := 2) hx hb dX1_takeSerial_84 (by decide) ?_
        exact ih (i + 1, g) _ _ _ (show n - (i + 1) < n - i from (by omega)) (zTkI_skip hI (by omega) (Or.inr c_33)) hP hD hS (lv_sub hl [0, 1, 2, 3] rfl)
      · have c_33 : ¬ ((bl i) < (g i)) := fun q9 => c_33 ((lg_cmp_gt _ _).mpr q9)
        have i_33 : ¬ ((bl i).toInt < (g i).toInt) := fun q9 => c_33 (zl_lt.mpr q9)
        refine lv_aload_n hx hb dX1_takeSerial_36 rfl (lv_at hl 3 rfl) ?_
        refine lv_aload_n hx hb dX1_takeSerial_37 rfl (lv_at hl 1 rfl) ?_
        refine va_get (D := D) (ci := 2) (v := .ref a4) (C := RX1) (T := TX1) (N := 5) hx hb hts k_1 hown hK hP 0 rfl rfl 3 (by decide) k_4 (fun _ h9 => h9) rfl dX1_takeSerial_38 ?_
        refine lv_iload_n hx hb dX1_takeSerial_41 rfl (lv_at hl 0 rfl) ?_
        refine z_lald (k := i) hx hb hK hP 4 3 rfl rfl (by omega) (by decide) dX1_takeSerial_42 ?_
        refine zRo_l (va_runV (As := [.long (g i)]) (rest := []) ⟨hx, hb, hml, hown, hts⟩ (cc_X0_firstFree l D z H.size hq q1 q2 j1 j2 nr qf ql (g i) (by omega) (by omega)) (cwV 1 hts gX1_takeSerial_X0_firstFree rfl rfl rfl (by decide +kernel) ⟨Nat.le_of_ble_eq_true rfl, Nat.le_of_ble_eq_true rfl⟩) ⟨zPre_blind, va_recv hK hP (ci := 1) (q0 := 5) rfl rfl, (zPre_mk (wc := [(hq, .inr (1, [.ref q1, .ref q2, .int (nI nr)])), (q1, .inl (j1, 50, .inr (.inl qf))), (q2, .inl (j2, 50, .inr (.inl ql)))]) (tc := [(j1, .long), (j2, .long)]) hP hK hD hC hS [5, 6, 7] (by decide) rfl rfl [4, 5] rfl (zro_free hS hA))⟩ rfl rfl hl.1 rfl (lv_room (Nat.le_of_ble_eq_true rfl)) dX1_takeSerial_43 ⟨Nat.zero_le _, Nat.zero_le _⟩) hS hA hP (fun r_43 H locs hw hP hS => ?_)
        have hw_43 : zFF nr qf ql (g i) r_43 := hw
        refine lv_lstore (lv' := [(4, .long r_43), (3, .int (nI i)), (0, .ref h), (1, .int p0), (2, .ref hq)]) hx hb dX1_takeSerial_46 hl (by decide) rfl (fun ls hl => ?_)
        refine lv_lload hx hb dX1_takeSerial_48 (lv_at hl 0 rfl) ?_
        refine lv_aload_n hx hb dX1_takeSerial_50 rfl (lv_at hl 2 rfl) ?_
        refine va_get (D := D) (ci := 2) (v := .ref a3) (C := RX1) (T := TX1) (N := 5) hx hb hts k_1 hown hK hP 0 rfl rfl 2 (by decide) k_5 (fun _ h9 => h9) rfl dX1_takeSerial_51 ?_
        refine lv_iload_n hx hb dX1_takeSerial_54 rfl (lv_at hl 1 rfl) ?_
        refine z_lald (k := i) hx hb hK hP 3 2 rfl rfl (by omega) (by decide) dX1_takeSerial_55 ?_
        refine W.lcmp hx hb dX1_takeSerial_56 ?_
        refine lv_if_gt (tgt := 73) hx hb dX1_takeSerial_57 (by decide) (fun c_57 => ?_) (fun c_57 => ?_)
        · have c_57 : (bl i) < r_43 := (lg_cmp_gt _ _).mp c_57
          have i_57 : (bl i).toInt < r_43.toInt := zl_lt.mp c_57
          refine lv_aload_n hx hb dX1_takeSerial_73 rfl (lv_at hl 2 rfl) ?_
          refine va_get (D := D) (ci := 2) (v := .ref a4) (C := RX1) (T := TX1) (N := 5) hx hb hts k_1 hown hK hP 0 rfl rfl 3 (by decide) k_4 (fun _ h9 => h9) rfl dX1_takeSerial_74 ?_
          refine lv_iload_n hx hb dX1_takeSerial_77 rfl (lv_at hl 1 rfl) ?_
          refine lv_lload hx hb dX1_takeSerial_78 (lv_at hl 0 rfl) ?_
          refine z_last (k := i) hx hb hK hP hD hS 4 3 rfl rfl (by omega) (by decide) dX1_takeSerial_80 (fun H locs hP hD hS => ?_)
          have hP : va_P D vwCl [(h, .inr (2, [.ref a1, .ref a2, .ref a3, .ref a4, .int (nI n)])), (a1, .inl (k1, 50, .inl bo)), (a2, .inl (k2, 50, .inr (.inl bf))), (a3, .inl (k3, 50, .inr (.inl bl))), (a4, .inl (k4, 50, .inr (.inl (vp_updL g i r_43)))), (hq, .inr (1, [.ref q1, .ref q2, .int (nI nr)])), (q1, .inl (j1, 50, .inr (.inl qf))), (q2, .inl (j2, 50, .inr (.inl ql)))] H := hP
          have hD : va_D A [(h, .inr (2, [.ref a1, .ref a2, .ref a3, .ref a4, .int (nI n)])), (a1, .inl (k1, 50, .inl bo)), (a2, .inl (k2, 50, .inr (.inl bf))), (a3, .inl (k3, 50, .inr (.inl bl))), (a4, .inl (k4, 50, .inr (.inl (vp_updL g i r_43)))), (hq, .inr (1, [.ref q1, .ref q2, .int (nI nr)])), (q1, .inl (j1, 50, .inr (.inl qf))), (q2, .inl (j2, 50, .inr (.inl ql)))] := hD
          refine lv_iinc (v := (nI (i + 1))) (lv' := [(3, .int (nI (i + 1))), (4, .long r_43), (0, .ref h), (1, .int p0), (2, .ref hq)]) hx hb dX1_takeSerial_81 hl (k := 1) rfl (by first | exact nI_1 _ | rfl) (by decide) rfl (fun ls hl => ?_)
          refine lv_goto (tgt := 2) hx hb dX1_takeSerial_84 (by decide) ?_
          exact ih (i + 1, (vp_updL g i r_43)) _ _ _ (show n - (i + 1) < n - i from (by omega)) (zTkI_used hI (by omega) c_17 c_33 hw_43 c_57) hP hD hS (lv_sub hl [0, 2, 3, 4] rfl)
        · have c_57 : ¬ ((bl i) < r_43) := fun q9 => c_57 ((lg_cmp_gt _ _).mpr q9)
          have i_57 : ¬ ((bl i).toInt < r_43.toInt) := fun q9 => c_57 (zl_lt.mpr q9)
          refine lv_aload_n hx hb dX1_takeSerial_60 rfl (lv_at hl 2 rfl) ?_
          refine va_get (D := D) (ci := 2) (v := .ref a4) (C := RX1) (T := TX1) (N := 5) hx hb hts k_1 hown hK hP 0 rfl rfl 3 (by decide) k_4 (fun _ h9 => h9) rfl dX1_takeSerial_61 ?_
          refine lv_iload_n hx hb dX1_takeSerial_64 rfl (lv_at hl 1 rfl) ?_
          refine lv_lload hx hb dX1_takeSerial_65 (lv_at hl 0 rfl) ?_
          refine lv_lconst (v := 1) hx hb dX1_takeSerial_67 (by decide) ?_
          refine lv_ladd hx hb dX1_takeSerial_68 ?_
          refine z_last (k := i) hx hb hK hP hD hS 4 3 rfl rfl (by omega) (by decide) dX1_takeSerial_69 (fun H locs hP hD hS => ?_)
          have hP : va_P D vwCl [(h, .inr (2, [.ref a1, .ref a2, .ref a3, .ref a4, .int (nI n)])), (a1, .inl (k1, 50, .inl bo)), (a2, .inl (k2, 50, .inr (.inl bf))), (a3, .inl (k3, 50, .inr (.inl bl))), (a4, .inl (k4, 50, .inr (.inl (vp_updL g i (r_43 + 1))))), (hq, .inr (1, [.ref q1, .ref q2, .int (nI nr)])), (q1, .inl (j1, 50, .inr (.inl qf))), (q2, .inl (j2, 50, .inr (.inl ql)))] H := hP
          have hD : va_D A [(h, .inr (2, [.ref a1, .ref a2, .ref a3, .ref a4, .int (nI n)])), (a1, .inl (k1, 50, .inl bo)), (a2, .inl (k2, 50, .inr (.inl bf))), (a3, .inl (k3, 50, .inr (.inl bl))), (a4, .inl (k4, 50, .inr (.inl (vp_updL g i (r_43 + 1))))), (hq, .inr (1, [.ref q1, .ref q2, .int (nI nr)])), (q1, .inl (j1, 50, .inr (.inl qf))), (q2, .inl (j2, 50, .inr (.inl ql)))] := hD
          refine lv_lload hx hb dX1_takeSerial_70 (lv_at hl 0 rfl) ?_
          exact W.lret (v := r_43) hx hb hr (fun t9 ht9 hW9 => ⟨⟨_, (vp_updL g i (r_43 + 1)), rfl, zTkI_take hI (by omega) c_17 c_33 hw_43 c_57, by rw [ht9]; exact hP, va_K.moved hW9.alike hK, hD⟩, hS.F ht9⟩) hS.2.2 dX1_takeSerial_72
