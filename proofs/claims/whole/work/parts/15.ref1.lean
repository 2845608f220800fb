/-! the reference: rows of its own -/
def zG9 (n : Nat) (gn : Nat → Int64) (x : Int64) : Prop := ∃ k, k < n ∧ zser (gn k) = x
def zFul (nq : Nat) (qf ql : Nat → Int64) (ng : Nat) (gn : Nat → Int64) (a b : Int64) : Prop := ∀ x, a ≤ x → x ≤ b → zBar nq qf ql x ∨ zG9 ng gn x
def zFre (nq : Nat) (qf ql : Nat → Int64) (ng : Nat) (gn : Nat → Int64) (a b x : Int64) : Prop := a ≤ x ∧ x ≤ b ∧ ¬ zBar nq qf ql x ∧ ¬ zG9 ng gn x ∧ ∀ y, a ≤ y → y < x → zBar nq qf ql y ∨ zG9 ng gn y
def zBt (nq : Nat) (qf ql : Nat → Int64) (p r : Int64) : Prop := (r = -1 ∧ ∀ j, j < nq → ¬ (qf j ≤ p ∧ p ≤ ql j)) ∨ ∃ j, j < nq ∧ qf j ≤ p ∧ p ≤ ql j ∧ r = ql j
def zBtI (nq : Nat) (qf ql : Nat → Int64) (p : Int64) (i : Nat) (r : Int64) : Prop := i ≤ nq ∧ ((r = -1 ∧ ∀ j, j < i → ¬ (qf j ≤ p ∧ p ≤ ql j)) ∨ ∃ j, j < nq ∧ qf j ≤ p ∧ p ≤ ql j ∧ r = ql j)
theorem zBtI_hit {nq i : Nat} {qf ql : Nat → Int64} {p r : Int64} (h : zBtI nq qf ql p i r) (hi : i < nq) (hb : (qf i).toInt ≤ p.toInt ∧ p.toInt ≤ (ql i).toInt) : zBtI nq qf ql p (i + 1) (ql i) := ⟨hi, Or.inr ⟨i, hi, zl_le.mpr hb.1, zl_le.mpr hb.2, rfl⟩⟩
theorem zBtI_low {nq i : Nat} {qf ql : Nat → Int64} {p r : Int64} (h : zBtI nq qf ql p i r) (hi : i < nq) (h0 : 0 ≤ p.toInt) (hb : (qf i).toInt ≤ p.toInt ∧ p.toInt ≤ (ql i).toInt) (hl : (ql i).toInt ≤ r.toInt) : zBtI nq qf ql p (i + 1) r := by
  obtain ⟨h1, h2⟩ := h
  rcases h2 with ⟨e, -⟩ | h2
  · rw [e] at hl
    have : ((-1 : Int64)).toInt = -1 := by decide
    omega
  · exact ⟨hi, Or.inr h2⟩
theorem zBtI_no {nq i : Nat} {qf ql : Nat → Int64} {p r : Int64} (h : zBtI nq qf ql p i r) (hi : i < nq) (hb : ¬ ((qf i).toInt ≤ p.toInt ∧ p.toInt ≤ (ql i).toInt)) : zBtI nq qf ql p (i + 1) r := by
  obtain ⟨h1, h2⟩ := h
  rcases h2 with ⟨e, h2⟩ | h2
  · exact ⟨hi, Or.inl ⟨e, lt_s h2 (fun q => hb ⟨zl_le.mp q.1, zl_le.mp q.2⟩)⟩⟩
  · exact ⟨hi, Or.inr h2⟩
theorem zBtI_end {nq i : Nat} {qf ql : Nat → Int64} {p r : Int64} (h : zBtI nq qf ql p i r) (hi : nq ≤ i) : zBt nq qf ql p r := by
  obtain ⟨h1, h2⟩ := h
  rcases h2 with ⟨e, h2⟩ | h2
  · exact Or.inl ⟨e, fun j hj => h2 j (by omega)⟩
  · exact Or.inr h2
/-- the search for a free serial -/
def zFrI (nq : Nat) (qf ql : Nat → Int64) (ng : Nat) (gn : Nat → Int64) (a b x : Int64) (k : Nat) : Prop := k ≤ 1 ∧ a ≤ x ∧ x.toInt ≤ 27512614111 ∧ (∀ y, a ≤ y → y < x → zBar nq qf ql y ∨ zG9 ng gn y) ∧ (k = 0 → x ≤ b ∧ ¬ zBar nq qf ql x ∧ ¬ zG9 ng gn x)
theorem zFrI_bar {nq : Nat} {qf ql : Nat → Int64} {ng : Nat} {gn : Nat → Int64} {a b x e : Int64} {k : Nat} (ht : zTop nq ql) (h : zFrI nq qf ql ng gn a b x k) (hx : 0 ≤ x.toInt) (hb : zBt nq qf ql x e) (he : 0 ≤ e.toInt) : zFrI nq qf ql ng gn a b (e + 1) 1 ∧ (e + 1).toInt = e.toInt + 1 ∧ x.toInt ≤ e.toInt := by
  obtain ⟨h1, h2, h3, h4, h5⟩ := h
  rcases hb with ⟨q, -⟩ | ⟨j, g1, g2, g3, g4⟩
  · rw [q] at he; exact absurd he (by decide)
  · have := ht j g1
    have e1 : (e + 1).toInt = e.toInt + 1 := zl_add (by have := zl_lo e; simp; omega) (by rw [g4]; simp; omega)
    rw [zl_le] at g2 g3 h2
    rw [← g4] at this g3
    refine ⟨⟨Nat.le_refl _, zl_le.mpr (by omega), by omega, fun y q1 q2 => ?_, fun q => by omega⟩, e1, g3⟩
    by_cases hy : y < x
    · exact h4 y q1 hy
    · rw [zl_lt] at hy q2
      exact Or.inl ⟨j, g1, zl_le.mpr (by omega), zl_le.mpr (by rw [← g4]; omega)⟩
theorem zFrI_giv {nq : Nat} {qf ql : Nat → Int64} {ng : Nat} {gn : Nat → Int64} {a b x : Int64} {k : Nat} (h : zFrI nq qf ql ng gn a b x k) (hb : x.toInt < 20000000000) (hg : zG9 ng gn x) : zFrI nq qf ql ng gn a b (x + 1) 1 ∧ (x + 1).toInt = x.toInt + 1 := by
  obtain ⟨h1, h2, h3, h4, h5⟩ := h
  have e1 : (x + 1).toInt = x.toInt + 1 := zl_add (by have := zl_lo x; simp; omega) (by simp; omega)
  rw [zl_le] at h2
  refine ⟨⟨Nat.le_refl _, zl_le.mpr (by omega), by omega, fun y q1 q2 => ?_, fun q => by omega⟩, e1⟩
  by_cases hy : y < x
  · exact h4 y q1 hy
  · rw [zl_lt] at hy q2
    have : y = x := zl_eq.mpr (by omega)
    rw [this]; exact Or.inr hg
theorem zFrI_stop {nq : Nat} {qf ql : Nat → Int64} {ng : Nat} {gn : Nat → Int64} {a b x e : Int64} {k : Nat} (h : zFrI nq qf ql ng gn a b x k) (hx : x ≤ b) (hb : zBt nq qf ql x e) (he : ¬ 0 ≤ e.toInt) (h0 : 0 ≤ x.toInt) (hg : ¬ zG9 ng gn x) : zFrI nq qf ql ng gn a b x 0 := by
  obtain ⟨h1, h2, h3, h4, h5⟩ := h
  refine ⟨by omega, h2, h3, h4, fun _ => ⟨hx, ?_, hg⟩⟩
  rcases hb with ⟨q, hn⟩ | ⟨j, g1, g2, g3, g4⟩
  · exact fun ⟨j, q1, q2⟩ => hn j q1 q2
  · rw [zl_le] at g3; rw [g4] at he; omega

set_option maxHeartbeats 4000000 in
set_option maxRecDepth 100000 in
theorem mx_thrown (l : Launch) (D : va_G) (z : zG) (sz : Nat) (mo : Nat) (ma1 : Nat) (ma2 : Nat) (ma3 : Nat) (mb1 : Nat) (mb2 : Nat) (mg1 : Nat) (mg2 : Nat) (mt1 : Nat) (mn1 : Nat) (mn2 : Nat) (mn3 : Nat) (ml1 : Nat) (mw1 : Nat) (th : Int32) (nb : Nat) (nq : Nat) (ng : Nat) (nt : Nat) (nn : Nat)  : Met l yX7_thrown wsX7_thrown ({ frames := 0, cells := 0, slots := 0, locals := 0 }) (zPre D z [.ref mo] sz [(mo, .inr (7, [.int th, .int (nI nb), .ref ma1, .ref ma2, .ref ma3, .int (nI nq), .ref mb1, .ref mb2, .int (nI ng), .ref mg1, .ref mg2, .int (nI nt), .ref mt1, .int (nI nn), .ref mn1, .ref mn2, .ref mn3, .ref ml1, .ref mw1]))] [] (va_A [] sz)) (va_Qi (fun (r : Int32) (u : Unit) => r = th) zT (va_A [] sz)) 0 0 (va_A [] sz) := by
  refine Met.ofW (cc := cX7_thrown) (maxL := 1) (ret := (some .int)) (by decide) rfl ?_
  intro p e s m args below meth c s₁ B hml hv
  obtain ⟨rfl, hsz, hP, hK, hD, hC⟩ := hv
  have hx := B.exec
  have hb := B.bytes
  have hr := B.returns
  have hts := atoms_spec (ws := wsX7_thrown) B.pre
  have hown : s.vm.findClass RX7 = some m.cls := findClass_of_methodNamed B.named
  have hlocks := B.notSynchronized
  subst hsz
  generalize hAe : va_A [] s.heap.size = A at hC ⊢
  have hA : ∀ q : Nat, s.heap.size ≤ q → A q := fun q h => by rw [← hAe]; exact Or.inr h
  have hS : va_S A s.heap s.heap [] := va_S.rf
  have hP : va_P D vwCl [(mo, .inr (7, [.int th, .int (nI nb), .ref ma1, .ref ma2, .ref ma3, .int (nI nq), .ref mb1, .ref mb2, .int (nI ng), .ref mg1, .ref mg2, .int (nI nt), .ref mt1, .int (nI nn), .ref mn1, .ref mn2, .ref mn3, .ref ml1, .ref mw1]))] s.heap := hP
  have hl := lv_entry ([.ref mo]) (n := 1) (Nat.le_of_ble_eq_true rfl)
  rw [lg_entry_eq]
  generalize (lg_sl ([.ref mo]) ++ List.replicate (1 - (lg_sl ([.ref mo])).length) Slot.unset).toArray = ls at hl ⊢
  have hl : lv_has ls 1 [(0, .ref mo)] := hl
  refine zNameH (D := D) (A := A) (ws := [(mo, .inr (7, [.int th, .int (nI nb), .ref ma1, .ref ma2, .ref ma3, .int (nI nq), .ref mb1, .ref mb2, .int (nI ng), .ref mg1, .ref mg2, .int (nI nt), .ref mt1, .int (nI nn), .ref mn1, .ref mn2, .ref mn3, .ref ml1, .ref mw1]))]) (fun H locs hP hS => ?_) hP hS
  have k_0 := hts (.fieldLink RX7 55 "NumberRows2Model" "thrown" "I") (by decide +kernel)
  have k_1 : ∀ w ∈ wsX70, w ∈ wsX7_thrown := by decide +kernel
  refine lv_aload_n hx hb dX7_thrown_0 rfl (lv_at hl 0 rfl) ?_
  refine va_get (D := D) (ci := 7) (v := .int th) (C := RX7) (T := TX7) (N := 19) hx hb hts k_1 hown hK hP 0 rfl rfl 0 (by decide) k_0 (fun _ h9 => h9) rfl dX7_thrown_1 ?_
  exact W.iret (v := th) hx hb hr (fun t9 ht9 hW9 => ⟨⟨_, (), rfl, rfl, trivial⟩, hS.F ht9⟩) hS.2.2 dX7_thrown_4

set_option maxHeartbeats 4000000 in
set_option maxRecDepth 100000 in
theorem mx_isIn (l : Launch) (D : va_G) (z : zG) (sz : Nat) (p0 : Int64) (p1 : Int64) (p2 : Int64)  : Met l yX7_isIn wsX7_isIn ({ frames := 0, cells := 0, slots := 0, locals := 0 }) (zPre D z [.long p0, .long p1, .long p2] sz [] [] (va_A [] sz)) (va_Qi (fun (r : Int32) (u : Unit) => zB r (p1.toInt ≤ p0.toInt ∧ p0.toInt ≤ p2.toInt)) zT (va_A [] sz)) 0 0 (va_A [] sz) := by
  refine Met.ofW (cc := cX7_isIn) (maxL := 6) (ret := (some .boolean)) (by decide) rfl ?_
  intro p e s m args below meth c s₁ B hml hv
  obtain ⟨rfl, hsz, hP, hK, hD, hC⟩ := hv
  have hx := B.exec
  have hb := B.bytes
  have hr := B.returns
  have hts := atoms_spec (ws := wsX7_isIn) B.pre
  have hown : s.vm.findClass RX7 = some m.cls := findClass_of_methodNamed B.named
  have hlocks := B.notSynchronized
  subst hsz
  generalize hAe : va_A [] s.heap.size = A at hC ⊢
  have hA : ∀ q : Nat, s.heap.size ≤ q → A q := fun q h => by rw [← hAe]; exact Or.inr h
  have hS : va_S A s.heap s.heap [] := va_S.rf
  have hP : va_P D vwCl [] s.heap := hP
  have hl := lv_entry ([.long p0, .long p1, .long p2]) (n := 6) (Nat.le_of_ble_eq_true rfl)
  rw [lg_entry_eq]
  generalize (lg_sl ([.long p0, .long p1, .long p2]) ++ List.replicate (6 - (lg_sl ([.long p0, .long p1, .long p2])).length) Slot.unset).toArray = ls at hl ⊢
  have hl : lv_has ls 6 [(0, .long p0), (2, .long p1), (4, .long p2)] := hl
  refine zNameH (D := D) (A := A) (ws := []) (fun H locs hP hS => ?_) hP hS
  refine lv_lload_n hx hb dX7_isIn_0 rfl (lv_at hl 0 rfl) ?_
  refine lv_lload_n hx hb dX7_isIn_1 rfl (lv_at hl 1 rfl) ?_
  refine W.lcmp hx hb dX7_isIn_2 ?_
  refine lv_if_lt (tgt := 17) hx hb dX7_isIn_3 (by decide) (fun c_3 => ?_) (fun c_3 => ?_)
  · have c_3 : p0 < p1 := (lg_cmp_lt _ _).mp c_3
    have i_3 : p0.toInt < p1.toInt := zl_lt.mp c_3
    refine lv_iconst (v := 0) hx hb dX7_isIn_17 (by decide) ?_
    exact W.zret (v := 0) hx hb hr rfl (fun t9 ht9 hW9 => ⟨⟨_, (), rfl, zB_f (by omega), trivial⟩, hS.F ht9⟩) hS.2.2 dX7_isIn_18
  · have c_3 : ¬ (p0 < p1) := fun q9 => c_3 ((lg_cmp_lt _ _).mpr q9)
    have i_3 : ¬ (p0.toInt < p1.toInt) := fun q9 => c_3 (zl_lt.mpr q9)
    refine lv_lload_n hx hb dX7_isIn_6 rfl (lv_at hl 0 rfl) ?_
    refine lv_lload hx hb dX7_isIn_7 (lv_at hl 2 rfl) ?_
    refine W.lcmp hx hb dX7_isIn_9 ?_
    refine lv_if_gt (tgt := 17) hx hb dX7_isIn_10 (by decide) (fun c_10 => ?_) (fun c_10 => ?_)
    · have c_10 : p2 < p0 := (lg_cmp_gt _ _).mp c_10
      have i_10 : p2.toInt < p0.toInt := zl_lt.mp c_10
      refine lv_iconst (v := 0) hx hb dX7_isIn_17 (by decide) ?_
      exact W.zret (v := 0) hx hb hr rfl (fun t9 ht9 hW9 => ⟨⟨_, (), rfl, zB_f (by omega), trivial⟩, hS.F ht9⟩) hS.2.2 dX7_isIn_18
    · have c_10 : ¬ (p2 < p0) := fun q9 => c_10 ((lg_cmp_gt _ _).mpr q9)
      have i_10 : ¬ (p2.toInt < p0.toInt) := fun q9 => c_10 (zl_lt.mpr q9)
      refine lv_iconst (v := 1) hx hb dX7_isIn_13 (by decide) ?_
      refine lv_goto (tgt := 18) hx hb dX7_isIn_14 (by decide) ?_
      exact W.zret (v := 1) hx hb hr rfl (fun t9 ht9 hW9 => ⟨⟨_, (), rfl, zB_t (by omega), trivial⟩, hS.F ht9⟩) hS.2.2 dX7_isIn_18

set_option maxHeartbeats 4000000 in
set_option maxRecDepth 100000 in
theorem mx_isNumber (l : Launch) (D : va_G) (z : zG) (sz : Nat) (p0 : Int64)  : Met l yX7_isNumber wsX7_isNumber ({ frames := 0, cells := 0, slots := 0, locals := 0 }) (zPre D z [.long p0] sz [] [] (va_A [] sz)) (va_Qi (fun (r : Int32) (u : Unit) => zB r (27512614111 ≤ p0.toInt ∧ p0.toInt < 302638755221)) zT (va_A [] sz)) 0 0 (va_A [] sz) := by
  refine Met.ofW (cc := cX7_isNumber) (maxL := 2) (ret := (some .boolean)) (by decide) rfl ?_
  intro p e s m args below meth c s₁ B hml hv
  obtain ⟨rfl, hsz, hP, hK, hD, hC⟩ := hv
  have hx := B.exec
  have hb := B.bytes
  have hr := B.returns
  have hts := atoms_spec (ws := wsX7_isNumber) B.pre
  have hown : s.vm.findClass RX7 = some m.cls := findClass_of_methodNamed B.named
  have hlocks := B.notSynchronized
  subst hsz
  generalize hAe : va_A [] s.heap.size = A at hC ⊢
  have hA : ∀ q : Nat, s.heap.size ≤ q → A q := fun q h => by rw [← hAe]; exact Or.inr h
  have hS : va_S A s.heap s.heap [] := va_S.rf
  have hP : va_P D vwCl [] s.heap := hP
  have hl := lv_entry ([.long p0]) (n := 2) (Nat.le_of_ble_eq_true rfl)
  rw [lg_entry_eq]
  generalize (lg_sl ([.long p0]) ++ List.replicate (2 - (lg_sl ([.long p0])).length) Slot.unset).toArray = ls at hl ⊢
  have hl : lv_has ls 2 [(0, .long p0)] := hl
  refine zNameH (D := D) (A := A) (ws := []) (fun H locs hP hS => ?_) hP hS
  have k_0 := hts (.constantLong RX7 77 (27512614111)) (by decide +kernel)
  have k_1 := hts (.constantLong RX7 95 (302638755221)) (by decide +kernel)
  refine lv_lload_n hx hb dX7_isNumber_0 rfl (lv_at hl 0 rfl) ?_
  refine lv_ldc2 hx hb hown k_0 dX7_isNumber_1 ?_
  refine W.lcmp hx hb dX7_isNumber_4 ?_
  refine lv_if_lt (tgt := 20) hx hb dX7_isNumber_5 (by decide) (fun c_5 => ?_) (fun c_5 => ?_)
  · have c_5 : p0 < 27512614111 := (lg_cmp_lt _ _).mp c_5
    have i_5 : p0.toInt < 27512614111 := zl_lt.mp c_5
    refine lv_iconst (v := 0) hx hb dX7_isNumber_20 (by decide) ?_
    exact W.zret (v := 0) hx hb hr rfl (fun t9 ht9 hW9 => ⟨⟨_, (), rfl, zB_f (by omega), trivial⟩, hS.F ht9⟩) hS.2.2 dX7_isNumber_21
  · have c_5 : ¬ (p0 < 27512614111) := fun q9 => c_5 ((lg_cmp_lt _ _).mpr q9)
    have i_5 : ¬ (p0.toInt < 27512614111) := fun q9 => c_5 (zl_lt.mpr q9)
    refine lv_lload_n hx hb dX7_isNumber_8 rfl (lv_at hl 0 rfl) ?_
    refine lv_ldc2 hx hb hown k_1 dX7_isNumber_9 ?_
    refine W.lcmp hx hb dX7_isNumber_12 ?_
    refine lv_if_ge (tgt := 20) hx hb dX7_isNumber_13 (by decide) (fun c_13 => ?_) (fun c_13 => ?_)
    · have c_13 : 302638755221 ≤ p0 := (lg_cmp_ge _ _).mp c_13
      have i_13 : 302638755221 ≤ p0.toInt := zl_le.mp c_13
      refine lv_iconst (v := 0) hx hb dX7_isNumber_20 (by decide) ?_
      exact W.zret (v := 0) hx hb hr rfl (fun t9 ht9 hW9 => ⟨⟨_, (), rfl, zB_f (by omega), trivial⟩, hS.F ht9⟩) hS.2.2 dX7_isNumber_21
    · have c_13 : ¬ (302638755221 ≤ p0) := fun q9 => c_13 ((lg_cmp_ge _ _).mpr q9)
      have i_13 : ¬ (302638755221 ≤ p0.toInt) := fun q9 => c_13 (zl_le.mpr q9)
      refine lv_iconst (v := 1) hx hb dX7_isNumber_16 (by decide) ?_
      refine lv_goto (tgt := 21) hx hb dX7_isNumber_17 (by decide) ?_
      exact W.zret (v := 1) hx hb hr rfl (fun t9 ht9 hW9 => ⟨⟨_, (), rfl, zB_t (by omega), trivial⟩, hS.F ht9⟩) hS.2.2 dX7_isNumber_21

set_option maxHeartbeats 4000000 in
set_option maxRecDepth 100000 in
theorem mx_barredTo (l : Launch) (D : va_G) (z : zG) (sz : Nat) (mo : Nat) (ma1 : Nat) (ma2 : Nat) (ma3 : Nat) (mb1 : Nat) (mb2 : Nat) (mg1 : Nat) (mg2 : Nat) (mt1 : Nat) (mn1 : Nat) (mn2 : Nat) (mn3 : Nat) (ml1 : Nat) (mw1 : Nat) (th : Int32) (nb : Nat) (nq : Nat) (ng : Nat) (nt : Nat) (nn : Nat) (jb1 : ClassId) (qf : Nat → Int64) (jb2 : ClassId) (ql : Nat → Int64) (p0 : Int64) (hq : nq ≤ 50) (h0 : 0 ≤ p0.toInt) : Met l yX7_barredTo wsX7_barredTo ({ frames := 1, cells := 0, slots := 0, locals := 25 }) (zPre D z [.ref mo, .long p0] sz [(mo, .inr (7, [.int th, .int (nI nb), .ref ma1, .ref ma2, .ref ma3, .int (nI nq), .ref mb1, .ref mb2, .int (nI ng), .ref mg1, .ref mg2, .int (nI nt), .ref mt1, .int (nI nn), .ref mn1, .ref mn2, .ref mn3, .ref ml1, .ref mw1])), (mb1, .inl (jb1, 50, .inr (.inl qf))), (mb2, .inl (jb2, 50, .inr (.inl ql)))] [(jb1, .long), (jb2, .long)] (va_A [] sz)) (va_Ql (fun (r : Int64) (u : Unit) => zBt nq qf ql p0 r) zT (va_A [] sz)) 0 0 (va_A [] sz) := by
  refine Met.ofW (cc := cX7_barredTo) (maxL := 6) (ret := (some .long)) (by decide) rfl ?_
  intro p e s m args below meth c s₁ B hml hv
  obtain ⟨rfl, hsz, hP, hK, hD, hC⟩ := hv
  have hx := B.exec
  have hb := B.bytes
  have hr := B.returns
  have hts := atoms_spec (ws := wsX7_barredTo) B.pre
  have hown : s.vm.findClass RX7 = some m.cls := findClass_of_methodNamed B.named
  have hlocks := B.notSynchronized
  subst hsz
  generalize hAe : va_A [] s.heap.size = A at hC ⊢
  have hA : ∀ q : Nat, s.heap.size ≤ q → A q := fun q h => by rw [← hAe]; exact Or.inr h
  have hS : va_S A s.heap s.heap [] := va_S.rf
  have hP : va_P D vwCl [(mo, .inr (7, [.int th, .int (nI nb), .ref ma1, .ref ma2, .ref ma3, .int (nI nq), .ref mb1, .ref mb2, .int (nI ng), .ref mg1, .ref mg2, .int (nI nt), .ref mt1, .int (nI nn), .ref mn1, .ref mn2, .ref mn3, .ref ml1, .ref mw1])), (mb1, .inl (jb1, 50, .inr (.inl qf))), (mb2, .inl (jb2, 50, .inr (.inl ql)))] s.heap := hP
  have hl := lv_entry ([.ref mo, .long p0]) (n := 6) (Nat.le_of_ble_eq_true rfl)
  rw [lg_entry_eq]
  generalize (lg_sl ([.ref mo, .long p0]) ++ List.replicate (6 - (lg_sl ([.ref mo, .long p0])).length) Slot.unset).toArray = ls at hl ⊢
  have hl : lv_has ls 6 [(0, .ref mo), (1, .long p0)] := hl
  refine zNameH (D := D) (A := A) (ws := [(mo, .inr (7, [.int th, .int (nI nb), .ref ma1, .ref ma2, .ref ma3, .int (nI nq), .ref mb1, .ref mb2, .int (nI ng), .ref mg1, .ref mg2, .int (nI nt), .ref mt1, .int (nI nn), .ref mn1, .ref mn2, .ref mn3, .ref ml1, .ref mw1])), (mb1, .inl (jb1, 50, .inr (.inl qf))), (mb2, .inl (jb2, 50, .inr (.inl ql)))]) (fun H locs hP hS => ?_) hP hS
  have k_0 := hts (.constantLong RX7 69 (-1)) (by decide +kernel)
  have k_1 := hts (.fieldLink RX7 71 "NumberRows2Model" "barred" "I") (by decide +kernel)
  have k_2 : ∀ w ∈ wsX70, w ∈ wsX7_barredTo := by decide +kernel
  have k_3 := hts (.fieldLink RX7 20 "NumberRows2Model" "barFroms" "[J") (by decide +kernel)
  have k_4 := hts (.fieldLink RX7 23 "NumberRows2Model" "barTos" "[J") (by decide +kernel)
  refine lv_ldc2 hx hb hown k_0 dX7_barredTo_0 ?_
  refine lv_lstore_n (lv' := [(3, .long (-1)), (0, .ref mo), (1, .long p0)]) hx hb dX7_barredTo_3 rfl hl (by decide) rfl (fun ls hl => ?_)
  refine lv_iconst (v := 0) hx hb dX7_barredTo_4 (by decide) ?_
  refine lv_istore (lv' := [(5, .int 0), (3, .long (-1)), (0, .ref mo), (1, .long p0)]) hx hb dX7_barredTo_5 hl (by decide) rfl (fun ls hl => ?_)
  refine zLoop (σ := Nat × Int64) (nL := 6) (μ := fun (x : Nat × Int64) => match x with | (i, e9) => nq - i) (lv := fun (x : Nat × Int64) => match x with | (i, e9) => [(5, .int (nI i)), (0, .ref mo), (1, .long p0), (3, .long e9)]) (wf := fun (x : Nat × Int64) => match x with | (i, e9) => [(mo, .inr (7, [.int th, .int (nI nb), .ref ma1, .ref ma2, .ref ma3, .int (nI nq), .ref mb1, .ref mb2, .int (nI ng), .ref mg1, .ref mg2, .int (nI nt), .ref mt1, .int (nI nn), .ref mn1, .ref mn2, .ref mn3, .ref ml1, .ref mw1])), (mb1, .inl (jb1, 50, .inr (.inl qf))), (mb2, .inl (jb2, 50, .inr (.inl ql)))]) (I := fun (x : Nat × Int64) => match x with | (i, e9) => zBtI nq qf ql p0 i e9) (fun x H locs ls hI hP hD hS hl ih => ?_) (0, (-1)) ⟨Nat.zero_le _, Or.inl ⟨rfl, fun j hj => absurd hj (Nat.not_lt_zero j)⟩⟩ hP hD hS (lv_sub hl [0, 2, 3, 1] rfl)
  obtain ⟨i, e9⟩ := x
  have hI : zBtI nq qf ql p0 i e9 := hI
  have hl : lv_has ls 6 [(5, .int (nI i)), (0, .ref mo), (1, .long p0), (3, .long e9)] := hl
  have hP : va_P D vwCl [(mo, .inr (7, [.int th, .int (nI nb), .ref ma1, .ref ma2, .ref ma3, .int (nI nq), .ref mb1, .ref mb2, .int (nI ng), .ref mg1, .ref mg2, .int (nI nt), .ref mt1, .int (nI nn), .ref mn1, .ref mn2, .ref mn3, .ref ml1, .ref mw1])), (mb1, .inl (jb1, 50, .inr (.inl qf))), (mb2, .inl (jb2, 50, .inr (.inl ql)))] H := hP
  have hD : va_D (fun _ => True) [(mo, .inr (7, [.int th, .int (nI nb), .ref ma1, .ref ma2, .ref ma3, .int (nI nq), .ref mb1, .ref mb2, .int (nI ng), .ref mg1, .ref mg2, .int (nI nt), .ref mt1, .int (nI nn), .ref mn1, .ref mn2, .ref mn3, .ref ml1, .ref mw1])), (mb1, .inl (jb1, 50, .inr (.inl qf))), (mb2, .inl (jb2, 50, .inr (.inl ql)))] := hD
  have h1 := hI.1
  refine lv_iload hx hb dX7_barredTo_7 (lv_at hl 0 rfl) ?_
  refine lv_aload_n hx hb dX7_barredTo_9 rfl (lv_at hl 1 rfl) ?_
  refine va_get (D := D) (ci := 7) (v := .int (nI nq)) (C := RX7) (T := TX7) (N := 19) hx hb hts k_2 hown hK hP 0 rfl rfl 5 (by decide) k_1 (fun _ h9 => h9) rfl dX7_barredTo_10 ?_
  refine lv_icmp_ge (tgt := 67) hx hb dX7_barredTo_13 (by decide) (fun c_13 => ?_) (fun c_13 => ?_)
  · have c_13 : nq ≤ i := (nI_leI (a := nq) (b := i) (by omega) (by omega)).mp c_13
    refine lv_lload_n hx hb dX7_barredTo_67 rfl (lv_at hl 3 rfl) ?_
    exact W.lret (v := e9) hx hb hr (fun t9 ht9 hW9 => ⟨⟨_, (), rfl, zBtI_end hI (by omega), trivial⟩, hS.F ht9⟩) hS.2.2 dX7_barredTo_68
  · have c_13 : ¬ (nq ≤ i) := fun q9 => c_13 ((nI_leI (a := nq) (b := i) (by omega) (by omega)).mpr q9)
    refine lv_lload_n hx hb dX7_barredTo_16 rfl (lv_at hl 2 rfl) ?_
    refine lv_aload_n hx hb dX7_barredTo_17 rfl (lv_at hl 1 rfl) ?_
    refine va_get (D := D) (ci := 7) (v := .ref mb1) (C := RX7) (T := TX7) (N := 19) hx hb hts k_2 hown hK hP 0 rfl rfl 6 (by decide) k_3 (fun _ h9 => h9) rfl dX7_barredTo_18 ?_
    refine lv_iload hx hb dX7_barredTo_21 (lv_at hl 0 rfl) ?_
    refine z_lald (k := i) hx hb hK hP 1 0 rfl rfl (by omega) (by decide) dX7_barredTo_23 ?_
    refine lv_aload_n hx hb dX7_barredTo_24 rfl (lv_at hl 1 rfl) ?_
    refine va_get (D := D) (ci := 7) (v := .ref mb2) (C := RX7) (T := TX7) (N := 19) hx hb hts k_2 hown hK hP 0 rfl rfl 7 (by decide) k_4 (fun _ h9 => h9) rfl dX7_barredTo_25 ?_
    refine lv_iload hx hb dX7_barredTo_28 (lv_at hl 0 rfl) ?_
    refine z_lald (k := i) hx hb hK hP 2 1 rfl rfl (by omega) (by decide) dX7_barredTo_30 ?_
    refine zRo_i (va_runS (As := [.long p0, .long (qf i), .long (ql i)]) (rest := []) ⟨hx, hb, hml, hown, hts⟩ (mx_isIn l D z H.size p0 (qf i) (ql i) ) (va_cwS 3 hts gX7_barredTo_X7_isIn rfl rfl rfl (by decide +kernel) ⟨Nat.le_of_ble_eq_true rfl, Nat.le_of_ble_eq_true rfl⟩) ⟨zPre_blind, (zPre_mk (wc := []) (tc := []) hP hK hD hC hS [] (by decide) rfl rfl [] rfl (zro_free hS hA))⟩ rfl rfl hl.1 rfl (lv_room (Nat.le_of_ble_eq_true rfl)) dX7_barredTo_31 ⟨Nat.zero_le _, Nat.zero_le _⟩) hS hA hP (fun r_31 H locs hw hP hS => ?_)
    have hw_31 : zB r_31 ((qf i).toInt ≤ p0.toInt ∧ p0.toInt ≤ (ql i).toInt) := hw
    refine lv_if_eq (tgt := 59) hx hb dX7_barredTo_34 (by decide) (fun c_34 => ?_) (fun c_34 => ?_)
    · have i_34 : r_31.toInt = 0 := zi_eq.mp c_34
      refine lv_lload_n hx hb dX7_barredTo_59 rfl (lv_at hl 3 rfl) ?_
      refine lv_lstore_n (lv' := [(3, .long e9), (5, .int (nI i)), (0, .ref mo), (1, .long p0)]) hx hb dX7_barredTo_60 rfl hl (by decide) rfl (fun ls hl => ?_)
      refine lv_iinc (v := (nI (i + 1))) (lv' := [(5, .int (nI (i + 1))), (3, .long e9), (0, .ref mo), (1, .long p0)]) hx hb dX7_barredTo_61 hl (k := 1) rfl (by first | exact nI_1 _ | rfl) (by decide) rfl (fun ls hl => ?_)
      refine lv_goto (tgt := 7) hx hb dX7_barredTo_64 (by decide) ?_
      exact ih (i + 1, e9) _ _ _ (show nq - (i + 1) < nq - i from (by omega)) (zBtI_no hI (by omega) (zB_eq hw_31 c_34)) hP hD hS (lv_sub hl [0, 2, 3, 1] rfl)
    · have i_34 : ¬ (r_31.toInt = 0) := fun q9 => c_34 (zi_eq.mpr q9)
      refine lv_aload_n hx hb dX7_barredTo_37 rfl (lv_at hl 1 rfl) ?_
      refine va_get (D := D) (ci := 7) (v := .ref mb2) (C := RX7) (T := TX7) (N := 19) hx hb hts k_2 hown hK hP 0 rfl rfl 7 (by decide) k_4 (fun _ h9 => h9) rfl dX7_barredTo_38 ?_
      refine lv_iload hx hb dX7_barredTo_41 (lv_at hl 0 rfl) ?_
      refine z_lald (k := i) hx hb hK hP 2 1 rfl rfl (by omega) (by decide) dX7_barredTo_43 ?_
      refine lv_lload_n hx hb dX7_barredTo_44 rfl (lv_at hl 3 rfl) ?_
      refine W.lcmp hx hb dX7_barredTo_45 ?_
      refine lv_if_le (tgt := 59) hx hb dX7_barredTo_46 (by decide) (fun c_46 => ?_) (fun c_46 => ?_)
      · have c_46 : (ql i) ≤ e9 := (lg_cmp_le _ _).mp c_46
        have i_46 : (ql i).toInt ≤ e9.toInt := zl_le.mp c_46
        refine lv_lload_n hx hb dX7_barredTo_59 rfl (lv_at hl 3 rfl) ?_
        refine lv_lstore_n (lv' := [(3, .long e9), (5, .int (nI i)), (0, .ref mo), (1, .long p0)]) hx hb dX7_barredTo_60 rfl hl (by decide) rfl (fun ls hl => ?_)
        refine lv_iinc (v := (nI (i + 1))) (lv' := [(5, .int (nI (i + 1))), (3, .long e9), (0, .ref mo), (1, .long p0)]) hx hb dX7_barredTo_61 hl (k := 1) rfl (by first | exact nI_1 _ | rfl) (by decide) rfl (fun ls hl => ?_)
        refine lv_goto (tgt := 7) hx hb dX7_barredTo_64 (by decide) ?_
        exact ih (i + 1, e9) _ _ _ (show nq - (i + 1) < nq - i from (by omega)) (zBtI_low hI (by omega) h0 (zB_ne hw_31 c_34) i_46) hP hD hS (lv_sub hl [0, 2, 3, 1] rfl)
      · have c_46 : ¬ ((ql i) ≤ e9) := fun q9 => c_46 ((lg_cmp_le _ _).mpr q9)
        have i_46 : ¬ ((ql i).toInt ≤ e9.toInt) := fun q9 => c_46 (zl_le.mpr q9)
        refine lv_aload_n hx hb dX7_barredTo_49 rfl (lv_at hl 1 rfl) ?_
        refine va_get (D := D) (ci := 7) (v := .ref mb2) (C := RX7) (T := TX7) (N := 19) hx hb hts k_2 hown hK hP 0 rfl rfl 7 (by decide) k_4 (fun _ h9 => h9) rfl dX7_barredTo_50 ?_
        refine lv_iload hx hb dX7_barredTo_53 (lv_at hl 0 rfl) ?_
        refine z_lald (k := i) hx hb hK hP 2 1 rfl rfl (by omega) (by decide) dX7_barredTo_55 ?_
        refine lv_goto (tgt := 60) hx hb dX7_barredTo_56 (by decide) ?_
        refine lv_lstore_n (lv' := [(3, .long (ql i)), (5, .int (nI i)), (0, .ref mo), (1, .long p0)]) hx hb dX7_barredTo_60 rfl hl (by decide) rfl (fun ls hl => ?_)
        refine lv_iinc (v := (nI (i + 1))) (lv' := [(5, .int (nI (i + 1))), (3, .long (ql i)), (0, .ref mo), (1, .long p0)]) hx hb dX7_barredTo_61 hl (k := 1) rfl (by first | exact nI_1 _ | rfl) (by decide) rfl (fun ls hl => ?_)
        refine lv_goto (tgt := 7) hx hb dX7_barredTo_64 (by decide) ?_
        exact ih (i + 1, ql i) _ _ _ (show nq - (i + 1) < nq - i from (by omega)) (zBtI_hit hI (by omega) (zB_ne hw_31 c_34)) hP hD hS (lv_sub hl [0, 2, 3, 1] rfl)

set_option maxHeartbeats 4000000 in
set_option maxRecDepth 100000 in
theorem mx_wasGiven (l : Launch) (D : va_G) (z : zG) (sz : Nat) (mo : Nat) (ma1 : Nat) (ma2 : Nat) (ma3 : Nat) (mb1 : Nat) (mb2 : Nat) (mg1 : Nat) (mg2 : Nat) (mt1 : Nat) (mn1 : Nat) (mn2 : Nat) (mn3 : Nat) (ml1 : Nat) (mw1 : Nat) (th : Int32) (nb : Nat) (nq : Nat) (ng : Nat) (nt : Nat) (nn : Nat) (jg1 : ClassId) (gn : Nat → Int64) (p0 : Int64) (hg : ng ≤ 4200) : Met l yX7_wasGiven wsX7_wasGiven ({ frames := 0, cells := 0, slots := 0, locals := 0 }) (zPre D z [.ref mo, .long p0] sz [(mo, .inr (7, [.int th, .int (nI nb), .ref ma1, .ref ma2, .ref ma3, .int (nI nq), .ref mb1, .ref mb2, .int (nI ng), .ref mg1, .ref mg2, .int (nI nt), .ref mt1, .int (nI nn), .ref mn1, .ref mn2, .ref mn3, .ref ml1, .ref mw1])), (mg1, .inl (jg1, 4200, .inr (.inl gn)))] [(jg1, .long)] (va_A [] sz)) (va_Qi (fun (r : Int32) (u : Unit) => zB r (zG9 ng gn p0)) zT (va_A [] sz)) 0 0 (va_A [] sz) := by
  refine Met.ofW (cc := cX7_wasGiven) (maxL := 4) (ret := (some .boolean)) (by decide) rfl ?_
  intro p e s m args below meth c s₁ B hml hv
  obtain ⟨rfl, hsz, hP, hK, hD, hC⟩ := hv
  have hx := B.exec
  have hb := B.bytes
  have hr := B.returns
  have hts := atoms_spec (ws := wsX7_wasGiven) B.pre
  have hown : s.vm.findClass RX7 = some m.cls := findClass_of_methodNamed B.named
  have hlocks := B.notSynchronized
  subst hsz
  generalize hAe : va_A [] s.heap.size = A at hC ⊢
  have hA : ∀ q : Nat, s.heap.size ≤ q → A q := fun q h => by rw [← hAe]; exact Or.inr h
  have hS : va_S A s.heap s.heap [] := va_S.rf
  have hP : va_P D vwCl [(mo, .inr (7, [.int th, .int (nI nb), .ref ma1, .ref ma2, .ref ma3, .int (nI nq), .ref mb1, .ref mb2, .int (nI ng), .ref mg1, .ref mg2, .int (nI nt), .ref mt1, .int (nI nn), .ref mn1, .ref mn2, .ref mn3, .ref ml1, .ref mw1])), (mg1, .inl (jg1, 4200, .inr (.inl gn)))] s.heap := hP
  have hl := lv_entry ([.ref mo, .long p0]) (n := 4) (Nat.le_of_ble_eq_true rfl)
  rw [lg_entry_eq]
  generalize (lg_sl ([.ref mo, .long p0]) ++ List.replicate (4 - (lg_sl ([.ref mo, .long p0])).length) Slot.unset).toArray = ls at hl ⊢
  have hl : lv_has ls 4 [(0, .ref mo), (1, .long p0)] := hl
  refine zNameH (D := D) (A := A) (ws := [(mo, .inr (7, [.int th, .int (nI nb), .ref ma1, .ref ma2, .ref ma3, .int (nI nq), .ref mb1, .ref mb2, .int (nI ng), .ref mg1, .ref mg2, .int (nI nt), .ref mt1, .int (nI nn), .ref mn1, .ref mn2, .ref mn3, .ref ml1, .ref mw1])), (mg1, .inl (jg1, 4200, .inr (.inl gn)))]) (fun H locs hP hS => ?_) hP hS
  have k_0 := hts (.fieldLink RX7 74 "NumberRows2Model" "gave" "I") (by decide +kernel)
  have k_1 : ∀ w ∈ wsX70, w ∈ wsX7_wasGiven := by decide +kernel
  have k_2 := hts (.fieldLink RX7 26 "NumberRows2Model" "numbers" "[J") (by decide +kernel)
  have k_3 := hts (.constantLong RX7 77 (27512614111)) (by decide +kernel)
  refine lv_iconst (v := 0) hx hb dX7_wasGiven_0 (by decide) ?_
  refine lv_istore_n (lv' := [(3, .int 0), (0, .ref mo), (1, .long p0)]) hx hb dX7_wasGiven_1 rfl hl (by decide) rfl (fun ls hl => ?_)
  refine zLoop (σ := Nat) (nL := 4) (μ := fun (i : Nat) => ng - i) (lv := fun (i : Nat) => [(3, .int (nI i)), (0, .ref mo), (1, .long p0)]) (wf := fun (i : Nat) => [(mo, .inr (7, [.int th, .int (nI nb), .ref ma1, .ref ma2, .ref ma3, .int (nI nq), .ref mb1, .ref mb2, .int (nI ng), .ref mg1, .ref mg2, .int (nI nt), .ref mt1, .int (nI nn), .ref mn1, .ref mn2, .ref mn3, .ref ml1, .ref mw1])), (mg1, .inl (jg1, 4200, .inr (.inl gn)))]) (I := fun (i : Nat) => i ≤ ng ∧ ∀ j, j < i → ¬ zser (gn j) = p0) (fun x H locs ls hI hP hD hS hl ih => ?_) 0 ⟨Nat.zero_le _, fun j hj => absurd hj (Nat.not_lt_zero j)⟩ hP hD hS (lv_sub hl [0, 1, 2] rfl)
  obtain ⟨i, rfl⟩ : ∃ y9, y9 = x := ⟨_, rfl⟩
  have hI : i ≤ ng ∧ ∀ j, j < i → ¬ zser (gn j) = p0 := hI
  have hl : lv_has ls 4 [(3, .int (nI i)), (0, .ref mo), (1, .long p0)] := hl
  have hP : va_P D vwCl [(mo, .inr (7, [.int th, .int (nI nb), .ref ma1, .ref ma2, .ref ma3, .int (nI nq), .ref mb1, .ref mb2, .int (nI ng), .ref mg1, .ref mg2, .int (nI nt), .ref mt1, .int (nI nn), .ref mn1, .ref mn2, .ref mn3, .ref ml1, .ref mw1])), (mg1, .inl (jg1, 4200, .inr (.inl gn)))] H := hP
  have hD : va_D (fun _ => True) [(mo, .inr (7, [.int th, .int (nI nb), .ref ma1, .ref ma2, .ref ma3, .int (nI nq), .ref mb1, .ref mb2, .int (nI ng), .ref mg1, .ref mg2, .int (nI nt), .ref mt1, .int (nI nn), .ref mn1, .ref mn2, .ref mn3, .ref ml1, .ref mw1])), (mg1, .inl (jg1, 4200, .inr (.inl gn)))] := hD
  have h1 := hI.1
  refine lv_iload_n hx hb dX7_wasGiven_2 rfl (lv_at hl 0 rfl) ?_
  refine lv_aload_n hx hb dX7_wasGiven_3 rfl (lv_at hl 1 rfl) ?_
  refine va_get (D := D) (ci := 7) (v := .int (nI ng)) (C := RX7) (T := TX7) (N := 19) hx hb hts k_1 hown hK hP 0 rfl rfl 8 (by decide) k_0 (fun _ h9 => h9) rfl dX7_wasGiven_4 ?_
  refine lv_icmp_ge (tgt := 33) hx hb dX7_wasGiven_7 (by decide) (fun c_7 => ?_) (fun c_7 => ?_)
  · have c_7 : ng ≤ i := (nI_leI (a := ng) (b := i) (by omega) (by omega)).mp c_7
    refine lv_iconst (v := 0) hx hb dX7_wasGiven_33 (by decide) ?_
    exact W.zret (v := 0) hx hb hr rfl (fun t9 ht9 hW9 => ⟨⟨_, (), rfl, zB_f (fun ⟨j, q1, q2⟩ => hI.2 j (by omega) q2), trivial⟩, hS.F ht9⟩) hS.2.2 dX7_wasGiven_34
  · have c_7 : ¬ (ng ≤ i) := fun q9 => c_7 ((nI_leI (a := ng) (b := i) (by omega) (by omega)).mpr q9)
    refine lv_aload_n hx hb dX7_wasGiven_10 rfl (lv_at hl 1 rfl) ?_
    refine va_get (D := D) (ci := 7) (v := .ref mg1) (C := RX7) (T := TX7) (N := 19) hx hb hts k_1 hown hK hP 0 rfl rfl 9 (by decide) k_2 (fun _ h9 => h9) rfl dX7_wasGiven_11 ?_
    refine lv_iload_n hx hb dX7_wasGiven_14 rfl (lv_at hl 0 rfl) ?_
    refine z_lald (k := i) hx hb hK hP 1 0 rfl rfl (by omega) (by decide) dX7_wasGiven_15 ?_
    refine lv_ldc2 hx hb hown k_3 dX7_wasGiven_16 ?_
    refine lv_lrem hx hb dX7_wasGiven_19 (by decide) ?_
    refine lv_lload_n hx hb dX7_wasGiven_20 rfl (lv_at hl 2 rfl) ?_
    refine W.lcmp hx hb dX7_wasGiven_21 ?_
    refine lv_if_ne (tgt := 27) hx hb dX7_wasGiven_22 (by decide) (fun c_22 => ?_) (fun c_22 => ?_)
    · have c_22 : ¬ (((gn i) - (gn i) / 27512614111 * 27512614111) = p0) := fun q9 => c_22 ((lg_cmp_eq _ _).mpr q9)
      have i_22 : ¬ (((gn i) - (gn i) / 27512614111 * 27512614111).toInt = p0.toInt) := fun q9 => c_22 (zl_eq.mpr q9)
      refine lv_iinc (v := (nI (i + 1))) (lv' := [(3, .int (nI (i + 1))), (0, .ref mo), (1, .long p0)]) hx hb dX7_wasGiven_27 hl (k := 0) rfl (by first | exact nI_1 _ | rfl) (by decide) rfl (fun ls hl => ?_)
      refine lv_goto (tgt := 2) hx hb dX7_wasGiven_30 (by decide) ?_
      exact ih (i + 1) _ _ _ (show ng - (i + 1) < ng - i from (by omega)) ⟨by omega, lt_s hI.2 c_22⟩ hP hD hS (lv_sub hl [0, 1, 2] rfl)
    · have c_22 : ((gn i) - (gn i) / 27512614111 * 27512614111) = p0 := (lg_cmp_eq _ _).mp c_22
      have i_22 : ((gn i) - (gn i) / 27512614111 * 27512614111).toInt = p0.toInt := zl_eq.mp c_22
      refine lv_iconst (v := 1) hx hb dX7_wasGiven_25 (by decide) ?_
      exact W.zret (v := 1) hx hb hr rfl (fun t9 ht9 hW9 => ⟨⟨_, (), rfl, zB_t ⟨i, by omega, c_22⟩, trivial⟩, hS.F ht9⟩) hS.2.2 dX7_wasGiven_26

set_option maxHeartbeats 8000000 in
set_option maxRecDepth 100000 in
theorem mx_free (l : Launch) (D : va_G) (z : zG) (sz : Nat) (mo : Nat) (ma1 : Nat) (ma2 : Nat) (ma3 : Nat) (mb1 : Nat) (mb2 : Nat) (mg1 : Nat) (mg2 : Nat) (mt1 : Nat) (mn1 : Nat) (mn2 : Nat) (mn3 : Nat) (ml1 : Nat) (mw1 : Nat) (th : Int32) (nb : Nat) (nq : Nat) (ng : Nat) (nt : Nat) (nn : Nat) (ja2 : ClassId) (bf : Nat → Int64) (ja3 : ClassId) (bl : Nat → Int64) (jb1 : ClassId) (qf : Nat → Int64) (jb2 : ClassId) (ql : Nat → Int64) (jg1 : ClassId) (gn : Nat → Int64) (i : Nat) (hi : i < 50) (hq : nq ≤ 50) (hg : ng ≤ 4200) (ht : zTop nq ql) (hb0 : 0 ≤ (bf i).toInt ∧ (bf i).toInt ≤ (bl i).toInt ∧ (bl i).toInt < 20000000000) : Met l yX7_free wsX7_free ({ frames := 2, cells := 0, slots := 0, locals := 50 }) (zPre D z [.ref mo, .int (nI i)] sz [(mo, .inr (7, [.int th, .int (nI nb), .ref ma1, .ref ma2, .ref ma3, .int (nI nq), .ref mb1, .ref mb2, .int (nI ng), .ref mg1, .ref mg2, .int (nI nt), .ref mt1, .int (nI nn), .ref mn1, .ref mn2, .ref mn3, .ref ml1, .ref mw1])), (ma2, .inl (ja2, 50, .inr (.inl bf))), (ma3, .inl (ja3, 50, .inr (.inl bl))), (mb1, .inl (jb1, 50, .inr (.inl qf))), (mb2, .inl (jb2, 50, .inr (.inl ql))), (mg1, .inl (jg1, 4200, .inr (.inl gn)))] [(ja2, .long), (ja3, .long), (jb1, .long), (jb2, .long), (jg1, .long)] (va_A [] sz)) (va_Ql (fun (r : Int64) (u : Unit) => zFre nq qf ql ng gn (bf i) (bl i) r ∨ (zFul nq qf ql ng gn (bf i) (bl i) ∧ r = -1)) zT (va_A [] sz)) 0 0 (va_A [] sz) := by
  refine Met.ofW (cc := cX7_free) (maxL := 7) (ret := (some .long)) (by decide) rfl ?_
  intro p e s m args below meth c s₁ B hml hv
  obtain ⟨rfl, hsz, hP, hK, hD, hC⟩ := hv
  have hx := B.exec
  have hb := B.bytes
  have hr := B.returns
  have hts := atoms_spec (ws := wsX7_free) B.pre
  have hown : s.vm.findClass RX7 = some m.cls := findClass_of_methodNamed B.named
  have hlocks := B.notSynchronized
  subst hsz
  generalize hAe : va_A [] s.heap.size = A at hC ⊢
  have hA : ∀ q : Nat, s.heap.size ≤ q → A q := fun q h => by rw [← hAe]; exact Or.inr h
  have hS : va_S A s.heap s.heap [] := va_S.rf
  have hP : va_P D vwCl [(mo, .inr (7, [.int th, .int (nI nb), .ref ma1, .ref ma2, .ref ma3, .int (nI nq), .ref mb1, .ref mb2, .int (nI ng), .ref mg1, .ref mg2, .int (nI nt), .ref mt1, .int (nI nn), .ref mn1, .ref mn2, .ref mn3, .ref ml1, .ref mw1])), (ma2, .inl (ja2, 50, .inr (.inl bf))), (ma3, .inl (ja3, 50, .inr (.inl bl))), (mb1, .inl (jb1, 50, .inr (.inl qf))), (mb2, .inl (jb2, 50, .inr (.inl ql))), (mg1, .inl (jg1, 4200, .inr (.inl gn)))] s.heap := hP
  have hl := lv_entry ([.ref mo, .int (nI i)]) (n := 7) (Nat.le_of_ble_eq_true rfl)
  rw [lg_entry_eq]
  generalize (lg_sl ([.ref mo, .int (nI i)]) ++ List.replicate (7 - (lg_sl ([.ref mo, .int (nI i)])).length) Slot.unset).toArray = ls at hl ⊢
  have hl : lv_has ls 7 [(0, .ref mo), (1, .int (nI i))] := hl
  refine zNameH (D := D) (A := A) (ws := [(mo, .inr (7, [.int th, .int (nI nb), .ref ma1, .ref ma2, .ref ma3, .int (nI nq), .ref mb1, .ref mb2, .int (nI ng), .ref mg1, .ref mg2, .int (nI nt), .ref mt1, .int (nI nn), .ref mn1, .ref mn2, .ref mn3, .ref ml1, .ref mw1])), (ma2, .inl (ja2, 50, .inr (.inl bf))), (ma3, .inl (ja3, 50, .inr (.inl bl))), (mb1, .inl (jb1, 50, .inr (.inl qf))), (mb2, .inl (jb2, 50, .inr (.inl ql))), (mg1, .inl (jg1, 4200, .inr (.inl gn)))]) (fun H locs hP hS => ?_) hP hS
  have k_0 := hts (.fieldLink RX7 13 "NumberRows2Model" "froms" "[J") (by decide +kernel)
  have k_1 : ∀ w ∈ wsX70, w ∈ wsX7_free := by decide +kernel
  have k_2 := hts (.fieldLink RX7 17 "NumberRows2Model" "tos" "[J") (by decide +kernel)
  have k_3 := hts (.constantLong RX7 69 (-1)) (by decide +kernel)
  refine lv_aload_n hx hb dX7_free_0 rfl (lv_at hl 0 rfl) ?_
  refine va_get (D := D) (ci := 7) (v := .ref ma2) (C := RX7) (T := TX7) (N := 19) hx hb hts k_1 hown hK hP 0 rfl rfl 3 (by decide) k_0 (fun _ h9 => h9) rfl dX7_free_1 ?_
  refine lv_iload_n hx hb dX7_free_4 rfl (lv_at hl 1 rfl) ?_
  refine z_lald (k := i) hx hb hK hP 1 0 rfl rfl (by omega) (by decide) dX7_free_5 ?_
  refine lv_lstore_n (lv' := [(2, .long (bf i)), (0, .ref mo), (1, .int (nI i))]) hx hb dX7_free_6 rfl hl (by decide) rfl (fun ls hl => ?_)
  refine lv_iconst (v := 1) hx hb dX7_free_7 (by decide) ?_
  refine lv_istore (lv' := [(4, .int 1), (2, .long (bf i)), (0, .ref mo), (1, .int (nI i))]) hx hb dX7_free_8 hl (by decide) rfl (fun ls hl => ?_)
  refine zLoop (σ := Int64 × Nat) (nL := 7) (μ := fun (x : Int64 × Nat) => match x with | (x, k) => 2 * (27512614112 - x.toInt).toNat + k) (lv := fun (x : Int64 × Nat) => match x with | (x, k) => [(4, .int (nI k)), (0, .ref mo), (1, .int (nI i)), (2, .long x)]) (wf := fun (x : Int64 × Nat) => match x with | (x, k) => [(mo, .inr (7, [.int th, .int (nI nb), .ref ma1, .ref ma2, .ref ma3, .int (nI nq), .ref mb1, .ref mb2, .int (nI ng), .ref mg1, .ref mg2, .int (nI nt), .ref mt1, .int (nI nn), .ref mn1, .ref mn2, .ref mn3, .ref ml1, .ref mw1])), (ma2, .inl (ja2, 50, .inr (.inl bf))), (ma3, .inl (ja3, 50, .inr (.inl bl))), (mb1, .inl (jb1, 50, .inr (.inl qf))), (mb2, .inl (jb2, 50, .inr (.inl ql))), (mg1, .inl (jg1, 4200, .inr (.inl gn)))]) (I := fun (x : Int64 × Nat) => match x with | (x, k) => zFrI nq qf ql ng gn (bf i) (bl i) x k) (fun x H locs ls hI hP hD hS hl ih => ?_) (bf i, 1) ⟨Nat.le_refl _, zl_le.mpr (Int.le_refl _), by omega, fun y q1 q2 => by rw [zl_le] at q1; rw [zl_lt] at q2; omega, fun q => by omega⟩ hP hD hS (lv_sub hl [0, 2, 3, 1] rfl)
  obtain ⟨x, k⟩ := x
  have hI : zFrI nq qf ql ng gn (bf i) (bl i) x k := hI
  have hl : lv_has ls 7 [(4, .int (nI k)), (0, .ref mo), (1, .int (nI i)), (2, .long x)] := hl
  have hP : va_P D vwCl [(mo, .inr (7, [.int th, .int (nI nb), .ref ma1, .ref ma2, .ref ma3, .int (nI nq), .ref mb1, .ref mb2, .int (nI ng), .ref mg1, .ref mg2, .int (nI nt), .ref mt1, .int (nI nn), .ref mn1, .ref mn2, .ref mn3, .ref ml1, .ref mw1])), (ma2, .inl (ja2, 50, .inr (.inl bf))), (ma3, .inl (ja3, 50, .inr (.inl bl))), (mb1, .inl (jb1, 50, .inr (.inl qf))), (mb2, .inl (jb2, 50, .inr (.inl ql))), (mg1, .inl (jg1, 4200, .inr (.inl gn)))] H := hP
  have hD : va_D (fun _ => True) [(mo, .inr (7, [.int th, .int (nI nb), .ref ma1, .ref ma2, .ref ma3, .int (nI nq), .ref mb1, .ref mb2, .int (nI ng), .ref mg1, .ref mg2, .int (nI nt), .ref mt1, .int (nI nn), .ref mn1, .ref mn2, .ref mn3, .ref ml1, .ref mw1])), (ma2, .inl (ja2, 50, .inr (.inl bf))), (ma3, .inl (ja3, 50, .inr (.inl bl))), (mb1, .inl (jb1, 50, .inr (.inl qf))), (mb2, .inl (jb2, 50, .inr (.inl ql))), (mg1, .inl (jg1, 4200, .inr (.inl gn)))] := hD
  have h1 := hI.1
  have h0 : 0 ≤ x.toInt := by have := zl_le.mp hI.2.1; omega
  have h3 := hI.2.2.1
  refine lv_iload hx hb dX7_free_10 (lv_at hl 0 rfl) ?_
  refine lv_if_eq (tgt := 85) hx hb dX7_free_12 (by decide) (fun c_12 => ?_) (fun c_12 => ?_)
  · have c_12 : k = 0 := (nI_eq (a := k) (b := 0) (by omega) (by omega)).mp c_12
    refine lv_lload_n hx hb dX7_free_85 rfl (lv_at hl 3 rfl) ?_
    refine lv_aload_n hx hb dX7_free_86 rfl (lv_at hl 1 rfl) ?_
    refine va_get (D := D) (ci := 7) (v := .ref ma3) (C := RX7) (T := TX7) (N := 19) hx hb hts k_1 hown hK hP 0 rfl rfl 4 (by decide) k_2 (fun _ h9 => h9) rfl dX7_free_87 ?_
    refine lv_iload_n hx hb dX7_free_90 rfl (lv_at hl 2 rfl) ?_
    refine z_lald (k := i) hx hb hK hP 2 1 rfl rfl (by omega) (by decide) dX7_free_91 ?_
    refine W.lcmp hx hb dX7_free_92 ?_
    refine lv_if_gt (tgt := 100) hx hb dX7_free_93 (by decide) (fun c_93 => ?_) (fun c_93 => ?_)
    · have c_93 : (bl i) < x := (lg_cmp_gt _ _).mp c_93
      have i_93 : (bl i).toInt < x.toInt := zl_lt.mp c_93
      exact absurd c_93 (Int64.not_lt.mpr (hI.2.2.2.2 c_12).1)
    · have c_93 : ¬ ((bl i) < x) := fun q9 => c_93 ((lg_cmp_gt _ _).mpr q9)
      have i_93 : ¬ ((bl i).toInt < x.toInt) := fun q9 => c_93 (zl_lt.mpr q9)
      refine lv_lload_n hx hb dX7_free_96 rfl (lv_at hl 3 rfl) ?_
      refine lv_goto (tgt := 103) hx hb dX7_free_97 (by decide) ?_
      exact W.lret (v := x) hx hb hr (fun t9 ht9 hW9 => ⟨⟨_, (), rfl, Or.inl ⟨hI.2.1, (hI.2.2.2.2 c_12).1, (hI.2.2.2.2 c_12).2.1, (hI.2.2.2.2 c_12).2.2, hI.2.2.2.1⟩, trivial⟩, hS.F ht9⟩) hS.2.2 dX7_free_103
  · have c_12 : ¬ (k = 0) := fun q9 => c_12 ((nI_eq (a := k) (b := 0) (by omega) (by omega)).mpr q9)
    refine lv_lload_n hx hb dX7_free_15 rfl (lv_at hl 3 rfl) ?_
    refine lv_aload_n hx hb dX7_free_16 rfl (lv_at hl 1 rfl) ?_
    refine va_get (D := D) (ci := 7) (v := .ref ma3) (C := RX7) (T := TX7) (N := 19) hx hb hts k_1 hown hK hP 0 rfl rfl 4 (by decide) k_2 (fun _ h9 => h9) rfl dX7_free_17 ?_
    refine lv_iload_n hx hb dX7_free_20 rfl (lv_at hl 2 rfl) ?_
    refine z_lald (k := i) hx hb hK hP 2 1 rfl rfl (by omega) (by decide) dX7_free_21 ?_
    refine W.lcmp hx hb dX7_free_22 ?_
    refine lv_if_gt (tgt := 85) hx hb dX7_free_23 (by decide) (fun c_23 => ?_) (fun c_23 => ?_)
    · have c_23 : (bl i) < x := (lg_cmp_gt _ _).mp c_23
      have i_23 : (bl i).toInt < x.toInt := zl_lt.mp c_23
      refine lv_lload_n hx hb dX7_free_85 rfl (lv_at hl 3 rfl) ?_
      refine lv_aload_n hx hb dX7_free_86 rfl (lv_at hl 1 rfl) ?_
      refine va_get (D := D) (ci := 7) (v := .ref ma3) (C := RX7) (T := TX7) (N := 19) hx hb hts k_1 hown hK hP 0 rfl rfl 4 (by decide) k_2 (fun _ h9 => h9) rfl dX7_free_87 ?_
      refine lv_iload_n hx hb dX7_free_90 rfl (lv_at hl 2 rfl) ?_
      refine z_lald (k := i) hx hb hK hP 2 1 rfl rfl (by omega) (by decide) dX7_free_91 ?_
      refine W.lcmp hx hb dX7_free_92 ?_
      refine lv_if_gt (tgt := 100) hx hb dX7_free_93 (by decide) (fun c_93 => ?_) (fun c_93 => ?_)
      · have c_93 : (bl i) < x := (lg_cmp_gt _ _).mp c_93
        have i_93 : (bl i).toInt < x.toInt := zl_lt.mp c_93
        refine lv_ldc2 hx hb hown k_3 dX7_free_100 ?_
        exact W.lret (v := (-1)) hx hb hr (fun t9 ht9 hW9 => ⟨⟨_, (), rfl, Or.inr ⟨fun y q1 q2 => hI.2.2.2.1 y q1 (zl_lt.mpr (by rw [zl_le] at q2; omega)), rfl⟩, trivial⟩, hS.F ht9⟩) hS.2.2 dX7_free_103
      · have c_93 : ¬ ((bl i) < x) := fun q9 => c_93 ((lg_cmp_gt _ _).mpr q9)
        have i_93 : ¬ ((bl i).toInt < x.toInt) := fun q9 => c_93 (zl_lt.mpr q9)
        exact absurd c_23 c_93
    · have c_23 : ¬ ((bl i) < x) := fun q9 => c_23 ((lg_cmp_gt _ _).mpr q9)
      have i_23 : ¬ ((bl i).toInt < x.toInt) := fun q9 => c_23 (zl_lt.mpr q9)
      refine lv_aload_n hx hb dX7_free_26 rfl (lv_at hl 1 rfl) ?_
      refine lv_lload_n hx hb dX7_free_27 rfl (lv_at hl 3 rfl) ?_
      refine zRo_l (va_runV (As := [.long x]) (rest := []) ⟨hx, hb, hml, hown, hts⟩ (mx_barredTo l D z H.size mo ma1 ma2 ma3 mb1 mb2 mg1 mg2 mt1 mn1 mn2 mn3 ml1 mw1 th nb nq ng nt nn jb1 qf jb2 ql x (by omega) h0) (cwV 1 hts gX7_free_X7_barredTo rfl rfl rfl (by decide +kernel) ⟨Nat.le_of_ble_eq_true rfl, Nat.le_of_ble_eq_true rfl⟩) ⟨zPre_blind, va_recv hK hP (ci := 7) (q0 := 0) rfl rfl, (zPre_mk (wc := [(mo, .inr (7, [.int th, .int (nI nb), .ref ma1, .ref ma2, .ref ma3, .int (nI nq), .ref mb1, .ref mb2, .int (nI ng), .ref mg1, .ref mg2, .int (nI nt), .ref mt1, .int (nI nn), .ref mn1, .ref mn2, .ref mn3, .ref ml1, .ref mw1])), (mb1, .inl (jb1, 50, .inr (.inl qf))), (mb2, .inl (jb2, 50, .inr (.inl ql)))]) (tc := [(jb1, .long), (jb2, .long)]) hP hK hD hC hS [0, 3, 4] (by decide) rfl rfl [2, 3] rfl (zro_free hS hA))⟩ rfl rfl hl.1 rfl (lv_room (Nat.le_of_ble_eq_true rfl)) dX7_free_28 ⟨Nat.zero_le _, Nat.zero_le _⟩) hS hA hP (fun r_28 H locs hw hP hS => ?_)
      have hw_28 : zBt nq qf ql x r_28 := hw
      refine lv_lstore (lv' := [(5, .long r_28), (4, .int (nI k)), (0, .ref mo), (1, .int (nI i)), (2, .long x)]) hx hb dX7_free_31 hl (by decide) rfl (fun ls hl => ?_)
      refine lv_lload hx hb dX7_free_33 (lv_at hl 0 rfl) ?_
      refine lv_lconst (v := 0) hx hb dX7_free_35 (by decide) ?_
      refine W.lcmp hx hb dX7_free_36 ?_
      refine lv_if_ge (tgt := 48) hx hb dX7_free_37 (by decide) (fun c_37 => ?_) (fun c_37 => ?_)
      · have c_37 : 0 ≤ r_28 := (lg_cmp_ge _ _).mp c_37
        have i_37 : 0 ≤ r_28.toInt := zl_le.mp c_37
        refine lv_iconst (v := 1) hx hb dX7_free_48 (by decide) ?_
        refine lv_goto (tgt := 53) hx hb dX7_free_49 (by decide) ?_
        refine lv_istore (lv' := [(4, .int 1), (5, .long r_28), (0, .ref mo), (1, .int (nI i)), (2, .long x)]) hx hb dX7_free_53 hl (by decide) rfl (fun ls hl => ?_)
        refine lv_lload hx hb dX7_free_55 (lv_at hl 1 rfl) ?_
        refine lv_lconst (v := 0) hx hb dX7_free_57 (by decide) ?_
        refine W.lcmp hx hb dX7_free_58 ?_
        refine lv_if_lt (tgt := 69) hx hb dX7_free_59 (by decide) (fun c_59 => ?_) (fun c_59 => ?_)
        · have c_59 : r_28 < 0 := (lg_cmp_lt _ _).mp c_59
          have i_59 : r_28.toInt < 0 := zl_lt.mp c_59
          exact absurd i_59 (by omega)
        · have c_59 : ¬ (r_28 < 0) := fun q9 => c_59 ((lg_cmp_lt _ _).mpr q9)
          have i_59 : ¬ (r_28.toInt < 0) := fun q9 => c_59 (zl_lt.mpr q9)
          refine lv_lload hx hb dX7_free_62 (lv_at hl 1 rfl) ?_
          refine lv_lconst (v := 1) hx hb dX7_free_64 (by decide) ?_
          refine lv_ladd hx hb dX7_free_65 ?_
          refine lv_goto (tgt := 81) hx hb dX7_free_66 (by decide) ?_
          refine lv_lstore_n (lv' := [(2, .long (r_28 + 1)), (4, .int 1), (5, .long r_28), (0, .ref mo), (1, .int (nI i))]) hx hb dX7_free_81 rfl hl (by decide) rfl (fun ls hl => ?_)
          refine lv_goto (tgt := 10) hx hb dX7_free_82 (by decide) ?_
          exact ih (r_28 + 1, 1) _ _ _ (show 2 * (27512614112 - (r_28 + 1).toInt).toNat + 1 < 2 * (27512614112 - x.toInt).toNat + k from (by have := (zFrI_bar ht hI h0 hw_28 i_37).2; omega)) (zFrI_bar ht hI h0 hw_28 i_37).1 hP hD hS (lv_sub hl [1, 3, 4, 0] rfl)
      · have c_37 : ¬ (0 ≤ r_28) := fun q9 => c_37 ((lg_cmp_ge _ _).mpr q9)
        have i_37 : ¬ (0 ≤ r_28.toInt) := fun q9 => c_37 (zl_le.mpr q9)
        refine lv_aload_n hx hb dX7_free_40 rfl (lv_at hl 2 rfl) ?_
        refine lv_lload_n hx hb dX7_free_41 rfl (lv_at hl 4 rfl) ?_
        refine zRo_i (va_runV (As := [.long x]) (rest := []) ⟨hx, hb, hml, hown, hts⟩ (mx_wasGiven l D z H.size mo ma1 ma2 ma3 mb1 mb2 mg1 mg2 mt1 mn1 mn2 mn3 ml1 mw1 th nb nq ng nt nn jg1 gn x (by omega)) (cwV 1 hts gX7_free_X7_wasGiven rfl rfl rfl (by decide +kernel) ⟨Nat.le_of_ble_eq_true rfl, Nat.le_of_ble_eq_true rfl⟩) ⟨zPre_blind, va_recv hK hP (ci := 7) (q0 := 0) rfl rfl, (zPre_mk (wc := [(mo, .inr (7, [.int th, .int (nI nb), .ref ma1, .ref ma2, .ref ma3, .int (nI nq), .ref mb1, .ref mb2, .int (nI ng), .ref mg1, .ref mg2, .int (nI nt), .ref mt1, .int (nI nn), .ref mn1, .ref mn2, .ref mn3, .ref ml1, .ref mw1])), (mg1, .inl (jg1, 4200, .inr (.inl gn)))]) (tc := [(jg1, .long)]) hP hK hD hC hS [0, 5] (by decide) rfl rfl [4] rfl (zro_free hS hA))⟩ rfl rfl hl.1 rfl (lv_room (Nat.le_of_ble_eq_true rfl)) dX7_free_42 ⟨Nat.zero_le _, Nat.zero_le _⟩) hS hA hP (fun r_42 H locs hw hP hS => ?_)
        have hw_42 : zB r_42 (zG9 ng gn x) := hw
        refine lv_if_eq (tgt := 52) hx hb dX7_free_45 (by decide) (fun c_45 => ?_) (fun c_45 => ?_)
        · have i_45 : r_42.toInt = 0 := zi_eq.mp c_45
          refine lv_iconst (v := 0) hx hb dX7_free_52 (by decide) ?_
          refine lv_istore (lv' := [(4, .int 0), (5, .long r_28), (0, .ref mo), (1, .int (nI i)), (2, .long x)]) hx hb dX7_free_53 hl (by decide) rfl (fun ls hl => ?_)
          refine lv_lload hx hb dX7_free_55 (lv_at hl 1 rfl) ?_
          refine lv_lconst (v := 0) hx hb dX7_free_57 (by decide) ?_
          refine W.lcmp hx hb dX7_free_58 ?_
          refine lv_if_lt (tgt := 69) hx hb dX7_free_59 (by decide) (fun c_59 => ?_) (fun c_59 => ?_)
          · have c_59 : r_28 < 0 := (lg_cmp_lt _ _).mp c_59
            have i_59 : r_28.toInt < 0 := zl_lt.mp c_59
            refine lv_iload hx hb dX7_free_69 (lv_at hl 0 rfl) ?_
            refine lv_if_eq (tgt := 80) hx hb dX7_free_71 (by decide) (fun c_71 => ?_) (fun c_71 => ?_)
            · refine lv_lload_n hx hb dX7_free_80 rfl (lv_at hl 4 rfl) ?_
              refine lv_lstore_n (lv' := [(2, .long x), (4, .int 0), (5, .long r_28), (0, .ref mo), (1, .int (nI i))]) hx hb dX7_free_81 rfl hl (by decide) rfl (fun ls hl => ?_)
              refine lv_goto (tgt := 10) hx hb dX7_free_82 (by decide) ?_
              exact ih (x, 0) _ _ _ (show 2 * (27512614112 - x.toInt).toNat + 0 < 2 * (27512614112 - x.toInt).toNat + k from (by omega)) (zFrI_stop hI (Int64.not_lt.mp c_23) hw_28 i_37 h0 (zB_eq hw_42 c_45)) hP hD hS (lv_sub hl [1, 3, 4, 0] rfl)
            · exact absurd c_71 (fun q => q rfl)
          · have c_59 : ¬ (r_28 < 0) := fun q9 => c_59 ((lg_cmp_lt _ _).mpr q9)
            have i_59 : ¬ (r_28.toInt < 0) := fun q9 => c_59 (zl_lt.mpr q9)
            exact absurd i_37 (by omega)
        · have i_45 : ¬ (r_42.toInt = 0) := fun q9 => c_45 (zi_eq.mpr q9)
          refine lv_iconst (v := 1) hx hb dX7_free_48 (by decide) ?_
          refine lv_goto (tgt := 53) hx hb dX7_free_49 (by decide) ?_
          refine lv_istore (lv' := [(4, .int 1), (5, .long r_28), (0, .ref mo), (1, .int (nI i)), (2, .long x)]) hx hb dX7_free_53 hl (by decide) rfl (fun ls hl => ?_)
          refine lv_lload hx hb dX7_free_55 (lv_at hl 1 rfl) ?_
          refine lv_lconst (v := 0) hx hb dX7_free_57 (by decide) ?_
          refine W.lcmp hx hb dX7_free_58 ?_
          refine lv_if_lt (tgt := 69) hx hb dX7_free_59 (by decide) (fun c_59 => ?_) (fun c_59 => ?_)
          · have c_59 : r_28 < 0 := (lg_cmp_lt _ _).mp c_59
            have i_59 : r_28.toInt < 0 := zl_lt.mp c_59
            refine lv_iload hx hb dX7_free_69 (lv_at hl 0 rfl) ?_
            refine lv_if_eq (tgt := 80) hx hb dX7_free_71 (by decide) (fun c_71 => ?_) (fun c_71 => ?_)
            · exact absurd c_71 (by decide)
            · refine lv_lload_n hx hb dX7_free_74 rfl (lv_at hl 4 rfl) ?_
              refine lv_lconst (v := 1) hx hb dX7_free_75 (by decide) ?_
              refine lv_ladd hx hb dX7_free_76 ?_
              refine lv_goto (tgt := 81) hx hb dX7_free_77 (by decide) ?_
              refine lv_lstore_n (lv' := [(2, .long (x + 1)), (4, .int 1), (5, .long r_28), (0, .ref mo), (1, .int (nI i))]) hx hb dX7_free_81 rfl hl (by decide) rfl (fun ls hl => ?_)
              refine lv_goto (tgt := 10) hx hb dX7_free_82 (by decide) ?_
              exact ih (x + 1, 1) _ _ _ (show 2 * (27512614112 - (x + 1).toInt).toNat + 1 < 2 * (27512614112 - x.toInt).toNat + k from (by have := (zFrI_giv hI (by omega) (zB_ne hw_42 c_45)).2; omega)) (zFrI_giv hI (by omega) (zB_ne hw_42 c_45)).1 hP hD hS (lv_sub hl [1, 3, 4, 0] rfl)
          · have c_59 : ¬ (r_28 < 0) := fun q9 => c_59 ((lg_cmp_lt _ _).mpr q9)
            have i_59 : ¬ (r_28.toInt < 0) := fun q9 => c_59 (zl_lt.mpr q9)
            exact absurd i_37 (by omega)
