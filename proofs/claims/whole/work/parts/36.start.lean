/-! the start: what the Statement gives of it -/
set_option maxHeartbeats 8000000 in
set_option maxRecDepth 100000 in
theorem zN_mem : ∀ w ∈ zNest, w ∈ lw_tbl ∧ w.onTables = true := by decide +kernel
set_option maxHeartbeats 8000000 in
set_option maxRecDepth 100000 in
theorem zW_mem : ∀ j, j < 9 → Cond.eq (.elem (.static "NumberRows2$Form" "WEIGHTS" "[I") (.int (Int32.ofNat j))) (.int (zWt j)) ∈ flatC (Jvm.Cond.and given_1 narrow_1) := by decide +kernel
set_option maxHeartbeats 8000000 in
set_option maxRecDepth 100000 in
theorem zL_mem : ∀ j, j < 31 → Cond.eq (.elem (.field (.string "NumberRows2$Form" 11) "java/lang/String" "value" "[B") (.int (Int32.ofNat j))) (.int (zLt j)) ∈ flatC (Jvm.Cond.and given_1 narrow_1) := by decide +kernel
set_option maxHeartbeats 8000000 in
set_option maxRecDepth 100000 in
theorem zC_start {s : State} {b : Nat} {A : Nat → Prop} (hA9 : ∀ a : Nat, a < s.heap.size → ¬ A a) (hts0 : ∀ w ∈ lw_tbl, w.before #[Value.ref b] s = true) (hgv : (Jvm.Cond.and given_1 narrow_1).before #[Value.ref b] s = true) : ∃ z : zG, zC z A s := by
  have hs := flat_of_before _ hgv
  obtain ⟨t, ht, hT⟩ := va_Tof (s := s) (args := #[Value.ref b]) (tm := .static "NumberRows2$Form" "WEIGHTS" "[I") (ty := .int) (N := 9) (f := fun j => .int (zWt j)) (A := A) (by decide) (hs _ (by decide +kernel)) (va_eqt (hs _ (by decide +kernel))) (fun j hj => va_eqt (hs _ (zW_mem j hj))) hA9
  obtain ⟨q, c, cA, kA, q1, q2, q3, q4, q5, q6, -⟩ := Cond.exactly_spec (args := #[Value.ref b]) (first := s) (o := none) (s := s) (idx := []) (t := .string "NumberRows2$Form" 11) (cls := "java/lang/String") (hs _ (by decide +kernel))
  obtain ⟨t2, ht2, hT2⟩ := va_Tof (s := s) (args := #[Value.ref b]) (tm := .field (.string "NumberRows2$Form" 11) "java/lang/String" "value" "[B") (ty := .byte) (N := 31) (f := fun j => .int (zLt j)) (A := A) (by decide) (hs _ (by decide +kernel)) (va_eqt (hs _ (by decide +kernel))) (fun j hj => va_eqt (hs _ (zL_mem j hj))) hA9
  obtain ⟨q', c', cA', kA', g1, -⟩ := Cond.exactly_spec (args := #[Value.ref b]) (first := s) (o := none) (s := s) (idx := []) (t := .string "NumberRows2" 93) (cls := "java/lang/String") (hs _ (by decide +kernel))
  refine ⟨(t, q, t2, q'), fun w hw => va_Nw.of (zN_mem w hw).2 (hts0 w (zN_mem w hw).1), vk_R.of (hts0 _ (by decide +kernel)) q1, vk_R.of (hts0 _ (by decide +kernel)) g1, ?_⟩
  refine ⟨va_Zref (hts0 _ (by decide +kernel)) (hts0 _ (by decide +kernel)) ht hA9, hT, va_Zof (hts0 _ (by decide +kernel)) (hts0 _ (by decide +kernel)) (va_eqi (hs _ (by decide +kernel))) hA9, va_Zqof (hts0 _ (by decide +kernel)) (hts0 _ (by decide +kernel)) (hs _ (by decide +kernel)) hA9, ?_, ?_, ?_, hT2, va_Zqof (hts0 _ (by decide +kernel)) (hts0 _ (by decide +kernel)) (hs _ (by decide +kernel)) hA9, va_Zqof (hts0 _ (by decide +kernel)) (hts0 _ (by decide +kernel)) (hs _ (by decide +kernel)) hA9⟩
  · exact ⟨cA, q3, q5, by rw [q6]; exact q2, hA9 q (Array.getElem?_eq_some_iff.mp q3).1⟩
  · exact vk_OFof q1 (va_eqt (hs _ (by decide +kernel))) hA9
  · exact vk_OFof q1 ht2 hA9
def zRefs : List Cond := [.isRef (.static "java/lang/Throwable" "UNASSIGNED_STACK" zSte), .isRef (.static "java/lang/Throwable" "SUPPRESSED_SENTINEL" "Ljava/util/List;")]
def zLays : List Cond := [.laysStatic "java/lang/Throwable" "UNASSIGNED_STACK" zSte, .laysStatic "java/lang/Throwable" "SUPPRESSED_SENTINEL" "Ljava/util/List;"]
set_option maxHeartbeats 8000000 in
set_option maxRecDepth 100000 in
theorem zOwn_mem : ∀ w ∈ zOwn, (w ∈ lw_tbl ∧ w.onTables = true) ∨ w ∈ zRefs ∨ (w ∈ lw_tbl ∧ w ∈ zLays) := by decide +kernel
theorem zTA_start {s : State} {b : Nat} {A : Nat → Prop} {z : zG} (hC : zC z A s) (hts0 : ∀ w ∈ lw_tbl, w.before #[Value.ref b] s = true) : zTA s := by
  intro w hw a
  have hz := hC.2.2.2
  rcases zOwn_mem w hw with ⟨h1, h2⟩ | h | ⟨h1, h2⟩
  · exact va_tabs h2 rfl (hts0 w h1)
  · simp only [zRefs, List.mem_cons, List.not_mem_nil, or_false] at h
    rcases h with rfl | rfl
    · exact zisref hz.2.2.2.2.2.2.2.2.1
    · exact zisref hz.2.2.2.2.2.2.2.2.2
  · simp only [zLays, List.mem_cons, List.not_mem_nil, or_false] at h2
    rcases h2 with rfl | rfl
    · exact zlays (U := s) (hts0 _ h1) hz.2.2.2.2.2.2.2.2.1 va_S.rf (Vm.Alike.refl s.vm) rfl
    · exact zlays (U := s) (hts0 _ h1) hz.2.2.2.2.2.2.2.2.2 va_S.rf (Vm.Alike.refl s.vm) rfl
set_option maxHeartbeats 8000000 in
set_option maxRecDepth 100000 in
theorem zD_start {s : State} {b : Nat} (hts0 : ∀ w ∈ lw_tbl, w.before #[Value.ref b] s = true) : ∃ D : va_G, va_K D vwCl [] s := by
  obtain ⟨c0, i0, k0⟩ := u_known (C := RJx00060) (T := TJx00060) (N := 6) (n := 6) hts0 inJx00060 (hts0 (.instantiable RJx00060 6) (by decide +kernel))
  obtain ⟨c1, i1, k1⟩ := u_known (C := RX0) (T := TX0) (N := 3) (n := 3) hts0 inX0 (hts0 (.instantiable RX0 3) (by decide +kernel))
  obtain ⟨c2, i2, k2⟩ := u_known (C := RX1) (T := TX1) (N := 5) (n := 5) hts0 inX1 (hts0 (.instantiable RX1 5) (by decide +kernel))
  obtain ⟨c3, i3, k3⟩ := u_known (C := RX3) (T := TX3) (N := 2) (n := 2) hts0 inX3 (hts0 (.instantiable RX3 2) (by decide +kernel))
  obtain ⟨c4, i4, k4⟩ := u_known (C := RX4) (T := TX4) (N := 4) (n := 4) hts0 inX4 (hts0 (.instantiable RX4 4) (by decide +kernel))
  obtain ⟨c5, i5, k5⟩ := u_known (C := RX5) (T := TX5) (N := 2) (n := 2) hts0 inX5 (hts0 (.instantiable RX5 2) (by decide +kernel))
  obtain ⟨c6, i6, k6⟩ := u_known (C := RX6) (T := TX6) (N := 5) (n := 5) hts0 inX6 (hts0 (.instantiable RX6 5) (by decide +kernel))
  obtain ⟨c7, i7, k7⟩ := u_known (C := RX7) (T := TX7) (N := 19) (n := 19) hts0 inX7 (hts0 (.instantiable RX7 19) (by decide +kernel))
  refine ⟨(fun k => [c0, c1, c2, c3, c4, c5, c6, c7].getD k c0, fun k => [i0, i1, i2, i3, i4, i5, i6, i7].getD k i0), ?_, fun k q h => by simp at h⟩
  intro k q hq
  match k, hq with
  | 0, hq => cases hq; exact k0
  | 1, hq => cases hq; exact k1
  | 2, hq => cases hq; exact k2
  | 3, hq => cases hq; exact k3
  | 4, hq => cases hq; exact k4
  | 5, hq => cases hq; exact k5
  | 6, hq => cases hq; exact k6
  | 7, hq => cases hq; exact k7
  | k + 8, hq => simp [vwCl] at hq
