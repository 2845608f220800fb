set_option maxHeartbeats 8000000 in
set_option maxRecDepth 100000 in
theorem mx_read (l : Launch) (D : va_G) (z : zG) (sz : Nat) (mo : Nat) (ma1 : Nat) (ma2 : Nat) (ma3 : Nat) (mb1 : Nat) (mb2 : Nat) (mg1 : Nat) (mg2 : Nat) (mt1 : Nat) (mn1 : Nat) (mn2 : Nat) (mn3 : Nat) (ml1 : Nat) (mw1 : Nat) (th : Int32) (nb : Nat) (nq : Nat) (ng : Nat) (nt : Nat) (nn : Nat) (jt1 : ClassId) (ch : Nat → Int32) (jl1 : ClassId) (xl : Nat → Int32) (jw1 : ClassId) (wt : Nat → Int32) (hn : nt ≤ 60) (hw9 : ∀ j, j < 9 → wt j = zWt j) : Met l yX7_read wsX7_read ({ frames := 2, cells := 0, slots := 0, locals := 44 }) (zPre D z [.ref mo] sz [(mo, .inr (7, [.int th, .int (nI nb), .ref ma1, .ref ma2, .ref ma3, .int (nI nq), .ref mb1, .ref mb2, .int (nI ng), .ref mg1, .ref mg2, .int (nI nt), .ref mt1, .int (nI nn), .ref mn1, .ref mn2, .ref mn3, .ref ml1, .ref mw1])), (mt1, .inl (jt1, 60, .inl ch)), (ml1, .inl (jl1, 9, .inl xl)), (mw1, .inl (jw1, 9, .inl wt))] [(jt1, .int), (jl1, .int), (jw1, .int)] (va_A [(mo, .inr (7, [.int th, .int (nI nb), .ref ma1, .ref ma2, .ref ma3, .int (nI nq), .ref mb1, .ref mb2, .int (nI ng), .ref mg1, .ref mg2, .int (nI nt), .ref mt1, .int (nI nn), .ref mn1, .ref mn2, .ref mn3, .ref ml1, .ref mw1])), (mt1, .inl (jt1, 60, .inl ch)), (ml1, .inl (jl1, 9, .inl xl)), (mw1, .inl (jw1, 9, .inl wt))] sz)) (va_Ql (fun (r : Int64) (u : (Nat → Int32)) => zPar ch nt r) (zAt D [(jt1, .int), (jl1, .int), (jw1, .int)] (va_A [(mo, .inr (7, [.int th, .int (nI nb), .ref ma1, .ref ma2, .ref ma3, .int (nI nq), .ref mb1, .ref mb2, .int (nI ng), .ref mg1, .ref mg2, .int (nI nt), .ref mt1, .int (nI nn), .ref mn1, .ref mn2, .ref mn3, .ref ml1, .ref mw1])), (mt1, .inl (jt1, 60, .inl ch)), (ml1, .inl (jl1, 9, .inl xl)), (mw1, .inl (jw1, 9, .inl wt))] sz) (fun u : (Nat → Int32) => [(mo, .inr (7, [.int 0, .int (nI nb), .ref ma1, .ref ma2, .ref ma3, .int (nI nq), .ref mb1, .ref mb2, .int (nI ng), .ref mg1, .ref mg2, .int (nI 0), .ref mt1, .int (nI nn), .ref mn1, .ref mn2, .ref mn3, .ref ml1, .ref mw1])), (mt1, .inl (jt1, 60, .inl ch)), (ml1, .inl (jl1, 9, .inl u)), (mw1, .inl (jw1, 9, .inl wt))])) (va_A [(mo, .inr (7, [.int th, .int (nI nb), .ref ma1, .ref ma2, .ref ma3, .int (nI nq), .ref mb1, .ref mb2, .int (nI ng), .ref mg1, .ref mg2, .int (nI nt), .ref mt1, .int (nI nn), .ref mn1, .ref mn2, .ref mn3, .ref ml1, .ref mw1])), (mt1, .inl (jt1, 60, .inl ch)), (ml1, .inl (jl1, 9, .inl xl)), (mw1, .inl (jw1, 9, .inl wt))] sz)) 0 0 (va_A [(mo, .inr (7, [.int th, .int (nI nb), .ref ma1, .ref ma2, .ref ma3, .int (nI nq), .ref mb1, .ref mb2, .int (nI ng), .ref mg1, .ref mg2, .int (nI nt), .ref mt1, .int (nI nn), .ref mn1, .ref mn2, .ref mn3, .ref ml1, .ref mw1])), (mt1, .inl (jt1, 60, .inl ch)), (ml1, .inl (jl1, 9, .inl xl)), (mw1, .inl (jw1, 9, .inl wt))] sz) := by
  refine Met.ofW (cc := cX7_read) (maxL := 6) (ret := (some .long)) (by decide) rfl ?_
  intro p e s m args below meth c s₁ B hml hv
  obtain ⟨rfl, hsz, hP, hK, hD, hC⟩ := hv
  have hx := B.exec
  have hb := B.bytes
  have hr := B.returns
  have hts := atoms_spec (ws := wsX7_read) B.pre
  have hown : s.vm.findClass RX7 = some m.cls := findClass_of_methodNamed B.named
  have hlocks := B.notSynchronized
  subst hsz
  have hD := hD.self (sz := s.heap.size)
  generalize hAe : va_A [(mo, .inr (7, [.int th, .int (nI nb), .ref ma1, .ref ma2, .ref ma3, .int (nI nq), .ref mb1, .ref mb2, .int (nI ng), .ref mg1, .ref mg2, .int (nI nt), .ref mt1, .int (nI nn), .ref mn1, .ref mn2, .ref mn3, .ref ml1, .ref mw1])), (mt1, .inl (jt1, 60, .inl ch)), (ml1, .inl (jl1, 9, .inl xl)), (mw1, .inl (jw1, 9, .inl wt))] s.heap.size = A at hC hD ⊢
  have hA : ∀ q : Nat, s.heap.size ≤ q → A q := fun q h => by rw [← hAe]; exact Or.inr h
  have hS : va_S A s.heap s.heap [] := va_S.rf
  have hP : va_P D vwCl [(mo, .inr (7, [.int th, .int (nI nb), .ref ma1, .ref ma2, .ref ma3, .int (nI nq), .ref mb1, .ref mb2, .int (nI ng), .ref mg1, .ref mg2, .int (nI nt), .ref mt1, .int (nI nn), .ref mn1, .ref mn2, .ref mn3, .ref ml1, .ref mw1])), (mt1, .inl (jt1, 60, .inl ch)), (ml1, .inl (jl1, 9, .inl xl)), (mw1, .inl (jw1, 9, .inl wt))] s.heap := hP
  have hl := lv_entry ([.ref mo]) (n := 6) (Nat.le_of_ble_eq_true rfl)
  rw [lg_entry_eq]
  generalize (lg_sl ([.ref mo]) ++ List.replicate (6 - (lg_sl ([.ref mo])).length) Slot.unset).toArray = ls at hl ⊢
  have hl : lv_has ls 6 [(0, .ref mo)] := hl
  refine zNameH (D := D) (A := A) (ws := [(mo, .inr (7, [.int th, .int (nI nb), .ref ma1, .ref ma2, .ref ma3, .int (nI nq), .ref mb1, .ref mb2, .int (nI ng), .ref mg1, .ref mg2, .int (nI nt), .ref mt1, .int (nI nn), .ref mn1, .ref mn2, .ref mn3, .ref ml1, .ref mw1])), (mt1, .inl (jt1, 60, .inl ch)), (ml1, .inl (jl1, 9, .inl xl)), (mw1, .inl (jw1, 9, .inl wt))]) (fun H locs hP hS => ?_) hP hS
  have k_0 := hts (.fieldLink RX7 55 "NumberRows2Model" "thrown" "I") (by decide +kernel)
  have k_1 : ∀ w ∈ wsX70, w ∈ wsX7_read := by decide +kernel
  have k_2 := hts (.fieldLink RX7 51 "NumberRows2Model" "typed" "I") (by decide +kernel)
  have k_3 := hts (.fieldLink RX7 45 "NumberRows2Model" "letters" "[I") (by decide +kernel)
  have k_4 := hts (.constantLong RX7 77 (27512614111)) (by decide +kernel)
  have k_5 := hts (.constantLong RX7 104 (31)) (by decide +kernel)
  have k_6 := hts (.constantLong RX7 69 (-1)) (by decide +kernel)
  have k_7 := hts (.fieldLink RX7 33 "NumberRows2Model" "signs" "[I") (by decide +kernel)
  refine lv_aload_n hx hb dX7_read_0 rfl (lv_at hl 0 rfl) ?_
  refine lv_iconst (v := 0) hx hb dX7_read_1 (by decide) ?_
  refine va_put (D := D) (ci := 7) (v := .int 0) (ty := .int) (C := RX7) (T := TX7) (N := 19) hx hb hts k_1 tyX7 tyX7_ok nmX7 hown hK hP hD hS 0 rfl rfl 0 (by decide) k_0 (fun _ h9 => h9) rfl (by decide +kernel) rfl rfl (Nat.le_of_ble_eq_true rfl) dX7_read_2 (fun H locs hP hD hS => ?_)
  have hP : va_P D vwCl [(mo, .inr (7, [.int 0, .int (nI nb), .ref ma1, .ref ma2, .ref ma3, .int (nI nq), .ref mb1, .ref mb2, .int (nI ng), .ref mg1, .ref mg2, .int (nI nt), .ref mt1, .int (nI nn), .ref mn1, .ref mn2, .ref mn3, .ref ml1, .ref mw1])), (mt1, .inl (jt1, 60, .inl ch)), (ml1, .inl (jl1, 9, .inl xl)), (mw1, .inl (jw1, 9, .inl wt))] H := hP
  have hD : va_D A [(mo, .inr (7, [.int 0, .int (nI nb), .ref ma1, .ref ma2, .ref ma3, .int (nI nq), .ref mb1, .ref mb2, .int (nI ng), .ref mg1, .ref mg2, .int (nI nt), .ref mt1, .int (nI nn), .ref mn1, .ref mn2, .ref mn3, .ref ml1, .ref mw1])), (mt1, .inl (jt1, 60, .inl ch)), (ml1, .inl (jl1, 9, .inl xl)), (mw1, .inl (jw1, 9, .inl wt))] := hD
  refine lv_aload_n hx hb dX7_read_5 rfl (lv_at hl 0 rfl) ?_
  refine va_get (D := D) (ci := 7) (v := .int (nI nt)) (C := RX7) (T := TX7) (N := 19) hx hb hts k_1 hown hK hP 0 rfl rfl 11 (by decide) k_2 (fun _ h9 => h9) rfl dX7_read_6 ?_
  refine lv_istore_n (lv' := [(1, .int (nI nt)), (0, .ref mo)]) hx hb dX7_read_9 rfl hl (by decide) rfl (fun ls hl => ?_)
  refine lv_aload_n hx hb dX7_read_10 rfl (lv_at hl 1 rfl) ?_
  refine lv_iconst (v := 0) hx hb dX7_read_11 (by decide) ?_
  refine va_put (D := D) (ci := 7) (v := .int 0) (ty := .int) (C := RX7) (T := TX7) (N := 19) hx hb hts k_1 tyX7 tyX7_ok nmX7 hown hK hP hD hS 0 rfl rfl 11 (by decide) k_2 (fun _ h9 => h9) rfl (by decide +kernel) rfl rfl (Nat.le_of_ble_eq_true rfl) dX7_read_12 (fun H locs hP hD hS => ?_)
  have hP : va_P D vwCl [(mo, .inr (7, [.int 0, .int (nI nb), .ref ma1, .ref ma2, .ref ma3, .int (nI nq), .ref mb1, .ref mb2, .int (nI ng), .ref mg1, .ref mg2, .int 0, .ref mt1, .int (nI nn), .ref mn1, .ref mn2, .ref mn3, .ref ml1, .ref mw1])), (mt1, .inl (jt1, 60, .inl ch)), (ml1, .inl (jl1, 9, .inl xl)), (mw1, .inl (jw1, 9, .inl wt))] H := hP
  have hD : va_D A [(mo, .inr (7, [.int 0, .int (nI nb), .ref ma1, .ref ma2, .ref ma3, .int (nI nq), .ref mb1, .ref mb2, .int (nI ng), .ref mg1, .ref mg2, .int 0, .ref mt1, .int (nI nn), .ref mn1, .ref mn2, .ref mn3, .ref ml1, .ref mw1])), (mt1, .inl (jt1, 60, .inl ch)), (ml1, .inl (jl1, 9, .inl xl)), (mw1, .inl (jw1, 9, .inl wt))] := hD
  refine lv_iconst (v := 0) hx hb dX7_read_15 (by decide) ?_
  refine lv_istore_n (lv' := [(2, .int 0), (1, .int (nI nt)), (0, .ref mo)]) hx hb dX7_read_16 rfl hl (by decide) rfl (fun ls hl => ?_)
  refine lv_iconst (v := 0) hx hb dX7_read_17 (by decide) ?_
  refine lv_istore_n (lv' := [(3, .int 0), (2, .int 0), (1, .int (nI nt)), (0, .ref mo)]) hx hb dX7_read_18 rfl hl (by decide) rfl (fun ls hl => ?_)
  refine zLoop (σ := Nat × Nat × (Nat → Int32)) (nL := 6) (μ := fun (x : Nat × Nat × (Nat → Int32)) => match x with | (i, k, f) => nt - i) (lv := fun (x : Nat × Nat × (Nat → Int32)) => match x with | (i, k, f) => [(3, .int (nI i)), (0, .ref mo), (1, .int (nI nt)), (2, .int (nI k))]) (wf := fun (x : Nat × Nat × (Nat → Int32)) => match x with | (i, k, f) => [(mo, .inr (7, [.int 0, .int (nI nb), .ref ma1, .ref ma2, .ref ma3, .int (nI nq), .ref mb1, .ref mb2, .int (nI ng), .ref mg1, .ref mg2, .int 0, .ref mt1, .int (nI nn), .ref mn1, .ref mn2, .ref mn3, .ref ml1, .ref mw1])), (mt1, .inl (jt1, 60, .inl ch)), (ml1, .inl (jl1, 9, .inl f)), (mw1, .inl (jw1, 9, .inl wt))]) (I := fun (x : Nat × Nat × (Nat → Int32)) => match x with | (i, k, f) => i ≤ nt ∧ k ≤ i ∧ ∃ (s9 : Int32) (a9 : Int64), zPS ch i = some (k, s9, a9) ∧ zLet f k s9 a9) (fun x H locs ls hI hP hD hS hl ih => ?_) (0, 0, xl) ⟨Nat.zero_le _, Nat.le_refl _, 0, 0, rfl, zLet_0⟩ hP hD hS (lv_sub hl [0, 3, 2, 1] rfl)
  obtain ⟨i, k, f⟩ := x
  have hI : i ≤ nt ∧ k ≤ i ∧ ∃ (s9 : Int32) (a9 : Int64), zPS ch i = some (k, s9, a9) ∧ zLet f k s9 a9 := hI
  have hl : lv_has ls 6 [(3, .int (nI i)), (0, .ref mo), (1, .int (nI nt)), (2, .int (nI k))] := hl
  have hP : va_P D vwCl [(mo, .inr (7, [.int 0, .int (nI nb), .ref ma1, .ref ma2, .ref ma3, .int (nI nq), .ref mb1, .ref mb2, .int (nI ng), .ref mg1, .ref mg2, .int 0, .ref mt1, .int (nI nn), .ref mn1, .ref mn2, .ref mn3, .ref ml1, .ref mw1])), (mt1, .inl (jt1, 60, .inl ch)), (ml1, .inl (jl1, 9, .inl f)), (mw1, .inl (jw1, 9, .inl wt))] H := hP
  have hD : va_D A [(mo, .inr (7, [.int 0, .int (nI nb), .ref ma1, .ref ma2, .ref ma3, .int (nI nq), .ref mb1, .ref mb2, .int (nI ng), .ref mg1, .ref mg2, .int 0, .ref mt1, .int (nI nn), .ref mn1, .ref mn2, .ref mn3, .ref ml1, .ref mw1])), (mt1, .inl (jt1, 60, .inl ch)), (ml1, .inl (jl1, 9, .inl f)), (mw1, .inl (jw1, 9, .inl wt))] := hD
  have h1 := hI.1
  have h2 := hI.2.1
  obtain ⟨sm, ac, hps, hlt⟩ := hI.2.2
  refine lv_iload_n hx hb dX7_read_19 rfl (lv_at hl 0 rfl) ?_
  refine lv_iload_n hx hb dX7_read_20 rfl (lv_at hl 2 rfl) ?_
  refine lv_icmp_ge (tgt := 119) hx hb dX7_read_21 (by decide) (fun c_21 => ?_) (fun c_21 => ?_)
  · have c_21 : nt ≤ i := (nI_leI (a := nt) (b := i) (by omega) (by omega)).mp c_21
    have e9 : nt = i := (by omega)
    subst e9
    refine lv_iload_n hx hb dX7_read_119 rfl (lv_at hl 3 rfl) ?_
    refine lv_bipush (v := 9) hx hb dX7_read_120 (by decide) ?_
    refine lv_icmp_ge (tgt := 132) hx hb dX7_read_122 (by decide) (fun c_122 => ?_) (fun c_122 => ?_)
    · have c_122 : 9 ≤ k := (nI_leI (a := 9) (b := k) (by omega) (by omega)).mp c_122
      refine lv_lconst (v := 0) hx hb dX7_read_132 (by decide) ?_
      refine lv_lstore_n (lv' := [(3, .long 0), (0, .ref mo), (1, .int (nI nt)), (2, .int (nI k))]) hx hb dX7_read_133 rfl hl (by decide) rfl (fun ls hl => ?_)
      refine lv_iconst (v := 1) hx hb dX7_read_134 (by decide) ?_
      refine lv_istore (lv' := [(5, .int 1), (3, .long 0), (0, .ref mo), (1, .int (nI nt)), (2, .int (nI k))]) hx hb dX7_read_135 hl (by decide) rfl (fun ls hl => ?_)
      refine zLoop (σ := Nat × Int64) (nL := 6) (μ := fun (x : Nat × Int64) => match x with | (j, y) => 8 - j) (lv := fun (x : Nat × Int64) => match x with | (j, y) => [(5, .int (nI j)), (0, .ref mo), (1, .int (nI nt)), (3, .long y)]) (wf := fun (x : Nat × Int64) => match x with | (j, y) => [(mo, .inr (7, [.int 0, .int (nI nb), .ref ma1, .ref ma2, .ref ma3, .int (nI nq), .ref mb1, .ref mb2, .int (nI ng), .ref mg1, .ref mg2, .int 0, .ref mt1, .int (nI nn), .ref mn1, .ref mn2, .ref mn3, .ref ml1, .ref mw1])), (mt1, .inl (jt1, 60, .inl ch)), (ml1, .inl (jl1, 9, .inl f)), (mw1, .inl (jw1, 9, .inl wt))]) (I := fun (x : Nat × Int64) => match x with | (j, y) => 1 ≤ j ∧ j ≤ 8 ∧ y = zSr f (j - 1)) (fun x H locs ls hI hP hD hS hl ih => ?_) (1, 0) ⟨Nat.le_refl _, by omega, rfl⟩ hP hD hS (lv_sub hl [0, 2, 3, 1] rfl)
      obtain ⟨j, y⟩ := x
      have hI : 1 ≤ j ∧ j ≤ 8 ∧ y = zSr f (j - 1) := hI
      have hl : lv_has ls 6 [(5, .int (nI j)), (0, .ref mo), (1, .int (nI nt)), (3, .long y)] := hl
      have hP : va_P D vwCl [(mo, .inr (7, [.int 0, .int (nI nb), .ref ma1, .ref ma2, .ref ma3, .int (nI nq), .ref mb1, .ref mb2, .int (nI ng), .ref mg1, .ref mg2, .int 0, .ref mt1, .int (nI nn), .ref mn1, .ref mn2, .ref mn3, .ref ml1, .ref mw1])), (mt1, .inl (jt1, 60, .inl ch)), (ml1, .inl (jl1, 9, .inl f)), (mw1, .inl (jw1, 9, .inl wt))] H := hP
      have hD : va_D A [(mo, .inr (7, [.int 0, .int (nI nb), .ref ma1, .ref ma2, .ref ma3, .int (nI nq), .ref mb1, .ref mb2, .int (nI ng), .ref mg1, .ref mg2, .int 0, .ref mt1, .int (nI nn), .ref mn1, .ref mn2, .ref mn3, .ref ml1, .ref mw1])), (mt1, .inl (jt1, 60, .inl ch)), (ml1, .inl (jl1, 9, .inl f)), (mw1, .inl (jw1, 9, .inl wt))] := hD
      have hJ := hI
      have g1 := hJ.1
      have g2 := hJ.2.1
      refine lv_iload hx hb dX7_read_137 (lv_at hl 0 rfl) ?_
      refine lv_bipush (v := 8) hx hb dX7_read_139 (by decide) ?_
      refine lv_icmp_ge (tgt := 165) hx hb dX7_read_141 (by decide) (fun c_141 => ?_) (fun c_141 => ?_)
      · have c_141 : 8 ≤ j := (nI_leI (a := 8) (b := j) (by omega) (by omega)).mp c_141
        refine lv_aload_n hx hb dX7_read_165 rfl (lv_at hl 1 rfl) ?_
        refine va_get (D := D) (ci := 7) (v := .ref ml1) (C := RX7) (T := TX7) (N := 19) hx hb hts k_1 hown hK hP 0 rfl rfl 17 (by decide) k_3 (fun _ h9 => h9) rfl dX7_read_166 ?_
        refine lv_iconst (v := 0) hx hb dX7_read_169 (by decide) ?_
        refine z_iald (k := 0) hx hb hK hP 2 1 rfl rfl (by omega) (by decide) dX7_read_170 ?_
        refine lv_i2l (v := (f 0).toInt64) hx hb dX7_read_171 rfl ?_
        refine lv_lconst (v := 1) hx hb dX7_read_172 (by decide) ?_
        refine lv_ladd hx hb dX7_read_173 ?_
        refine lv_ldc2 hx hb hown k_4 dX7_read_174 ?_
        refine lv_lmul hx hb dX7_read_177 ?_
        refine lv_lload_n hx hb dX7_read_178 rfl (lv_at hl 3 rfl) ?_
        refine lv_ladd hx hb dX7_read_179 ?_
        exact W.lret (v := (((((f 0).toInt64) + 1) * 27512614111) + y)) hx hb hr (fun t9 ht9 hW9 => ⟨⟨_, f, rfl, Or.inr ⟨k, sm, ac, hps, Or.inr ⟨by omega, by rw [hJ.2.2]; obtain rfl : j = 8 := (by omega); rw [hlt.2.2, if_neg (by omega)]; exact zread_eq (fun q hq => hlt.1 q (by omega))⟩⟩, by rw [ht9]; exact hP, va_K.moved hW9.alike hK, hD⟩, hS.F ht9⟩) hS.2.2 dX7_read_180
      · have c_141 : ¬ (8 ≤ j) := fun q9 => c_141 ((nI_leI (a := 8) (b := j) (by omega) (by omega)).mpr q9)
        refine lv_ldc2 hx hb hown k_5 dX7_read_144 ?_
        refine lv_lload_n hx hb dX7_read_147 rfl (lv_at hl 3 rfl) ?_
        refine lv_lmul hx hb dX7_read_148 ?_
        refine lv_aload_n hx hb dX7_read_149 rfl (lv_at hl 1 rfl) ?_
        refine va_get (D := D) (ci := 7) (v := .ref ml1) (C := RX7) (T := TX7) (N := 19) hx hb hts k_1 hown hK hP 0 rfl rfl 17 (by decide) k_3 (fun _ h9 => h9) rfl dX7_read_150 ?_
        refine lv_iload hx hb dX7_read_153 (lv_at hl 0 rfl) ?_
        refine z_iald (k := j) hx hb hK hP 2 1 rfl rfl (by omega) (by decide) dX7_read_155 ?_
        refine lv_i2l (v := (f j).toInt64) hx hb dX7_read_156 rfl ?_
        refine lv_ladd hx hb dX7_read_157 ?_
        refine lv_lstore_n (lv' := [(3, .long ((31 * y) + ((f j).toInt64))), (5, .int (nI j)), (0, .ref mo), (1, .int (nI nt))]) hx hb dX7_read_158 rfl hl (by decide) rfl (fun ls hl => ?_)
        refine lv_iinc (v := (nI (j + 1))) (lv' := [(5, .int (nI (j + 1))), (3, .long ((31 * y) + ((f j).toInt64))), (0, .ref mo), (1, .int (nI nt))]) hx hb dX7_read_159 hl (k := 1) rfl (by first | exact nI_1 _ | rfl) (by decide) rfl (fun ls hl => ?_)
        refine lv_goto (tgt := 137) hx hb dX7_read_162 (by decide) ?_
        exact ih (j + 1, (31 * y) + ((f j).toInt64)) _ _ _ (show 8 - (j + 1) < 8 - j from (by omega)) ⟨by omega, by omega, by rw [hJ.2.2]; obtain ⟨j, rfl⟩ : ∃ y9, j = y9 + 1 := ⟨j - 1, by omega⟩; rfl⟩ hP hD hS (lv_sub hl [0, 2, 3, 1] rfl)
    · have c_122 : ¬ (9 ≤ k) := fun q9 => c_122 ((nI_leI (a := 9) (b := k) (by omega) (by omega)).mpr q9)
      refine lv_ldc2 hx hb hown k_6 dX7_read_125 ?_
      refine lv_iload_n hx hb dX7_read_128 rfl (lv_at hl 2 rfl) ?_
      refine lv_i2l (v := (nI nt).toInt64) hx hb dX7_read_129 rfl ?_
      refine lv_lsub hx hb dX7_read_130 ?_
      exact W.lret (v := ((-1) - ((nI nt).toInt64))) hx hb hr (fun t9 ht9 hW9 => ⟨⟨_, f, rfl, Or.inr ⟨k, sm, ac, hps, Or.inl ⟨by omega, zneg (by omega)⟩⟩, by rw [ht9]; exact hP, va_K.moved hW9.alike hK, hD⟩, hS.F ht9⟩) hS.2.2 dX7_read_131
  · have c_21 : ¬ (nt ≤ i) := fun q9 => c_21 ((nI_leI (a := nt) (b := i) (by omega) (by omega)).mpr q9)
    refine lv_aload_n hx hb dX7_read_24 rfl (lv_at hl 1 rfl) ?_
    refine va_get (D := D) (ci := 7) (v := .ref mt1) (C := RX7) (T := TX7) (N := 19) hx hb hts k_1 hown hK hP 0 rfl rfl 12 (by decide) k_7 (fun _ h9 => h9) rfl dX7_read_25 ?_
    refine lv_iload_n hx hb dX7_read_28 rfl (lv_at hl 0 rfl) ?_
    refine z_iald (k := i) hx hb hK hP 1 0 rfl rfl (by omega) (by decide) dX7_read_29 ?_
    refine lv_bipush (v := 32) hx hb dX7_read_30 (by decide) ?_
    refine lv_icmp_eq (tgt := 113) hx hb dX7_read_32 (by decide) (fun c_32 => ?_) (fun c_32 => ?_)
    · have i_32 : (ch i).toInt = 32 := zi_eq.mp c_32
      refine lv_iinc (v := (nI (i + 1))) (lv' := [(3, .int (nI (i + 1))), (0, .ref mo), (1, .int (nI nt)), (2, .int (nI k))]) hx hb dX7_read_113 hl (k := 0) rfl (by first | exact nI_1 _ | rfl) (by decide) rfl (fun ls hl => ?_)
      refine lv_goto (tgt := 19) hx hb dX7_read_116 (by decide) ?_
      exact ih (i + 1, k, f) _ _ _ (show nt - (i + 1) < nt - i from (by omega)) ⟨by omega, by omega, sm, ac, zPS_blank hps c_32, hlt⟩ hP hD hS (lv_sub hl [0, 1, 2, 3] rfl)
    · have i_32 : ¬ ((ch i).toInt = 32) := fun q9 => c_32 (zi_eq.mpr q9)
      refine lv_aload_n hx hb dX7_read_35 rfl (lv_at hl 1 rfl) ?_
      refine va_get (D := D) (ci := 7) (v := .ref mt1) (C := RX7) (T := TX7) (N := 19) hx hb hts k_1 hown hK hP 0 rfl rfl 12 (by decide) k_7 (fun _ h9 => h9) rfl dX7_read_36 ?_
      refine lv_iload_n hx hb dX7_read_39 rfl (lv_at hl 0 rfl) ?_
      refine z_iald (k := i) hx hb hK hP 1 0 rfl rfl (by omega) (by decide) dX7_read_40 ?_
      refine zRo_i (va_runS (As := [.int (ch i)]) (rest := []) ⟨hx, hb, hml, hown, hts⟩ (mx_valueOf l D z H.size (ch i) ) (va_cwS 1 hts gX7_read_X7_valueOf rfl rfl rfl (by decide +kernel) ⟨Nat.le_of_ble_eq_true rfl, Nat.le_of_ble_eq_true rfl⟩) ⟨zPre_blind, (zPre_mk (wc := []) (tc := []) hP hK hD hC hS [] (by decide) rfl rfl [] rfl (zro_free hS hA))⟩ rfl rfl hl.1 rfl (lv_room (Nat.le_of_ble_eq_true rfl)) dX7_read_41 ⟨Nat.zero_le _, Nat.zero_le _⟩) hS hA hP (fun r_41 H locs hw hP hS => ?_)
      have hw_41 : zVal (zGreat (ch i)) r_41 := hw
      have hv := zVal_eq hw_41
      refine lv_istore (lv' := [(4, .int r_41), (3, .int (nI i)), (0, .ref mo), (1, .int (nI nt)), (2, .int (nI k))]) hx hb dX7_read_44 hl (by decide) rfl (fun ls hl => ?_)
      refine lv_iload_n hx hb dX7_read_46 rfl (lv_at hl 4 rfl) ?_
      refine lv_bipush (v := 9) hx hb dX7_read_47 (by decide) ?_
      refine lv_icmp_ge (tgt := 87) hx hb dX7_read_49 (by decide) (fun c_49 => ?_) (fun c_49 => ?_)
      · have c_49 : 9 ≤ k := (nI_leI (a := 9) (b := k) (by omega) (by omega)).mp c_49
        refine lv_iconst (v := 0) hx hb dX7_read_87 (by decide) ?_
        refine lv_istore (lv' := [(5, .int 0), (4, .int r_41), (3, .int (nI i)), (0, .ref mo), (1, .int (nI nt)), (2, .int (nI k))]) hx hb dX7_read_88 hl (by decide) rfl (fun ls hl => ?_)
        refine lv_iload hx hb dX7_read_90 (lv_at hl 0 rfl) ?_
        refine lv_if_ne (tgt := 102) hx hb dX7_read_92 (by decide) (fun c_92 => ?_) (fun c_92 => ?_)
        · exact absurd c_92 (fun q => q rfl)
        · have hno : ¬ zCan r_41 k sm := fun q => by have := q.2.1; omega
          refine lv_ldc2 hx hb hown k_6 dX7_read_95 ?_
          refine lv_iload_n hx hb dX7_read_98 rfl (lv_at hl 2 rfl) ?_
          refine lv_i2l (v := (nI i).toInt64) hx hb dX7_read_99 rfl ?_
          refine lv_lsub hx hb dX7_read_100 ?_
          exact W.lret (v := ((-1) - ((nI i).toInt64))) hx hb hr (fun t9 ht9 hW9 => ⟨⟨_, f, rfl, Or.inl ⟨i, by omega, by rw [hps]; exact fun q => (by cases q), zPS_stop hps c_32 hv hno, zneg (by omega)⟩, by rw [ht9]; exact hP, va_K.moved hW9.alike hK, hD⟩, hS.F ht9⟩) hS.2.2 dX7_read_101
      · have c_49 : ¬ (9 ≤ k) := fun q9 => c_49 ((nI_leI (a := 9) (b := k) (by omega) (by omega)).mpr q9)
        refine lv_iload hx hb dX7_read_52 (lv_at hl 0 rfl) ?_
        refine lv_if_lt (tgt := 87) hx hb dX7_read_54 (by decide) (fun c_54 => ?_) (fun c_54 => ?_)
        · have i_54 : r_41.toInt < 0 := zi_lt.mp c_54
          refine lv_iconst (v := 0) hx hb dX7_read_87 (by decide) ?_
          refine lv_istore (lv' := [(5, .int 0), (4, .int r_41), (3, .int (nI i)), (0, .ref mo), (1, .int (nI nt)), (2, .int (nI k))]) hx hb dX7_read_88 hl (by decide) rfl (fun ls hl => ?_)
          refine lv_iload hx hb dX7_read_90 (lv_at hl 0 rfl) ?_
          refine lv_if_ne (tgt := 102) hx hb dX7_read_92 (by decide) (fun c_92 => ?_) (fun c_92 => ?_)
          · exact absurd c_92 (fun q => q rfl)
          · have hno : ¬ zCan r_41 k sm := fun q => by have := q.1; omega
            refine lv_ldc2 hx hb hown k_6 dX7_read_95 ?_
            refine lv_iload_n hx hb dX7_read_98 rfl (lv_at hl 2 rfl) ?_
            refine lv_i2l (v := (nI i).toInt64) hx hb dX7_read_99 rfl ?_
            refine lv_lsub hx hb dX7_read_100 ?_
            exact W.lret (v := ((-1) - ((nI i).toInt64))) hx hb hr (fun t9 ht9 hW9 => ⟨⟨_, f, rfl, Or.inl ⟨i, by omega, by rw [hps]; exact fun q => (by cases q), zPS_stop hps c_32 hv hno, zneg (by omega)⟩, by rw [ht9]; exact hP, va_K.moved hW9.alike hK, hD⟩, hS.F ht9⟩) hS.2.2 dX7_read_101
        · have i_54 : ¬ (r_41.toInt < 0) := fun q9 => c_54 (zi_lt.mpr q9)
          refine lv_iload_n hx hb dX7_read_57 rfl (lv_at hl 4 rfl) ?_
          refine lv_if_gt (tgt := 68) hx hb dX7_read_58 (by decide) (fun c_58 => ?_) (fun c_58 => ?_)
          · have c_58 : 0 < k := (nI_ltI (a := 0) (b := k) (by omega) (by omega)).mp c_58
            refine lv_iload_n hx hb dX7_read_68 rfl (lv_at hl 4 rfl) ?_
            refine lv_bipush (v := 8) hx hb dX7_read_69 (by decide) ?_
            refine lv_icmp_lt (tgt := 83) hx hb dX7_read_71 (by decide) (fun c_71 => ?_) (fun c_71 => ?_)
            · have c_71 : k < 8 := (nI_ltI (a := k) (b := 8) (by omega) (by omega)).mp c_71
              refine lv_iconst (v := 1) hx hb dX7_read_83 (by decide) ?_
              refine lv_goto (tgt := 88) hx hb dX7_read_84 (by decide) ?_
              refine lv_istore (lv' := [(5, .int 1), (4, .int r_41), (3, .int (nI i)), (0, .ref mo), (1, .int (nI nt)), (2, .int (nI k))]) hx hb dX7_read_88 hl (by decide) rfl (fun ls hl => ?_)
              refine lv_iload hx hb dX7_read_90 (lv_at hl 0 rfl) ?_
              refine lv_if_ne (tgt := 102) hx hb dX7_read_92 (by decide) (fun c_92 => ?_) (fun c_92 => ?_)
              · have hcan : zCan r_41 k sm := ⟨by omega, by omega, fun e => by omega, fun e => by omega⟩
                refine lv_aload_n hx hb dX7_read_102 rfl (lv_at hl 3 rfl) ?_
                refine va_get (D := D) (ci := 7) (v := .ref ml1) (C := RX7) (T := TX7) (N := 19) hx hb hts k_1 hown hK hP 0 rfl rfl 17 (by decide) k_3 (fun _ h9 => h9) rfl dX7_read_103 ?_
                refine lv_iload_n hx hb dX7_read_106 rfl (lv_at hl 5 rfl) ?_
                refine lv_iload hx hb dX7_read_107 (lv_at hl 1 rfl) ?_
                refine z_iast (k := k) hx hb hK hP hD hS 2 1 rfl rfl (by omega) (by decide) dX7_read_109 (fun H locs hP hD hS => ?_)
                have hP : va_P D vwCl [(mo, .inr (7, [.int 0, .int (nI nb), .ref ma1, .ref ma2, .ref ma3, .int (nI nq), .ref mb1, .ref mb2, .int (nI ng), .ref mg1, .ref mg2, .int 0, .ref mt1, .int (nI nn), .ref mn1, .ref mn2, .ref mn3, .ref ml1, .ref mw1])), (mt1, .inl (jt1, 60, .inl ch)), (ml1, .inl (jl1, 9, .inl (upd f k r_41))), (mw1, .inl (jw1, 9, .inl wt))] H := hP
                have hD : va_D A [(mo, .inr (7, [.int 0, .int (nI nb), .ref ma1, .ref ma2, .ref ma3, .int (nI nq), .ref mb1, .ref mb2, .int (nI ng), .ref mg1, .ref mg2, .int 0, .ref mt1, .int (nI nn), .ref mn1, .ref mn2, .ref mn3, .ref ml1, .ref mw1])), (mt1, .inl (jt1, 60, .inl ch)), (ml1, .inl (jl1, 9, .inl (upd f k r_41))), (mw1, .inl (jw1, 9, .inl wt))] := hD
                refine lv_iinc (v := (nI (k + 1))) (lv' := [(2, .int (nI (k + 1))), (5, .int 1), (4, .int r_41), (3, .int (nI i)), (0, .ref mo), (1, .int (nI nt))]) hx hb dX7_read_110 hl (k := 5) rfl (by first | exact nI_1 _ | rfl) (by decide) rfl (fun ls hl => ?_)
                refine lv_iinc (v := (nI (i + 1))) (lv' := [(3, .int (nI (i + 1))), (2, .int (nI (k + 1))), (5, .int 1), (4, .int r_41), (0, .ref mo), (1, .int (nI nt))]) hx hb dX7_read_113 hl (k := 3) rfl (by first | exact nI_1 _ | rfl) (by decide) rfl (fun ls hl => ?_)
                refine lv_goto (tgt := 19) hx hb dX7_read_116 (by decide) ?_
                exact ih (i + 1, k + 1, upd f k r_41) _ _ _ (show nt - (i + 1) < nt - i from (by omega)) ⟨by omega, by omega, _, _, zPS_go hps c_32 hv hcan, zLet_go hlt (by omega) (zvf_rng hv (by omega))⟩ hP hD hS (lv_sub hl [0, 4, 5, 1] rfl)
              · exact absurd c_92 (by decide)
            · have c_71 : ¬ (k < 8) := fun q9 => c_71 ((nI_ltI (a := k) (b := 8) (by omega) (by omega)).mpr q9)
              have e8 : k = 8 := (by omega)
              have hsw : zWs f wt 8 = sm := by rw [hlt.2.1, e8]; exact zWs_congr 8 (fun j hj => ⟨rfl, hw9 j (by omega)⟩)
              have hS9 := zWs_rng (f := f) (w := wt) hw9 8 (by omega) (fun j hj => hlt.1 j (by omega))
              refine lv_iload hx hb dX7_read_74 (lv_at hl 0 rfl) ?_
              refine lv_aload_n hx hb dX7_read_76 rfl (lv_at hl 2 rfl) ?_
              refine zRo_i (va_runV (As := []) (rest := [.int r_41]) ⟨hx, hb, hml, hown, hts⟩ (mx_check l D z H.size mo ma1 ma2 ma3 mb1 mb2 mg1 mg2 mt1 mn1 mn2 mn3 ml1 mw1 (0 : Int32) nb nq ng 0 nn jl1 f jw1 wt (by omega)) (cwV 0 hts gX7_read_X7_check rfl rfl rfl (by decide +kernel) ⟨Nat.le_of_ble_eq_true rfl, Nat.le_of_ble_eq_true rfl⟩) ⟨zPre_blind, va_recv hK hP (ci := 7) (q0 := 0) rfl rfl, (zPre_mk (wc := [(mo, .inr (7, [.int (0 : Int32), .int (nI nb), .ref ma1, .ref ma2, .ref ma3, .int (nI nq), .ref mb1, .ref mb2, .int (nI ng), .ref mg1, .ref mg2, .int (nI 0), .ref mt1, .int (nI nn), .ref mn1, .ref mn2, .ref mn3, .ref ml1, .ref mw1])), (ml1, .inl (jl1, 9, .inl f)), (mw1, .inl (jw1, 9, .inl wt))]) (tc := [(jl1, .int), (jw1, .int)]) hP hK hD hC hS [0, 2, 3] (by decide) rfl rfl [1, 2] rfl (zro_free hS hA))⟩ rfl rfl hl.1 rfl (lv_room (Nat.le_of_ble_eq_true rfl)) dX7_read_77 ⟨Nat.zero_le _, Nat.zero_le _⟩) hS hA hP (fun r_77 H locs hw hP hS => ?_)
              have hw_77 : r_77.toInt = (31 - (zWs f wt 8).toInt % 31) % 31 := hw
              rw [hsw] at hw_77 hS9
              have hiff := zck_iff (S := sm) (v := r_41) (c := r_77) (by omega) (zvf_rng hv (by omega)) hw_77
              refine lv_icmp_ne (tgt := 87) hx hb dX7_read_80 (by decide) (fun c_80 => ?_) (fun c_80 => ?_)
              · have i_80 : ¬ (r_41.toInt = r_77.toInt) := fun q9 => c_80 (zi_eq.mpr q9)
                refine lv_iconst (v := 0) hx hb dX7_read_87 (by decide) ?_
                refine lv_istore (lv' := [(5, .int 0), (4, .int r_41), (3, .int (nI i)), (0, .ref mo), (1, .int (nI nt)), (2, .int (nI k))]) hx hb dX7_read_88 hl (by decide) rfl (fun ls hl => ?_)
                refine lv_iload hx hb dX7_read_90 (lv_at hl 0 rfl) ?_
                refine lv_if_ne (tgt := 102) hx hb dX7_read_92 (by decide) (fun c_92 => ?_) (fun c_92 => ?_)
                · exact absurd c_92 (fun q => q rfl)
                · have hno : ¬ zCan r_41 k sm := fun q => c_80 (hiff.mpr (q.2.2.2 e8))
                  refine lv_ldc2 hx hb hown k_6 dX7_read_95 ?_
                  refine lv_iload_n hx hb dX7_read_98 rfl (lv_at hl 2 rfl) ?_
                  refine lv_i2l (v := (nI i).toInt64) hx hb dX7_read_99 rfl ?_
                  refine lv_lsub hx hb dX7_read_100 ?_
                  exact W.lret (v := ((-1) - ((nI i).toInt64))) hx hb hr (fun t9 ht9 hW9 => ⟨⟨_, f, rfl, Or.inl ⟨i, by omega, by rw [hps]; exact fun q => (by cases q), zPS_stop hps c_32 hv hno, zneg (by omega)⟩, by rw [ht9]; exact hP, va_K.moved hW9.alike hK, hD⟩, hS.F ht9⟩) hS.2.2 dX7_read_101
              · have i_80 : r_41.toInt = r_77.toInt := zi_eq.mp c_80
                refine lv_iconst (v := 1) hx hb dX7_read_83 (by decide) ?_
                refine lv_goto (tgt := 88) hx hb dX7_read_84 (by decide) ?_
                refine lv_istore (lv' := [(5, .int 1), (4, .int r_41), (3, .int (nI i)), (0, .ref mo), (1, .int (nI nt)), (2, .int (nI k))]) hx hb dX7_read_88 hl (by decide) rfl (fun ls hl => ?_)
                refine lv_iload hx hb dX7_read_90 (lv_at hl 0 rfl) ?_
                refine lv_if_ne (tgt := 102) hx hb dX7_read_92 (by decide) (fun c_92 => ?_) (fun c_92 => ?_)
                · have hcan : zCan r_41 k sm := ⟨by omega, by omega, fun e => by omega, fun _ => hiff.mp c_80⟩
                  refine lv_aload_n hx hb dX7_read_102 rfl (lv_at hl 3 rfl) ?_
                  refine va_get (D := D) (ci := 7) (v := .ref ml1) (C := RX7) (T := TX7) (N := 19) hx hb hts k_1 hown hK hP 0 rfl rfl 17 (by decide) k_3 (fun _ h9 => h9) rfl dX7_read_103 ?_
                  refine lv_iload_n hx hb dX7_read_106 rfl (lv_at hl 5 rfl) ?_
                  refine lv_iload hx hb dX7_read_107 (lv_at hl 1 rfl) ?_
                  refine z_iast (k := k) hx hb hK hP hD hS 2 1 rfl rfl (by omega) (by decide) dX7_read_109 (fun H locs hP hD hS => ?_)
                  have hP : va_P D vwCl [(mo, .inr (7, [.int 0, .int (nI nb), .ref ma1, .ref ma2, .ref ma3, .int (nI nq), .ref mb1, .ref mb2, .int (nI ng), .ref mg1, .ref mg2, .int 0, .ref mt1, .int (nI nn), .ref mn1, .ref mn2, .ref mn3, .ref ml1, .ref mw1])), (mt1, .inl (jt1, 60, .inl ch)), (ml1, .inl (jl1, 9, .inl (upd f k r_41))), (mw1, .inl (jw1, 9, .inl wt))] H := hP
                  have hD : va_D A [(mo, .inr (7, [.int 0, .int (nI nb), .ref ma1, .ref ma2, .ref ma3, .int (nI nq), .ref mb1, .ref mb2, .int (nI ng), .ref mg1, .ref mg2, .int 0, .ref mt1, .int (nI nn), .ref mn1, .ref mn2, .ref mn3, .ref ml1, .ref mw1])), (mt1, .inl (jt1, 60, .inl ch)), (ml1, .inl (jl1, 9, .inl (upd f k r_41))), (mw1, .inl (jw1, 9, .inl wt))] := hD
                  refine lv_iinc (v := (nI (k + 1))) (lv' := [(2, .int (nI (k + 1))), (5, .int 1), (4, .int r_41), (3, .int (nI i)), (0, .ref mo), (1, .int (nI nt))]) hx hb dX7_read_110 hl (k := 5) rfl (by first | exact nI_1 _ | rfl) (by decide) rfl (fun ls hl => ?_)
                  refine lv_iinc (v := (nI (i + 1))) (lv' := [(3, .int (nI (i + 1))), (2, .int (nI (k + 1))), (5, .int 1), (4, .int r_41), (0, .ref mo), (1, .int (nI nt))]) hx hb dX7_read_113 hl (k := 3) rfl (by first | exact nI_1 _ | rfl) (by decide) rfl (fun ls hl => ?_)
                  refine lv_goto (tgt := 19) hx hb dX7_read_116 (by decide) ?_
                  exact ih (i + 1, k + 1, upd f k r_41) _ _ _ (show nt - (i + 1) < nt - i from (by omega)) ⟨by omega, by omega, _, _, zPS_go hps c_32 hv hcan, zLet_go hlt (by omega) (zvf_rng hv (by omega))⟩ hP hD hS (lv_sub hl [0, 4, 5, 1] rfl)
                · exact absurd c_92 (by decide)
          · have c_58 : ¬ (0 < k) := fun q9 => c_58 ((nI_ltI (a := 0) (b := k) (by omega) (by omega)).mpr q9)
            refine lv_iload hx hb dX7_read_61 (lv_at hl 0 rfl) ?_
            refine lv_bipush (v := 10) hx hb dX7_read_63 (by decide) ?_
            refine lv_icmp_ge (tgt := 87) hx hb dX7_read_65 (by decide) (fun c_65 => ?_) (fun c_65 => ?_)
            · have i_65 : 10 ≤ r_41.toInt := zi_le.mp c_65
              refine lv_iconst (v := 0) hx hb dX7_read_87 (by decide) ?_
              refine lv_istore (lv' := [(5, .int 0), (4, .int r_41), (3, .int (nI i)), (0, .ref mo), (1, .int (nI nt)), (2, .int (nI k))]) hx hb dX7_read_88 hl (by decide) rfl (fun ls hl => ?_)
              refine lv_iload hx hb dX7_read_90 (lv_at hl 0 rfl) ?_
              refine lv_if_ne (tgt := 102) hx hb dX7_read_92 (by decide) (fun c_92 => ?_) (fun c_92 => ?_)
              · exact absurd c_92 (fun q => q rfl)
              · have hno : ¬ zCan r_41 k sm := fun q => by have := q.2.2.1 (by omega); omega
                refine lv_ldc2 hx hb hown k_6 dX7_read_95 ?_
                refine lv_iload_n hx hb dX7_read_98 rfl (lv_at hl 2 rfl) ?_
                refine lv_i2l (v := (nI i).toInt64) hx hb dX7_read_99 rfl ?_
                refine lv_lsub hx hb dX7_read_100 ?_
                exact W.lret (v := ((-1) - ((nI i).toInt64))) hx hb hr (fun t9 ht9 hW9 => ⟨⟨_, f, rfl, Or.inl ⟨i, by omega, by rw [hps]; exact fun q => (by cases q), zPS_stop hps c_32 hv hno, zneg (by omega)⟩, by rw [ht9]; exact hP, va_K.moved hW9.alike hK, hD⟩, hS.F ht9⟩) hS.2.2 dX7_read_101
            · have i_65 : ¬ (10 ≤ r_41.toInt) := fun q9 => c_65 (zi_le.mpr q9)
              refine lv_iload_n hx hb dX7_read_68 rfl (lv_at hl 4 rfl) ?_
              refine lv_bipush (v := 8) hx hb dX7_read_69 (by decide) ?_
              refine lv_icmp_lt (tgt := 83) hx hb dX7_read_71 (by decide) (fun c_71 => ?_) (fun c_71 => ?_)
              · have c_71 : k < 8 := (nI_ltI (a := k) (b := 8) (by omega) (by omega)).mp c_71
                refine lv_iconst (v := 1) hx hb dX7_read_83 (by decide) ?_
                refine lv_goto (tgt := 88) hx hb dX7_read_84 (by decide) ?_
                refine lv_istore (lv' := [(5, .int 1), (4, .int r_41), (3, .int (nI i)), (0, .ref mo), (1, .int (nI nt)), (2, .int (nI k))]) hx hb dX7_read_88 hl (by decide) rfl (fun ls hl => ?_)
                refine lv_iload hx hb dX7_read_90 (lv_at hl 0 rfl) ?_
                refine lv_if_ne (tgt := 102) hx hb dX7_read_92 (by decide) (fun c_92 => ?_) (fun c_92 => ?_)
                · have hcan : zCan r_41 k sm := ⟨by omega, by omega, fun e => by omega, fun e => by omega⟩
                  refine lv_aload_n hx hb dX7_read_102 rfl (lv_at hl 3 rfl) ?_
                  refine va_get (D := D) (ci := 7) (v := .ref ml1) (C := RX7) (T := TX7) (N := 19) hx hb hts k_1 hown hK hP 0 rfl rfl 17 (by decide) k_3 (fun _ h9 => h9) rfl dX7_read_103 ?_
                  refine lv_iload_n hx hb dX7_read_106 rfl (lv_at hl 5 rfl) ?_
                  refine lv_iload hx hb dX7_read_107 (lv_at hl 1 rfl) ?_
                  refine z_iast (k := k) hx hb hK hP hD hS 2 1 rfl rfl (by omega) (by decide) dX7_read_109 (fun H locs hP hD hS => ?_)
                  have hP : va_P D vwCl [(mo, .inr (7, [.int 0, .int (nI nb), .ref ma1, .ref ma2, .ref ma3, .int (nI nq), .ref mb1, .ref mb2, .int (nI ng), .ref mg1, .ref mg2, .int 0, .ref mt1, .int (nI nn), .ref mn1, .ref mn2, .ref mn3, .ref ml1, .ref mw1])), (mt1, .inl (jt1, 60, .inl ch)), (ml1, .inl (jl1, 9, .inl (upd f k r_41))), (mw1, .inl (jw1, 9, .inl wt))] H := hP
                  have hD : va_D A [(mo, .inr (7, [.int 0, .int (nI nb), .ref ma1, .ref ma2, .ref ma3, .int (nI nq), .ref mb1, .ref mb2, .int (nI ng), .ref mg1, .ref mg2, .int 0, .ref mt1, .int (nI nn), .ref mn1, .ref mn2, .ref mn3, .ref ml1, .ref mw1])), (mt1, .inl (jt1, 60, .inl ch)), (ml1, .inl (jl1, 9, .inl (upd f k r_41))), (mw1, .inl (jw1, 9, .inl wt))] := hD
                  refine lv_iinc (v := (nI (k + 1))) (lv' := [(2, .int (nI (k + 1))), (5, .int 1), (4, .int r_41), (3, .int (nI i)), (0, .ref mo), (1, .int (nI nt))]) hx hb dX7_read_110 hl (k := 5) rfl (by first | exact nI_1 _ | rfl) (by decide) rfl (fun ls hl => ?_)
                  refine lv_iinc (v := (nI (i + 1))) (lv' := [(3, .int (nI (i + 1))), (2, .int (nI (k + 1))), (5, .int 1), (4, .int r_41), (0, .ref mo), (1, .int (nI nt))]) hx hb dX7_read_113 hl (k := 3) rfl (by first | exact nI_1 _ | rfl) (by decide) rfl (fun ls hl => ?_)
                  refine lv_goto (tgt := 19) hx hb dX7_read_116 (by decide) ?_
                  exact ih (i + 1, k + 1, upd f k r_41) _ _ _ (show nt - (i + 1) < nt - i from (by omega)) ⟨by omega, by omega, _, _, zPS_go hps c_32 hv hcan, zLet_go hlt (by omega) (zvf_rng hv (by omega))⟩ hP hD hS (lv_sub hl [0, 4, 5, 1] rfl)
                · exact absurd c_92 (by decide)
              · have c_71 : ¬ (k < 8) := fun q9 => c_71 ((nI_ltI (a := k) (b := 8) (by omega) (by omega)).mpr q9)
                have e8 : k = 8 := (by omega)
                have hsw : zWs f wt 8 = sm := by rw [hlt.2.1, e8]; exact zWs_congr 8 (fun j hj => ⟨rfl, hw9 j (by omega)⟩)
                have hS9 := zWs_rng (f := f) (w := wt) hw9 8 (by omega) (fun j hj => hlt.1 j (by omega))
                refine lv_iload hx hb dX7_read_74 (lv_at hl 0 rfl) ?_
                refine lv_aload_n hx hb dX7_read_76 rfl (lv_at hl 2 rfl) ?_
                refine zRo_i (va_runV (As := []) (rest := [.int r_41]) ⟨hx, hb, hml, hown, hts⟩ (mx_check l D z H.size mo ma1 ma2 ma3 mb1 mb2 mg1 mg2 mt1 mn1 mn2 mn3 ml1 mw1 (0 : Int32) nb nq ng 0 nn jl1 f jw1 wt (by omega)) (cwV 0 hts gX7_read_X7_check rfl rfl rfl (by decide +kernel) ⟨Nat.le_of_ble_eq_true rfl, Nat.le_of_ble_eq_true rfl⟩) ⟨zPre_blind, va_recv hK hP (ci := 7) (q0 := 0) rfl rfl, (zPre_mk (wc := [(mo, .inr (7, [.int (0 : Int32), .int (nI nb), .ref ma1, .ref ma2, .ref ma3, .int (nI nq), .ref mb1, .ref mb2, .int (nI ng), .ref mg1, .ref mg2, .int (nI 0), .ref mt1, .int (nI nn), .ref mn1, .ref mn2, .ref mn3, .ref ml1, .ref mw1])), (ml1, .inl (jl1, 9, .inl f)), (mw1, .inl (jw1, 9, .inl wt))]) (tc := [(jl1, .int), (jw1, .int)]) hP hK hD hC hS [0, 2, 3] (by decide) rfl rfl [1, 2] rfl (zro_free hS hA))⟩ rfl rfl hl.1 rfl (lv_room (Nat.le_of_ble_eq_true rfl)) dX7_read_77 ⟨Nat.zero_le _, Nat.zero_le _⟩) hS hA hP (fun r_77 H locs hw hP hS => ?_)
                have hw_77 : r_77.toInt = (31 - (zWs f wt 8).toInt % 31) % 31 := hw
                rw [hsw] at hw_77 hS9
                have hiff := zck_iff (S := sm) (v := r_41) (c := r_77) (by omega) (zvf_rng hv (by omega)) hw_77
                refine lv_icmp_ne (tgt := 87) hx hb dX7_read_80 (by decide) (fun c_80 => ?_) (fun c_80 => ?_)
                · have i_80 : ¬ (r_41.toInt = r_77.toInt) := fun q9 => c_80 (zi_eq.mpr q9)
                  refine lv_iconst (v := 0) hx hb dX7_read_87 (by decide) ?_
                  refine lv_istore (lv' := [(5, .int 0), (4, .int r_41), (3, .int (nI i)), (0, .ref mo), (1, .int (nI nt)), (2, .int (nI k))]) hx hb dX7_read_88 hl (by decide) rfl (fun ls hl => ?_)
                  refine lv_iload hx hb dX7_read_90 (lv_at hl 0 rfl) ?_
                  refine lv_if_ne (tgt := 102) hx hb dX7_read_92 (by decide) (fun c_92 => ?_) (fun c_92 => ?_)
                  · exact absurd c_92 (fun q => q rfl)
                  · have hno : ¬ zCan r_41 k sm := fun q => c_80 (hiff.mpr (q.2.2.2 e8))
                    refine lv_ldc2 hx hb hown k_6 dX7_read_95 ?_
                    refine lv_iload_n hx hb dX7_read_98 rfl (lv_at hl 2 rfl) ?_
                    refine lv_i2l (v := (nI i).toInt64) hx hb dX7_read_99 rfl ?_
                    refine lv_lsub hx hb dX7_read_100 ?_
                    exact W.lret (v := ((-1) - ((nI i).toInt64))) hx hb hr (fun t9 ht9 hW9 => ⟨⟨_, f, rfl, Or.inl ⟨i, by omega, by rw [hps]; exact fun q => (by cases q), zPS_stop hps c_32 hv hno, zneg (by omega)⟩, by rw [ht9]; exact hP, va_K.moved hW9.alike hK, hD⟩, hS.F ht9⟩) hS.2.2 dX7_read_101
                · have i_80 : r_41.toInt = r_77.toInt := zi_eq.mp c_80
                  refine lv_iconst (v := 1) hx hb dX7_read_83 (by decide) ?_
                  refine lv_goto (tgt := 88) hx hb dX7_read_84 (by decide) ?_
                  refine lv_istore (lv' := [(5, .int 1), (4, .int r_41), (3, .int (nI i)), (0, .ref mo), (1, .int (nI nt)), (2, .int (nI k))]) hx hb dX7_read_88 hl (by decide) rfl (fun ls hl => ?_)
                  refine lv_iload hx hb dX7_read_90 (lv_at hl 0 rfl) ?_
                  refine lv_if_ne (tgt := 102) hx hb dX7_read_92 (by decide) (fun c_92 => ?_) (fun c_92 => ?_)
                  · have hcan : zCan r_41 k sm := ⟨by omega, by omega, fun e => by omega, fun _ => hiff.mp c_80⟩
                    refine lv_aload_n hx hb dX7_read_102 rfl (lv_at hl 3 rfl) ?_
                    refine va_get (D := D) (ci := 7) (v := .ref ml1) (C := RX7) (T := TX7) (N := 19) hx hb hts k_1 hown hK hP 0 rfl rfl 17 (by decide) k_3 (fun _ h9 => h9) rfl dX7_read_103 ?_
                    refine lv_iload_n hx hb dX7_read_106 rfl (lv_at hl 5 rfl) ?_
                    refine lv_iload hx hb dX7_read_107 (lv_at hl 1 rfl) ?_
                    refine z_iast (k := k) hx hb hK hP hD hS 2 1 rfl rfl (by omega) (by decide) dX7_read_109 (fun H locs hP hD hS => ?_)
                    have hP : va_P D vwCl [(mo, .inr (7, [.int 0, .int (nI nb), .ref ma1, .ref ma2, .ref ma3, .int (nI nq), .ref mb1, .ref mb2, .int (nI ng), .ref mg1, .ref mg2, .int 0, .ref mt1, .int (nI nn), .ref mn1, .ref mn2, .ref mn3, .ref ml1, .ref mw1])), (mt1, .inl (jt1, 60, .inl ch)), (ml1, .inl (jl1, 9, .inl (upd f k r_41))), (mw1, .inl (jw1, 9, .inl wt))] H := hP
                    have hD : va_D A [(mo, .inr (7, [.int 0, .int (nI nb), .ref ma1, .ref ma2, .ref ma3, .int (nI nq), .ref mb1, .ref mb2, .int (nI ng), .ref mg1, .ref mg2, .int 0, .ref mt1, .int (nI nn), .ref mn1, .ref mn2, .ref mn3, .ref ml1, .ref mw1])), (mt1, .inl (jt1, 60, .inl ch)), (ml1, .inl (jl1, 9, .inl (upd f k r_41))), (mw1, .inl (jw1, 9, .inl wt))] := hD
                    refine lv_iinc (v := (nI (k + 1))) (lv' := [(2, .int (nI (k + 1))), (5, .int 1), (4, .int r_41), (3, .int (nI i)), (0, .ref mo), (1, .int (nI nt))]) hx hb dX7_read_110 hl (k := 5) rfl (by first | exact nI_1 _ | rfl) (by decide) rfl (fun ls hl => ?_)
                    refine lv_iinc (v := (nI (i + 1))) (lv' := [(3, .int (nI (i + 1))), (2, .int (nI (k + 1))), (5, .int 1), (4, .int r_41), (0, .ref mo), (1, .int (nI nt))]) hx hb dX7_read_113 hl (k := 3) rfl (by first | exact nI_1 _ | rfl) (by decide) rfl (fun ls hl => ?_)
                    refine lv_goto (tgt := 19) hx hb dX7_read_116 (by decide) ?_
                    exact ih (i + 1, k + 1, upd f k r_41) _ _ _ (show nt - (i + 1) < nt - i from (by omega)) ⟨by omega, by omega, _, _, zPS_go hps c_32 hv hcan, zLet_go hlt (by omega) (zvf_rng hv (by omega))⟩ hP hD hS (lv_sub hl [0, 4, 5, 1] rfl)
                  · exact absurd c_92 (by decide)
