set_option maxHeartbeats 4000000 in
set_option maxRecDepth 100000 in
theorem mx_map (l : Launch) (D : va_G) (z : zG) (sz : Nat) (mo : Nat) (ma1 : Nat) (ma2 : Nat) (ma3 : Nat) (mb1 : Nat) (mb2 : Nat) (mg1 : Nat) (mg2 : Nat) (mt1 : Nat) (mn1 : Nat) (mn2 : Nat) (mn3 : Nat) (ml1 : Nat) (mw1 : Nat) (th : Int32) (nb : Nat) (nq : Nat) (ng : Nat) (nt : Nat) (nn : Nat) (jg1 : ClassId) (gn : Nat → Int64) (jg2 : ClassId) (gg : Nat → Int32) (jn1 : ClassId) (sd : Nat → Int32) (jn2 : ClassId) (rf : Nat → Int64) (jn3 : ClassId) (nm : Nat → Int64) (p0 : Int32) (p1 : Int64) (p2 : Int64) (hg : ng ≤ 4200) (hn : nn ≤ 300) : Met l yX7_map wsX7_map ({ frames := 1, cells := 0, slots := 0, locals := 25 }) (zPre D z [.ref mo, .int p0, .long p1, .long p2] sz [(mo, .inr (7, [.int th, .int (nI nb), .ref ma1, .ref ma2, .ref ma3, .int (nI nq), .ref mb1, .ref mb2, .int (nI ng), .ref mg1, .ref mg2, .int (nI nt), .ref mt1, .int (nI nn), .ref mn1, .ref mn2, .ref mn3, .ref ml1, .ref mw1])), (mg1, .inl (jg1, 4200, .inr (.inl gn))), (mg2, .inl (jg2, 4200, .inl gg)), (mn1, .inl (jn1, 300, .inl sd)), (mn2, .inl (jn2, 300, .inr (.inl rf))), (mn3, .inl (jn3, 300, .inr (.inl nm)))] [(jg1, .long), (jg2, .boolean), (jn1, .int), (jn2, .long), (jn3, .long)] (va_A [(mo, .inr (7, [.int th, .int (nI nb), .ref ma1, .ref ma2, .ref ma3, .int (nI nq), .ref mb1, .ref mb2, .int (nI ng), .ref mg1, .ref mg2, .int (nI nt), .ref mt1, .int (nI nn), .ref mn1, .ref mn2, .ref mn3, .ref ml1, .ref mw1])), (mg1, .inl (jg1, 4200, .inr (.inl gn))), (mg2, .inl (jg2, 4200, .inl gg)), (mn1, .inl (jn1, 300, .inl sd)), (mn2, .inl (jn2, 300, .inr (.inl rf))), (mn3, .inl (jn3, 300, .inr (.inl nm)))] sz)) (va_Qi (fun (r : Int32) (u : Nat × (Nat → Int32) × (Nat → Int64) × (Nat → Int64)) => (¬ zGiv ng gn gg p2 ∧ r = -101 ∧ u.1 = nn ∧ u.2.1 = sd ∧ u.2.2.1 = rf ∧ u.2.2.2 = nm) ∨ (zGiv ng gn gg p2 ∧ ((¬ (0 ≤ p0.toInt ∧ p0.toInt < 100 ∧ 0 ≤ p1.toInt) ∧ r = -102 ∧ u.1 = nn ∧ u.2.1 = sd ∧ u.2.2.1 = rf ∧ u.2.2.2 = nm) ∨ ((0 ≤ p0.toInt ∧ p0.toInt < 100 ∧ 0 ≤ p1.toInt) ∧ ((∃ j, j < nn ∧ (sd j = p0 ∧ rf j = p1) ∧ ((nm j = p2 ∧ r = 0) ∨ (¬ nm j = p2 ∧ r = -103)) ∧ u.1 = nn ∧ u.2.1 = sd ∧ u.2.2.1 = rf ∧ u.2.2.2 = nm) ∨ ((∀ j, j < nn → ¬ (sd j = p0 ∧ rf j = p1)) ∧ ((∃ j, j < nn ∧ (sd j = p0 ∧ nm j = p2) ∧ r = 2 ∧ u.1 = nn ∧ u.2.1 = sd ∧ u.2.2.1 = vp_updL rf j p1 ∧ u.2.2.2 = nm) ∨ ((∀ j, j < nn → ¬ (sd j = p0 ∧ nm j = p2)) ∧ ((nn = 300 ∧ r = -104 ∧ u.1 = nn ∧ u.2.1 = sd ∧ u.2.2.1 = rf ∧ u.2.2.2 = nm) ∨ (¬ nn = 300 ∧ r = 1 ∧ u.1 = nn + 1 ∧ u.2.1 = upd sd nn p0 ∧ u.2.2.1 = vp_updL rf nn p1 ∧ u.2.2.2 = vp_updL nm nn p2)))))))))) (zAt D [(jg1, .long), (jg2, .boolean), (jn1, .int), (jn2, .long), (jn3, .long)] (va_A [(mo, .inr (7, [.int th, .int (nI nb), .ref ma1, .ref ma2, .ref ma3, .int (nI nq), .ref mb1, .ref mb2, .int (nI ng), .ref mg1, .ref mg2, .int (nI nt), .ref mt1, .int (nI nn), .ref mn1, .ref mn2, .ref mn3, .ref ml1, .ref mw1])), (mg1, .inl (jg1, 4200, .inr (.inl gn))), (mg2, .inl (jg2, 4200, .inl gg)), (mn1, .inl (jn1, 300, .inl sd)), (mn2, .inl (jn2, 300, .inr (.inl rf))), (mn3, .inl (jn3, 300, .inr (.inl nm)))] sz) (fun u : Nat × (Nat → Int32) × (Nat → Int64) × (Nat → Int64) => [(mo, .inr (7, [.int 0, .int (nI nb), .ref ma1, .ref ma2, .ref ma3, .int (nI nq), .ref mb1, .ref mb2, .int (nI ng), .ref mg1, .ref mg2, .int (nI nt), .ref mt1, .int (nI u.1), .ref mn1, .ref mn2, .ref mn3, .ref ml1, .ref mw1])), (mg1, .inl (jg1, 4200, .inr (.inl gn))), (mg2, .inl (jg2, 4200, .inl gg)), (mn1, .inl (jn1, 300, .inl u.2.1)), (mn2, .inl (jn2, 300, .inr (.inl u.2.2.1))), (mn3, .inl (jn3, 300, .inr (.inl u.2.2.2)))])) (va_A [(mo, .inr (7, [.int th, .int (nI nb), .ref ma1, .ref ma2, .ref ma3, .int (nI nq), .ref mb1, .ref mb2, .int (nI ng), .ref mg1, .ref mg2, .int (nI nt), .ref mt1, .int (nI nn), .ref mn1, .ref mn2, .ref mn3, .ref ml1, .ref mw1])), (mg1, .inl (jg1, 4200, .inr (.inl gn))), (mg2, .inl (jg2, 4200, .inl gg)), (mn1, .inl (jn1, 300, .inl sd)), (mn2, .inl (jn2, 300, .inr (.inl rf))), (mn3, .inl (jn3, 300, .inr (.inl nm)))] sz)) 0 0 (va_A [(mo, .inr (7, [.int th, .int (nI nb), .ref ma1, .ref ma2, .ref ma3, .int (nI nq), .ref mb1, .ref mb2, .int (nI ng), .ref mg1, .ref mg2, .int (nI nt), .ref mt1, .int (nI nn), .ref mn1, .ref mn2, .ref mn3, .ref ml1, .ref mw1])), (mg1, .inl (jg1, 4200, .inr (.inl gn))), (mg2, .inl (jg2, 4200, .inl gg)), (mn1, .inl (jn1, 300, .inl sd)), (mn2, .inl (jn2, 300, .inr (.inl rf))), (mn3, .inl (jn3, 300, .inr (.inl nm)))] sz) := by
  refine Met.ofW (cc := cX7_map) (maxL := 9) (ret := (some .int)) (by decide) rfl ?_
  intro p e s m args below meth c s₁ B hml hv
  obtain ⟨rfl, hsz, hP, hK, hD, hC⟩ := hv
  have hx := B.exec
  have hb := B.bytes
  have hr := B.returns
  have hts := atoms_spec (ws := wsX7_map) B.pre
  have hown : s.vm.findClass RX7 = some m.cls := findClass_of_methodNamed B.named
  have hlocks := B.notSynchronized
  subst hsz
  have hD := hD.self (sz := s.heap.size)
  generalize hAe : va_A [(mo, .inr (7, [.int th, .int (nI nb), .ref ma1, .ref ma2, .ref ma3, .int (nI nq), .ref mb1, .ref mb2, .int (nI ng), .ref mg1, .ref mg2, .int (nI nt), .ref mt1, .int (nI nn), .ref mn1, .ref mn2, .ref mn3, .ref ml1, .ref mw1])), (mg1, .inl (jg1, 4200, .inr (.inl gn))), (mg2, .inl (jg2, 4200, .inl gg)), (mn1, .inl (jn1, 300, .inl sd)), (mn2, .inl (jn2, 300, .inr (.inl rf))), (mn3, .inl (jn3, 300, .inr (.inl nm)))] s.heap.size = A at hC hD ⊢
  have hA : ∀ q : Nat, s.heap.size ≤ q → A q := fun q h => by rw [← hAe]; exact Or.inr h
  have hS : va_S A s.heap s.heap [] := va_S.rf
  have hP : va_P D vwCl [(mo, .inr (7, [.int th, .int (nI nb), .ref ma1, .ref ma2, .ref ma3, .int (nI nq), .ref mb1, .ref mb2, .int (nI ng), .ref mg1, .ref mg2, .int (nI nt), .ref mt1, .int (nI nn), .ref mn1, .ref mn2, .ref mn3, .ref ml1, .ref mw1])), (mg1, .inl (jg1, 4200, .inr (.inl gn))), (mg2, .inl (jg2, 4200, .inl gg)), (mn1, .inl (jn1, 300, .inl sd)), (mn2, .inl (jn2, 300, .inr (.inl rf))), (mn3, .inl (jn3, 300, .inr (.inl nm)))] s.heap := hP
  have hl := lv_entry ([.ref mo, .int p0, .long p1, .long p2]) (n := 9) (Nat.le_of_ble_eq_true rfl)
  rw [lg_entry_eq]
  generalize (lg_sl ([.ref mo, .int p0, .long p1, .long p2]) ++ List.replicate (9 - (lg_sl ([.ref mo, .int p0, .long p1, .long p2])).length) Slot.unset).toArray = ls at hl ⊢
  have hl : lv_has ls 9 [(0, .ref mo), (1, .int p0), (2, .long p1), (4, .long p2)] := hl
  refine zNameH (D := D) (A := A) (ws := [(mo, .inr (7, [.int th, .int (nI nb), .ref ma1, .ref ma2, .ref ma3, .int (nI nq), .ref mb1, .ref mb2, .int (nI ng), .ref mg1, .ref mg2, .int (nI nt), .ref mt1, .int (nI nn), .ref mn1, .ref mn2, .ref mn3, .ref ml1, .ref mw1])), (mg1, .inl (jg1, 4200, .inr (.inl gn))), (mg2, .inl (jg2, 4200, .inl gg)), (mn1, .inl (jn1, 300, .inl sd)), (mn2, .inl (jn2, 300, .inr (.inl rf))), (mn3, .inl (jn3, 300, .inr (.inl nm)))]) (fun H locs hP hS => ?_) hP hS
  have k_0 := hts (.fieldLink RX7 55 "NumberRows2Model" "thrown" "I") (by decide +kernel)
  have k_1 : ∀ w ∈ wsX70, w ∈ wsX7_map := by decide +kernel
  have k_2 := hts (.constantLong RX7 58 (99)) (by decide +kernel)
  have k_3 := hts (.fieldLink RX7 126 "NumberRows2Model" "names" "I") (by decide +kernel)
  have k_4 := hts (.fieldLink RX7 36 "NumberRows2Model" "senders" "[I") (by decide +kernel)
  have k_5 := hts (.fieldLink RX7 39 "NumberRows2Model" "references" "[J") (by decide +kernel)
  have k_6 := hts (.fieldLink RX7 42 "NumberRows2Model" "named" "[J") (by decide +kernel)
  refine lv_aload_n hx hb dX7_map_0 rfl (lv_at hl 0 rfl) ?_
  refine lv_iconst (v := 0) hx hb dX7_map_1 (by decide) ?_
  refine va_put (D := D) (ci := 7) (v := .int 0) (ty := .int) (C := RX7) (T := TX7) (N := 19) hx hb hts k_1 tyX7 tyX7_ok nmX7 hown hK hP hD hS 0 rfl rfl 0 (by decide) k_0 (fun _ h9 => h9) rfl (by decide +kernel) rfl rfl (Nat.le_of_ble_eq_true rfl) dX7_map_2 (fun H locs hP hD hS => ?_)
  have hP : va_P D vwCl [(mo, .inr (7, [.int 0, .int (nI nb), .ref ma1, .ref ma2, .ref ma3, .int (nI nq), .ref mb1, .ref mb2, .int (nI ng), .ref mg1, .ref mg2, .int (nI nt), .ref mt1, .int (nI nn), .ref mn1, .ref mn2, .ref mn3, .ref ml1, .ref mw1])), (mg1, .inl (jg1, 4200, .inr (.inl gn))), (mg2, .inl (jg2, 4200, .inl gg)), (mn1, .inl (jn1, 300, .inl sd)), (mn2, .inl (jn2, 300, .inr (.inl rf))), (mn3, .inl (jn3, 300, .inr (.inl nm)))] H := hP
  have hD : va_D A [(mo, .inr (7, [.int 0, .int (nI nb), .ref ma1, .ref ma2, .ref ma3, .int (nI nq), .ref mb1, .ref mb2, .int (nI ng), .ref mg1, .ref mg2, .int (nI nt), .ref mt1, .int (nI nn), .ref mn1, .ref mn2, .ref mn3, .ref ml1, .ref mw1])), (mg1, .inl (jg1, 4200, .inr (.inl gn))), (mg2, .inl (jg2, 4200, .inl gg)), (mn1, .inl (jn1, 300, .inl sd)), (mn2, .inl (jn2, 300, .inr (.inl rf))), (mn3, .inl (jn3, 300, .inr (.inl nm)))] := hD
  refine lv_aload_n hx hb dX7_map_5 rfl (lv_at hl 0 rfl) ?_
  refine lv_lload hx hb dX7_map_6 (lv_at hl 3 rfl) ?_
  refine zRo_i (va_runV (As := [.long p2]) (rest := []) ⟨hx, hb, hml, hown, hts⟩ (mx_find l D z H.size mo ma1 ma2 ma3 mb1 mb2 mg1 mg2 mt1 mn1 mn2 mn3 ml1 mw1 (0 : Int32) nb nq ng nt nn jg1 gn jg2 gg p2 (by omega)) (cwV 1 hts gX7_map_X7_find rfl rfl rfl (by decide +kernel) ⟨Nat.le_of_ble_eq_true rfl, Nat.le_of_ble_eq_true rfl⟩) ⟨zPre_blind, va_recv hK hP (ci := 7) (q0 := 0) rfl rfl, (zPre_mk (wc := [(mo, .inr (7, [.int (0 : Int32), .int (nI nb), .ref ma1, .ref ma2, .ref ma3, .int (nI nq), .ref mb1, .ref mb2, .int (nI ng), .ref mg1, .ref mg2, .int (nI nt), .ref mt1, .int (nI nn), .ref mn1, .ref mn2, .ref mn3, .ref ml1, .ref mw1])), (mg1, .inl (jg1, 4200, .inr (.inl gn))), (mg2, .inl (jg2, 4200, .inl gg))]) (tc := [(jg1, .long), (jg2, .boolean)]) hP hK hD hC hS [0, 1, 2] (by decide) rfl rfl [0, 1] rfl (zro_free hS hA))⟩ rfl rfl hl.1 rfl (lv_room (Nat.le_of_ble_eq_true rfl)) dX7_map_8 ⟨Nat.zero_le _, Nat.zero_le _⟩) hS hA hP (fun r_8 H locs hw hP hS => ?_)
  have hw_8 : (∃ k, k < ng ∧ gn k = p2 ∧ gg k = 0 ∧ r_8 = nI k) ∨ ((∀ k, k < ng → ¬ (gn k = p2 ∧ gg k = 0)) ∧ r_8 = -1) := hw
  refine lv_if_ge (tgt := 17) hx hb dX7_map_11 (by decide) (fun c_11 => ?_) (fun c_11 => ?_)
  · have i_11 : 0 ≤ r_8.toInt := zi_le.mp c_11
    have hgv : zGiv ng gn gg p2 := by rcases zfnd hw_8 hg with q | q; exact q.2; exact absurd q.1 (by omega)
    refine lv_iload_n hx hb dX7_map_17 rfl (lv_at hl 1 rfl) ?_
    refine lv_i2l (v := p0.toInt64) hx hb dX7_map_18 rfl ?_
    refine lv_lconst (v := 0) hx hb dX7_map_19 (by decide) ?_
    refine lv_ldc2 hx hb hown k_2 dX7_map_20 ?_
    refine zRo_i (va_runS (As := [.long p0.toInt64, .long 0, .long 99]) (rest := []) ⟨hx, hb, hml, hown, hts⟩ (mx_isIn l D z H.size p0.toInt64 (0 : Int64) (99 : Int64) ) (va_cwS 3 hts gX7_map_X7_isIn rfl rfl rfl (by decide +kernel) ⟨Nat.le_of_ble_eq_true rfl, Nat.le_of_ble_eq_true rfl⟩) ⟨zPre_blind, (zPre_mk (wc := []) (tc := []) hP hK hD hC hS [] (by decide) rfl rfl [] rfl (zro_free hS hA))⟩ rfl rfl hl.1 rfl (lv_room (Nat.le_of_ble_eq_true rfl)) dX7_map_23 ⟨Nat.zero_le _, Nat.zero_le _⟩) hS hA hP (fun r_23 H locs hw hP hS => ?_)
    have hw_23 : zB r_23 (0 ≤ p0.toInt64.toInt ∧ p0.toInt64.toInt ≤ 99) := hw
    rw [zi_l] at hw_23
    refine lv_if_eq (tgt := 35) hx hb dX7_map_26 (by decide) (fun c_26 => ?_) (fun c_26 => ?_)
    · have i_26 : r_23.toInt = 0 := zi_eq.mp c_26
      refine lv_bipush (v := -102) hx hb dX7_map_35 (by decide) ?_
      exact W.iret (v := (-102)) hx hb hr (fun t9 ht9 hW9 => ⟨⟨_, (nn, sd, rf, nm), rfl, Or.inr ⟨hgv, Or.inl ⟨fun q => zB_eq hw_23 c_26 (by omega), rfl, rfl, rfl, rfl, rfl⟩⟩, by rw [ht9]; exact hP, va_K.moved hW9.alike hK, hD⟩, hS.F ht9⟩) hS.2.2 dX7_map_37
    · have i_26 : ¬ (r_23.toInt = 0) := fun q9 => c_26 (zi_eq.mpr q9)
      refine lv_lload_n hx hb dX7_map_29 rfl (lv_at hl 2 rfl) ?_
      refine lv_lconst (v := 0) hx hb dX7_map_30 (by decide) ?_
      refine W.lcmp hx hb dX7_map_31 ?_
      refine lv_if_ge (tgt := 38) hx hb dX7_map_32 (by decide) (fun c_32 => ?_) (fun c_32 => ?_)
      · have c_32 : 0 ≤ p1 := (lg_cmp_ge _ _).mp c_32
        have i_32 : 0 ≤ p1.toInt := zl_le.mp c_32
        have hok : 0 ≤ p0.toInt ∧ p0.toInt < 100 ∧ 0 ≤ p1.toInt := by have := zB_ne hw_23 c_26; omega
        refine lv_iconst (v := -1) hx hb dX7_map_38 (by decide) ?_
        refine lv_istore (lv' := [(6, .int (-1)), (0, .ref mo), (1, .int p0), (2, .long p1), (4, .long p2)]) hx hb dX7_map_39 hl (by decide) rfl (fun ls hl => ?_)
        refine lv_iconst (v := -1) hx hb dX7_map_41 (by decide) ?_
        refine lv_istore (lv' := [(7, .int (-1)), (6, .int (-1)), (0, .ref mo), (1, .int p0), (2, .long p1), (4, .long p2)]) hx hb dX7_map_42 hl (by decide) rfl (fun ls hl => ?_)
        refine lv_iconst (v := 0) hx hb dX7_map_44 (by decide) ?_
        refine lv_istore (lv' := [(8, .int 0), (7, .int (-1)), (6, .int (-1)), (0, .ref mo), (1, .int p0), (2, .long p1), (4, .long p2)]) hx hb dX7_map_45 hl (by decide) rfl (fun ls hl => ?_)
        refine zLoop (σ := Nat × Int32 × Int32) (nL := 9) (μ := fun (x : Nat × Int32 × Int32) => match x with | (i, x6, x7) => nn - i) (lv := fun (x : Nat × Int32 × Int32) => match x with | (i, x6, x7) => [(8, .int (nI i)), (0, .ref mo), (1, .int p0), (2, .long p1), (4, .long p2), (6, .int x6), (7, .int x7)]) (wf := fun (x : Nat × Int32 × Int32) => match x with | (i, x6, x7) => [(mo, .inr (7, [.int 0, .int (nI nb), .ref ma1, .ref ma2, .ref ma3, .int (nI nq), .ref mb1, .ref mb2, .int (nI ng), .ref mg1, .ref mg2, .int (nI nt), .ref mt1, .int (nI nn), .ref mn1, .ref mn2, .ref mn3, .ref ml1, .ref mw1])), (mg1, .inl (jg1, 4200, .inr (.inl gn))), (mg2, .inl (jg2, 4200, .inl gg)), (mn1, .inl (jn1, 300, .inl sd)), (mn2, .inl (jn2, 300, .inr (.inl rf))), (mn3, .inl (jn3, 300, .inr (.inl nm)))]) (I := fun (x : Nat × Int32 × Int32) => match x with | (i, x6, x7) => i ≤ nn ∧ zLs (fun j => sd j = p0 ∧ rf j = p1) i x6 ∧ zLs (fun j => sd j = p0 ∧ nm j = p2) i x7) (fun x H locs ls hI hP hD hS hl ih => ?_) (0, (-1), (-1)) ⟨Nat.zero_le _, zLs_0, zLs_0⟩ hP hD hS (lv_sub hl [0, 3, 4, 5, 6, 2, 1] rfl)
        obtain ⟨i, x6, x7⟩ := x
        have hI : i ≤ nn ∧ zLs (fun j => sd j = p0 ∧ rf j = p1) i x6 ∧ zLs (fun j => sd j = p0 ∧ nm j = p2) i x7 := hI
        have hl : lv_has ls 9 [(8, .int (nI i)), (0, .ref mo), (1, .int p0), (2, .long p1), (4, .long p2), (6, .int x6), (7, .int x7)] := hl
        have hP : va_P D vwCl [(mo, .inr (7, [.int 0, .int (nI nb), .ref ma1, .ref ma2, .ref ma3, .int (nI nq), .ref mb1, .ref mb2, .int (nI ng), .ref mg1, .ref mg2, .int (nI nt), .ref mt1, .int (nI nn), .ref mn1, .ref mn2, .ref mn3, .ref ml1, .ref mw1])), (mg1, .inl (jg1, 4200, .inr (.inl gn))), (mg2, .inl (jg2, 4200, .inl gg)), (mn1, .inl (jn1, 300, .inl sd)), (mn2, .inl (jn2, 300, .inr (.inl rf))), (mn3, .inl (jn3, 300, .inr (.inl nm)))] H := hP
        have hD : va_D A [(mo, .inr (7, [.int 0, .int (nI nb), .ref ma1, .ref ma2, .ref ma3, .int (nI nq), .ref mb1, .ref mb2, .int (nI ng), .ref mg1, .ref mg2, .int (nI nt), .ref mt1, .int (nI nn), .ref mn1, .ref mn2, .ref mn3, .ref ml1, .ref mw1])), (mg1, .inl (jg1, 4200, .inr (.inl gn))), (mg2, .inl (jg2, 4200, .inl gg)), (mn1, .inl (jn1, 300, .inl sd)), (mn2, .inl (jn2, 300, .inr (.inl rf))), (mn3, .inl (jn3, 300, .inr (.inl nm)))] := hD
        have h1 := hI.1
        refine lv_iload hx hb dX7_map_47 (lv_at hl 0 rfl) ?_
        refine lv_aload_n hx hb dX7_map_49 rfl (lv_at hl 1 rfl) ?_
        refine va_get (D := D) (ci := 7) (v := .int (nI nn)) (C := RX7) (T := TX7) (N := 19) hx hb hts k_1 hown hK hP 0 rfl rfl 13 (by decide) k_3 (fun _ h9 => h9) rfl dX7_map_50 ?_
        refine lv_icmp_ge (tgt := 116) hx hb dX7_map_53 (by decide) (fun c_53 => ?_) (fun c_53 => ?_)
        · have c_53 : nn ≤ i := (nI_leI (a := nn) (b := i) (by omega) (by omega)).mp c_53
          refine lv_iload hx hb dX7_map_116 (lv_at hl 5 rfl) ?_
          refine lv_if_lt (tgt := 141) hx hb dX7_map_118 (by decide) (fun c_118 => ?_) (fun c_118 => ?_)
          · have i_118 : x6.toInt < 0 := zi_lt.mp c_118
            have e9 : nn = i := (by omega)
            subst e9
            have hno := zLs_neg hI.2.1 (by omega) i_118
            refine lv_iload hx hb dX7_map_141 (lv_at hl 6 rfl) ?_
            refine lv_if_lt (tgt := 156) hx hb dX7_map_143 (by decide) (fun c_143 => ?_) (fun c_143 => ?_)
            · have i_143 : x7.toInt < 0 := zi_lt.mp c_143
              have hns := zLs_neg hI.2.2 (by omega) i_143
              refine lv_aload_n hx hb dX7_map_156 rfl (lv_at hl 1 rfl) ?_
              refine va_get (D := D) (ci := 7) (v := .int (nI nn)) (C := RX7) (T := TX7) (N := 19) hx hb hts k_1 hown hK hP 0 rfl rfl 13 (by decide) k_3 (fun _ h9 => h9) rfl dX7_map_157 ?_
              refine lv_sipush (v := 300) hx hb dX7_map_160 (by decide) ?_
              refine lv_icmp_ne (tgt := 169) hx hb dX7_map_163 (by decide) (fun c_163 => ?_) (fun c_163 => ?_)
              · have c_163 : ¬ (nn = 300) := fun q9 => c_163 ((nI_eq (a := nn) (b := 300) (by omega) (by omega)).mpr q9)
                refine lv_aload_n hx hb dX7_map_169 rfl (lv_at hl 1 rfl) ?_
                refine va_get (D := D) (ci := 7) (v := .ref mn1) (C := RX7) (T := TX7) (N := 19) hx hb hts k_1 hown hK hP 0 rfl rfl 14 (by decide) k_4 (fun _ h9 => h9) rfl dX7_map_170 ?_
                refine lv_aload_n hx hb dX7_map_173 rfl (lv_at hl 1 rfl) ?_
                refine va_get (D := D) (ci := 7) (v := .int (nI nn)) (C := RX7) (T := TX7) (N := 19) hx hb hts k_1 hown hK hP 0 rfl rfl 13 (by decide) k_3 (fun _ h9 => h9) rfl dX7_map_174 ?_
                refine lv_iload_n hx hb dX7_map_177 rfl (lv_at hl 2 rfl) ?_
                refine z_iast (k := nn) hx hb hK hP hD hS 3 2 rfl rfl (by omega) (by decide) dX7_map_178 (fun H locs hP hD hS => ?_)
                have hP : va_P D vwCl [(mo, .inr (7, [.int 0, .int (nI nb), .ref ma1, .ref ma2, .ref ma3, .int (nI nq), .ref mb1, .ref mb2, .int (nI ng), .ref mg1, .ref mg2, .int (nI nt), .ref mt1, .int (nI nn), .ref mn1, .ref mn2, .ref mn3, .ref ml1, .ref mw1])), (mg1, .inl (jg1, 4200, .inr (.inl gn))), (mg2, .inl (jg2, 4200, .inl gg)), (mn1, .inl (jn1, 300, .inl (upd sd nn p0))), (mn2, .inl (jn2, 300, .inr (.inl rf))), (mn3, .inl (jn3, 300, .inr (.inl nm)))] H := hP
                have hD : va_D A [(mo, .inr (7, [.int 0, .int (nI nb), .ref ma1, .ref ma2, .ref ma3, .int (nI nq), .ref mb1, .ref mb2, .int (nI ng), .ref mg1, .ref mg2, .int (nI nt), .ref mt1, .int (nI nn), .ref mn1, .ref mn2, .ref mn3, .ref ml1, .ref mw1])), (mg1, .inl (jg1, 4200, .inr (.inl gn))), (mg2, .inl (jg2, 4200, .inl gg)), (mn1, .inl (jn1, 300, .inl (upd sd nn p0))), (mn2, .inl (jn2, 300, .inr (.inl rf))), (mn3, .inl (jn3, 300, .inr (.inl nm)))] := hD
                refine lv_aload_n hx hb dX7_map_179 rfl (lv_at hl 1 rfl) ?_
                refine va_get (D := D) (ci := 7) (v := .ref mn2) (C := RX7) (T := TX7) (N := 19) hx hb hts k_1 hown hK hP 0 rfl rfl 15 (by decide) k_5 (fun _ h9 => h9) rfl dX7_map_180 ?_
                refine lv_aload_n hx hb dX7_map_183 rfl (lv_at hl 1 rfl) ?_
                refine va_get (D := D) (ci := 7) (v := .int (nI nn)) (C := RX7) (T := TX7) (N := 19) hx hb hts k_1 hown hK hP 0 rfl rfl 13 (by decide) k_3 (fun _ h9 => h9) rfl dX7_map_184 ?_
                refine lv_lload_n hx hb dX7_map_187 rfl (lv_at hl 3 rfl) ?_
                refine z_last (k := nn) hx hb hK hP hD hS 4 3 rfl rfl (by omega) (by decide) dX7_map_188 (fun H locs hP hD hS => ?_)
                have hP : va_P D vwCl [(mo, .inr (7, [.int 0, .int (nI nb), .ref ma1, .ref ma2, .ref ma3, .int (nI nq), .ref mb1, .ref mb2, .int (nI ng), .ref mg1, .ref mg2, .int (nI nt), .ref mt1, .int (nI nn), .ref mn1, .ref mn2, .ref mn3, .ref ml1, .ref mw1])), (mg1, .inl (jg1, 4200, .inr (.inl gn))), (mg2, .inl (jg2, 4200, .inl gg)), (mn1, .inl (jn1, 300, .inl (upd sd nn p0))), (mn2, .inl (jn2, 300, .inr (.inl (vp_updL rf nn p1)))), (mn3, .inl (jn3, 300, .inr (.inl nm)))] H := hP
                have hD : va_D A [(mo, .inr (7, [.int 0, .int (nI nb), .ref ma1, .ref ma2, .ref ma3, .int (nI nq), .ref mb1, .ref mb2, .int (nI ng), .ref mg1, .ref mg2, .int (nI nt), .ref mt1, .int (nI nn), .ref mn1, .ref mn2, .ref mn3, .ref ml1, .ref mw1])), (mg1, .inl (jg1, 4200, .inr (.inl gn))), (mg2, .inl (jg2, 4200, .inl gg)), (mn1, .inl (jn1, 300, .inl (upd sd nn p0))), (mn2, .inl (jn2, 300, .inr (.inl (vp_updL rf nn p1)))), (mn3, .inl (jn3, 300, .inr (.inl nm)))] := hD
                refine lv_aload_n hx hb dX7_map_189 rfl (lv_at hl 1 rfl) ?_
                refine va_get (D := D) (ci := 7) (v := .ref mn3) (C := RX7) (T := TX7) (N := 19) hx hb hts k_1 hown hK hP 0 rfl rfl 16 (by decide) k_6 (fun _ h9 => h9) rfl dX7_map_190 ?_
                refine lv_aload_n hx hb dX7_map_193 rfl (lv_at hl 1 rfl) ?_
                refine va_get (D := D) (ci := 7) (v := .int (nI nn)) (C := RX7) (T := TX7) (N := 19) hx hb hts k_1 hown hK hP 0 rfl rfl 13 (by decide) k_3 (fun _ h9 => h9) rfl dX7_map_194 ?_
                refine lv_lload hx hb dX7_map_197 (lv_at hl 4 rfl) ?_
                refine z_last (k := nn) hx hb hK hP hD hS 5 4 rfl rfl (by omega) (by decide) dX7_map_199 (fun H locs hP hD hS => ?_)
                have hP : va_P D vwCl [(mo, .inr (7, [.int 0, .int (nI nb), .ref ma1, .ref ma2, .ref ma3, .int (nI nq), .ref mb1, .ref mb2, .int (nI ng), .ref mg1, .ref mg2, .int (nI nt), .ref mt1, .int (nI nn), .ref mn1, .ref mn2, .ref mn3, .ref ml1, .ref mw1])), (mg1, .inl (jg1, 4200, .inr (.inl gn))), (mg2, .inl (jg2, 4200, .inl gg)), (mn1, .inl (jn1, 300, .inl (upd sd nn p0))), (mn2, .inl (jn2, 300, .inr (.inl (vp_updL rf nn p1)))), (mn3, .inl (jn3, 300, .inr (.inl (vp_updL nm nn p2))))] H := hP
                have hD : va_D A [(mo, .inr (7, [.int 0, .int (nI nb), .ref ma1, .ref ma2, .ref ma3, .int (nI nq), .ref mb1, .ref mb2, .int (nI ng), .ref mg1, .ref mg2, .int (nI nt), .ref mt1, .int (nI nn), .ref mn1, .ref mn2, .ref mn3, .ref ml1, .ref mw1])), (mg1, .inl (jg1, 4200, .inr (.inl gn))), (mg2, .inl (jg2, 4200, .inl gg)), (mn1, .inl (jn1, 300, .inl (upd sd nn p0))), (mn2, .inl (jn2, 300, .inr (.inl (vp_updL rf nn p1)))), (mn3, .inl (jn3, 300, .inr (.inl (vp_updL nm nn p2))))] := hD
                refine lv_aload_n hx hb dX7_map_200 rfl (lv_at hl 1 rfl) ?_
                refine lv_dup hx hb dX7_map_201 rfl ?_
                refine va_get (D := D) (ci := 7) (v := .int (nI nn)) (C := RX7) (T := TX7) (N := 19) hx hb hts k_1 hown hK hP 0 rfl rfl 13 (by decide) k_3 (fun _ h9 => h9) rfl dX7_map_202 ?_
                refine lv_iconst (v := 1) hx hb dX7_map_205 (by decide) ?_
                refine lv_iadd hx hb dX7_map_206 ?_
                refine lv_topi (fun y_1 e_1 => ?_)
                obtain rfl : y_1 = nI (nn + 1) := e_1.trans (by first | exact nI_1 _ | exact nI_add _ 1)
                refine va_put (D := D) (ci := 7) (v := .int (nI (nn + 1))) (ty := .int) (C := RX7) (T := TX7) (N := 19) hx hb hts k_1 tyX7 tyX7_ok nmX7 hown hK hP hD hS 0 rfl rfl 13 (by decide) k_3 (fun _ h9 => h9) rfl (by decide +kernel) rfl rfl (Nat.le_of_ble_eq_true rfl) dX7_map_207 (fun H locs hP hD hS => ?_)
                have hP : va_P D vwCl [(mo, .inr (7, [.int 0, .int (nI nb), .ref ma1, .ref ma2, .ref ma3, .int (nI nq), .ref mb1, .ref mb2, .int (nI ng), .ref mg1, .ref mg2, .int (nI nt), .ref mt1, .int (nI (nn + 1)), .ref mn1, .ref mn2, .ref mn3, .ref ml1, .ref mw1])), (mg1, .inl (jg1, 4200, .inr (.inl gn))), (mg2, .inl (jg2, 4200, .inl gg)), (mn1, .inl (jn1, 300, .inl (upd sd nn p0))), (mn2, .inl (jn2, 300, .inr (.inl (vp_updL rf nn p1)))), (mn3, .inl (jn3, 300, .inr (.inl (vp_updL nm nn p2))))] H := hP
                have hD : va_D A [(mo, .inr (7, [.int 0, .int (nI nb), .ref ma1, .ref ma2, .ref ma3, .int (nI nq), .ref mb1, .ref mb2, .int (nI ng), .ref mg1, .ref mg2, .int (nI nt), .ref mt1, .int (nI (nn + 1)), .ref mn1, .ref mn2, .ref mn3, .ref ml1, .ref mw1])), (mg1, .inl (jg1, 4200, .inr (.inl gn))), (mg2, .inl (jg2, 4200, .inl gg)), (mn1, .inl (jn1, 300, .inl (upd sd nn p0))), (mn2, .inl (jn2, 300, .inr (.inl (vp_updL rf nn p1)))), (mn3, .inl (jn3, 300, .inr (.inl (vp_updL nm nn p2))))] := hD
                refine lv_iconst (v := 1) hx hb dX7_map_210 (by decide) ?_
                exact W.iret (v := 1) hx hb hr (fun t9 ht9 hW9 => ⟨⟨_, ((nn + 1), (upd sd nn p0), (vp_updL rf nn p1), (vp_updL nm nn p2)), rfl, Or.inr ⟨hgv, Or.inr ⟨hok, Or.inr ⟨hno, Or.inr ⟨hns, Or.inr ⟨c_163, rfl, rfl, rfl, rfl, rfl⟩⟩⟩⟩⟩, by rw [ht9]; exact hP, va_K.moved hW9.alike hK, hD⟩, hS.F ht9⟩) hS.2.2 dX7_map_211
              · have c_163 : nn = 300 := (nI_eq (a := nn) (b := 300) (by omega) (by omega)).mp c_163
                refine lv_bipush (v := -104) hx hb dX7_map_166 (by decide) ?_
                exact W.iret (v := (-104)) hx hb hr (fun t9 ht9 hW9 => ⟨⟨_, (nn, sd, rf, nm), rfl, Or.inr ⟨hgv, Or.inr ⟨hok, Or.inr ⟨hno, Or.inr ⟨hns, Or.inl ⟨c_163, rfl, rfl, rfl, rfl, rfl⟩⟩⟩⟩⟩, by rw [ht9]; exact hP, va_K.moved hW9.alike hK, hD⟩, hS.F ht9⟩) hS.2.2 dX7_map_168
            · have i_143 : ¬ (x7.toInt < 0) := fun q9 => c_143 (zi_lt.mpr q9)
              obtain ⟨j7, hj7, hp7, rfl⟩ := zLs_pos hI.2.2 i_143
              have hl : lv_has ls 9 [(8, .int (nI nn)), (0, .ref mo), (1, .int p0), (2, .long p1), (4, .long p2), (6, .int x6), (7, .int (nI j7))] := hl
              refine lv_aload_n hx hb dX7_map_146 rfl (lv_at hl 1 rfl) ?_
              refine va_get (D := D) (ci := 7) (v := .ref mn2) (C := RX7) (T := TX7) (N := 19) hx hb hts k_1 hown hK hP 0 rfl rfl 15 (by decide) k_5 (fun _ h9 => h9) rfl dX7_map_147 ?_
              refine lv_iload hx hb dX7_map_150 (lv_at hl 6 rfl) ?_
              refine lv_lload_n hx hb dX7_map_152 rfl (lv_at hl 3 rfl) ?_
              refine z_last (k := j7) hx hb hK hP hD hS 4 3 rfl rfl (by omega) (by decide) dX7_map_153 (fun H locs hP hD hS => ?_)
              have hP : va_P D vwCl [(mo, .inr (7, [.int 0, .int (nI nb), .ref ma1, .ref ma2, .ref ma3, .int (nI nq), .ref mb1, .ref mb2, .int (nI ng), .ref mg1, .ref mg2, .int (nI nt), .ref mt1, .int (nI nn), .ref mn1, .ref mn2, .ref mn3, .ref ml1, .ref mw1])), (mg1, .inl (jg1, 4200, .inr (.inl gn))), (mg2, .inl (jg2, 4200, .inl gg)), (mn1, .inl (jn1, 300, .inl sd)), (mn2, .inl (jn2, 300, .inr (.inl (vp_updL rf j7 p1)))), (mn3, .inl (jn3, 300, .inr (.inl nm)))] H := hP
              have hD : va_D A [(mo, .inr (7, [.int 0, .int (nI nb), .ref ma1, .ref ma2, .ref ma3, .int (nI nq), .ref mb1, .ref mb2, .int (nI ng), .ref mg1, .ref mg2, .int (nI nt), .ref mt1, .int (nI nn), .ref mn1, .ref mn2, .ref mn3, .ref ml1, .ref mw1])), (mg1, .inl (jg1, 4200, .inr (.inl gn))), (mg2, .inl (jg2, 4200, .inl gg)), (mn1, .inl (jn1, 300, .inl sd)), (mn2, .inl (jn2, 300, .inr (.inl (vp_updL rf j7 p1)))), (mn3, .inl (jn3, 300, .inr (.inl nm)))] := hD
              refine lv_iconst (v := 2) hx hb dX7_map_154 (by decide) ?_
              exact W.iret (v := 2) hx hb hr (fun t9 ht9 hW9 => ⟨⟨_, (nn, sd, (vp_updL rf j7 p1), nm), rfl, Or.inr ⟨hgv, Or.inr ⟨hok, Or.inr ⟨hno, Or.inl ⟨j7, by omega, hp7, rfl, rfl, rfl, rfl, rfl⟩⟩⟩⟩, by rw [ht9]; exact hP, va_K.moved hW9.alike hK, hD⟩, hS.F ht9⟩) hS.2.2 dX7_map_155
          · have i_118 : ¬ (x6.toInt < 0) := fun q9 => c_118 (zi_lt.mpr q9)
            obtain ⟨j6, hj6, hp6, rfl⟩ := zLs_pos hI.2.1 i_118
            have hl : lv_has ls 9 [(8, .int (nI i)), (0, .ref mo), (1, .int p0), (2, .long p1), (4, .long p2), (6, .int (nI j6)), (7, .int x7)] := hl
            have e9 : nn = i := (by omega)
            subst e9
            refine lv_aload_n hx hb dX7_map_121 rfl (lv_at hl 1 rfl) ?_
            refine va_get (D := D) (ci := 7) (v := .ref mn3) (C := RX7) (T := TX7) (N := 19) hx hb hts k_1 hown hK hP 0 rfl rfl 16 (by decide) k_6 (fun _ h9 => h9) rfl dX7_map_122 ?_
            refine lv_iload hx hb dX7_map_125 (lv_at hl 5 rfl) ?_
            refine z_lald (k := j6) hx hb hK hP 5 4 rfl rfl (by omega) (by decide) dX7_map_127 ?_
            refine lv_lload hx hb dX7_map_128 (lv_at hl 4 rfl) ?_
            refine W.lcmp hx hb dX7_map_130 ?_
            refine lv_if_ne (tgt := 138) hx hb dX7_map_131 (by decide) (fun c_131 => ?_) (fun c_131 => ?_)
            · have c_131 : ¬ ((nm j6) = p2) := fun q9 => c_131 ((lg_cmp_eq _ _).mpr q9)
              have i_131 : ¬ ((nm j6).toInt = p2.toInt) := fun q9 => c_131 (zl_eq.mpr q9)
              refine lv_bipush (v := -103) hx hb dX7_map_138 (by decide) ?_
              exact W.iret (v := (-103)) hx hb hr (fun t9 ht9 hW9 => ⟨⟨_, (nn, sd, rf, nm), rfl, Or.inr ⟨hgv, Or.inr ⟨hok, Or.inl ⟨j6, by omega, hp6, Or.inr ⟨c_131, rfl⟩, rfl, rfl, rfl, rfl⟩⟩⟩, by rw [ht9]; exact hP, va_K.moved hW9.alike hK, hD⟩, hS.F ht9⟩) hS.2.2 dX7_map_140
            · have c_131 : (nm j6) = p2 := (lg_cmp_eq _ _).mp c_131
              have i_131 : (nm j6).toInt = p2.toInt := zl_eq.mp c_131
              refine lv_iconst (v := 0) hx hb dX7_map_134 (by decide) ?_
              refine lv_goto (tgt := 140) hx hb dX7_map_135 (by decide) ?_
              exact W.iret (v := 0) hx hb hr (fun t9 ht9 hW9 => ⟨⟨_, (nn, sd, rf, nm), rfl, Or.inr ⟨hgv, Or.inr ⟨hok, Or.inl ⟨j6, by omega, hp6, Or.inl ⟨c_131, rfl⟩, rfl, rfl, rfl, rfl⟩⟩⟩, by rw [ht9]; exact hP, va_K.moved hW9.alike hK, hD⟩, hS.F ht9⟩) hS.2.2 dX7_map_140
        · have c_53 : ¬ (nn ≤ i) := fun q9 => c_53 ((nI_leI (a := nn) (b := i) (by omega) (by omega)).mpr q9)
          refine lv_aload_n hx hb dX7_map_56 rfl (lv_at hl 1 rfl) ?_
          refine va_get (D := D) (ci := 7) (v := .ref mn1) (C := RX7) (T := TX7) (N := 19) hx hb hts k_1 hown hK hP 0 rfl rfl 14 (by decide) k_4 (fun _ h9 => h9) rfl dX7_map_57 ?_
          refine lv_iload hx hb dX7_map_60 (lv_at hl 0 rfl) ?_
          refine z_iald (k := i) hx hb hK hP 3 2 rfl rfl (by omega) (by decide) dX7_map_62 ?_
          refine lv_iload_n hx hb dX7_map_63 rfl (lv_at hl 2 rfl) ?_
          refine lv_icmp_ne (tgt := 110) hx hb dX7_map_64 (by decide) (fun c_64 => ?_) (fun c_64 => ?_)
          · have i_64 : ¬ ((sd i).toInt = p0.toInt) := fun q9 => c_64 (zi_eq.mpr q9)
            refine lv_iinc (v := (nI (i + 1))) (lv' := [(8, .int (nI (i + 1))), (0, .ref mo), (1, .int p0), (2, .long p1), (4, .long p2), (6, .int x6), (7, .int x7)]) hx hb dX7_map_110 hl (k := 0) rfl (by first | exact nI_1 _ | rfl) (by decide) rfl (fun ls hl => ?_)
            refine lv_goto (tgt := 47) hx hb dX7_map_113 (by decide) ?_
            exact ih (i + 1, x6, x7) _ _ _ (show nn - (i + 1) < nn - i from (by omega)) ⟨by omega, zLs_no hI.2.1 (fun q => c_64 q.1), zLs_no hI.2.2 (fun q => c_64 q.1)⟩ hP hD hS (lv_sub hl [0, 1, 2, 3, 4, 5, 6] rfl)
          · have i_64 : (sd i).toInt = p0.toInt := zi_eq.mp c_64
            refine lv_aload_n hx hb dX7_map_67 rfl (lv_at hl 1 rfl) ?_
            refine va_get (D := D) (ci := 7) (v := .ref mn2) (C := RX7) (T := TX7) (N := 19) hx hb hts k_1 hown hK hP 0 rfl rfl 15 (by decide) k_5 (fun _ h9 => h9) rfl dX7_map_68 ?_
            refine lv_iload hx hb dX7_map_71 (lv_at hl 0 rfl) ?_
            refine z_lald (k := i) hx hb hK hP 4 3 rfl rfl (by omega) (by decide) dX7_map_73 ?_
            refine lv_lload_n hx hb dX7_map_74 rfl (lv_at hl 3 rfl) ?_
            refine W.lcmp hx hb dX7_map_75 ?_
            refine lv_if_ne (tgt := 84) hx hb dX7_map_76 (by decide) (fun c_76 => ?_) (fun c_76 => ?_)
            · have c_76 : ¬ ((rf i) = p1) := fun q9 => c_76 ((lg_cmp_eq _ _).mpr q9)
              have i_76 : ¬ ((rf i).toInt = p1.toInt) := fun q9 => c_76 (zl_eq.mpr q9)
              refine lv_iload hx hb dX7_map_84 (lv_at hl 5 rfl) ?_
              refine lv_istore (lv' := [(6, .int x6), (8, .int (nI i)), (0, .ref mo), (1, .int p0), (2, .long p1), (4, .long p2), (7, .int x7)]) hx hb dX7_map_86 hl (by decide) rfl (fun ls hl => ?_)
              refine lv_aload_n hx hb dX7_map_88 rfl (lv_at hl 2 rfl) ?_
              refine va_get (D := D) (ci := 7) (v := .ref mn3) (C := RX7) (T := TX7) (N := 19) hx hb hts k_1 hown hK hP 0 rfl rfl 16 (by decide) k_6 (fun _ h9 => h9) rfl dX7_map_89 ?_
              refine lv_iload hx hb dX7_map_92 (lv_at hl 1 rfl) ?_
              refine z_lald (k := i) hx hb hK hP 5 4 rfl rfl (by omega) (by decide) dX7_map_94 ?_
              refine lv_lload hx hb dX7_map_95 (lv_at hl 5 rfl) ?_
              refine W.lcmp hx hb dX7_map_97 ?_
              refine lv_if_ne (tgt := 106) hx hb dX7_map_98 (by decide) (fun c_98 => ?_) (fun c_98 => ?_)
              · have c_98 : ¬ ((nm i) = p2) := fun q9 => c_98 ((lg_cmp_eq _ _).mpr q9)
                have i_98 : ¬ ((nm i).toInt = p2.toInt) := fun q9 => c_98 (zl_eq.mpr q9)
                refine lv_iload hx hb dX7_map_106 (lv_at hl 6 rfl) ?_
                refine lv_istore (lv' := [(7, .int x7), (6, .int x6), (8, .int (nI i)), (0, .ref mo), (1, .int p0), (2, .long p1), (4, .long p2)]) hx hb dX7_map_108 hl (by decide) rfl (fun ls hl => ?_)
                refine lv_iinc (v := (nI (i + 1))) (lv' := [(8, .int (nI (i + 1))), (7, .int x7), (6, .int x6), (0, .ref mo), (1, .int p0), (2, .long p1), (4, .long p2)]) hx hb dX7_map_110 hl (k := 2) rfl (by first | exact nI_1 _ | rfl) (by decide) rfl (fun ls hl => ?_)
                refine lv_goto (tgt := 47) hx hb dX7_map_113 (by decide) ?_
                exact ih (i + 1, x6, x7) _ _ _ (show nn - (i + 1) < nn - i from (by omega)) ⟨by omega, zLs_no hI.2.1 (fun q => c_76 q.2), zLs_no hI.2.2 (fun q => c_98 q.2)⟩ hP hD hS (lv_sub hl [0, 3, 4, 5, 6, 2, 1] rfl)
              · have c_98 : (nm i) = p2 := (lg_cmp_eq _ _).mp c_98
                have i_98 : (nm i).toInt = p2.toInt := zl_eq.mp c_98
                refine lv_iload hx hb dX7_map_101 (lv_at hl 1 rfl) ?_
                refine lv_goto (tgt := 108) hx hb dX7_map_103 (by decide) ?_
                refine lv_istore (lv' := [(7, .int (nI i)), (6, .int x6), (8, .int (nI i)), (0, .ref mo), (1, .int p0), (2, .long p1), (4, .long p2)]) hx hb dX7_map_108 hl (by decide) rfl (fun ls hl => ?_)
                refine lv_iinc (v := (nI (i + 1))) (lv' := [(8, .int (nI (i + 1))), (7, .int (nI i)), (6, .int x6), (0, .ref mo), (1, .int p0), (2, .long p1), (4, .long p2)]) hx hb dX7_map_110 hl (k := 2) rfl (by first | exact nI_1 _ | rfl) (by decide) rfl (fun ls hl => ?_)
                refine lv_goto (tgt := 47) hx hb dX7_map_113 (by decide) ?_
                exact ih (i + 1, x6, nI i) _ _ _ (show nn - (i + 1) < nn - i from (by omega)) ⟨by omega, zLs_no hI.2.1 (fun q => c_76 q.2), zLs_hit ⟨c_64, c_98⟩⟩ hP hD hS (lv_sub hl [0, 3, 4, 5, 6, 2, 1] rfl)
            · have c_76 : (rf i) = p1 := (lg_cmp_eq _ _).mp c_76
              have i_76 : (rf i).toInt = p1.toInt := zl_eq.mp c_76
              refine lv_iload hx hb dX7_map_79 (lv_at hl 0 rfl) ?_
              refine lv_goto (tgt := 86) hx hb dX7_map_81 (by decide) ?_
              refine lv_istore (lv' := [(6, .int (nI i)), (8, .int (nI i)), (0, .ref mo), (1, .int p0), (2, .long p1), (4, .long p2), (7, .int x7)]) hx hb dX7_map_86 hl (by decide) rfl (fun ls hl => ?_)
              refine lv_aload_n hx hb dX7_map_88 rfl (lv_at hl 2 rfl) ?_
              refine va_get (D := D) (ci := 7) (v := .ref mn3) (C := RX7) (T := TX7) (N := 19) hx hb hts k_1 hown hK hP 0 rfl rfl 16 (by decide) k_6 (fun _ h9 => h9) rfl dX7_map_89 ?_
              refine lv_iload hx hb dX7_map_92 (lv_at hl 1 rfl) ?_
              refine z_lald (k := i) hx hb hK hP 5 4 rfl rfl (by omega) (by decide) dX7_map_94 ?_
              refine lv_lload hx hb dX7_map_95 (lv_at hl 5 rfl) ?_
              refine W.lcmp hx hb dX7_map_97 ?_
              refine lv_if_ne (tgt := 106) hx hb dX7_map_98 (by decide) (fun c_98 => ?_) (fun c_98 => ?_)
              · have c_98 : ¬ ((nm i) = p2) := fun q9 => c_98 ((lg_cmp_eq _ _).mpr q9)
                have i_98 : ¬ ((nm i).toInt = p2.toInt) := fun q9 => c_98 (zl_eq.mpr q9)
                refine lv_iload hx hb dX7_map_106 (lv_at hl 6 rfl) ?_
                refine lv_istore (lv' := [(7, .int x7), (6, .int (nI i)), (8, .int (nI i)), (0, .ref mo), (1, .int p0), (2, .long p1), (4, .long p2)]) hx hb dX7_map_108 hl (by decide) rfl (fun ls hl => ?_)
                refine lv_iinc (v := (nI (i + 1))) (lv' := [(8, .int (nI (i + 1))), (7, .int x7), (6, .int (nI i)), (0, .ref mo), (1, .int p0), (2, .long p1), (4, .long p2)]) hx hb dX7_map_110 hl (k := 2) rfl (by first | exact nI_1 _ | rfl) (by decide) rfl (fun ls hl => ?_)
                refine lv_goto (tgt := 47) hx hb dX7_map_113 (by decide) ?_
                exact ih (i + 1, nI i, x7) _ _ _ (show nn - (i + 1) < nn - i from (by omega)) ⟨by omega, zLs_hit ⟨c_64, c_76⟩, zLs_no hI.2.2 (fun q => c_98 q.2)⟩ hP hD hS (lv_sub hl [0, 3, 4, 5, 6, 2, 1] rfl)
              · have c_98 : (nm i) = p2 := (lg_cmp_eq _ _).mp c_98
                have i_98 : (nm i).toInt = p2.toInt := zl_eq.mp c_98
                refine lv_iload hx hb dX7_map_101 (lv_at hl 1 rfl) ?_
                refine lv_goto (tgt := 108) hx hb dX7_map_103 (by decide) ?_
                refine lv_istore (lv' := [(7, .int (nI i)), (6, .int (nI i)), (8, .int (nI i)), (0, .ref mo), (1, .int p0), (2, .long p1), (4, .long p2)]) hx hb dX7_map_108 hl (by decide) rfl (fun ls hl => ?_)
                refine lv_iinc (v := (nI (i + 1))) (lv' := [(8, .int (nI (i + 1))), (7, .int (nI i)), (6, .int (nI i)), (0, .ref mo), (1, .int p0), (2, .long p1), (4, .long p2)]) hx hb dX7_map_110 hl (k := 2) rfl (by first | exact nI_1 _ | rfl) (by decide) rfl (fun ls hl => ?_)
                refine lv_goto (tgt := 47) hx hb dX7_map_113 (by decide) ?_
                exact ih (i + 1, nI i, nI i) _ _ _ (show nn - (i + 1) < nn - i from (by omega)) ⟨by omega, zLs_hit ⟨c_64, c_76⟩, zLs_hit ⟨c_64, c_98⟩⟩ hP hD hS (lv_sub hl [0, 3, 4, 5, 6, 2, 1] rfl)
      · have c_32 : ¬ (0 ≤ p1) := fun q9 => c_32 ((lg_cmp_ge _ _).mpr q9)
        have i_32 : ¬ (0 ≤ p1.toInt) := fun q9 => c_32 (zl_le.mpr q9)
        refine lv_bipush (v := -102) hx hb dX7_map_35 (by decide) ?_
        exact W.iret (v := (-102)) hx hb hr (fun t9 ht9 hW9 => ⟨⟨_, (nn, sd, rf, nm), rfl, Or.inr ⟨hgv, Or.inl ⟨by omega, rfl, rfl, rfl, rfl, rfl⟩⟩, by rw [ht9]; exact hP, va_K.moved hW9.alike hK, hD⟩, hS.F ht9⟩) hS.2.2 dX7_map_37
  · have i_11 : ¬ (0 ≤ r_8.toInt) := fun q9 => c_11 (zi_le.mpr q9)
    refine lv_bipush (v := -101) hx hb dX7_map_14 (by decide) ?_
    exact W.iret (v := (-101)) hx hb hr (fun t9 ht9 hW9 => ⟨⟨_, (nn, sd, rf, nm), rfl, Or.inl ⟨by rcases zfnd hw_8 hg with q | q; exact absurd q.1 (by omega); exact q.2, rfl, rfl, rfl, rfl, rfl⟩, by rw [ht9]; exact hP, va_K.moved hW9.alike hK, hD⟩, hS.F ht9⟩) hS.2.2 dX7_map_16
