/-! letter -/
theorem zro_A {n q : Nat} (h : va_A [] n q) : n ≤ q := by
  rcases h with ⟨k, e, h⟩ | h
  · simp at h
  · exact h
set_option maxHeartbeats 4000000 in
set_option maxRecDepth 100000 in
theorem cc_X6_letter (l : Launch) (D : va_G) (z : zG) (sz : Nat) (oo : Nat) (p0 : Int64) (p1 : Int32) (hok : ¬ zIsN p0 ∨ (0 ≤ p1.toInt ∧ p1.toInt ≤ 8)) : Met l yX6_letter wsX6_letter ({ frames := 5, cells := 0, slots := 0, locals := 105 }) (zPre D z [.ref oo, .long p0, .int p1] sz [] [] (va_A [] sz)) (va_Qi (fun (r : Int32) (u : Unit) => (¬ zIsN p0 ∧ r = -101) ∨ (zIsN p0 ∧ r = zLetter (zVA p0 p1.toInt.toNat))) zT (va_A [] sz)) 0 0 (va_A [] sz) := by
  refine Met.ofW (cc := cX6_letter) (maxL := 4) (ret := (some .int)) (by decide) rfl ?_
  intro p e s m args below meth c s₁ B hml hv
  obtain ⟨rfl, hsz, hP, hK, hD, hC⟩ := hv
  have hx := B.exec
  have hb := B.bytes
  have hr := B.returns
  have hts := atoms_spec (ws := wsX6_letter) B.pre
  have hown : s.vm.findClass RX6 = some m.cls := findClass_of_methodNamed B.named
  have hlocks := B.notSynchronized
  subst hsz
  generalize hAe : va_A [] s.heap.size = A at hC ⊢
  have hA : ∀ q : Nat, s.heap.size ≤ q → A q := fun q h => by rw [← hAe]; exact Or.inr h
  have hS : va_S A s.heap s.heap [] := va_S.rf
  have hP : va_P D vwCl [] s.heap := hP
  have hl := lv_entry ([.ref oo, .long p0, .int p1]) (n := 4) (Nat.le_of_ble_eq_true rfl)
  rw [lg_entry_eq]
  generalize (lg_sl ([.ref oo, .long p0, .int p1]) ++ List.replicate (4 - (lg_sl ([.ref oo, .long p0, .int p1])).length) Slot.unset).toArray = ls at hl ⊢
  have hl : lv_has ls 4 [(0, .ref oo), (1, .long p0), (3, .int p1)] := hl
  refine zNameH (D := D) (A := A) (ws := []) (fun H locs hP hS => ?_) hP hS
  refine lv_lload_n hx hb dX6_letter_0 rfl (lv_at hl 1 rfl) ?_
  refine zRo_i (va_runS (As := [.long p0]) (rest := []) ⟨hx, hb, hml, hown, hts⟩ (cc_X6_isNumber l D z H.size p0 ) (va_cwS 1 hts gX6_letter_X6_isNumber rfl rfl rfl (by decide +kernel) ⟨Nat.le_of_ble_eq_true rfl, Nat.le_of_ble_eq_true rfl⟩) ⟨zPre_blind, (zPre_mk (wc := []) (tc := []) hP hK hD hC hS [] (by decide) rfl rfl [] rfl (zro_free hS hA))⟩ rfl rfl hl.1 rfl (lv_room (Nat.le_of_ble_eq_true rfl)) dX6_letter_1 ⟨Nat.zero_le _, Nat.zero_le _⟩) hS hA hP (fun r_1 H locs hw hP hS => ?_)
  have hw_1 : zB r_1 (27512614111 ≤ p0.toInt ∧ p0.toInt < 302638755221) := hw
  refine lv_if_ne (tgt := 10) hx hb dX6_letter_4 (by decide) (fun c_4 => ?_) (fun c_4 => ?_)
  · have i_4 : ¬ (r_1.toInt = 0) := fun q9 => c_4 (zi_eq.mpr q9)
    refine lv_iload_n hx hb dX6_letter_10 rfl (lv_at hl 2 rfl) ?_
    refine lv_if_lt (tgt := 20) hx hb dX6_letter_11 (by decide) (fun c_11 => ?_) (fun c_11 => ?_)
    · have i_11 : p1.toInt < 0 := zi_lt.mp c_11
      exact absurd (hok.resolve_left (fun q => q (zB_ne hw_1 c_4))) (by omega)
    · have i_11 : ¬ (p1.toInt < 0) := fun q9 => c_11 (zi_lt.mpr q9)
      refine lv_iload_n hx hb dX6_letter_14 rfl (lv_at hl 2 rfl) ?_
      refine lv_bipush (v := 9) hx hb dX6_letter_15 (by decide) ?_
      refine lv_icmp_lt (tgt := 30) hx hb dX6_letter_17 (by decide) (fun c_17 => ?_) (fun c_17 => ?_)
      · have i_17 : p1.toInt < 9 := zi_lt.mp c_17
        obtain ⟨i, hi, rfl⟩ := znat (x := p1) (n := 9) i_11 (by omega) (by decide)
        have hl : lv_has ls 4 [(0, .ref oo), (1, .long p0), (3, .int (nI i))] := hl
        refine lv_lload_n hx hb dX6_letter_30 rfl (lv_at hl 1 rfl) ?_
        refine lv_iload_n hx hb dX6_letter_31 rfl (lv_at hl 2 rfl) ?_
        refine zRo_i (va_runS (As := [.long p0, .int (nI i)]) (rest := []) ⟨hx, hb, hml, hown, hts⟩ (cc_X2_valueAt l D z H.size p0 i (by omega)) (va_cwS 2 hts gX6_letter_X2_valueAt rfl rfl rfl (by decide +kernel) ⟨Nat.le_of_ble_eq_true rfl, Nat.le_of_ble_eq_true rfl⟩) ⟨zPre_blind, (zPre_mk (wc := []) (tc := []) hP hK hD hC hS [] (by decide) rfl rfl [] rfl (zro_free hS hA))⟩ rfl rfl hl.1 rfl (lv_room (Nat.le_of_ble_eq_true rfl)) dX6_letter_32 ⟨Nat.zero_le _, Nat.zero_le _⟩) hS hA hP (fun r_32 H locs hw hP hS => ?_)
        have hw_32 : r_32 = zVA p0 i := hw
        refine zRo_i (va_runS (As := [.int r_32]) (rest := []) ⟨hx, hb, hml, hown, hts⟩ (cc_X2_letterOf l D z H.size r_32 ) (va_cwS 1 hts gX6_letter_X2_letterOf rfl rfl rfl (by decide +kernel) ⟨Nat.le_of_ble_eq_true rfl, Nat.le_of_ble_eq_true rfl⟩) ⟨zPre_blind, (zPre_mk (wc := []) (tc := []) hP hK hD hC hS [] (by decide) rfl rfl [] rfl (zro_free hS hA))⟩ rfl rfl hl.1 rfl (lv_room (Nat.le_of_ble_eq_true rfl)) dX6_letter_35 ⟨Nat.zero_le _, Nat.zero_le _⟩) hS hA hP (fun r_35 H locs hw hP hS => ?_)
        have hw_35 : r_35 = zLetter r_32 := hw
        exact W.iret (v := r_35) hx hb hr (fun t9 ht9 hW9 => ⟨⟨_, (), rfl, Or.inr ⟨zB_ne hw_1 c_4, by rw [hw_35, hw_32, nI_toInt (by omega)]; rfl⟩, trivial⟩, hS.F ht9⟩) hS.2.2 dX6_letter_38
      · have i_17 : ¬ (p1.toInt < 9) := fun q9 => c_17 (zi_lt.mpr q9)
        exact absurd (hok.resolve_left (fun q => q (zB_ne hw_1 c_4))) (by omega)
  · have i_4 : r_1.toInt = 0 := zi_eq.mp c_4
    refine lv_bipush (v := -101) hx hb dX6_letter_7 (by decide) ?_
    exact W.iret (v := (-101)) hx hb hr (fun t9 ht9 hW9 => ⟨⟨_, (), rfl, Or.inl ⟨zB_eq hw_1 c_4, rfl⟩, trivial⟩, hS.F ht9⟩) hS.2.2 dX6_letter_9
set_option maxHeartbeats 4000000 in
set_option maxRecDepth 100000 in
theorem ct_letter (l : Launch) (hfl : l.stackTraces = false) (D : va_G) (z : zG) (sz oo : Nat) (p0 : Int64) (p1 : Int32) (hN : zIsN p0) (hi : ¬ (0 ≤ p1.toInt ∧ p1.toInt ≤ 8)) : MetFree l yX6_letter (headSpec wsX6_letter ({ frames := 7, cells := 1, slots := 6, locals := 110 })) (fun a U => zPre D z [.ref oo, .long p0, .int p1] sz [] [] (va_A [] sz) a U ∧ zTA U) (fun _ _ _ _ _ => True) (fun _ st o t => zThQ st o t) := by
  refine MetFree.of_bodyS (code := cX6_letter) (maxLocals := 4) (ret := some .int) (by decide) ?_ ?_
  · intro args s m h hn
    obtain ⟨meth, c, h1, h2, h3, h4, h5, h6, -, -⟩ := Cond.code_spec hn (atoms_spec (ws := wsX6_letter) h _ List.mem_cons_self)
    exact ⟨meth, c, h1, h2, h3, h4, h5, h6⟩
  · intro p e s m args below meth c s₁ B hml hv _
    obtain ⟨⟨rfl, hsz, hP, hK, hD, hC⟩, hTA⟩ := hv
    have hx := B.exec
    have hb := B.bytes
    have hts := atoms_spec (ws := wsX6_letter) B.pre
    have hown : s.vm.findClass RX6 = some m.cls := findClass_of_methodNamed B.named
    have hlocks := B.notSynchronized
    have hnh := B.noHandlers (hts _ List.mem_cons_self)
    subst hsz
    generalize hAe : va_A [] s.heap.size = A at hC
    have hA : ∀ q : Nat, s.heap.size ≤ q → A q := fun q h => by rw [← hAe]; exact Or.inr h
    have hS : va_S A s.heap s.heap [] := va_S.rf
    have hh0 : s₁.heap = s.heap := by rw [B.state]; rfl
    have K9 : W p l e (headSpec wsX6_letter ({ frames := 7, cells := 1, slots := 6, locals := 110 })).room s m #[Value.ref oo, .long p0, .int p1] below meth c s.heap [] 0 0 (zThZ below s) (entryFrame m ([.ref oo, .long p0, .int p1] : List Value).toArray 4) := by
      have hl := lv_entry ([.ref oo, .long p0, .int p1]) (n := 4) (Nat.le_of_ble_eq_true rfl)
      rw [lg_entry_eq]
      generalize (lg_sl ([.ref oo, .long p0, .int p1]) ++ List.replicate (4 - (lg_sl ([.ref oo, .long p0, .int p1])).length) Slot.unset).toArray = ls at hl ⊢
      have hl : lv_has ls 4 [(0, .ref oo), (1, .long p0), (3, .int p1)] := hl
      refine zNameH (D := D) (A := A) (ws := []) (fun H locs hP hS => ?_) hP hS
      have k_0 := hts (.classLink RX6 91 RJx00060) (by decide +kernel)
      have k_1 := hts (.instantiable RJx00060 6) (by decide +kernel)
      have k_2 := hts (.initialized RJx00060) (by decide +kernel)
      refine lv_lload_n hx hb dX6_letter_0 rfl (lv_at hl 1 rfl) ?_
      refine zRo_i (va_runS (As := [.long p0]) (rest := []) ⟨hx, hb, hml, hown, hts⟩ (cc_X6_isNumber l D z H.size p0 ) (va_cwS 1 hts gX6_letter_X6_isNumber rfl rfl rfl (by decide +kernel) ⟨Nat.le_of_ble_eq_true rfl, Nat.le_of_ble_eq_true rfl⟩) ⟨zPre_blind, (zPre_mk (wc := []) (tc := []) hP hK hD hC hS [] (by decide) rfl rfl [] rfl (zro_free hS hA))⟩ rfl rfl hl.1 rfl (lv_room (Nat.le_of_ble_eq_true rfl)) dX6_letter_1 ⟨Nat.zero_le _, Nat.zero_le _⟩) hS hA hP (fun r_1 H locs hw hP hS => ?_)
      have hw_1 : zB r_1 (27512614111 ≤ p0.toInt ∧ p0.toInt < 302638755221) := hw
      refine lv_if_ne (tgt := 10) hx hb dX6_letter_4 (by decide) (fun c_4 => ?_) (fun c_4 => ?_)
      · have i_4 : ¬ (r_1.toInt = 0) := fun q9 => c_4 (zi_eq.mpr q9)
        refine lv_iload_n hx hb dX6_letter_10 rfl (lv_at hl 2 rfl) ?_
        refine lv_if_lt (tgt := 20) hx hb dX6_letter_11 (by decide) (fun c_11 => ?_) (fun c_11 => ?_)
        · have i_11 : p1.toInt < 0 := zi_lt.mp c_11
          refine va_forget (fun q hq => zro_A (by rw [hAe]; exact hS.2.2 q hq)) ?_
          obtain ⟨-, hfc, -⟩ := hK.1 0 _ rfl
          refine W.newcK (cC := D.1 0) hx hb hown k_0 k_1 k_2 rfl dX6_letter_20 (Nat.le_of_ble_eq_true rfl) (Nat.le_of_ble_eq_true rfl) hfc rfl (fun H9 kC hkC e1 z1 o1 => ?_)
          refine W.eq (g2 := F0 m 23 ls [.ref H.size]) rfl ?_
          refine lv_dup hx hb dX6_letter_23 rfl ?_
          refine va_ldcS hx hb hown hC.2.2.1 dX6_letter_24 ?_
          exact zThrowW (msg := z.2.2.2) hx hfl hown (fun w9 hw9 => hTA w9 hw9 _) hlocks hfc hkC e1 hS.1 (hl.1.trans hml.symm) hnh (by rw [hb]; exact dX6_letter_26) (by rw [hb]; exact dX6_letter_29) ⟨Nat.le_of_ble_eq_true rfl, Nat.le_of_ble_eq_true rfl⟩
        · have i_11 : ¬ (p1.toInt < 0) := fun q9 => c_11 (zi_lt.mpr q9)
          refine lv_iload_n hx hb dX6_letter_14 rfl (lv_at hl 2 rfl) ?_
          refine lv_bipush (v := 9) hx hb dX6_letter_15 (by decide) ?_
          refine lv_icmp_lt (tgt := 30) hx hb dX6_letter_17 (by decide) (fun c_17 => ?_) (fun c_17 => ?_)
          · have i_17 : p1.toInt < 9 := zi_lt.mp c_17
            exact absurd (by omega) hi
          · have i_17 : ¬ (p1.toInt < 9) := fun q9 => c_17 (zi_lt.mpr q9)
            refine va_forget (fun q hq => zro_A (by rw [hAe]; exact hS.2.2 q hq)) ?_
            obtain ⟨-, hfc, -⟩ := hK.1 0 _ rfl
            refine W.newcK (cC := D.1 0) hx hb hown k_0 k_1 k_2 rfl dX6_letter_20 (Nat.le_of_ble_eq_true rfl) (Nat.le_of_ble_eq_true rfl) hfc rfl (fun H9 kC hkC e1 z1 o1 => ?_)
            refine W.eq (g2 := F0 m 23 ls [.ref H.size]) rfl ?_
            refine lv_dup hx hb dX6_letter_23 rfl ?_
            refine va_ldcS hx hb hown hC.2.2.1 dX6_letter_24 ?_
            exact zThrowW (msg := z.2.2.2) hx hfl hown (fun w9 hw9 => hTA w9 hw9 _) hlocks hfc hkC e1 hS.1 (hl.1.trans hml.symm) hnh (by rw [hb]; exact dX6_letter_26) (by rw [hb]; exact dX6_letter_29) ⟨Nat.le_of_ble_eq_true rfl, Nat.le_of_ble_eq_true rfl⟩
      · have i_4 : r_1.toInt = 0 := zi_eq.mp c_4
        exact absurd hN (zB_eq hw_1 c_4)
    obtain ⟨t, a1, o, b1, b2, b3⟩ := K9 s₁ hh0 (Stand.of_body B)
    exact ⟨t, o, a1, b1, b2, b3⟩
