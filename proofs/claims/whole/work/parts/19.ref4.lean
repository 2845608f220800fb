set_option maxHeartbeats 4000000 in
set_option maxRecDepth 100000 in
theorem mx_sign (l : Launch) (D : va_G) (z : zG) (sz : Nat) (p0 : Int32)  : Met l yX7_sign wsX7_sign ({ frames := 0, cells := 0, slots := 0, locals := 0 }) (zPre D z [.int p0] sz [] [] (va_A [] sz)) (va_Qi (fun (r : Int32) (u : Unit) => r = zSign p0) zT (va_A [] sz)) 0 0 (va_A [] sz) := by
  refine Met.ofW (cc := cX7_sign) (maxL := 1) (ret := (some .int)) (by decide) rfl ?_
  intro p e s m args below meth c s₁ B hml hv
  obtain ⟨rfl, hsz, hP, hK, hD, hC⟩ := hv
  have hx := B.exec
  have hb := B.bytes
  have hr := B.returns
  have hts := atoms_spec (ws := wsX7_sign) B.pre
  have hown : s.vm.findClass RX7 = some m.cls := findClass_of_methodNamed B.named
  have hlocks := B.notSynchronized
  subst hsz
  generalize hAe : va_A [] s.heap.size = A at hC ⊢
  have hA : ∀ q : Nat, s.heap.size ≤ q → A q := fun q h => by rw [← hAe]; exact Or.inr h
  have hS : va_S A s.heap s.heap [] := va_S.rf
  have hP : va_P D vwCl [] s.heap := hP
  have hl := lv_entry ([.int p0]) (n := 1) (Nat.le_of_ble_eq_true rfl)
  rw [lg_entry_eq]
  generalize (lg_sl ([.int p0]) ++ List.replicate (1 - (lg_sl ([.int p0])).length) Slot.unset).toArray = ls at hl ⊢
  have hl : lv_has ls 1 [(0, .int p0)] := hl
  refine zNameH (D := D) (A := A) (ws := []) (fun H locs hP hS => ?_) hP hS
  refine lv_iload_n hx hb dX7_sign_0 rfl (lv_at hl 0 rfl) ?_
  refine lv_bipush (v := 10) hx hb dX7_sign_1 (by decide) ?_
  refine lv_icmp_ge (tgt := 13) hx hb dX7_sign_3 (by decide) (fun c_3 => ?_) (fun c_3 => ?_)
  · have i_3 : 10 ≤ p0.toInt := zi_le.mp c_3
    refine lv_iload_n hx hb dX7_sign_13 rfl (lv_at hl 0 rfl) ?_
    refine lv_bipush (v := 18) hx hb dX7_sign_14 (by decide) ?_
    refine lv_icmp_ge (tgt := 29) hx hb dX7_sign_16 (by decide) (fun c_16 => ?_) (fun c_16 => ?_)
    · have i_16 : 18 ≤ p0.toInt := zi_le.mp c_16
      refine lv_iload_n hx hb dX7_sign_29 rfl (lv_at hl 0 rfl) ?_
      refine lv_bipush (v := 23) hx hb dX7_sign_30 (by decide) ?_
      refine lv_icmp_ge (tgt := 45) hx hb dX7_sign_32 (by decide) (fun c_32 => ?_) (fun c_32 => ?_)
      · have i_32 : 23 ≤ p0.toInt := zi_le.mp c_32
        refine lv_bipush (v := 80) hx hb dX7_sign_45 (by decide) ?_
        refine lv_iload_n hx hb dX7_sign_47 rfl (lv_at hl 0 rfl) ?_
        refine lv_iadd hx hb dX7_sign_48 ?_
        refine lv_bipush (v := 23) hx hb dX7_sign_49 (by decide) ?_
        refine lv_isub hx hb dX7_sign_51 ?_
        exact W.iret (v := ((80 + p0) - 23)) hx hb hr (fun t9 ht9 hW9 => ⟨⟨_, (), rfl, by unfold zSign; rw [if_neg (by omega), if_neg (by omega), if_neg (by omega)], trivial⟩, hS.F ht9⟩) hS.2.2 dX7_sign_52
      · have i_32 : ¬ (23 ≤ p0.toInt) := fun q9 => c_32 (zi_le.mpr q9)
        refine lv_bipush (v := 74) hx hb dX7_sign_35 (by decide) ?_
        refine lv_iload_n hx hb dX7_sign_37 rfl (lv_at hl 0 rfl) ?_
        refine lv_iadd hx hb dX7_sign_38 ?_
        refine lv_bipush (v := 18) hx hb dX7_sign_39 (by decide) ?_
        refine lv_isub hx hb dX7_sign_41 ?_
        refine lv_goto (tgt := 52) hx hb dX7_sign_42 (by decide) ?_
        exact W.iret (v := ((74 + p0) - 18)) hx hb hr (fun t9 ht9 hW9 => ⟨⟨_, (), rfl, by unfold zSign; rw [if_neg (by omega), if_neg (by omega), if_pos (by omega)], trivial⟩, hS.F ht9⟩) hS.2.2 dX7_sign_52
    · have i_16 : ¬ (18 ≤ p0.toInt) := fun q9 => c_16 (zi_le.mpr q9)
      refine lv_bipush (v := 65) hx hb dX7_sign_19 (by decide) ?_
      refine lv_iload_n hx hb dX7_sign_21 rfl (lv_at hl 0 rfl) ?_
      refine lv_iadd hx hb dX7_sign_22 ?_
      refine lv_bipush (v := 10) hx hb dX7_sign_23 (by decide) ?_
      refine lv_isub hx hb dX7_sign_25 ?_
      refine lv_goto (tgt := 52) hx hb dX7_sign_26 (by decide) ?_
      exact W.iret (v := ((65 + p0) - 10)) hx hb hr (fun t9 ht9 hW9 => ⟨⟨_, (), rfl, by unfold zSign; rw [if_neg (by omega), if_pos (by omega)], trivial⟩, hS.F ht9⟩) hS.2.2 dX7_sign_52
  · have i_3 : ¬ (10 ≤ p0.toInt) := fun q9 => c_3 (zi_le.mpr q9)
    refine lv_bipush (v := 48) hx hb dX7_sign_6 (by decide) ?_
    refine lv_iload_n hx hb dX7_sign_8 rfl (lv_at hl 0 rfl) ?_
    refine lv_iadd hx hb dX7_sign_9 ?_
    refine lv_goto (tgt := 52) hx hb dX7_sign_10 (by decide) ?_
    exact W.iret (v := (48 + p0)) hx hb hr (fun t9 ht9 hW9 => ⟨⟨_, (), rfl, by unfold zSign; rw [if_pos (by omega)], trivial⟩, hS.F ht9⟩) hS.2.2 dX7_sign_52

set_option maxHeartbeats 4000000 in
set_option maxRecDepth 100000 in
theorem mx_valueOf (l : Launch) (D : va_G) (z : zG) (sz : Nat) (p0 : Int32)  : Met l yX7_valueOf wsX7_valueOf ({ frames := 1, cells := 0, slots := 0, locals := 20 }) (zPre D z [.int p0] sz [] [] (va_A [] sz)) (va_Qi (fun (r : Int32) (u : Unit) => zVal (zGreat p0) r) zT (va_A [] sz)) 0 0 (va_A [] sz) := by
  refine Met.ofW (cc := cX7_valueOf) (maxL := 3) (ret := (some .int)) (by decide) rfl ?_
  intro p e s m args below meth c s₁ B hml hv
  obtain ⟨rfl, hsz, hP, hK, hD, hC⟩ := hv
  have hx := B.exec
  have hb := B.bytes
  have hr := B.returns
  have hts := atoms_spec (ws := wsX7_valueOf) B.pre
  have hown : s.vm.findClass RX7 = some m.cls := findClass_of_methodNamed B.named
  have hlocks := B.notSynchronized
  subst hsz
  generalize hAe : va_A [] s.heap.size = A at hC ⊢
  have hA : ∀ q : Nat, s.heap.size ≤ q → A q := fun q h => by rw [← hAe]; exact Or.inr h
  have hS : va_S A s.heap s.heap [] := va_S.rf
  have hP : va_P D vwCl [] s.heap := hP
  have hl := lv_entry ([.int p0]) (n := 3) (Nat.le_of_ble_eq_true rfl)
  rw [lg_entry_eq]
  generalize (lg_sl ([.int p0]) ++ List.replicate (3 - (lg_sl ([.int p0])).length) Slot.unset).toArray = ls at hl ⊢
  have hl : lv_has ls 3 [(0, .int p0)] := hl
  refine zNameH (D := D) (A := A) (ws := []) (fun H locs hP hS => ?_) hP hS
  refine lv_iload_n hx hb dX7_valueOf_0 rfl (lv_at hl 0 rfl) ?_
  refine lv_bipush (v := 97) hx hb dX7_valueOf_1 (by decide) ?_
  refine lv_icmp_lt (tgt := 22) hx hb dX7_valueOf_3 (by decide) (fun c_3 => ?_) (fun c_3 => ?_)
  · have i_3 : p0.toInt < 97 := zi_lt.mp c_3
    refine lv_iload_n hx hb dX7_valueOf_22 rfl (lv_at hl 0 rfl) ?_
    refine lv_topi (fun gr egr => ?_)
    have hg : gr = zGreat p0 := egr.trans (by unfold zGreat; rw [if_neg (by omega)])
    refine lv_istore_n (lv' := [(1, .int gr), (0, .int p0)]) hx hb dX7_valueOf_23 rfl hl (by decide) rfl (fun ls hl => ?_)
    refine lv_iconst (v := 0) hx hb dX7_valueOf_24 (by decide) ?_
    refine lv_istore_n (lv' := [(2, .int 0), (1, .int gr), (0, .int p0)]) hx hb dX7_valueOf_25 rfl hl (by decide) rfl (fun ls hl => ?_)
    refine zLoop (σ := Nat) (nL := 3) (μ := fun (v : Nat) => 31 - v) (lv := fun (v : Nat) => [(2, .int (nI v)), (0, .int p0), (1, .int gr)]) (wf := fun (v : Nat) => []) (I := fun (v : Nat) => v ≤ 31 ∧ ∀ w, w < v → ¬ zLt w = gr) (fun x H locs ls hI hP hD hS hl ih => ?_) 0 ⟨Nat.zero_le _, fun j hj => absurd hj (Nat.not_lt_zero j)⟩ hP hD hS (lv_sub hl [0, 2, 1] rfl)
    obtain ⟨v, rfl⟩ : ∃ y9, y9 = x := ⟨_, rfl⟩
    have hI : v ≤ 31 ∧ ∀ w, w < v → ¬ zLt w = gr := hI
    have hl : lv_has ls 3 [(2, .int (nI v)), (0, .int p0), (1, .int gr)] := hl
    have hP : va_P D vwCl [] H := hP
    have hD : va_D (fun _ => True) [] := hD
    have hi := hI.1
    refine lv_iload_n hx hb dX7_valueOf_26 rfl (lv_at hl 0 rfl) ?_
    refine lv_bipush (v := 31) hx hb dX7_valueOf_27 (by decide) ?_
    refine lv_icmp_ge (tgt := 48) hx hb dX7_valueOf_29 (by decide) (fun c_29 => ?_) (fun c_29 => ?_)
    · have c_29 : 31 ≤ v := (nI_leI (a := 31) (b := v) (by omega) (by omega)).mp c_29
      refine lv_iconst (v := -1) hx hb dX7_valueOf_48 (by decide) ?_
      exact W.iret (v := (-1)) hx hb hr (fun t9 ht9 hW9 => ⟨⟨_, (), rfl, hg ▸ Or.inr ⟨fun j hj => hI.2 j (by omega), rfl⟩, trivial⟩, hS.F ht9⟩) hS.2.2 dX7_valueOf_49
    · have c_29 : ¬ (31 ≤ v) := fun q9 => c_29 ((nI_leI (a := 31) (b := v) (by omega) (by omega)).mpr q9)
      refine lv_iload_n hx hb dX7_valueOf_32 rfl (lv_at hl 0 rfl) ?_
      refine zRo_i (va_runS (As := [.int (nI v)]) (rest := []) ⟨hx, hb, hml, hown, hts⟩ (mx_sign l D z H.size (nI v) ) (va_cwS 1 hts gX7_valueOf_X7_sign rfl rfl rfl (by decide +kernel) ⟨Nat.le_of_ble_eq_true rfl, Nat.le_of_ble_eq_true rfl⟩) ⟨zPre_blind, (zPre_mk (wc := []) (tc := []) hP hK hD hC hS [] (by decide) rfl rfl [] rfl (zro_free hS hA))⟩ rfl rfl hl.1 rfl (lv_room (Nat.le_of_ble_eq_true rfl)) dX7_valueOf_33 ⟨Nat.zero_le _, Nat.zero_le _⟩) hS hA hP (fun r_33 H locs hw hP hS => ?_)
      have hw_33 : r_33 = zSign (nI v) := hw
      refine lv_iload_n hx hb dX7_valueOf_36 rfl (lv_at hl 2 rfl) ?_
      refine lv_icmp_ne (tgt := 42) hx hb dX7_valueOf_37 (by decide) (fun c_37 => ?_) (fun c_37 => ?_)
      · have i_37 : ¬ (r_33.toInt = gr.toInt) := fun q9 => c_37 (zi_eq.mpr q9)
        refine lv_iinc (v := (nI (v + 1))) (lv' := [(2, .int (nI (v + 1))), (0, .int p0), (1, .int gr)]) hx hb dX7_valueOf_42 hl (k := 0) rfl (by first | exact nI_1 _ | rfl) (by decide) rfl (fun ls hl => ?_)
        refine lv_goto (tgt := 26) hx hb dX7_valueOf_45 (by decide) ?_
        exact ih (v + 1) _ _ _ (show 31 - (v + 1) < 31 - v from (by omega)) ⟨by omega, lt_s hI.2 (fun q => c_37 (hw_33.trans ((zSign_nI v (by omega)).trans q)))⟩ hP hD hS (lv_sub hl [0, 1, 2] rfl)
      · have i_37 : r_33.toInt = gr.toInt := zi_eq.mp c_37
        refine lv_iload_n hx hb dX7_valueOf_40 rfl (lv_at hl 0 rfl) ?_
        exact W.iret (v := (nI v)) hx hb hr (fun t9 ht9 hW9 => ⟨⟨_, (), rfl, hg ▸ Or.inl ⟨v, by omega, (zSign_nI v (by omega)).symm.trans (hw_33.symm.trans c_37), rfl, hI.2⟩, trivial⟩, hS.F ht9⟩) hS.2.2 dX7_valueOf_41
  · have i_3 : ¬ (p0.toInt < 97) := fun q9 => c_3 (zi_lt.mpr q9)
    refine lv_iload_n hx hb dX7_valueOf_6 rfl (lv_at hl 0 rfl) ?_
    refine lv_bipush (v := 122) hx hb dX7_valueOf_7 (by decide) ?_
    refine lv_icmp_gt (tgt := 22) hx hb dX7_valueOf_9 (by decide) (fun c_9 => ?_) (fun c_9 => ?_)
    · have i_9 : 122 < p0.toInt := zi_lt.mp c_9
      refine lv_iload_n hx hb dX7_valueOf_22 rfl (lv_at hl 0 rfl) ?_
      refine lv_topi (fun gr egr => ?_)
      have hg : gr = zGreat p0 := egr.trans (by unfold zGreat; rw [if_neg (by omega)])
      refine lv_istore_n (lv' := [(1, .int gr), (0, .int p0)]) hx hb dX7_valueOf_23 rfl hl (by decide) rfl (fun ls hl => ?_)
      refine lv_iconst (v := 0) hx hb dX7_valueOf_24 (by decide) ?_
      refine lv_istore_n (lv' := [(2, .int 0), (1, .int gr), (0, .int p0)]) hx hb dX7_valueOf_25 rfl hl (by decide) rfl (fun ls hl => ?_)
      refine zLoop (σ := Nat) (nL := 3) (μ := fun (v : Nat) => 31 - v) (lv := fun (v : Nat) => [(2, .int (nI v)), (0, .int p0), (1, .int gr)]) (wf := fun (v : Nat) => []) (I := fun (v : Nat) => v ≤ 31 ∧ ∀ w, w < v → ¬ zLt w = gr) (fun x H locs ls hI hP hD hS hl ih => ?_) 0 ⟨Nat.zero_le _, fun j hj => absurd hj (Nat.not_lt_zero j)⟩ hP hD hS (lv_sub hl [0, 2, 1] rfl)
      obtain ⟨v, rfl⟩ : ∃ y9, y9 = x := ⟨_, rfl⟩
      have hI : v ≤ 31 ∧ ∀ w, w < v → ¬ zLt w = gr := hI
      have hl : lv_has ls 3 [(2, .int (nI v)), (0, .int p0), (1, .int gr)] := hl
      have hP : va_P D vwCl [] H := hP
      have hD : va_D (fun _ => True) [] := hD
      have hi := hI.1
      refine lv_iload_n hx hb dX7_valueOf_26 rfl (lv_at hl 0 rfl) ?_
      refine lv_bipush (v := 31) hx hb dX7_valueOf_27 (by decide) ?_
      refine lv_icmp_ge (tgt := 48) hx hb dX7_valueOf_29 (by decide) (fun c_29 => ?_) (fun c_29 => ?_)
      · have c_29 : 31 ≤ v := (nI_leI (a := 31) (b := v) (by omega) (by omega)).mp c_29
        refine lv_iconst (v := -1) hx hb dX7_valueOf_48 (by decide) ?_
        exact W.iret (v := (-1)) hx hb hr (fun t9 ht9 hW9 => ⟨⟨_, (), rfl, hg ▸ Or.inr ⟨fun j hj => hI.2 j (by omega), rfl⟩, trivial⟩, hS.F ht9⟩) hS.2.2 dX7_valueOf_49
      · have c_29 : ¬ (31 ≤ v) := fun q9 => c_29 ((nI_leI (a := 31) (b := v) (by omega) (by omega)).mpr q9)
        refine lv_iload_n hx hb dX7_valueOf_32 rfl (lv_at hl 0 rfl) ?_
        refine zRo_i (va_runS (As := [.int (nI v)]) (rest := []) ⟨hx, hb, hml, hown, hts⟩ (mx_sign l D z H.size (nI v) ) (va_cwS 1 hts gX7_valueOf_X7_sign rfl rfl rfl (by decide +kernel) ⟨Nat.le_of_ble_eq_true rfl, Nat.le_of_ble_eq_true rfl⟩) ⟨zPre_blind, (zPre_mk (wc := []) (tc := []) hP hK hD hC hS [] (by decide) rfl rfl [] rfl (zro_free hS hA))⟩ rfl rfl hl.1 rfl (lv_room (Nat.le_of_ble_eq_true rfl)) dX7_valueOf_33 ⟨Nat.zero_le _, Nat.zero_le _⟩) hS hA hP (fun r_33 H locs hw hP hS => ?_)
        have hw_33 : r_33 = zSign (nI v) := hw
        refine lv_iload_n hx hb dX7_valueOf_36 rfl (lv_at hl 2 rfl) ?_
        refine lv_icmp_ne (tgt := 42) hx hb dX7_valueOf_37 (by decide) (fun c_37 => ?_) (fun c_37 => ?_)
        · have i_37 : ¬ (r_33.toInt = gr.toInt) := fun q9 => c_37 (zi_eq.mpr q9)
          refine lv_iinc (v := (nI (v + 1))) (lv' := [(2, .int (nI (v + 1))), (0, .int p0), (1, .int gr)]) hx hb dX7_valueOf_42 hl (k := 0) rfl (by first | exact nI_1 _ | rfl) (by decide) rfl (fun ls hl => ?_)
          refine lv_goto (tgt := 26) hx hb dX7_valueOf_45 (by decide) ?_
          exact ih (v + 1) _ _ _ (show 31 - (v + 1) < 31 - v from (by omega)) ⟨by omega, lt_s hI.2 (fun q => c_37 (hw_33.trans ((zSign_nI v (by omega)).trans q)))⟩ hP hD hS (lv_sub hl [0, 1, 2] rfl)
        · have i_37 : r_33.toInt = gr.toInt := zi_eq.mp c_37
          refine lv_iload_n hx hb dX7_valueOf_40 rfl (lv_at hl 0 rfl) ?_
          exact W.iret (v := (nI v)) hx hb hr (fun t9 ht9 hW9 => ⟨⟨_, (), rfl, hg ▸ Or.inl ⟨v, by omega, (zSign_nI v (by omega)).symm.trans (hw_33.symm.trans c_37), rfl, hI.2⟩, trivial⟩, hS.F ht9⟩) hS.2.2 dX7_valueOf_41
    · have i_9 : ¬ (122 < p0.toInt) := fun q9 => c_9 (zi_lt.mpr q9)
      refine lv_iload_n hx hb dX7_valueOf_12 rfl (lv_at hl 0 rfl) ?_
      refine lv_bipush (v := 97) hx hb dX7_valueOf_13 (by decide) ?_
      refine lv_isub hx hb dX7_valueOf_15 ?_
      refine lv_bipush (v := 65) hx hb dX7_valueOf_16 (by decide) ?_
      refine lv_iadd hx hb dX7_valueOf_18 ?_
      refine lv_goto (tgt := 23) hx hb dX7_valueOf_19 (by decide) ?_
      refine lv_topi (fun gr egr => ?_)
      have hg : gr = zGreat p0 := egr.trans (by unfold zGreat; rw [if_pos (by omega)])
      refine lv_istore_n (lv' := [(1, .int gr), (0, .int p0)]) hx hb dX7_valueOf_23 rfl hl (by decide) rfl (fun ls hl => ?_)
      refine lv_iconst (v := 0) hx hb dX7_valueOf_24 (by decide) ?_
      refine lv_istore_n (lv' := [(2, .int 0), (1, .int gr), (0, .int p0)]) hx hb dX7_valueOf_25 rfl hl (by decide) rfl (fun ls hl => ?_)
      refine zLoop (σ := Nat) (nL := 3) (μ := fun (v : Nat) => 31 - v) (lv := fun (v : Nat) => [(2, .int (nI v)), (0, .int p0), (1, .int gr)]) (wf := fun (v : Nat) => []) (I := fun (v : Nat) => v ≤ 31 ∧ ∀ w, w < v → ¬ zLt w = gr) (fun x H locs ls hI hP hD hS hl ih => ?_) 0 ⟨Nat.zero_le _, fun j hj => absurd hj (Nat.not_lt_zero j)⟩ hP hD hS (lv_sub hl [0, 2, 1] rfl)
      obtain ⟨v, rfl⟩ : ∃ y9, y9 = x := ⟨_, rfl⟩
      have hI : v ≤ 31 ∧ ∀ w, w < v → ¬ zLt w = gr := hI
      have hl : lv_has ls 3 [(2, .int (nI v)), (0, .int p0), (1, .int gr)] := hl
      have hP : va_P D vwCl [] H := hP
      have hD : va_D (fun _ => True) [] := hD
      have hi := hI.1
      refine lv_iload_n hx hb dX7_valueOf_26 rfl (lv_at hl 0 rfl) ?_
      refine lv_bipush (v := 31) hx hb dX7_valueOf_27 (by decide) ?_
      refine lv_icmp_ge (tgt := 48) hx hb dX7_valueOf_29 (by decide) (fun c_29 => ?_) (fun c_29 => ?_)
      · have c_29 : 31 ≤ v := (nI_leI (a := 31) (b := v) (by omega) (by omega)).mp c_29
        refine lv_iconst (v := -1) hx hb dX7_valueOf_48 (by decide) ?_
        exact W.iret (v := (-1)) hx hb hr (fun t9 ht9 hW9 => ⟨⟨_, (), rfl, hg ▸ Or.inr ⟨fun j hj => hI.2 j (by omega), rfl⟩, trivial⟩, hS.F ht9⟩) hS.2.2 dX7_valueOf_49
      · have c_29 : ¬ (31 ≤ v) := fun q9 => c_29 ((nI_leI (a := 31) (b := v) (by omega) (by omega)).mpr q9)
        refine lv_iload_n hx hb dX7_valueOf_32 rfl (lv_at hl 0 rfl) ?_
        refine zRo_i (va_runS (As := [.int (nI v)]) (rest := []) ⟨hx, hb, hml, hown, hts⟩ (mx_sign l D z H.size (nI v) ) (va_cwS 1 hts gX7_valueOf_X7_sign rfl rfl rfl (by decide +kernel) ⟨Nat.le_of_ble_eq_true rfl, Nat.le_of_ble_eq_true rfl⟩) ⟨zPre_blind, (zPre_mk (wc := []) (tc := []) hP hK hD hC hS [] (by decide) rfl rfl [] rfl (zro_free hS hA))⟩ rfl rfl hl.1 rfl (lv_room (Nat.le_of_ble_eq_true rfl)) dX7_valueOf_33 ⟨Nat.zero_le _, Nat.zero_le _⟩) hS hA hP (fun r_33 H locs hw hP hS => ?_)
        have hw_33 : r_33 = zSign (nI v) := hw
        refine lv_iload_n hx hb dX7_valueOf_36 rfl (lv_at hl 2 rfl) ?_
        refine lv_icmp_ne (tgt := 42) hx hb dX7_valueOf_37 (by decide) (fun c_37 => ?_) (fun c_37 => ?_)
        · have i_37 : ¬ (r_33.toInt = gr.toInt) := fun q9 => c_37 (zi_eq.mpr q9)
          refine lv_iinc (v := (nI (v + 1))) (lv' := [(2, .int (nI (v + 1))), (0, .int p0), (1, .int gr)]) hx hb dX7_valueOf_42 hl (k := 0) rfl (by first | exact nI_1 _ | rfl) (by decide) rfl (fun ls hl => ?_)
          refine lv_goto (tgt := 26) hx hb dX7_valueOf_45 (by decide) ?_
          exact ih (v + 1) _ _ _ (show 31 - (v + 1) < 31 - v from (by omega)) ⟨by omega, lt_s hI.2 (fun q => c_37 (hw_33.trans ((zSign_nI v (by omega)).trans q)))⟩ hP hD hS (lv_sub hl [0, 1, 2] rfl)
        · have i_37 : r_33.toInt = gr.toInt := zi_eq.mp c_37
          refine lv_iload_n hx hb dX7_valueOf_40 rfl (lv_at hl 0 rfl) ?_
          exact W.iret (v := (nI v)) hx hb hr (fun t9 ht9 hW9 => ⟨⟨_, (), rfl, hg ▸ Or.inl ⟨v, by omega, (zSign_nI v (by omega)).symm.trans (hw_33.symm.trans c_37), rfl, hI.2⟩, trivial⟩, hS.F ht9⟩) hS.2.2 dX7_valueOf_41

set_option maxHeartbeats 4000000 in
set_option maxRecDepth 100000 in
theorem mx_sum (l : Launch) (D : va_G) (z : zG) (sz : Nat) (mo : Nat) (ma1 : Nat) (ma2 : Nat) (ma3 : Nat) (mb1 : Nat) (mb2 : Nat) (mg1 : Nat) (mg2 : Nat) (mt1 : Nat) (mn1 : Nat) (mn2 : Nat) (mn3 : Nat) (ml1 : Nat) (mw1 : Nat) (th : Int32) (nb : Nat) (nq : Nat) (ng : Nat) (nt : Nat) (nn : Nat) (jl1 : ClassId) (xl : Nat → Int32) (jw1 : ClassId) (wt : Nat → Int32) (i : Nat) (hi : i ≤ 9) : Met l yX7_sum wsX7_sum ({ frames := 0, cells := 0, slots := 0, locals := 0 }) (zPre D z [.ref mo, .int (nI i)] sz [(mo, .inr (7, [.int th, .int (nI nb), .ref ma1, .ref ma2, .ref ma3, .int (nI nq), .ref mb1, .ref mb2, .int (nI ng), .ref mg1, .ref mg2, .int (nI nt), .ref mt1, .int (nI nn), .ref mn1, .ref mn2, .ref mn3, .ref ml1, .ref mw1])), (ml1, .inl (jl1, 9, .inl xl)), (mw1, .inl (jw1, 9, .inl wt))] [(jl1, .int), (jw1, .int)] (va_A [] sz)) (va_Qi (fun (r : Int32) (u : Unit) => r = zWs xl wt i) zT (va_A [] sz)) 0 0 (va_A [] sz) := by
  refine Met.ofW (cc := cX7_sum) (maxL := 4) (ret := (some .int)) (by decide) rfl ?_
  intro p e s m args below meth c s₁ B hml hv
  obtain ⟨rfl, hsz, hP, hK, hD, hC⟩ := hv
  have hx := B.exec
  have hb := B.bytes
  have hr := B.returns
  have hts := atoms_spec (ws := wsX7_sum) B.pre
  have hown : s.vm.findClass RX7 = some m.cls := findClass_of_methodNamed B.named
  have hlocks := B.notSynchronized
  subst hsz
  generalize hAe : va_A [] s.heap.size = A at hC ⊢
  have hA : ∀ q : Nat, s.heap.size ≤ q → A q := fun q h => by rw [← hAe]; exact Or.inr h
  have hS : va_S A s.heap s.heap [] := va_S.rf
  have hP : va_P D vwCl [(mo, .inr (7, [.int th, .int (nI nb), .ref ma1, .ref ma2, .ref ma3, .int (nI nq), .ref mb1, .ref mb2, .int (nI ng), .ref mg1, .ref mg2, .int (nI nt), .ref mt1, .int (nI nn), .ref mn1, .ref mn2, .ref mn3, .ref ml1, .ref mw1])), (ml1, .inl (jl1, 9, .inl xl)), (mw1, .inl (jw1, 9, .inl wt))] s.heap := hP
  have hl := lv_entry ([.ref mo, .int (nI i)]) (n := 4) (Nat.le_of_ble_eq_true rfl)
  rw [lg_entry_eq]
  generalize (lg_sl ([.ref mo, .int (nI i)]) ++ List.replicate (4 - (lg_sl ([.ref mo, .int (nI i)])).length) Slot.unset).toArray = ls at hl ⊢
  have hl : lv_has ls 4 [(0, .ref mo), (1, .int (nI i))] := hl
  refine zNameH (D := D) (A := A) (ws := [(mo, .inr (7, [.int th, .int (nI nb), .ref ma1, .ref ma2, .ref ma3, .int (nI nq), .ref mb1, .ref mb2, .int (nI ng), .ref mg1, .ref mg2, .int (nI nt), .ref mt1, .int (nI nn), .ref mn1, .ref mn2, .ref mn3, .ref ml1, .ref mw1])), (ml1, .inl (jl1, 9, .inl xl)), (mw1, .inl (jw1, 9, .inl wt))]) (fun H locs hP hS => ?_) hP hS
  have k_0 := hts (.fieldLink RX7 45 "NumberRows2Model" "letters" "[I") (by decide +kernel)
  have k_1 : ∀ w ∈ wsX70, w ∈ wsX7_sum := by decide +kernel
  have k_2 := hts (.fieldLink RX7 48 "NumberRows2Model" "weights" "[I") (by decide +kernel)
  refine lv_iconst (v := 0) hx hb dX7_sum_0 (by decide) ?_
  refine lv_istore_n (lv' := [(2, .int 0), (0, .ref mo), (1, .int (nI i))]) hx hb dX7_sum_1 rfl hl (by decide) rfl (fun ls hl => ?_)
  refine lv_iconst (v := 0) hx hb dX7_sum_2 (by decide) ?_
  refine lv_istore_n (lv' := [(3, .int 0), (2, .int 0), (0, .ref mo), (1, .int (nI i))]) hx hb dX7_sum_3 rfl hl (by decide) rfl (fun ls hl => ?_)
  refine zLoop (σ := Nat × Int32) (nL := 4) (μ := fun (x : Nat × Int32) => match x with | (k, sm) => i - k) (lv := fun (x : Nat × Int32) => match x with | (k, sm) => [(3, .int (nI k)), (0, .ref mo), (1, .int (nI i)), (2, .int sm)]) (wf := fun (x : Nat × Int32) => match x with | (k, sm) => [(mo, .inr (7, [.int th, .int (nI nb), .ref ma1, .ref ma2, .ref ma3, .int (nI nq), .ref mb1, .ref mb2, .int (nI ng), .ref mg1, .ref mg2, .int (nI nt), .ref mt1, .int (nI nn), .ref mn1, .ref mn2, .ref mn3, .ref ml1, .ref mw1])), (ml1, .inl (jl1, 9, .inl xl)), (mw1, .inl (jw1, 9, .inl wt))]) (I := fun (x : Nat × Int32) => match x with | (k, sm) => k ≤ i ∧ sm = zWs xl wt k) (fun x H locs ls hI hP hD hS hl ih => ?_) (0, 0) ⟨Nat.zero_le _, rfl⟩ hP hD hS (lv_sub hl [0, 2, 3, 1] rfl)
  obtain ⟨k, sm⟩ := x
  have hI : k ≤ i ∧ sm = zWs xl wt k := hI
  have hl : lv_has ls 4 [(3, .int (nI k)), (0, .ref mo), (1, .int (nI i)), (2, .int sm)] := hl
  have hP : va_P D vwCl [(mo, .inr (7, [.int th, .int (nI nb), .ref ma1, .ref ma2, .ref ma3, .int (nI nq), .ref mb1, .ref mb2, .int (nI ng), .ref mg1, .ref mg2, .int (nI nt), .ref mt1, .int (nI nn), .ref mn1, .ref mn2, .ref mn3, .ref ml1, .ref mw1])), (ml1, .inl (jl1, 9, .inl xl)), (mw1, .inl (jw1, 9, .inl wt))] H := hP
  have hD : va_D (fun _ => True) [(mo, .inr (7, [.int th, .int (nI nb), .ref ma1, .ref ma2, .ref ma3, .int (nI nq), .ref mb1, .ref mb2, .int (nI ng), .ref mg1, .ref mg2, .int (nI nt), .ref mt1, .int (nI nn), .ref mn1, .ref mn2, .ref mn3, .ref ml1, .ref mw1])), (ml1, .inl (jl1, 9, .inl xl)), (mw1, .inl (jw1, 9, .inl wt))] := hD
  have h1 := hI.1
  refine lv_iload_n hx hb dX7_sum_4 rfl (lv_at hl 0 rfl) ?_
  refine lv_iload_n hx hb dX7_sum_5 rfl (lv_at hl 2 rfl) ?_
  refine lv_icmp_ge (tgt := 31) hx hb dX7_sum_6 (by decide) (fun c_6 => ?_) (fun c_6 => ?_)
  · have c_6 : i ≤ k := (nI_leI (a := i) (b := k) (by omega) (by omega)).mp c_6
    refine lv_iload_n hx hb dX7_sum_31 rfl (lv_at hl 3 rfl) ?_
    exact W.iret (v := sm) hx hb hr (fun t9 ht9 hW9 => ⟨⟨_, (), rfl, by obtain rfl : k = i := (by omega); exact hI.2, trivial⟩, hS.F ht9⟩) hS.2.2 dX7_sum_32
  · have c_6 : ¬ (i ≤ k) := fun q9 => c_6 ((nI_leI (a := i) (b := k) (by omega) (by omega)).mpr q9)
    refine lv_iload_n hx hb dX7_sum_9 rfl (lv_at hl 3 rfl) ?_
    refine lv_aload_n hx hb dX7_sum_10 rfl (lv_at hl 1 rfl) ?_
    refine va_get (D := D) (ci := 7) (v := .ref ml1) (C := RX7) (T := TX7) (N := 19) hx hb hts k_1 hown hK hP 0 rfl rfl 17 (by decide) k_0 (fun _ h9 => h9) rfl dX7_sum_11 ?_
    refine lv_iload_n hx hb dX7_sum_14 rfl (lv_at hl 0 rfl) ?_
    refine z_iald (k := k) hx hb hK hP 1 0 rfl rfl (by omega) (by decide) dX7_sum_15 ?_
    refine lv_aload_n hx hb dX7_sum_16 rfl (lv_at hl 1 rfl) ?_
    refine va_get (D := D) (ci := 7) (v := .ref mw1) (C := RX7) (T := TX7) (N := 19) hx hb hts k_1 hown hK hP 0 rfl rfl 18 (by decide) k_2 (fun _ h9 => h9) rfl dX7_sum_17 ?_
    refine lv_iload_n hx hb dX7_sum_20 rfl (lv_at hl 0 rfl) ?_
    refine z_iald (k := k) hx hb hK hP 2 1 rfl rfl (by omega) (by decide) dX7_sum_21 ?_
    refine lv_imul hx hb dX7_sum_22 ?_
    refine lv_iadd hx hb dX7_sum_23 ?_
    refine lv_istore_n (lv' := [(2, .int (sm + ((xl k) * (wt k)))), (3, .int (nI k)), (0, .ref mo), (1, .int (nI i))]) hx hb dX7_sum_24 rfl hl (by decide) rfl (fun ls hl => ?_)
    refine lv_iinc (v := (nI (k + 1))) (lv' := [(3, .int (nI (k + 1))), (2, .int (sm + ((xl k) * (wt k)))), (0, .ref mo), (1, .int (nI i))]) hx hb dX7_sum_25 hl (k := 1) rfl (by first | exact nI_1 _ | rfl) (by decide) rfl (fun ls hl => ?_)
    refine lv_goto (tgt := 4) hx hb dX7_sum_28 (by decide) ?_
    exact ih (k + 1, sm + ((xl k) * (wt k))) _ _ _ (show i - (k + 1) < i - k from (by omega)) ⟨by omega, by rw [hI.2]; rfl⟩ hP hD hS (lv_sub hl [0, 2, 3, 1] rfl)

set_option maxHeartbeats 4000000 in
set_option maxRecDepth 100000 in
theorem mx_check (l : Launch) (D : va_G) (z : zG) (sz : Nat) (mo : Nat) (ma1 : Nat) (ma2 : Nat) (ma3 : Nat) (mb1 : Nat) (mb2 : Nat) (mg1 : Nat) (mg2 : Nat) (mt1 : Nat) (mn1 : Nat) (mn2 : Nat) (mn3 : Nat) (ml1 : Nat) (mw1 : Nat) (th : Int32) (nb : Nat) (nq : Nat) (ng : Nat) (nt : Nat) (nn : Nat) (jl1 : ClassId) (xl : Nat → Int32) (jw1 : ClassId) (wt : Nat → Int32) (hs : 0 ≤ (zWs xl wt 8).toInt ∧ (zWs xl wt 8).toInt ≤ 100000) : Met l yX7_check wsX7_check ({ frames := 1, cells := 0, slots := 0, locals := 23 }) (zPre D z [.ref mo] sz [(mo, .inr (7, [.int th, .int (nI nb), .ref ma1, .ref ma2, .ref ma3, .int (nI nq), .ref mb1, .ref mb2, .int (nI ng), .ref mg1, .ref mg2, .int (nI nt), .ref mt1, .int (nI nn), .ref mn1, .ref mn2, .ref mn3, .ref ml1, .ref mw1])), (ml1, .inl (jl1, 9, .inl xl)), (mw1, .inl (jw1, 9, .inl wt))] [(jl1, .int), (jw1, .int)] (va_A [] sz)) (va_Qi (fun (r : Int32) (u : Unit) => r.toInt = (31 - (zWs xl wt 8).toInt % 31) % 31) zT (va_A [] sz)) 0 0 (va_A [] sz) := by
  refine Met.ofW (cc := cX7_check) (maxL := 2) (ret := (some .int)) (by decide) rfl ?_
  intro p e s m args below meth c s₁ B hml hv
  obtain ⟨rfl, hsz, hP, hK, hD, hC⟩ := hv
  have hx := B.exec
  have hb := B.bytes
  have hr := B.returns
  have hts := atoms_spec (ws := wsX7_check) B.pre
  have hown : s.vm.findClass RX7 = some m.cls := findClass_of_methodNamed B.named
  have hlocks := B.notSynchronized
  subst hsz
  generalize hAe : va_A [] s.heap.size = A at hC ⊢
  have hA : ∀ q : Nat, s.heap.size ≤ q → A q := fun q h => by rw [← hAe]; exact Or.inr h
  have hS : va_S A s.heap s.heap [] := va_S.rf
  have hP : va_P D vwCl [(mo, .inr (7, [.int th, .int (nI nb), .ref ma1, .ref ma2, .ref ma3, .int (nI nq), .ref mb1, .ref mb2, .int (nI ng), .ref mg1, .ref mg2, .int (nI nt), .ref mt1, .int (nI nn), .ref mn1, .ref mn2, .ref mn3, .ref ml1, .ref mw1])), (ml1, .inl (jl1, 9, .inl xl)), (mw1, .inl (jw1, 9, .inl wt))] s.heap := hP
  have hl := lv_entry ([.ref mo]) (n := 2) (Nat.le_of_ble_eq_true rfl)
  rw [lg_entry_eq]
  generalize (lg_sl ([.ref mo]) ++ List.replicate (2 - (lg_sl ([.ref mo])).length) Slot.unset).toArray = ls at hl ⊢
  have hl : lv_has ls 2 [(0, .ref mo)] := hl
  refine zNameH (D := D) (A := A) (ws := [(mo, .inr (7, [.int th, .int (nI nb), .ref ma1, .ref ma2, .ref ma3, .int (nI nq), .ref mb1, .ref mb2, .int (nI ng), .ref mg1, .ref mg2, .int (nI nt), .ref mt1, .int (nI nn), .ref mn1, .ref mn2, .ref mn3, .ref ml1, .ref mw1])), (ml1, .inl (jl1, 9, .inl xl)), (mw1, .inl (jw1, 9, .inl wt))]) (fun H locs hP hS => ?_) hP hS
  refine lv_iconst (v := 0) hx hb dX7_check_0 (by decide) ?_
  refine lv_istore_n (lv' := [(1, .int 0), (0, .ref mo)]) hx hb dX7_check_1 rfl hl (by decide) rfl (fun ls hl => ?_)
  refine zLoop (σ := Nat) (nL := 2) (μ := fun (v : Nat) => 31 - v) (lv := fun (v : Nat) => [(1, .int (nI v)), (0, .ref mo)]) (wf := fun (v : Nat) => [(mo, .inr (7, [.int th, .int (nI nb), .ref ma1, .ref ma2, .ref ma3, .int (nI nq), .ref mb1, .ref mb2, .int (nI ng), .ref mg1, .ref mg2, .int (nI nt), .ref mt1, .int (nI nn), .ref mn1, .ref mn2, .ref mn3, .ref ml1, .ref mw1])), (ml1, .inl (jl1, 9, .inl xl)), (mw1, .inl (jw1, 9, .inl wt))]) (I := fun (v : Nat) => (v : Int) ≤ (31 - (zWs xl wt 8).toInt % 31) % 31) (fun x H locs ls hI hP hD hS hl ih => ?_) 0 (by omega) hP hD hS (lv_sub hl [0, 1] rfl)
  obtain ⟨v, rfl⟩ : ∃ y9, y9 = x := ⟨_, rfl⟩
  have hI : (v : Int) ≤ (31 - (zWs xl wt 8).toInt % 31) % 31 := hI
  have hl : lv_has ls 2 [(1, .int (nI v)), (0, .ref mo)] := hl
  have hP : va_P D vwCl [(mo, .inr (7, [.int th, .int (nI nb), .ref ma1, .ref ma2, .ref ma3, .int (nI nq), .ref mb1, .ref mb2, .int (nI ng), .ref mg1, .ref mg2, .int (nI nt), .ref mt1, .int (nI nn), .ref mn1, .ref mn2, .ref mn3, .ref ml1, .ref mw1])), (ml1, .inl (jl1, 9, .inl xl)), (mw1, .inl (jw1, 9, .inl wt))] H := hP
  have hD : va_D (fun _ => True) [(mo, .inr (7, [.int th, .int (nI nb), .ref ma1, .ref ma2, .ref ma3, .int (nI nq), .ref mb1, .ref mb2, .int (nI ng), .ref mg1, .ref mg2, .int (nI nt), .ref mt1, .int (nI nn), .ref mn1, .ref mn2, .ref mn3, .ref ml1, .ref mw1])), (ml1, .inl (jl1, 9, .inl xl)), (mw1, .inl (jw1, 9, .inl wt))] := hD
  have h1 : v ≤ 30 := by omega
  refine lv_aload_n hx hb dX7_check_2 rfl (lv_at hl 1 rfl) ?_
  refine lv_bipush (v := 8) hx hb dX7_check_3 (by decide) ?_
  refine zRo_i (va_runV (As := [.int 8]) (rest := []) ⟨hx, hb, hml, hown, hts⟩ (mx_sum l D z H.size mo ma1 ma2 ma3 mb1 mb2 mg1 mg2 mt1 mn1 mn2 mn3 ml1 mw1 th nb nq ng nt nn jl1 xl jw1 wt 8 (by omega)) (cwV 1 hts gX7_check_X7_sum rfl rfl rfl (by decide +kernel) ⟨Nat.le_of_ble_eq_true rfl, Nat.le_of_ble_eq_true rfl⟩) ⟨zPre_blind, va_recv hK hP (ci := 7) (q0 := 0) rfl rfl, (zPre_mk (wc := [(mo, .inr (7, [.int th, .int (nI nb), .ref ma1, .ref ma2, .ref ma3, .int (nI nq), .ref mb1, .ref mb2, .int (nI ng), .ref mg1, .ref mg2, .int (nI nt), .ref mt1, .int (nI nn), .ref mn1, .ref mn2, .ref mn3, .ref ml1, .ref mw1])), (ml1, .inl (jl1, 9, .inl xl)), (mw1, .inl (jw1, 9, .inl wt))]) (tc := [(jl1, .int), (jw1, .int)]) hP hK hD hC hS [0, 1, 2] (by decide) rfl rfl [0, 1] rfl (zro_free hS hA))⟩ rfl rfl hl.1 rfl (lv_room (Nat.le_of_ble_eq_true rfl)) dX7_check_5 ⟨Nat.zero_le _, Nat.zero_le _⟩) hS hA hP (fun r_5 H locs hw hP hS => ?_)
  have hw_5 : r_5 = zWs xl wt 8 := hw
  rw [hw_5]
  have ha : (zWs xl wt 8 + nI v).toInt = (zWs xl wt 8).toInt + v := by rw [zi_add (by rw [nI_toInt (by omega)]; omega) (by rw [nI_toInt (by omega)]; omega), nI_toInt (by omega)]
  have hr9 := zrem31_int (s := zWs xl wt 8 + nI v) (by omega) (by omega)
  rw [ha] at hr9
  refine lv_iload_n hx hb dX7_check_8 rfl (lv_at hl 0 rfl) ?_
  refine lv_iadd hx hb dX7_check_9 ?_
  refine lv_bipush (v := 31) hx hb dX7_check_10 (by decide) ?_
  refine lv_irem hx hb dX7_check_12 (by decide) ?_
  refine lv_if_eq (tgt := 22) hx hb dX7_check_13 (by decide) (fun c_13 => ?_) (fun c_13 => ?_)
  · have i_13 : (((zWs xl wt 8) + (nI v)) - ((zWs xl wt 8) + (nI v)) / 31 * 31).toInt = 0 := zi_eq.mp c_13
    refine lv_iload_n hx hb dX7_check_22 rfl (lv_at hl 0 rfl) ?_
    exact W.iret (v := (nI v)) hx hb hr (fun t9 ht9 hW9 => ⟨⟨_, (), rfl, (nI_toInt (n := v) (by omega)).trans (by exact zck_done hs.1 (by omega) hI (hr9.symm.trans (by rw [show zrem31 (zWs xl wt 8 + nI v) = 0 from c_13]; rfl))), trivial⟩, hS.F ht9⟩) hS.2.2 dX7_check_23
  · have i_13 : ¬ ((((zWs xl wt 8) + (nI v)) - ((zWs xl wt 8) + (nI v)) / 31 * 31).toInt = 0) := fun q9 => c_13 (zi_eq.mpr q9)
    have hne : ¬ ((zWs xl wt 8).toInt + v) % 31 = 0 := fun q => c_13 (zi_eq.mpr (hr9.trans q))
    refine lv_iinc (v := (nI (v + 1))) (lv' := [(1, .int (nI (v + 1))), (0, .ref mo)]) hx hb dX7_check_16 hl (k := 0) rfl (by first | exact nI_1 _ | rfl) (by decide) rfl (fun ls hl => ?_)
    refine lv_goto (tgt := 2) hx hb dX7_check_19 (by decide) ?_
    exact ih (v + 1) _ _ _ (show 31 - (v + 1) < 31 - v from (by omega)) (by have := zck_step hs.1 (by omega) hI hne; omega) hP hD hS (lv_sub hl [0, 1] rfl)

set_option maxHeartbeats 4000000 in
set_option maxRecDepth 100000 in
theorem mx_letter (l : Launch) (D : va_G) (z : zG) (sz : Nat) (mo : Nat) (ma1 : Nat) (ma2 : Nat) (ma3 : Nat) (mb1 : Nat) (mb2 : Nat) (mg1 : Nat) (mg2 : Nat) (mt1 : Nat) (mn1 : Nat) (mn2 : Nat) (mn3 : Nat) (ml1 : Nat) (mw1 : Nat) (th : Int32) (nb : Nat) (nq : Nat) (ng : Nat) (nt : Nat) (nn : Nat) (jl1 : ClassId) (xl : Nat → Int32) (jw1 : ClassId) (wt : Nat → Int32) (p0 : Int64) (p1 : Int32) (hw9 : ∀ j, j < 9 → wt j = zWt j) : Met l yX7_letter wsX7_letter ({ frames := 2, cells := 0, slots := 0, locals := 44 }) (zPre D z [.ref mo, .long p0, .int p1] sz [(mo, .inr (7, [.int th, .int (nI nb), .ref ma1, .ref ma2, .ref ma3, .int (nI nq), .ref mb1, .ref mb2, .int (nI ng), .ref mg1, .ref mg2, .int (nI nt), .ref mt1, .int (nI nn), .ref mn1, .ref mn2, .ref mn3, .ref ml1, .ref mw1])), (ml1, .inl (jl1, 9, .inl xl)), (mw1, .inl (jw1, 9, .inl wt))] [(jl1, .int), (jw1, .int)] (va_A [(mo, .inr (7, [.int th, .int (nI nb), .ref ma1, .ref ma2, .ref ma3, .int (nI nq), .ref mb1, .ref mb2, .int (nI ng), .ref mg1, .ref mg2, .int (nI nt), .ref mt1, .int (nI nn), .ref mn1, .ref mn2, .ref mn3, .ref ml1, .ref mw1])), (ml1, .inl (jl1, 9, .inl xl)), (mw1, .inl (jw1, 9, .inl wt))] sz)) (va_Qi (fun (r : Int32) (u : Int32 × (Nat → Int32)) => (¬ zIsN p0 ∧ r = -101 ∧ u.1 = 0) ∨ (zIsN p0 ∧ ¬ (0 ≤ p1.toInt ∧ p1.toInt ≤ 8) ∧ r = 0 ∧ u.1 = 1) ∨ (zIsN p0 ∧ (0 ≤ p1.toInt ∧ p1.toInt ≤ 8) ∧ r = zSign (zVA p0 p1.toInt.toNat) ∧ u.1 = 0)) (zAt D [(jl1, .int), (jw1, .int)] (va_A [(mo, .inr (7, [.int th, .int (nI nb), .ref ma1, .ref ma2, .ref ma3, .int (nI nq), .ref mb1, .ref mb2, .int (nI ng), .ref mg1, .ref mg2, .int (nI nt), .ref mt1, .int (nI nn), .ref mn1, .ref mn2, .ref mn3, .ref ml1, .ref mw1])), (ml1, .inl (jl1, 9, .inl xl)), (mw1, .inl (jw1, 9, .inl wt))] sz) (fun u : Int32 × (Nat → Int32) => [(mo, .inr (7, [.int u.1, .int (nI nb), .ref ma1, .ref ma2, .ref ma3, .int (nI nq), .ref mb1, .ref mb2, .int (nI ng), .ref mg1, .ref mg2, .int (nI nt), .ref mt1, .int (nI nn), .ref mn1, .ref mn2, .ref mn3, .ref ml1, .ref mw1])), (ml1, .inl (jl1, 9, .inl u.2)), (mw1, .inl (jw1, 9, .inl wt))])) (va_A [(mo, .inr (7, [.int th, .int (nI nb), .ref ma1, .ref ma2, .ref ma3, .int (nI nq), .ref mb1, .ref mb2, .int (nI ng), .ref mg1, .ref mg2, .int (nI nt), .ref mt1, .int (nI nn), .ref mn1, .ref mn2, .ref mn3, .ref ml1, .ref mw1])), (ml1, .inl (jl1, 9, .inl xl)), (mw1, .inl (jw1, 9, .inl wt))] sz)) 0 0 (va_A [(mo, .inr (7, [.int th, .int (nI nb), .ref ma1, .ref ma2, .ref ma3, .int (nI nq), .ref mb1, .ref mb2, .int (nI ng), .ref mg1, .ref mg2, .int (nI nt), .ref mt1, .int (nI nn), .ref mn1, .ref mn2, .ref mn3, .ref ml1, .ref mw1])), (ml1, .inl (jl1, 9, .inl xl)), (mw1, .inl (jw1, 9, .inl wt))] sz) := by
  refine Met.ofW (cc := cX7_letter) (maxL := 7) (ret := (some .int)) (by decide) rfl ?_
  intro p e s m args below meth c s₁ B hml hv
  obtain ⟨rfl, hsz, hP, hK, hD, hC⟩ := hv
  have hx := B.exec
  have hb := B.bytes
  have hr := B.returns
  have hts := atoms_spec (ws := wsX7_letter) B.pre
  have hown : s.vm.findClass RX7 = some m.cls := findClass_of_methodNamed B.named
  have hlocks := B.notSynchronized
  subst hsz
  have hD := hD.self (sz := s.heap.size)
  generalize hAe : va_A [(mo, .inr (7, [.int th, .int (nI nb), .ref ma1, .ref ma2, .ref ma3, .int (nI nq), .ref mb1, .ref mb2, .int (nI ng), .ref mg1, .ref mg2, .int (nI nt), .ref mt1, .int (nI nn), .ref mn1, .ref mn2, .ref mn3, .ref ml1, .ref mw1])), (ml1, .inl (jl1, 9, .inl xl)), (mw1, .inl (jw1, 9, .inl wt))] s.heap.size = A at hC hD ⊢
  have hA : ∀ q : Nat, s.heap.size ≤ q → A q := fun q h => by rw [← hAe]; exact Or.inr h
  have hS : va_S A s.heap s.heap [] := va_S.rf
  have hP : va_P D vwCl [(mo, .inr (7, [.int th, .int (nI nb), .ref ma1, .ref ma2, .ref ma3, .int (nI nq), .ref mb1, .ref mb2, .int (nI ng), .ref mg1, .ref mg2, .int (nI nt), .ref mt1, .int (nI nn), .ref mn1, .ref mn2, .ref mn3, .ref ml1, .ref mw1])), (ml1, .inl (jl1, 9, .inl xl)), (mw1, .inl (jw1, 9, .inl wt))] s.heap := hP
  have hl := lv_entry ([.ref mo, .long p0, .int p1]) (n := 7) (Nat.le_of_ble_eq_true rfl)
  rw [lg_entry_eq]
  generalize (lg_sl ([.ref mo, .long p0, .int p1]) ++ List.replicate (7 - (lg_sl ([.ref mo, .long p0, .int p1])).length) Slot.unset).toArray = ls at hl ⊢
  have hl : lv_has ls 7 [(0, .ref mo), (1, .long p0), (3, .int p1)] := hl
  refine zNameH (D := D) (A := A) (ws := [(mo, .inr (7, [.int th, .int (nI nb), .ref ma1, .ref ma2, .ref ma3, .int (nI nq), .ref mb1, .ref mb2, .int (nI ng), .ref mg1, .ref mg2, .int (nI nt), .ref mt1, .int (nI nn), .ref mn1, .ref mn2, .ref mn3, .ref ml1, .ref mw1])), (ml1, .inl (jl1, 9, .inl xl)), (mw1, .inl (jw1, 9, .inl wt))]) (fun H locs hP hS => ?_) hP hS
  have k_0 := hts (.fieldLink RX7 55 "NumberRows2Model" "thrown" "I") (by decide +kernel)
  have k_1 : ∀ w ∈ wsX70, w ∈ wsX7_letter := by decide +kernel
  have k_2 := hts (.fieldLink RX7 45 "NumberRows2Model" "letters" "[I") (by decide +kernel)
  have k_3 := hts (.constantLong RX7 77 (27512614111)) (by decide +kernel)
  have k_4 := hts (.constantLong RX7 104 (31)) (by decide +kernel)
  refine lv_aload_n hx hb dX7_letter_0 rfl (lv_at hl 0 rfl) ?_
  refine lv_iconst (v := 0) hx hb dX7_letter_1 (by decide) ?_
  refine va_put (D := D) (ci := 7) (v := .int 0) (ty := .int) (C := RX7) (T := TX7) (N := 19) hx hb hts k_1 tyX7 tyX7_ok nmX7 hown hK hP hD hS 0 rfl rfl 0 (by decide) k_0 (fun _ h9 => h9) rfl (by decide +kernel) rfl rfl (Nat.le_of_ble_eq_true rfl) dX7_letter_2 (fun H locs hP hD hS => ?_)
  have hP : va_P D vwCl [(mo, .inr (7, [.int 0, .int (nI nb), .ref ma1, .ref ma2, .ref ma3, .int (nI nq), .ref mb1, .ref mb2, .int (nI ng), .ref mg1, .ref mg2, .int (nI nt), .ref mt1, .int (nI nn), .ref mn1, .ref mn2, .ref mn3, .ref ml1, .ref mw1])), (ml1, .inl (jl1, 9, .inl xl)), (mw1, .inl (jw1, 9, .inl wt))] H := hP
  have hD : va_D A [(mo, .inr (7, [.int 0, .int (nI nb), .ref ma1, .ref ma2, .ref ma3, .int (nI nq), .ref mb1, .ref mb2, .int (nI ng), .ref mg1, .ref mg2, .int (nI nt), .ref mt1, .int (nI nn), .ref mn1, .ref mn2, .ref mn3, .ref ml1, .ref mw1])), (ml1, .inl (jl1, 9, .inl xl)), (mw1, .inl (jw1, 9, .inl wt))] := hD
  refine lv_lload_n hx hb dX7_letter_5 rfl (lv_at hl 1 rfl) ?_
  refine zRo_i (va_runS (As := [.long p0]) (rest := []) ⟨hx, hb, hml, hown, hts⟩ (mx_isNumber l D z H.size p0 ) (va_cwS 1 hts gX7_letter_X7_isNumber rfl rfl rfl (by decide +kernel) ⟨Nat.le_of_ble_eq_true rfl, Nat.le_of_ble_eq_true rfl⟩) ⟨zPre_blind, (zPre_mk (wc := []) (tc := []) hP hK hD hC hS [] (by decide) rfl rfl [] rfl (zro_free hS hA))⟩ rfl rfl hl.1 rfl (lv_room (Nat.le_of_ble_eq_true rfl)) dX7_letter_6 ⟨Nat.zero_le _, Nat.zero_le _⟩) hS hA hP (fun r_6 H locs hw hP hS => ?_)
  have hw_6 : zB r_6 (27512614111 ≤ p0.toInt ∧ p0.toInt < 302638755221) := hw
  refine lv_if_ne (tgt := 15) hx hb dX7_letter_9 (by decide) (fun c_9 => ?_) (fun c_9 => ?_)
  · have i_9 : ¬ (r_6.toInt = 0) := fun q9 => c_9 (zi_eq.mpr q9)
    refine lv_iload_n hx hb dX7_letter_15 rfl (lv_at hl 2 rfl) ?_
    refine lv_if_lt (tgt := 25) hx hb dX7_letter_16 (by decide) (fun c_16 => ?_) (fun c_16 => ?_)
    · have i_16 : p1.toInt < 0 := zi_lt.mp c_16
      refine lv_aload_n hx hb dX7_letter_25 rfl (lv_at hl 0 rfl) ?_
      refine lv_iconst (v := 1) hx hb dX7_letter_26 (by decide) ?_
      refine va_put (D := D) (ci := 7) (v := .int 1) (ty := .int) (C := RX7) (T := TX7) (N := 19) hx hb hts k_1 tyX7 tyX7_ok nmX7 hown hK hP hD hS 0 rfl rfl 0 (by decide) k_0 (fun _ h9 => h9) rfl (by decide +kernel) rfl rfl (Nat.le_of_ble_eq_true rfl) dX7_letter_27 (fun H locs hP hD hS => ?_)
      have hP : va_P D vwCl [(mo, .inr (7, [.int 1, .int (nI nb), .ref ma1, .ref ma2, .ref ma3, .int (nI nq), .ref mb1, .ref mb2, .int (nI ng), .ref mg1, .ref mg2, .int (nI nt), .ref mt1, .int (nI nn), .ref mn1, .ref mn2, .ref mn3, .ref ml1, .ref mw1])), (ml1, .inl (jl1, 9, .inl xl)), (mw1, .inl (jw1, 9, .inl wt))] H := hP
      have hD : va_D A [(mo, .inr (7, [.int 1, .int (nI nb), .ref ma1, .ref ma2, .ref ma3, .int (nI nq), .ref mb1, .ref mb2, .int (nI ng), .ref mg1, .ref mg2, .int (nI nt), .ref mt1, .int (nI nn), .ref mn1, .ref mn2, .ref mn3, .ref ml1, .ref mw1])), (ml1, .inl (jl1, 9, .inl xl)), (mw1, .inl (jw1, 9, .inl wt))] := hD
      refine lv_iconst (v := 0) hx hb dX7_letter_30 (by decide) ?_
      exact W.iret (v := 0) hx hb hr (fun t9 ht9 hW9 => ⟨⟨_, (1, xl), rfl, Or.inr (Or.inl ⟨zB_ne hw_6 c_9, by omega, rfl, rfl⟩), by rw [ht9]; exact hP, va_K.moved hW9.alike hK, hD⟩, hS.F ht9⟩) hS.2.2 dX7_letter_31
    · have i_16 : ¬ (p1.toInt < 0) := fun q9 => c_16 (zi_lt.mpr q9)
      refine lv_iload_n hx hb dX7_letter_19 rfl (lv_at hl 2 rfl) ?_
      refine lv_bipush (v := 8) hx hb dX7_letter_20 (by decide) ?_
      refine lv_icmp_le (tgt := 32) hx hb dX7_letter_22 (by decide) (fun c_22 => ?_) (fun c_22 => ?_)
      · have i_22 : p1.toInt ≤ 8 := zi_le.mp c_22
        have hN : zIsN p0 := zB_ne hw_6 c_9
        obtain ⟨i, hi, rfl⟩ := znat (x := p1) (n := 9) i_16 (by omega) (by decide)
        have hl : lv_has ls 7 [(0, .ref mo), (1, .long p0), (3, .int (nI i))] := hl
        refine lv_aload_n hx hb dX7_letter_32 rfl (lv_at hl 0 rfl) ?_
        refine va_get (D := D) (ci := 7) (v := .ref ml1) (C := RX7) (T := TX7) (N := 19) hx hb hts k_1 hown hK hP 0 rfl rfl 17 (by decide) k_2 (fun _ h9 => h9) rfl dX7_letter_33 ?_
        refine lv_iconst (v := 0) hx hb dX7_letter_36 (by decide) ?_
        refine lv_lload_n hx hb dX7_letter_37 rfl (lv_at hl 1 rfl) ?_
        refine lv_ldc2 hx hb hown k_3 dX7_letter_38 ?_
        refine lv_ldiv hx hb dX7_letter_41 (by decide) ?_
        refine lv_l2i (v := (p0 / 27512614111).toInt32) hx hb dX7_letter_42 rfl ?_
        refine lv_iconst (v := 1) hx hb dX7_letter_43 (by decide) ?_
        refine lv_isub hx hb dX7_letter_44 ?_
        refine z_iast (k := 0) hx hb hK hP hD hS 1 0 rfl rfl (by omega) (by decide) dX7_letter_45 (fun H locs hP hD hS => ?_)
        have hP : va_P D vwCl [(mo, .inr (7, [.int 0, .int (nI nb), .ref ma1, .ref ma2, .ref ma3, .int (nI nq), .ref mb1, .ref mb2, .int (nI ng), .ref mg1, .ref mg2, .int (nI nt), .ref mt1, .int (nI nn), .ref mn1, .ref mn2, .ref mn3, .ref ml1, .ref mw1])), (ml1, .inl (jl1, 9, .inl (upd xl 0 (((p0 / 27512614111).toInt32) - 1)))), (mw1, .inl (jw1, 9, .inl wt))] H := hP
        have hD : va_D A [(mo, .inr (7, [.int 0, .int (nI nb), .ref ma1, .ref ma2, .ref ma3, .int (nI nq), .ref mb1, .ref mb2, .int (nI ng), .ref mg1, .ref mg2, .int (nI nt), .ref mt1, .int (nI nn), .ref mn1, .ref mn2, .ref mn3, .ref ml1, .ref mw1])), (ml1, .inl (jl1, 9, .inl (upd xl 0 (((p0 / 27512614111).toInt32) - 1)))), (mw1, .inl (jw1, 9, .inl wt))] := hD
        refine lv_lload_n hx hb dX7_letter_46 rfl (lv_at hl 1 rfl) ?_
        refine lv_ldc2 hx hb hown k_3 dX7_letter_47 ?_
        refine lv_lrem hx hb dX7_letter_50 (by decide) ?_
        refine lv_lstore (lv' := [(4, .long (p0 - p0 / 27512614111 * 27512614111)), (0, .ref mo), (1, .long p0), (3, .int (nI i))]) hx hb dX7_letter_51 hl (by decide) rfl (fun ls hl => ?_)
        refine lv_bipush (v := 7) hx hb dX7_letter_53 (by decide) ?_
        refine lv_istore (lv' := [(6, .int 7), (4, .long (p0 - p0 / 27512614111 * 27512614111)), (0, .ref mo), (1, .long p0), (3, .int (nI i))]) hx hb dX7_letter_55 hl (by decide) rfl (fun ls hl => ?_)
        refine zLoop (σ := Nat × Int64 × (Nat → Int32)) (nL := 7) (μ := fun (x : Nat × Int64 × (Nat → Int32)) => match x with | (k, x, f) => k) (lv := fun (x : Nat × Int64 × (Nat → Int32)) => match x with | (k, x, f) => [(6, .int (nI k)), (0, .ref mo), (1, .long p0), (3, .int (nI i)), (4, .long x)]) (wf := fun (x : Nat × Int64 × (Nat → Int32)) => match x with | (k, x, f) => [(mo, .inr (7, [.int 0, .int (nI nb), .ref ma1, .ref ma2, .ref ma3, .int (nI nq), .ref mb1, .ref mb2, .int (nI ng), .ref mg1, .ref mg2, .int (nI nt), .ref mt1, .int (nI nn), .ref mn1, .ref mn2, .ref mn3, .ref ml1, .ref mw1])), (ml1, .inl (jl1, 9, .inl f)), (mw1, .inl (jw1, 9, .inl wt))]) (I := fun (x : Nat × Int64 × (Nat → Int32)) => match x with | (k, x, f) => k ≤ 7 ∧ x = zdv (7 - k) (zser p0) ∧ f 0 = zPl p0 0 ∧ ∀ j, k < j → j ≤ 7 → f j = zPl p0 j) (fun x H locs ls hI hP hD hS hl ih => ?_) (7, (zser p0), (upd xl 0 ((p0 / 27512614111).toInt32 - 1))) ⟨Nat.le_refl _, rfl, by rw [pk_us]; exact zfirst hN, fun j q1 q2 => by omega⟩ hP hD hS (lv_sub hl [0, 2, 3, 4, 1] rfl)
        obtain ⟨k, x, f⟩ := x
        have hI : k ≤ 7 ∧ x = zdv (7 - k) (zser p0) ∧ f 0 = zPl p0 0 ∧ ∀ j, k < j → j ≤ 7 → f j = zPl p0 j := hI
        have hl : lv_has ls 7 [(6, .int (nI k)), (0, .ref mo), (1, .long p0), (3, .int (nI i)), (4, .long x)] := hl
        have hP : va_P D vwCl [(mo, .inr (7, [.int 0, .int (nI nb), .ref ma1, .ref ma2, .ref ma3, .int (nI nq), .ref mb1, .ref mb2, .int (nI ng), .ref mg1, .ref mg2, .int (nI nt), .ref mt1, .int (nI nn), .ref mn1, .ref mn2, .ref mn3, .ref ml1, .ref mw1])), (ml1, .inl (jl1, 9, .inl f)), (mw1, .inl (jw1, 9, .inl wt))] H := hP
        have hD : va_D A [(mo, .inr (7, [.int 0, .int (nI nb), .ref ma1, .ref ma2, .ref ma3, .int (nI nq), .ref mb1, .ref mb2, .int (nI ng), .ref mg1, .ref mg2, .int (nI nt), .ref mt1, .int (nI nn), .ref mn1, .ref mn2, .ref mn3, .ref ml1, .ref mw1])), (ml1, .inl (jl1, 9, .inl f)), (mw1, .inl (jw1, 9, .inl wt))] := hD
        have h1 := hI.1
        refine lv_iload hx hb dX7_letter_57 (lv_at hl 0 rfl) ?_
        refine lv_if_le (tgt := 90) hx hb dX7_letter_59 (by decide) (fun c_59 => ?_) (fun c_59 => ?_)
        · have c_59 : k ≤ 0 := (nI_leI (a := k) (b := 0) (by omega) (by omega)).mp c_59
          have hf : ∀ j, j < 8 → f j = zPl p0 j := fun j hj => by by_cases e : j = 0; (rw [e]; exact hI.2.2.1); exact hI.2.2.2 j (by omega) (by omega)
          have hse := zSm_eq (x := p0) (f := f) hw9 8 (by omega) hf
          have hsr := zSm_rng hN
          refine lv_aload_n hx hb dX7_letter_90 rfl (lv_at hl 1 rfl) ?_
          refine va_get (D := D) (ci := 7) (v := .ref ml1) (C := RX7) (T := TX7) (N := 19) hx hb hts k_1 hown hK hP 0 rfl rfl 17 (by decide) k_2 (fun _ h9 => h9) rfl dX7_letter_91 ?_
          refine lv_bipush (v := 8) hx hb dX7_letter_94 (by decide) ?_
          refine lv_aload_n hx hb dX7_letter_96 rfl (lv_at hl 1 rfl) ?_
          refine zRo_i (va_runV (As := []) (rest := [.int 8, .ref ml1]) ⟨hx, hb, hml, hown, hts⟩ (mx_check l D z H.size mo ma1 ma2 ma3 mb1 mb2 mg1 mg2 mt1 mn1 mn2 mn3 ml1 mw1 (0 : Int32) nb nq ng nt nn jl1 f jw1 wt (by rw [hse]; omega)) (cwV 0 hts gX7_letter_X7_check rfl rfl rfl (by decide +kernel) ⟨Nat.le_of_ble_eq_true rfl, Nat.le_of_ble_eq_true rfl⟩) ⟨zPre_blind, va_recv hK hP (ci := 7) (q0 := 0) rfl rfl, (zPre_mk (wc := [(mo, .inr (7, [.int (0 : Int32), .int (nI nb), .ref ma1, .ref ma2, .ref ma3, .int (nI nq), .ref mb1, .ref mb2, .int (nI ng), .ref mg1, .ref mg2, .int (nI nt), .ref mt1, .int (nI nn), .ref mn1, .ref mn2, .ref mn3, .ref ml1, .ref mw1])), (ml1, .inl (jl1, 9, .inl f)), (mw1, .inl (jw1, 9, .inl wt))]) (tc := [(jl1, .int), (jw1, .int)]) hP hK hD hC hS [0, 1, 2] (by decide) rfl rfl [0, 1] rfl (zro_free hS hA))⟩ rfl rfl hl.1 rfl (lv_room (Nat.le_of_ble_eq_true rfl)) dX7_letter_97 ⟨Nat.zero_le _, Nat.zero_le _⟩) hS hA hP (fun r_97 H locs hw hP hS => ?_)
          have hw_97 : r_97.toInt = (31 - (zWs f wt 8).toInt % 31) % 31 := hw
          refine z_iast (k := 8) hx hb hK hP hD hS 1 0 rfl rfl (by omega) (by decide) dX7_letter_100 (fun H locs hP hD hS => ?_)
          have hP : va_P D vwCl [(mo, .inr (7, [.int 0, .int (nI nb), .ref ma1, .ref ma2, .ref ma3, .int (nI nq), .ref mb1, .ref mb2, .int (nI ng), .ref mg1, .ref mg2, .int (nI nt), .ref mt1, .int (nI nn), .ref mn1, .ref mn2, .ref mn3, .ref ml1, .ref mw1])), (ml1, .inl (jl1, 9, .inl (upd f 8 r_97))), (mw1, .inl (jw1, 9, .inl wt))] H := hP
          have hD : va_D A [(mo, .inr (7, [.int 0, .int (nI nb), .ref ma1, .ref ma2, .ref ma3, .int (nI nq), .ref mb1, .ref mb2, .int (nI ng), .ref mg1, .ref mg2, .int (nI nt), .ref mt1, .int (nI nn), .ref mn1, .ref mn2, .ref mn3, .ref ml1, .ref mw1])), (ml1, .inl (jl1, 9, .inl (upd f 8 r_97))), (mw1, .inl (jw1, 9, .inl wt))] := hD
          refine lv_aload_n hx hb dX7_letter_101 rfl (lv_at hl 1 rfl) ?_
          refine va_get (D := D) (ci := 7) (v := .ref ml1) (C := RX7) (T := TX7) (N := 19) hx hb hts k_1 hown hK hP 0 rfl rfl 17 (by decide) k_2 (fun _ h9 => h9) rfl dX7_letter_102 ?_
          refine lv_iload_n hx hb dX7_letter_105 rfl (lv_at hl 3 rfl) ?_
          refine z_iald (k := i) hx hb hK hP 1 0 rfl rfl (by omega) (by decide) dX7_letter_106 ?_
          refine zRo_i (va_runS (As := [.int ((upd f 8 r_97) i)]) (rest := []) ⟨hx, hb, hml, hown, hts⟩ (mx_sign l D z H.size ((upd f 8 r_97) i) ) (va_cwS 1 hts gX7_letter_X7_sign rfl rfl rfl (by decide +kernel) ⟨Nat.le_of_ble_eq_true rfl, Nat.le_of_ble_eq_true rfl⟩) ⟨zPre_blind, (zPre_mk (wc := []) (tc := []) hP hK hD hC hS [] (by decide) rfl rfl [] rfl (zro_free hS hA))⟩ rfl rfl hl.1 rfl (lv_room (Nat.le_of_ble_eq_true rfl)) dX7_letter_107 ⟨Nat.zero_le _, Nat.zero_le _⟩) hS hA hP (fun r_107 H locs hw hP hS => ?_)
          have hw_107 : r_107 = zSign ((upd f 8 r_97) i) := hw
          exact W.iret (v := r_107) hx hb hr (fun t9 ht9 hW9 => ⟨⟨_, (0, (upd f 8 r_97)), rfl, Or.inr (Or.inr ⟨hN, by rw [nI_toInt (by omega)]; omega, by rw [hw_107, nI_toInt (by omega)]; refine congrArg zSign ?_; show upd f 8 r_97 i = zVA p0 i; unfold zVA; by_cases e : i = 8; (rw [if_pos e, e, pk_us]; exact zi_eq.mpr (by rw [hw_97, hse, zChk_int hN])); (rw [if_neg e, pk_un e]; exact hf i (by omega)), rfl⟩), by rw [ht9]; exact hP, va_K.moved hW9.alike hK, hD⟩, hS.F ht9⟩) hS.2.2 dX7_letter_110
        · have c_59 : ¬ (k ≤ 0) := fun q9 => c_59 ((nI_leI (a := k) (b := 0) (by omega) (by omega)).mpr q9)
          refine lv_aload_n hx hb dX7_letter_62 rfl (lv_at hl 1 rfl) ?_
          refine va_get (D := D) (ci := 7) (v := .ref ml1) (C := RX7) (T := TX7) (N := 19) hx hb hts k_1 hown hK hP 0 rfl rfl 17 (by decide) k_2 (fun _ h9 => h9) rfl dX7_letter_63 ?_
          refine lv_iload hx hb dX7_letter_66 (lv_at hl 0 rfl) ?_
          refine lv_lload hx hb dX7_letter_68 (lv_at hl 4 rfl) ?_
          refine lv_ldc2 hx hb hown k_4 dX7_letter_70 ?_
          refine lv_lrem hx hb dX7_letter_73 (by decide) ?_
          refine lv_l2i (v := (x - x / 31 * 31).toInt32) hx hb dX7_letter_74 rfl ?_
          refine z_iast (k := k) hx hb hK hP hD hS 1 0 rfl rfl (by omega) (by decide) dX7_letter_75 (fun H locs hP hD hS => ?_)
          have hP : va_P D vwCl [(mo, .inr (7, [.int 0, .int (nI nb), .ref ma1, .ref ma2, .ref ma3, .int (nI nq), .ref mb1, .ref mb2, .int (nI ng), .ref mg1, .ref mg2, .int (nI nt), .ref mt1, .int (nI nn), .ref mn1, .ref mn2, .ref mn3, .ref ml1, .ref mw1])), (ml1, .inl (jl1, 9, .inl (upd f k ((x - x / 31 * 31).toInt32)))), (mw1, .inl (jw1, 9, .inl wt))] H := hP
          have hD : va_D A [(mo, .inr (7, [.int 0, .int (nI nb), .ref ma1, .ref ma2, .ref ma3, .int (nI nq), .ref mb1, .ref mb2, .int (nI ng), .ref mg1, .ref mg2, .int (nI nt), .ref mt1, .int (nI nn), .ref mn1, .ref mn2, .ref mn3, .ref ml1, .ref mw1])), (ml1, .inl (jl1, 9, .inl (upd f k ((x - x / 31 * 31).toInt32)))), (mw1, .inl (jw1, 9, .inl wt))] := hD
          refine lv_lload hx hb dX7_letter_76 (lv_at hl 4 rfl) ?_
          refine lv_ldc2 hx hb hown k_4 dX7_letter_78 ?_
          refine lv_ldiv hx hb dX7_letter_81 (by decide) ?_
          refine lv_lstore (lv' := [(4, .long (x / 31)), (6, .int (nI k)), (0, .ref mo), (1, .long p0), (3, .int (nI i))]) hx hb dX7_letter_82 hl (by decide) rfl (fun ls hl => ?_)
          refine lv_iinc (v := (nI (k - 1))) (lv' := [(6, .int (nI (k - 1))), (4, .long (x / 31)), (0, .ref mo), (1, .long p0), (3, .int (nI i))]) hx hb dX7_letter_84 hl (k := 1) rfl (sb_m1 (by omega)) (by decide) rfl (fun ls hl => ?_)
          refine lv_goto (tgt := 57) hx hb dX7_letter_87 (by decide) ?_
          exact ih (k - 1, x / 31, upd f k ((x - x / 31 * 31).toInt32)) _ _ _ (show (k - 1) < k from (by omega)) ⟨by omega, by rw [show 7 - (k - 1) = (7 - k) + 1 by omega, hI.2.1]; rfl, by rw [pk_un (by omega)]; exact hI.2.2.1, fun j q1 q2 => by by_cases e : j = k; (subst e; rw [pk_us, hI.2.1]; unfold zPl; rw [if_neg (by omega)]); (rw [pk_un e]; exact hI.2.2.2 j (by omega) q2)⟩ hP hD hS (lv_sub hl [0, 2, 3, 4, 1] rfl)
      · have i_22 : ¬ (p1.toInt ≤ 8) := fun q9 => c_22 (zi_le.mpr q9)
        refine lv_aload_n hx hb dX7_letter_25 rfl (lv_at hl 0 rfl) ?_
        refine lv_iconst (v := 1) hx hb dX7_letter_26 (by decide) ?_
        refine va_put (D := D) (ci := 7) (v := .int 1) (ty := .int) (C := RX7) (T := TX7) (N := 19) hx hb hts k_1 tyX7 tyX7_ok nmX7 hown hK hP hD hS 0 rfl rfl 0 (by decide) k_0 (fun _ h9 => h9) rfl (by decide +kernel) rfl rfl (Nat.le_of_ble_eq_true rfl) dX7_letter_27 (fun H locs hP hD hS => ?_)
        have hP : va_P D vwCl [(mo, .inr (7, [.int 1, .int (nI nb), .ref ma1, .ref ma2, .ref ma3, .int (nI nq), .ref mb1, .ref mb2, .int (nI ng), .ref mg1, .ref mg2, .int (nI nt), .ref mt1, .int (nI nn), .ref mn1, .ref mn2, .ref mn3, .ref ml1, .ref mw1])), (ml1, .inl (jl1, 9, .inl xl)), (mw1, .inl (jw1, 9, .inl wt))] H := hP
        have hD : va_D A [(mo, .inr (7, [.int 1, .int (nI nb), .ref ma1, .ref ma2, .ref ma3, .int (nI nq), .ref mb1, .ref mb2, .int (nI ng), .ref mg1, .ref mg2, .int (nI nt), .ref mt1, .int (nI nn), .ref mn1, .ref mn2, .ref mn3, .ref ml1, .ref mw1])), (ml1, .inl (jl1, 9, .inl xl)), (mw1, .inl (jw1, 9, .inl wt))] := hD
        refine lv_iconst (v := 0) hx hb dX7_letter_30 (by decide) ?_
        exact W.iret (v := 0) hx hb hr (fun t9 ht9 hW9 => ⟨⟨_, (1, xl), rfl, Or.inr (Or.inl ⟨zB_ne hw_6 c_9, by omega, rfl, rfl⟩), by rw [ht9]; exact hP, va_K.moved hW9.alike hK, hD⟩, hS.F ht9⟩) hS.2.2 dX7_letter_31
  · have i_9 : r_6.toInt = 0 := zi_eq.mp c_9
    refine lv_bipush (v := -101) hx hb dX7_letter_12 (by decide) ?_
    exact W.iret (v := (-101)) hx hb hr (fun t9 ht9 hW9 => ⟨⟨_, (0, xl), rfl, Or.inl ⟨zB_eq hw_6 c_9, rfl, rfl⟩, by rw [ht9]; exact hP, va_K.moved hW9.alike hK, hD⟩, hS.F ht9⟩) hS.2.2 dX7_letter_14
