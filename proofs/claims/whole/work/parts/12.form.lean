/-! forms -/
theorem znat {x : Int32} {n : Nat} (h0 : ¬ x.toInt < 0) (h : x.toInt < n) (hn : n < 2 ^ 31) : ∃ i, i < n ∧ x = nI i :=
  ⟨x.toInt.toNat, by omega, Int32.toInt_inj.mp (by rw [nI_toInt (by omega)]; omega)⟩
def zLetter (v : Int32) : Int32 := if 0 ≤ v.toInt ∧ v.toInt < 31 then zLt v.toInt.toNat else -101
def zGreat (c : Int32) : Int32 := if 97 ≤ c.toInt ∧ c.toInt ≤ 122 then c - 97 + 65 else c
def zVal (g r : Int32) : Prop := (∃ v, v < 31 ∧ zLt v = g ∧ r = nI v ∧ ∀ w, w < v → ¬ zLt w = g) ∨ ((∀ v, v < 31 → ¬ zLt v = g) ∧ r = -1)
def zWgt (v i : Int32) : Int32 := if 0 ≤ i.toInt ∧ i.toInt < 9 then v * zWt i.toInt.toNat else 0
def zdv : Nat → Int64 → Int64
  | 0, x => x
  | t + 1, x => zdv t x / 31
def zPl (x : Int64) (i : Nat) : Int32 := if i = 0 then (zsvc x).toInt32 else (zdv (7 - i) (zser x) - zdv (7 - i) (zser x) / 31 * 31).toInt32
def zSm (x : Int64) : Nat → Int32
  | 0 => 0
  | n + 1 => zSm x n + zWgt (zPl x n) (nI n)
def zrem31 (s : Int32) : Int32 := s - s / 31 * 31
def zChk (x : Int64) : Int32 := zrem31 (31 - zrem31 (zSm x 8))
def zVA (x : Int64) (i : Nat) : Int32 := if i = 8 then zChk x else zPl x i
def zCan (v : Int32) (i : Nat) (s : Int32) : Prop := 0 ≤ v.toInt ∧ i < 9 ∧ (i = 0 → v.toInt < 10) ∧ (i = 8 → zrem31 (s + zWgt v (nI 8)) = 0)
theorem zB_nar {r : Int32} {P : Prop} (h : zB r P) : narrow .boolean (.int r) = .int r := by
  rcases h with ⟨h, -⟩ | ⟨h, -⟩ <;> rw [h] <;> rfl
theorem zch_nar {r : Int32} {i : Nat} (hi : i < 31) (h : r = zLt i) : narrow .char (.int r) = .int r := by rw [h]; exact zLt_n i hi

set_option maxHeartbeats 4000000 in
set_option maxRecDepth 100000 in
theorem cc_X2_letterOf (l : Launch) (D : va_G) (z : zG) (sz : Nat) (p0 : Int32)  : Met l yX2_letterOf wsX2_letterOf ({ frames := 4, cells := 0, slots := 0, locals := 85 }) (zPre D z [.int p0] sz [] [] (va_A [] sz)) (va_Qi (fun (r : Int32) (u : Unit) => r = zLetter p0) zT (va_A [] sz)) 0 0 (va_A [] sz) := by
  refine Met.ofW (cc := cX2_letterOf) (maxL := 1) (ret := (some .int)) (by decide) rfl ?_
  intro p e s m args below meth c s₁ B hml hv
  obtain ⟨rfl, hsz, hP, hK, hD, hC⟩ := hv
  have hx := B.exec
  have hb := B.bytes
  have hr := B.returns
  have hts := atoms_spec (ws := wsX2_letterOf) B.pre
  have hown : s.vm.findClass RX2 = some m.cls := findClass_of_methodNamed B.named
  have hlocks := B.notSynchronized
  subst hsz
  generalize hAe : va_A [] s.heap.size = A at hC ⊢
  have hA : ∀ q : Nat, s.heap.size ≤ q → A q := fun q h => by rw [← hAe]; exact Or.inr h
  have hS : va_S A s.heap s.heap [] := va_S.rf
  have hP : va_P D vwCl [] s.heap := hP
  have hl := lv_entry ([.int p0]) (n := 1) (Nat.le_of_ble_eq_true rfl)
  rw [lg_entry_eq]
  generalize (lg_sl ([.int p0]) ++ List.replicate (1 - (lg_sl ([.int p0])).length) Slot.unset).toArray = ls at hl ⊢
  have hl : lv_has ls 1 [(0, .int p0)] := hl
  refine zNameH (D := D) (A := A) (ws := []) (fun H locs hP hS => ?_) hP hS
  refine lv_iload_n hx hb dX2_letterOf_0 rfl (lv_at hl 0 rfl) ?_
  refine lv_if_lt (tgt := 10) hx hb dX2_letterOf_1 (by decide) (fun c_1 => ?_) (fun c_1 => ?_)
  · have i_1 : p0.toInt < 0 := zi_lt.mp c_1
    refine lv_bipush (v := -101) hx hb dX2_letterOf_10 (by decide) ?_
    exact W.iret (v := (-101)) hx hb hr (fun t9 ht9 hW9 => ⟨⟨_, (), rfl, (if_neg (by omega)).symm, trivial⟩, hS.F ht9⟩) hS.2.2 dX2_letterOf_12
  · have i_1 : ¬ (p0.toInt < 0) := fun q9 => c_1 (zi_lt.mpr q9)
    refine lv_iload_n hx hb dX2_letterOf_4 rfl (lv_at hl 0 rfl) ?_
    refine lv_bipush (v := 31) hx hb dX2_letterOf_5 (by decide) ?_
    refine lv_icmp_lt (tgt := 13) hx hb dX2_letterOf_7 (by decide) (fun c_7 => ?_) (fun c_7 => ?_)
    · have i_7 : p0.toInt < 31 := zi_lt.mp c_7
      obtain ⟨i, hi, rfl⟩ := znat (n := 31) i_1 i_7 (by decide)
      have hl : lv_has ls 1 [(0, .int (nI i))] := hl
      refine va_ldcS hx hb hown hC.2.1 dX2_letterOf_13 ?_
      refine lv_iload_n hx hb dX2_letterOf_15 rfl (lv_at hl 0 rfl) ?_
      refine zRo_i (va_runV (As := [.int (nI i)]) (rest := []) ⟨hx, hb, hml, hown, hts⟩ (cc_J0_charAt l D z H.size i (by omega)) (cwV 1 hts gX2_letterOf_J0_charAt_5068e rfl rfl rfl (by decide +kernel) ⟨Nat.le_of_ble_eq_true rfl, Nat.le_of_ble_eq_true rfl⟩) ⟨zPre_blind, zrecv hC hS, (zPre_mk (wc := []) (tc := []) hP hK hD hC hS [] (by decide) rfl rfl [] rfl (zro_free hS hA))⟩ rfl rfl hl.1 rfl (lv_room (Nat.le_of_ble_eq_true rfl)) dX2_letterOf_16 ⟨Nat.zero_le _, Nat.zero_le _⟩) hS hA hP (fun r_16 H locs hw hP hS => ?_)
      have hw_16 : r_16 = zLt i := hw
      exact W.iret (v := r_16) hx hb hr (fun t9 ht9 hW9 => ⟨⟨_, (), rfl, by rw [hw_16]; unfold zLetter; rw [nI_toInt (by omega), if_pos (by omega)]; rfl, trivial⟩, hS.F ht9⟩) hS.2.2 dX2_letterOf_19
    · have i_7 : ¬ (p0.toInt < 31) := fun q9 => c_7 (zi_lt.mpr q9)
      refine lv_bipush (v := -101) hx hb dX2_letterOf_10 (by decide) ?_
      exact W.iret (v := (-101)) hx hb hr (fun t9 ht9 hW9 => ⟨⟨_, (), rfl, (if_neg (by omega)).symm, trivial⟩, hS.F ht9⟩) hS.2.2 dX2_letterOf_12

set_option maxHeartbeats 4000000 in
set_option maxRecDepth 100000 in
theorem cc_X2_valueOf (l : Launch) (D : va_G) (z : zG) (sz : Nat) (p0 : Int32)  : Met l yX2_valueOf wsX2_valueOf ({ frames := 4, cells := 0, slots := 0, locals := 85 }) (zPre D z [.int p0] sz [] [] (va_A [] sz)) (va_Qi (fun (r : Int32) (u : Unit) => zVal (zGreat p0) r) zT (va_A [] sz)) 0 0 (va_A [] sz) := by
  refine Met.ofW (cc := cX2_valueOf) (maxL := 3) (ret := (some .int)) (by decide) rfl ?_
  intro p e s m args below meth c s₁ B hml hv
  obtain ⟨rfl, hsz, hP, hK, hD, hC⟩ := hv
  have hx := B.exec
  have hb := B.bytes
  have hr := B.returns
  have hts := atoms_spec (ws := wsX2_valueOf) B.pre
  have hown : s.vm.findClass RX2 = some m.cls := findClass_of_methodNamed B.named
  have hlocks := B.notSynchronized
  subst hsz
  generalize hAe : va_A [] s.heap.size = A at hC ⊢
  have hA : ∀ q : Nat, s.heap.size ≤ q → A q := fun q h => by rw [← hAe]; exact Or.inr h
  have hS : va_S A s.heap s.heap [] := va_S.rf
  have hP : va_P D vwCl [] s.heap := hP
  have hl := lv_entry ([.int p0]) (n := 3) (Nat.le_of_ble_eq_true rfl)
  rw [lg_entry_eq]
  generalize (lg_sl ([.int p0]) ++ List.replicate (3 - (lg_sl ([.int p0])).length) Slot.unset).toArray = ls at hl ⊢
  have hl : lv_has ls 3 [(0, .int p0)] := hl
  refine zNameH (D := D) (A := A) (ws := []) (fun H locs hP hS => ?_) hP hS
  refine lv_iload_n hx hb dX2_valueOf_0 rfl (lv_at hl 0 rfl) ?_
  refine lv_bipush (v := 97) hx hb dX2_valueOf_1 (by decide) ?_
  refine lv_icmp_lt (tgt := 22) hx hb dX2_valueOf_3 (by decide) (fun c_3 => ?_) (fun c_3 => ?_)
  · have i_3 : p0.toInt < 97 := zi_lt.mp c_3
    refine lv_iload_n hx hb dX2_valueOf_22 rfl (lv_at hl 0 rfl) ?_
    refine lv_topi (fun gr egr => ?_)
    have hg : gr = zGreat p0 := egr.trans (by unfold zGreat; rw [if_neg (by omega)])
    refine lv_istore_n (lv' := [(1, .int gr), (0, .int p0)]) hx hb dX2_valueOf_23 rfl hl (by decide) rfl (fun ls hl => ?_)
    refine lv_iconst (v := 0) hx hb dX2_valueOf_24 (by decide) ?_
    refine lv_istore_n (lv' := [(2, .int 0), (1, .int gr), (0, .int p0)]) hx hb dX2_valueOf_25 rfl hl (by decide) rfl (fun ls hl => ?_)
    refine zLoop (σ := Nat) (nL := 3) (μ := fun (v : Nat) => 31 - v) (lv := fun (v : Nat) => [(2, .int (nI v)), (0, .int p0), (1, .int gr)]) (wf := fun (v : Nat) => []) (I := fun (v : Nat) => v ≤ 31 ∧ ∀ w, w < v → ¬ zLt w = gr) (fun x H locs ls hI hP hD hS hl ih => ?_) 0 ⟨Nat.zero_le _, fun j hj => absurd hj (Nat.not_lt_zero j)⟩ hP hD hS (lv_sub hl [0, 2, 1] rfl)
    obtain ⟨v, rfl⟩ : ∃ y9, y9 = x := ⟨_, rfl⟩
    have hI : v ≤ 31 ∧ ∀ w, w < v → ¬ zLt w = gr := hI
    have hl : lv_has ls 3 [(2, .int (nI v)), (0, .int p0), (1, .int gr)] := hl
    have hP : va_P D vwCl [] H := hP
    have hD : va_D (fun _ => True) [] := hD
    have hi := hI.1
    refine lv_iload_n hx hb dX2_valueOf_26 rfl (lv_at hl 0 rfl) ?_
    refine lv_bipush (v := 31) hx hb dX2_valueOf_27 (by decide) ?_
    refine lv_icmp_ge (tgt := 50) hx hb dX2_valueOf_29 (by decide) (fun c_29 => ?_) (fun c_29 => ?_)
    · have c_29 : 31 ≤ v := (nI_leI (a := 31) (b := v) (by omega) (by omega)).mp c_29
      refine lv_iconst (v := -1) hx hb dX2_valueOf_50 (by decide) ?_
      exact W.iret (v := (-1)) hx hb hr (fun t9 ht9 hW9 => ⟨⟨_, (), rfl, hg ▸ Or.inr ⟨fun j hj => hI.2 j (by omega), rfl⟩, trivial⟩, hS.F ht9⟩) hS.2.2 dX2_valueOf_51
    · have c_29 : ¬ (31 ≤ v) := fun q9 => c_29 ((nI_leI (a := 31) (b := v) (by omega) (by omega)).mpr q9)
      refine va_ldcS hx hb hown hC.2.1 dX2_valueOf_32 ?_
      refine lv_iload_n hx hb dX2_valueOf_34 rfl (lv_at hl 0 rfl) ?_
      refine zRo_i (va_runV (As := [.int (nI v)]) (rest := []) ⟨hx, hb, hml, hown, hts⟩ (cc_J0_charAt l D z H.size v (by omega)) (cwV 1 hts gX2_valueOf_J0_charAt_5068e rfl rfl rfl (by decide +kernel) ⟨Nat.le_of_ble_eq_true rfl, Nat.le_of_ble_eq_true rfl⟩) ⟨zPre_blind, zrecv hC hS, (zPre_mk (wc := []) (tc := []) hP hK hD hC hS [] (by decide) rfl rfl [] rfl (zro_free hS hA))⟩ rfl rfl hl.1 rfl (lv_room (Nat.le_of_ble_eq_true rfl)) dX2_valueOf_35 ⟨Nat.zero_le _, Nat.zero_le _⟩) hS hA hP (fun r_35 H locs hw hP hS => ?_)
      have hw_35 : r_35 = zLt v := hw
      refine lv_iload_n hx hb dX2_valueOf_38 rfl (lv_at hl 2 rfl) ?_
      refine lv_icmp_ne (tgt := 44) hx hb dX2_valueOf_39 (by decide) (fun c_39 => ?_) (fun c_39 => ?_)
      · have i_39 : ¬ (r_35.toInt = gr.toInt) := fun q9 => c_39 (zi_eq.mpr q9)
        refine lv_iinc (v := (nI (v + 1))) (lv' := [(2, .int (nI (v + 1))), (0, .int p0), (1, .int gr)]) hx hb dX2_valueOf_44 hl (k := 0) rfl (by first | exact nI_1 _ | rfl) (by decide) rfl (fun ls hl => ?_)
        refine lv_goto (tgt := 26) hx hb dX2_valueOf_47 (by decide) ?_
        exact ih (v + 1) _ _ _ (show 31 - (v + 1) < 31 - v from (by omega)) ⟨by omega, lt_s hI.2 (fun q => c_39 (hw_35.trans q))⟩ hP hD hS (lv_sub hl [0, 1, 2] rfl)
      · have i_39 : r_35.toInt = gr.toInt := zi_eq.mp c_39
        refine lv_iload_n hx hb dX2_valueOf_42 rfl (lv_at hl 0 rfl) ?_
        exact W.iret (v := (nI v)) hx hb hr (fun t9 ht9 hW9 => ⟨⟨_, (), rfl, hg ▸ Or.inl ⟨v, by omega, hw_35.symm.trans c_39, rfl, hI.2⟩, trivial⟩, hS.F ht9⟩) hS.2.2 dX2_valueOf_43
  · have i_3 : ¬ (p0.toInt < 97) := fun q9 => c_3 (zi_lt.mpr q9)
    refine lv_iload_n hx hb dX2_valueOf_6 rfl (lv_at hl 0 rfl) ?_
    refine lv_bipush (v := 122) hx hb dX2_valueOf_7 (by decide) ?_
    refine lv_icmp_gt (tgt := 22) hx hb dX2_valueOf_9 (by decide) (fun c_9 => ?_) (fun c_9 => ?_)
    · have i_9 : 122 < p0.toInt := zi_lt.mp c_9
      refine lv_iload_n hx hb dX2_valueOf_22 rfl (lv_at hl 0 rfl) ?_
      refine lv_topi (fun gr egr => ?_)
      have hg : gr = zGreat p0 := egr.trans (by unfold zGreat; rw [if_neg (by omega)])
      refine lv_istore_n (lv' := [(1, .int gr), (0, .int p0)]) hx hb dX2_valueOf_23 rfl hl (by decide) rfl (fun ls hl => ?_)
      refine lv_iconst (v := 0) hx hb dX2_valueOf_24 (by decide) ?_
      refine lv_istore_n (lv' := [(2, .int 0), (1, .int gr), (0, .int p0)]) hx hb dX2_valueOf_25 rfl hl (by decide) rfl (fun ls hl => ?_)
      refine zLoop (σ := Nat) (nL := 3) (μ := fun (v : Nat) => 31 - v) (lv := fun (v : Nat) => [(2, .int (nI v)), (0, .int p0), (1, .int gr)]) (wf := fun (v : Nat) => []) (I := fun (v : Nat) => v ≤ 31 ∧ ∀ w, w < v → ¬ zLt w = gr) (fun x H locs ls hI hP hD hS hl ih => ?_) 0 ⟨Nat.zero_le _, fun j hj => absurd hj (Nat.not_lt_zero j)⟩ hP hD hS (lv_sub hl [0, 2, 1] rfl)
      obtain ⟨v, rfl⟩ : ∃ y9, y9 = x := ⟨_, rfl⟩
      have hI : v ≤ 31 ∧ ∀ w, w < v → ¬ zLt w = gr := hI
      have hl : lv_has ls 3 [(2, .int (nI v)), (0, .int p0), (1, .int gr)] := hl
      have hP : va_P D vwCl [] H := hP
      have hD : va_D (fun _ => True) [] := hD
      have hi := hI.1
      refine lv_iload_n hx hb dX2_valueOf_26 rfl (lv_at hl 0 rfl) ?_
      refine lv_bipush (v := 31) hx hb dX2_valueOf_27 (by decide) ?_
      refine lv_icmp_ge (tgt := 50) hx hb dX2_valueOf_29 (by decide) (fun c_29 => ?_) (fun c_29 => ?_)
      · have c_29 : 31 ≤ v := (nI_leI (a := 31) (b := v) (by omega) (by omega)).mp c_29
        refine lv_iconst (v := -1) hx hb dX2_valueOf_50 (by decide) ?_
        exact W.iret (v := (-1)) hx hb hr (fun t9 ht9 hW9 => ⟨⟨_, (), rfl, hg ▸ Or.inr ⟨fun j hj => hI.2 j (by omega), rfl⟩, trivial⟩, hS.F ht9⟩) hS.2.2 dX2_valueOf_51
      · have c_29 : ¬ (31 ≤ v) := fun q9 => c_29 ((nI_leI (a := 31) (b := v) (by omega) (by omega)).mpr q9)
        refine va_ldcS hx hb hown hC.2.1 dX2_valueOf_32 ?_
        refine lv_iload_n hx hb dX2_valueOf_34 rfl (lv_at hl 0 rfl) ?_
        refine zRo_i (va_runV (As := [.int (nI v)]) (rest := []) ⟨hx, hb, hml, hown, hts⟩ (cc_J0_charAt l D z H.size v (by omega)) (cwV 1 hts gX2_valueOf_J0_charAt_5068e rfl rfl rfl (by decide +kernel) ⟨Nat.le_of_ble_eq_true rfl, Nat.le_of_ble_eq_true rfl⟩) ⟨zPre_blind, zrecv hC hS, (zPre_mk (wc := []) (tc := []) hP hK hD hC hS [] (by decide) rfl rfl [] rfl (zro_free hS hA))⟩ rfl rfl hl.1 rfl (lv_room (Nat.le_of_ble_eq_true rfl)) dX2_valueOf_35 ⟨Nat.zero_le _, Nat.zero_le _⟩) hS hA hP (fun r_35 H locs hw hP hS => ?_)
        have hw_35 : r_35 = zLt v := hw
        refine lv_iload_n hx hb dX2_valueOf_38 rfl (lv_at hl 2 rfl) ?_
        refine lv_icmp_ne (tgt := 44) hx hb dX2_valueOf_39 (by decide) (fun c_39 => ?_) (fun c_39 => ?_)
        · have i_39 : ¬ (r_35.toInt = gr.toInt) := fun q9 => c_39 (zi_eq.mpr q9)
          refine lv_iinc (v := (nI (v + 1))) (lv' := [(2, .int (nI (v + 1))), (0, .int p0), (1, .int gr)]) hx hb dX2_valueOf_44 hl (k := 0) rfl (by first | exact nI_1 _ | rfl) (by decide) rfl (fun ls hl => ?_)
          refine lv_goto (tgt := 26) hx hb dX2_valueOf_47 (by decide) ?_
          exact ih (v + 1) _ _ _ (show 31 - (v + 1) < 31 - v from (by omega)) ⟨by omega, lt_s hI.2 (fun q => c_39 (hw_35.trans q))⟩ hP hD hS (lv_sub hl [0, 1, 2] rfl)
        · have i_39 : r_35.toInt = gr.toInt := zi_eq.mp c_39
          refine lv_iload_n hx hb dX2_valueOf_42 rfl (lv_at hl 0 rfl) ?_
          exact W.iret (v := (nI v)) hx hb hr (fun t9 ht9 hW9 => ⟨⟨_, (), rfl, hg ▸ Or.inl ⟨v, by omega, hw_35.symm.trans c_39, rfl, hI.2⟩, trivial⟩, hS.F ht9⟩) hS.2.2 dX2_valueOf_43
    · have i_9 : ¬ (122 < p0.toInt) := fun q9 => c_9 (zi_lt.mpr q9)
      refine lv_iload_n hx hb dX2_valueOf_12 rfl (lv_at hl 0 rfl) ?_
      refine lv_bipush (v := 97) hx hb dX2_valueOf_13 (by decide) ?_
      refine lv_isub hx hb dX2_valueOf_15 ?_
      refine lv_bipush (v := 65) hx hb dX2_valueOf_16 (by decide) ?_
      refine lv_iadd hx hb dX2_valueOf_18 ?_
      refine lv_goto (tgt := 23) hx hb dX2_valueOf_19 (by decide) ?_
      refine lv_topi (fun gr egr => ?_)
      have hg : gr = zGreat p0 := egr.trans (by unfold zGreat; rw [if_pos (by omega)])
      refine lv_istore_n (lv' := [(1, .int gr), (0, .int p0)]) hx hb dX2_valueOf_23 rfl hl (by decide) rfl (fun ls hl => ?_)
      refine lv_iconst (v := 0) hx hb dX2_valueOf_24 (by decide) ?_
      refine lv_istore_n (lv' := [(2, .int 0), (1, .int gr), (0, .int p0)]) hx hb dX2_valueOf_25 rfl hl (by decide) rfl (fun ls hl => ?_)
      refine zLoop (σ := Nat) (nL := 3) (μ := fun (v : Nat) => 31 - v) (lv := fun (v : Nat) => [(2, .int (nI v)), (0, .int p0), (1, .int gr)]) (wf := fun (v : Nat) => []) (I := fun (v : Nat) => v ≤ 31 ∧ ∀ w, w < v → ¬ zLt w = gr) (fun x H locs ls hI hP hD hS hl ih => ?_) 0 ⟨Nat.zero_le _, fun j hj => absurd hj (Nat.not_lt_zero j)⟩ hP hD hS (lv_sub hl [0, 2, 1] rfl)
      obtain ⟨v, rfl⟩ : ∃ y9, y9 = x := ⟨_, rfl⟩
      have hI : v ≤ 31 ∧ ∀ w, w < v → ¬ zLt w = gr := hI
      have hl : lv_has ls 3 [(2, .int (nI v)), (0, .int p0), (1, .int gr)] := hl
      have hP : va_P D vwCl [] H := hP
      have hD : va_D (fun _ => True) [] := hD
      have hi := hI.1
      refine lv_iload_n hx hb dX2_valueOf_26 rfl (lv_at hl 0 rfl) ?_
      refine lv_bipush (v := 31) hx hb dX2_valueOf_27 (by decide) ?_
      refine lv_icmp_ge (tgt := 50) hx hb dX2_valueOf_29 (by decide) (fun c_29 => ?_) (fun c_29 => ?_)
      · have c_29 : 31 ≤ v := (nI_leI (a := 31) (b := v) (by omega) (by omega)).mp c_29
        refine lv_iconst (v := -1) hx hb dX2_valueOf_50 (by decide) ?_
        exact W.iret (v := (-1)) hx hb hr (fun t9 ht9 hW9 => ⟨⟨_, (), rfl, hg ▸ Or.inr ⟨fun j hj => hI.2 j (by omega), rfl⟩, trivial⟩, hS.F ht9⟩) hS.2.2 dX2_valueOf_51
      · have c_29 : ¬ (31 ≤ v) := fun q9 => c_29 ((nI_leI (a := 31) (b := v) (by omega) (by omega)).mpr q9)
        refine va_ldcS hx hb hown hC.2.1 dX2_valueOf_32 ?_
        refine lv_iload_n hx hb dX2_valueOf_34 rfl (lv_at hl 0 rfl) ?_
        refine zRo_i (va_runV (As := [.int (nI v)]) (rest := []) ⟨hx, hb, hml, hown, hts⟩ (cc_J0_charAt l D z H.size v (by omega)) (cwV 1 hts gX2_valueOf_J0_charAt_5068e rfl rfl rfl (by decide +kernel) ⟨Nat.le_of_ble_eq_true rfl, Nat.le_of_ble_eq_true rfl⟩) ⟨zPre_blind, zrecv hC hS, (zPre_mk (wc := []) (tc := []) hP hK hD hC hS [] (by decide) rfl rfl [] rfl (zro_free hS hA))⟩ rfl rfl hl.1 rfl (lv_room (Nat.le_of_ble_eq_true rfl)) dX2_valueOf_35 ⟨Nat.zero_le _, Nat.zero_le _⟩) hS hA hP (fun r_35 H locs hw hP hS => ?_)
        have hw_35 : r_35 = zLt v := hw
        refine lv_iload_n hx hb dX2_valueOf_38 rfl (lv_at hl 2 rfl) ?_
        refine lv_icmp_ne (tgt := 44) hx hb dX2_valueOf_39 (by decide) (fun c_39 => ?_) (fun c_39 => ?_)
        · have i_39 : ¬ (r_35.toInt = gr.toInt) := fun q9 => c_39 (zi_eq.mpr q9)
          refine lv_iinc (v := (nI (v + 1))) (lv' := [(2, .int (nI (v + 1))), (0, .int p0), (1, .int gr)]) hx hb dX2_valueOf_44 hl (k := 0) rfl (by first | exact nI_1 _ | rfl) (by decide) rfl (fun ls hl => ?_)
          refine lv_goto (tgt := 26) hx hb dX2_valueOf_47 (by decide) ?_
          exact ih (v + 1) _ _ _ (show 31 - (v + 1) < 31 - v from (by omega)) ⟨by omega, lt_s hI.2 (fun q => c_39 (hw_35.trans q))⟩ hP hD hS (lv_sub hl [0, 1, 2] rfl)
        · have i_39 : r_35.toInt = gr.toInt := zi_eq.mp c_39
          refine lv_iload_n hx hb dX2_valueOf_42 rfl (lv_at hl 0 rfl) ?_
          exact W.iret (v := (nI v)) hx hb hr (fun t9 ht9 hW9 => ⟨⟨_, (), rfl, hg ▸ Or.inl ⟨v, by omega, hw_35.symm.trans c_39, rfl, hI.2⟩, trivial⟩, hS.F ht9⟩) hS.2.2 dX2_valueOf_43

set_option maxHeartbeats 4000000 in
set_option maxRecDepth 100000 in
theorem cc_X2_weighted (l : Launch) (D : va_G) (z : zG) (sz : Nat) (p0 : Int32) (p1 : Int32)  : Met l yX2_weighted wsX2_weighted ({ frames := 0, cells := 0, slots := 0, locals := 0 }) (zPre D z [.int p0, .int p1] sz [] [] (va_A [] sz)) (va_Qi (fun (r : Int32) (u : Unit) => r = zWgt p0 p1) zT (va_A [] sz)) 0 0 (va_A [] sz) := by
  refine Met.ofW (cc := cX2_weighted) (maxL := 2) (ret := (some .int)) (by decide) rfl ?_
  intro p e s m args below meth c s₁ B hml hv
  obtain ⟨rfl, hsz, hP, hK, hD, hC⟩ := hv
  have hx := B.exec
  have hb := B.bytes
  have hr := B.returns
  have hts := atoms_spec (ws := wsX2_weighted) B.pre
  have hown : s.vm.findClass RX2 = some m.cls := findClass_of_methodNamed B.named
  have hlocks := B.notSynchronized
  subst hsz
  generalize hAe : va_A [] s.heap.size = A at hC ⊢
  have hA : ∀ q : Nat, s.heap.size ≤ q → A q := fun q h => by rw [← hAe]; exact Or.inr h
  have hS : va_S A s.heap s.heap [] := va_S.rf
  have hP : va_P D vwCl [] s.heap := hP
  have hl := lv_entry ([.int p0, .int p1]) (n := 2) (Nat.le_of_ble_eq_true rfl)
  rw [lg_entry_eq]
  generalize (lg_sl ([.int p0, .int p1]) ++ List.replicate (2 - (lg_sl ([.int p0, .int p1])).length) Slot.unset).toArray = ls at hl ⊢
  have hl : lv_has ls 2 [(0, .int p0), (1, .int p1)] := hl
  refine zNameH (D := D) (A := A) (ws := []) (fun H locs hP hS => ?_) hP hS
  have k_0 := hts (.fieldLink RX2 19 "NumberRows2$Form" "WEIGHTS" "[I") (by decide +kernel)
  refine lv_iload_n hx hb dX2_weighted_0 rfl (lv_at hl 1 rfl) ?_
  refine lv_if_lt (tgt := 20) hx hb dX2_weighted_1 (by decide) (fun c_1 => ?_) (fun c_1 => ?_)
  · have i_1 : p1.toInt < 0 := zi_lt.mp c_1
    refine lv_iconst (v := 0) hx hb dX2_weighted_20 (by decide) ?_
    exact W.iret (v := 0) hx hb hr (fun t9 ht9 hW9 => ⟨⟨_, (), rfl, (if_neg (by omega)).symm, trivial⟩, hS.F ht9⟩) hS.2.2 dX2_weighted_21
  · have i_1 : ¬ (p1.toInt < 0) := fun q9 => c_1 (zi_lt.mpr q9)
    refine lv_iload_n hx hb dX2_weighted_4 rfl (lv_at hl 1 rfl) ?_
    refine lv_bipush (v := 9) hx hb dX2_weighted_5 (by decide) ?_
    refine lv_icmp_ge (tgt := 20) hx hb dX2_weighted_7 (by decide) (fun c_7 => ?_) (fun c_7 => ?_)
    · have i_7 : 9 ≤ p1.toInt := zi_le.mp c_7
      refine lv_iconst (v := 0) hx hb dX2_weighted_20 (by decide) ?_
      exact W.iret (v := 0) hx hb hr (fun t9 ht9 hW9 => ⟨⟨_, (), rfl, (if_neg (by omega)).symm, trivial⟩, hS.F ht9⟩) hS.2.2 dX2_weighted_21
    · have i_7 : ¬ (9 ≤ p1.toInt) := fun q9 => c_7 (zi_le.mpr q9)
      refine lv_iload_n hx hb dX2_weighted_10 rfl (lv_at hl 0 rfl) ?_
      refine va_gets hx hb hC.2.2.2.1 hS hown k_0 (fun _ h9 => h9) dX2_weighted_11 ?_
      refine lv_iload_n hx hb dX2_weighted_14 rfl (lv_at hl 1 rfl) ?_
      refine va_ti (v := .int (zWt p1.toInt.toNat)) hx hb hC.2.2.2.2.1 hS (vp_in_iff.mpr (by omega)) rfl dX2_weighted_15 ?_
      refine lv_imul hx hb dX2_weighted_16 ?_
      refine lv_goto (tgt := 21) hx hb dX2_weighted_17 (by decide) ?_
      exact W.iret (v := (p0 * (zWt p1.toInt.toNat))) hx hb hr (fun t9 ht9 hW9 => ⟨⟨_, (), rfl, (if_pos (by omega)).symm, trivial⟩, hS.F ht9⟩) hS.2.2 dX2_weighted_21

set_option maxHeartbeats 4000000 in
set_option maxRecDepth 100000 in
theorem cc_X2_plainValueAt (l : Launch) (D : va_G) (z : zG) (sz : Nat) (p0 : Int64) (i : Nat) (hi : i ≤ 7) : Met l yX2_plainValueAt wsX2_plainValueAt ({ frames := 1, cells := 0, slots := 0, locals := 21 }) (zPre D z [.long p0, .int (nI i)] sz [] [] (va_A [] sz)) (va_Qi (fun (r : Int32) (u : Unit) => r = zPl p0 i) zT (va_A [] sz)) 0 0 (va_A [] sz) := by
  refine Met.ofW (cc := cX2_plainValueAt) (maxL := 6) (ret := (some .int)) (by decide) rfl ?_
  intro p e s m args below meth c s₁ B hml hv
  obtain ⟨rfl, hsz, hP, hK, hD, hC⟩ := hv
  have hx := B.exec
  have hb := B.bytes
  have hr := B.returns
  have hts := atoms_spec (ws := wsX2_plainValueAt) B.pre
  have hown : s.vm.findClass RX2 = some m.cls := findClass_of_methodNamed B.named
  have hlocks := B.notSynchronized
  subst hsz
  generalize hAe : va_A [] s.heap.size = A at hC ⊢
  have hA : ∀ q : Nat, s.heap.size ≤ q → A q := fun q h => by rw [← hAe]; exact Or.inr h
  have hS : va_S A s.heap s.heap [] := va_S.rf
  have hP : va_P D vwCl [] s.heap := hP
  have hl := lv_entry ([.long p0, .int (nI i)]) (n := 6) (Nat.le_of_ble_eq_true rfl)
  rw [lg_entry_eq]
  generalize (lg_sl ([.long p0, .int (nI i)]) ++ List.replicate (6 - (lg_sl ([.long p0, .int (nI i)])).length) Slot.unset).toArray = ls at hl ⊢
  have hl : lv_has ls 6 [(0, .long p0), (2, .int (nI i))] := hl
  refine zNameH (D := D) (A := A) (ws := []) (fun H locs hP hS => ?_) hP hS
  have k_0 : va_Nw (.methodLinkNest RX2 35 yX6_serialOf RX6) s := hC.1 _ (by decide +kernel)
  have k_1 := hts (.initialized RX6) (by decide +kernel)
  have k_2 := hts (.static yX6_serialOf) (by decide +kernel)
  have k_3 := hts (.constantLong RX2 38 (31)) (by decide +kernel)
  have k_4 : va_Nw (.methodLinkNest RX2 31 yX6_serviceOf RX6) s := hC.1 _ (by decide +kernel)
  have k_5 := hts (.static yX6_serviceOf) (by decide +kernel)
  refine lv_iload_n hx hb dX2_plainValueAt_0 rfl (lv_at hl 1 rfl) ?_
  refine lv_if_ne (tgt := 10) hx hb dX2_plainValueAt_1 (by decide) (fun c_1 => ?_) (fun c_1 => ?_)
  · have c_1 : ¬ (i = 0) := fun q9 => c_1 ((nI_eq (a := i) (b := 0) (by omega) (by omega)).mpr q9)
    refine lv_lload_n hx hb dX2_plainValueAt_10 rfl (lv_at hl 0 rfl) ?_
    refine zRo_l (va_runSN (As := [.long p0]) (rest := []) ⟨hx, hb, hml, hown, hts⟩ (cc_X6_serialOf l D z H.size p0 ) ⟨va_cnB 1 hts gX2_plainValueAt_X6_serialOf_n35 rfl rfl rfl k_0 k_1 (by decide +kernel) ⟨Nat.le_of_ble_eq_true rfl, Nat.le_of_ble_eq_true rfl⟩, k_2, trivial⟩ ⟨zPre_blind, (zPre_mk (wc := []) (tc := []) hP hK hD hC hS [] (by decide) rfl rfl [] rfl (zro_free hS hA))⟩ rfl rfl hl.1 rfl (lv_room (Nat.le_of_ble_eq_true rfl)) dX2_plainValueAt_11 ⟨Nat.zero_le _, Nat.zero_le _⟩) hS hA hP (fun r_11 H locs hw hP hS => ?_)
    have hw_11 : r_11 = zser p0 := hw
    refine lv_lstore_n (lv' := [(3, .long r_11), (0, .long p0), (2, .int (nI i))]) hx hb dX2_plainValueAt_14 rfl hl (by decide) rfl (fun ls hl => ?_)
    refine lv_bipush (v := 7) hx hb dX2_plainValueAt_15 (by decide) ?_
    refine lv_istore (lv' := [(5, .int 7), (3, .long r_11), (0, .long p0), (2, .int (nI i))]) hx hb dX2_plainValueAt_17 hl (by decide) rfl (fun ls hl => ?_)
    refine zLoop (σ := Nat × Int64) (nL := 6) (μ := fun (x : Nat × Int64) => match x with | (k, x) => k) (lv := fun (x : Nat × Int64) => match x with | (k, x) => [(5, .int (nI k)), (0, .long p0), (2, .int (nI i)), (3, .long x)]) (wf := fun (x : Nat × Int64) => match x with | (k, x) => []) (I := fun (x : Nat × Int64) => match x with | (k, x) => i ≤ k ∧ k ≤ 7 ∧ x = zdv (7 - k) (zser p0)) (fun x H locs ls hI hP hD hS hl ih => ?_) (7, r_11) ⟨hi, Nat.le_refl _, hw_11⟩ hP hD hS (lv_sub hl [0, 2, 3, 1] rfl)
    obtain ⟨k, x⟩ := x
    have hI : i ≤ k ∧ k ≤ 7 ∧ x = zdv (7 - k) (zser p0) := hI
    have hl : lv_has ls 6 [(5, .int (nI k)), (0, .long p0), (2, .int (nI i)), (3, .long x)] := hl
    have hP : va_P D vwCl [] H := hP
    have hD : va_D (fun _ => True) [] := hD
    have h1 := hI.1
    have h2 := hI.2.1
    refine lv_iload hx hb dX2_plainValueAt_19 (lv_at hl 0 rfl) ?_
    refine lv_iload_n hx hb dX2_plainValueAt_21 rfl (lv_at hl 2 rfl) ?_
    refine lv_icmp_le (tgt := 37) hx hb dX2_plainValueAt_22 (by decide) (fun c_22 => ?_) (fun c_22 => ?_)
    · have c_22 : k ≤ i := (nI_leI (a := k) (b := i) (by omega) (by omega)).mp c_22
      refine lv_lload_n hx hb dX2_plainValueAt_37 rfl (lv_at hl 3 rfl) ?_
      refine lv_ldc2 hx hb hown k_3 dX2_plainValueAt_38 ?_
      refine lv_lrem hx hb dX2_plainValueAt_41 (by decide) ?_
      refine lv_l2i (v := (x - x / 31 * 31).toInt32) hx hb dX2_plainValueAt_42 rfl ?_
      exact W.iret (v := ((x - x / 31 * 31).toInt32)) hx hb hr (fun t9 ht9 hW9 => ⟨⟨_, (), rfl, by obtain rfl : k = i := (by omega); unfold zPl; rw [if_neg (by omega), ← hI.2.2], trivial⟩, hS.F ht9⟩) hS.2.2 dX2_plainValueAt_43
    · have c_22 : ¬ (k ≤ i) := fun q9 => c_22 ((nI_leI (a := k) (b := i) (by omega) (by omega)).mpr q9)
      refine lv_lload_n hx hb dX2_plainValueAt_25 rfl (lv_at hl 3 rfl) ?_
      refine lv_ldc2 hx hb hown k_3 dX2_plainValueAt_26 ?_
      refine lv_ldiv hx hb dX2_plainValueAt_29 (by decide) ?_
      refine lv_lstore_n (lv' := [(3, .long (x / 31)), (5, .int (nI k)), (0, .long p0), (2, .int (nI i))]) hx hb dX2_plainValueAt_30 rfl hl (by decide) rfl (fun ls hl => ?_)
      refine lv_iinc (v := (nI (k - 1))) (lv' := [(5, .int (nI (k - 1))), (3, .long (x / 31)), (0, .long p0), (2, .int (nI i))]) hx hb dX2_plainValueAt_31 hl (k := 1) rfl (sb_m1 (by omega)) (by decide) rfl (fun ls hl => ?_)
      refine lv_goto (tgt := 19) hx hb dX2_plainValueAt_34 (by decide) ?_
      exact ih (k - 1, x / 31) _ _ _ (show (k - 1) < k from (by omega)) ⟨by omega, by omega, by rw [show 7 - (k - 1) = (7 - k) + 1 by omega, hI.2.2]; rfl⟩ hP hD hS (lv_sub hl [0, 2, 3, 1] rfl)
  · have c_1 : i = 0 := (nI_eq (a := i) (b := 0) (by omega) (by omega)).mp c_1
    refine lv_lload_n hx hb dX2_plainValueAt_4 rfl (lv_at hl 0 rfl) ?_
    refine zRo_l (va_runSN (As := [.long p0]) (rest := []) ⟨hx, hb, hml, hown, hts⟩ (cc_X6_serviceOf l D z H.size p0 ) ⟨va_cnB 1 hts gX2_plainValueAt_X6_serviceOf_n31 rfl rfl rfl k_4 k_1 (by decide +kernel) ⟨Nat.le_of_ble_eq_true rfl, Nat.le_of_ble_eq_true rfl⟩, k_5, trivial⟩ ⟨zPre_blind, (zPre_mk (wc := []) (tc := []) hP hK hD hC hS [] (by decide) rfl rfl [] rfl (zro_free hS hA))⟩ rfl rfl hl.1 rfl (lv_room (Nat.le_of_ble_eq_true rfl)) dX2_plainValueAt_5 ⟨Nat.zero_le _, Nat.zero_le _⟩) hS hA hP (fun r_5 H locs hw hP hS => ?_)
    have hw_5 : r_5 = zsvc p0 := hw
    refine lv_l2i (v := r_5.toInt32) hx hb dX2_plainValueAt_8 rfl ?_
    exact W.iret (v := r_5.toInt32) hx hb hr (fun t9 ht9 hW9 => ⟨⟨_, (), rfl, by rw [hw_5]; unfold zPl; rw [if_pos (by omega)], trivial⟩, hS.F ht9⟩) hS.2.2 dX2_plainValueAt_9

set_option maxHeartbeats 4000000 in
set_option maxRecDepth 100000 in
theorem cc_X2_checkOf (l : Launch) (D : va_G) (z : zG) (sz : Nat) (p0 : Int64)  : Met l yX2_checkOf wsX2_checkOf ({ frames := 2, cells := 0, slots := 0, locals := 46 }) (zPre D z [.long p0] sz [] [] (va_A [] sz)) (va_Qi (fun (r : Int32) (u : Unit) => r = zChk p0) zT (va_A [] sz)) 0 0 (va_A [] sz) := by
  refine Met.ofW (cc := cX2_checkOf) (maxL := 4) (ret := (some .int)) (by decide) rfl ?_
  intro p e s m args below meth c s₁ B hml hv
  obtain ⟨rfl, hsz, hP, hK, hD, hC⟩ := hv
  have hx := B.exec
  have hb := B.bytes
  have hr := B.returns
  have hts := atoms_spec (ws := wsX2_checkOf) B.pre
  have hown : s.vm.findClass RX2 = some m.cls := findClass_of_methodNamed B.named
  have hlocks := B.notSynchronized
  subst hsz
  generalize hAe : va_A [] s.heap.size = A at hC ⊢
  have hA : ∀ q : Nat, s.heap.size ≤ q → A q := fun q h => by rw [← hAe]; exact Or.inr h
  have hS : va_S A s.heap s.heap [] := va_S.rf
  have hP : va_P D vwCl [] s.heap := hP
  have hl := lv_entry ([.long p0]) (n := 4) (Nat.le_of_ble_eq_true rfl)
  rw [lg_entry_eq]
  generalize (lg_sl ([.long p0]) ++ List.replicate (4 - (lg_sl ([.long p0])).length) Slot.unset).toArray = ls at hl ⊢
  have hl : lv_has ls 4 [(0, .long p0)] := hl
  refine zNameH (D := D) (A := A) (ws := []) (fun H locs hP hS => ?_) hP hS
  refine lv_iconst (v := 0) hx hb dX2_checkOf_0 (by decide) ?_
  refine lv_istore_n (lv' := [(2, .int 0), (0, .long p0)]) hx hb dX2_checkOf_1 rfl hl (by decide) rfl (fun ls hl => ?_)
  refine lv_iconst (v := 0) hx hb dX2_checkOf_2 (by decide) ?_
  refine lv_istore_n (lv' := [(3, .int 0), (2, .int 0), (0, .long p0)]) hx hb dX2_checkOf_3 rfl hl (by decide) rfl (fun ls hl => ?_)
  refine zLoop (σ := Nat × Int32) (nL := 4) (μ := fun (x : Nat × Int32) => match x with | (i, sm) => 8 - i) (lv := fun (x : Nat × Int32) => match x with | (i, sm) => [(3, .int (nI i)), (0, .long p0), (2, .int sm)]) (wf := fun (x : Nat × Int32) => match x with | (i, sm) => []) (I := fun (x : Nat × Int32) => match x with | (i, sm) => i ≤ 8 ∧ sm = zSm p0 i) (fun x H locs ls hI hP hD hS hl ih => ?_) (0, 0) ⟨Nat.zero_le _, rfl⟩ hP hD hS (lv_sub hl [0, 2, 1] rfl)
  obtain ⟨i, sm⟩ := x
  have hI : i ≤ 8 ∧ sm = zSm p0 i := hI
  have hl : lv_has ls 4 [(3, .int (nI i)), (0, .long p0), (2, .int sm)] := hl
  have hP : va_P D vwCl [] H := hP
  have hD : va_D (fun _ => True) [] := hD
  have h1 := hI.1
  refine lv_iload_n hx hb dX2_checkOf_4 rfl (lv_at hl 0 rfl) ?_
  refine lv_bipush (v := 8) hx hb dX2_checkOf_5 (by decide) ?_
  refine lv_icmp_ge (tgt := 28) hx hb dX2_checkOf_7 (by decide) (fun c_7 => ?_) (fun c_7 => ?_)
  · have c_7 : 8 ≤ i := (nI_leI (a := 8) (b := i) (by omega) (by omega)).mp c_7
    refine lv_bipush (v := 31) hx hb dX2_checkOf_28 (by decide) ?_
    refine lv_iload_n hx hb dX2_checkOf_30 rfl (lv_at hl 2 rfl) ?_
    refine lv_bipush (v := 31) hx hb dX2_checkOf_31 (by decide) ?_
    refine lv_irem hx hb dX2_checkOf_33 (by decide) ?_
    refine lv_isub hx hb dX2_checkOf_34 ?_
    refine lv_bipush (v := 31) hx hb dX2_checkOf_35 (by decide) ?_
    refine lv_irem hx hb dX2_checkOf_37 (by decide) ?_
    exact W.iret (v := ((31 - (sm - sm / 31 * 31)) - (31 - (sm - sm / 31 * 31)) / 31 * 31)) hx hb hr (fun t9 ht9 hW9 => ⟨⟨_, (), rfl, by obtain rfl : i = 8 := (by omega); rw [hI.2]; rfl, trivial⟩, hS.F ht9⟩) hS.2.2 dX2_checkOf_38
  · have c_7 : ¬ (8 ≤ i) := fun q9 => c_7 ((nI_leI (a := 8) (b := i) (by omega) (by omega)).mpr q9)
    refine lv_iload_n hx hb dX2_checkOf_10 rfl (lv_at hl 2 rfl) ?_
    refine lv_lload_n hx hb dX2_checkOf_11 rfl (lv_at hl 1 rfl) ?_
    refine lv_iload_n hx hb dX2_checkOf_12 rfl (lv_at hl 0 rfl) ?_
    refine zRo_i (va_runS (As := [.long p0, .int (nI i)]) (rest := [.int sm]) ⟨hx, hb, hml, hown, hts⟩ (cc_X2_plainValueAt l D z H.size p0 i (by omega)) (va_cwS 2 hts gX2_checkOf_X2_plainValueAt rfl rfl rfl (by decide +kernel) ⟨Nat.le_of_ble_eq_true rfl, Nat.le_of_ble_eq_true rfl⟩) ⟨zPre_blind, (zPre_mk (wc := []) (tc := []) hP hK hD hC hS [] (by decide) rfl rfl [] rfl (zro_free hS hA))⟩ rfl rfl hl.1 rfl (lv_room (Nat.le_of_ble_eq_true rfl)) dX2_checkOf_13 ⟨Nat.zero_le _, Nat.zero_le _⟩) hS hA hP (fun r_13 H locs hw hP hS => ?_)
    have hw_13 : r_13 = zPl p0 i := hw
    refine lv_iload_n hx hb dX2_checkOf_16 rfl (lv_at hl 0 rfl) ?_
    refine zRo_i (va_runS (As := [.int r_13, .int (nI i)]) (rest := [.int sm]) ⟨hx, hb, hml, hown, hts⟩ (cc_X2_weighted l D z H.size r_13 (nI i) ) (va_cwS 2 hts gX2_checkOf_X2_weighted rfl rfl rfl (by decide +kernel) ⟨Nat.le_of_ble_eq_true rfl, Nat.le_of_ble_eq_true rfl⟩) ⟨zPre_blind, (zPre_mk (wc := []) (tc := []) hP hK hD hC hS [] (by decide) rfl rfl [] rfl (zro_free hS hA))⟩ rfl rfl hl.1 rfl (lv_room (Nat.le_of_ble_eq_true rfl)) dX2_checkOf_17 ⟨Nat.zero_le _, Nat.zero_le _⟩) hS hA hP (fun r_17 H locs hw hP hS => ?_)
    have hw_17 : r_17 = zWgt r_13 (nI i) := hw
    refine lv_iadd hx hb dX2_checkOf_20 ?_
    refine lv_istore_n (lv' := [(2, .int (sm + r_17)), (3, .int (nI i)), (0, .long p0)]) hx hb dX2_checkOf_21 rfl hl (by decide) rfl (fun ls hl => ?_)
    refine lv_iinc (v := (nI (i + 1))) (lv' := [(3, .int (nI (i + 1))), (2, .int (sm + r_17)), (0, .long p0)]) hx hb dX2_checkOf_22 hl (k := 1) rfl (by first | exact nI_1 _ | rfl) (by decide) rfl (fun ls hl => ?_)
    refine lv_goto (tgt := 4) hx hb dX2_checkOf_25 (by decide) ?_
    exact ih (i + 1, sm + r_17) _ _ _ (show 8 - (i + 1) < 8 - i from (by omega)) ⟨by omega, by rw [hw_17, hw_13, hI.2]; rfl⟩ hP hD hS (lv_sub hl [0, 2, 1] rfl)

set_option maxHeartbeats 4000000 in
set_option maxRecDepth 100000 in
theorem cc_X2_valueAt (l : Launch) (D : va_G) (z : zG) (sz : Nat) (p0 : Int64) (i : Nat) (hi : i ≤ 8) : Met l yX2_valueAt wsX2_valueAt ({ frames := 3, cells := 0, slots := 0, locals := 69 }) (zPre D z [.long p0, .int (nI i)] sz [] [] (va_A [] sz)) (va_Qi (fun (r : Int32) (u : Unit) => r = zVA p0 i) zT (va_A [] sz)) 0 0 (va_A [] sz) := by
  refine Met.ofW (cc := cX2_valueAt) (maxL := 3) (ret := (some .int)) (by decide) rfl ?_
  intro p e s m args below meth c s₁ B hml hv
  obtain ⟨rfl, hsz, hP, hK, hD, hC⟩ := hv
  have hx := B.exec
  have hb := B.bytes
  have hr := B.returns
  have hts := atoms_spec (ws := wsX2_valueAt) B.pre
  have hown : s.vm.findClass RX2 = some m.cls := findClass_of_methodNamed B.named
  have hlocks := B.notSynchronized
  subst hsz
  generalize hAe : va_A [] s.heap.size = A at hC ⊢
  have hA : ∀ q : Nat, s.heap.size ≤ q → A q := fun q h => by rw [← hAe]; exact Or.inr h
  have hS : va_S A s.heap s.heap [] := va_S.rf
  have hP : va_P D vwCl [] s.heap := hP
  have hl := lv_entry ([.long p0, .int (nI i)]) (n := 3) (Nat.le_of_ble_eq_true rfl)
  rw [lg_entry_eq]
  generalize (lg_sl ([.long p0, .int (nI i)]) ++ List.replicate (3 - (lg_sl ([.long p0, .int (nI i)])).length) Slot.unset).toArray = ls at hl ⊢
  have hl : lv_has ls 3 [(0, .long p0), (2, .int (nI i))] := hl
  refine zNameH (D := D) (A := A) (ws := []) (fun H locs hP hS => ?_) hP hS
  refine lv_iload_n hx hb dX2_valueAt_0 rfl (lv_at hl 1 rfl) ?_
  refine lv_bipush (v := 8) hx hb dX2_valueAt_1 (by decide) ?_
  refine lv_icmp_ne (tgt := 13) hx hb dX2_valueAt_3 (by decide) (fun c_3 => ?_) (fun c_3 => ?_)
  · have c_3 : ¬ (i = 8) := fun q9 => c_3 ((nI_eq (a := i) (b := 8) (by omega) (by omega)).mpr q9)
    refine lv_lload_n hx hb dX2_valueAt_13 rfl (lv_at hl 0 rfl) ?_
    refine lv_iload_n hx hb dX2_valueAt_14 rfl (lv_at hl 1 rfl) ?_
    refine zRo_i (va_runS (As := [.long p0, .int (nI i)]) (rest := []) ⟨hx, hb, hml, hown, hts⟩ (cc_X2_plainValueAt l D z H.size p0 i (by omega)) (va_cwS 2 hts gX2_valueAt_X2_plainValueAt rfl rfl rfl (by decide +kernel) ⟨Nat.le_of_ble_eq_true rfl, Nat.le_of_ble_eq_true rfl⟩) ⟨zPre_blind, (zPre_mk (wc := []) (tc := []) hP hK hD hC hS [] (by decide) rfl rfl [] rfl (zro_free hS hA))⟩ rfl rfl hl.1 rfl (lv_room (Nat.le_of_ble_eq_true rfl)) dX2_valueAt_15 ⟨Nat.zero_le _, Nat.zero_le _⟩) hS hA hP (fun r_15 H locs hw hP hS => ?_)
    have hw_15 : r_15 = zPl p0 i := hw
    exact W.iret (v := r_15) hx hb hr (fun t9 ht9 hW9 => ⟨⟨_, (), rfl, by rw [hw_15]; unfold zVA; rw [if_neg (by omega)], trivial⟩, hS.F ht9⟩) hS.2.2 dX2_valueAt_18
  · have c_3 : i = 8 := (nI_eq (a := i) (b := 8) (by omega) (by omega)).mp c_3
    refine lv_lload_n hx hb dX2_valueAt_6 rfl (lv_at hl 0 rfl) ?_
    refine zRo_i (va_runS (As := [.long p0]) (rest := []) ⟨hx, hb, hml, hown, hts⟩ (cc_X2_checkOf l D z H.size p0 ) (va_cwS 1 hts gX2_valueAt_X2_checkOf rfl rfl rfl (by decide +kernel) ⟨Nat.le_of_ble_eq_true rfl, Nat.le_of_ble_eq_true rfl⟩) ⟨zPre_blind, (zPre_mk (wc := []) (tc := []) hP hK hD hC hS [] (by decide) rfl rfl [] rfl (zro_free hS hA))⟩ rfl rfl hl.1 rfl (lv_room (Nat.le_of_ble_eq_true rfl)) dX2_valueAt_7 ⟨Nat.zero_le _, Nat.zero_le _⟩) hS hA hP (fun r_7 H locs hw hP hS => ?_)
    have hw_7 : r_7 = zChk p0 := hw
    refine lv_goto (tgt := 18) hx hb dX2_valueAt_10 (by decide) ?_
    exact W.iret (v := r_7) hx hb hr (fun t9 ht9 hW9 => ⟨⟨_, (), rfl, by rw [hw_7]; unfold zVA; rw [if_pos (by omega)], trivial⟩, hS.F ht9⟩) hS.2.2 dX2_valueAt_18

set_option maxHeartbeats 4000000 in
set_option maxRecDepth 100000 in
theorem cc_X2_canStand (l : Launch) (D : va_G) (z : zG) (sz : Nat) (p0 : Int32) (i : Nat) (p2 : Int32) (hi : i ≤ 60) : Met l yX2_canStand wsX2_canStand ({ frames := 1, cells := 0, slots := 0, locals := 21 }) (zPre D z [.int p0, .int (nI i), .int p2] sz [] [] (va_A [] sz)) (va_Qi (fun (r : Int32) (u : Unit) => zB r (zCan p0 i p2)) zT (va_A [] sz)) 0 0 (va_A [] sz) := by
  refine Met.ofW (cc := cX2_canStand) (maxL := 3) (ret := (some .boolean)) (by decide) rfl ?_
  intro p e s m args below meth c s₁ B hml hv
  obtain ⟨rfl, hsz, hP, hK, hD, hC⟩ := hv
  have hx := B.exec
  have hb := B.bytes
  have hr := B.returns
  have hts := atoms_spec (ws := wsX2_canStand) B.pre
  have hown : s.vm.findClass RX2 = some m.cls := findClass_of_methodNamed B.named
  have hlocks := B.notSynchronized
  subst hsz
  generalize hAe : va_A [] s.heap.size = A at hC ⊢
  have hA : ∀ q : Nat, s.heap.size ≤ q → A q := fun q h => by rw [← hAe]; exact Or.inr h
  have hS : va_S A s.heap s.heap [] := va_S.rf
  have hP : va_P D vwCl [] s.heap := hP
  have hl := lv_entry ([.int p0, .int (nI i), .int p2]) (n := 3) (Nat.le_of_ble_eq_true rfl)
  rw [lg_entry_eq]
  generalize (lg_sl ([.int p0, .int (nI i), .int p2]) ++ List.replicate (3 - (lg_sl ([.int p0, .int (nI i), .int p2])).length) Slot.unset).toArray = ls at hl ⊢
  have hl : lv_has ls 3 [(0, .int p0), (1, .int (nI i)), (2, .int p2)] := hl
  refine zNameH (D := D) (A := A) (ws := []) (fun H locs hP hS => ?_) hP hS
  have k_0 : va_Nw (.methodLinkNest RX2 44 yX6_isService RX6) s := hC.1 _ (by decide +kernel)
  have k_1 := hts (.initialized RX6) (by decide +kernel)
  have k_2 := hts (.static yX6_isService) (by decide +kernel)
  refine lv_iload_n hx hb dX2_canStand_0 rfl (lv_at hl 0 rfl) ?_
  refine lv_if_lt (tgt := 10) hx hb dX2_canStand_1 (by decide) (fun c_1 => ?_) (fun c_1 => ?_)
  · have i_1 : p0.toInt < 0 := zi_lt.mp c_1
    refine lv_iconst (v := 0) hx hb dX2_canStand_10 (by decide) ?_
    exact W.zret (v := 0) hx hb hr rfl (fun t9 ht9 hW9 => ⟨⟨_, (), rfl, zB_f (fun q => by have := q.1; have := q.2.1; omega), trivial⟩, hS.F ht9⟩) hS.2.2 dX2_canStand_11
  · have i_1 : ¬ (p0.toInt < 0) := fun q9 => c_1 (zi_lt.mpr q9)
    refine lv_iload_n hx hb dX2_canStand_4 rfl (lv_at hl 1 rfl) ?_
    refine lv_bipush (v := 9) hx hb dX2_canStand_5 (by decide) ?_
    refine lv_icmp_lt (tgt := 12) hx hb dX2_canStand_7 (by decide) (fun c_7 => ?_) (fun c_7 => ?_)
    · have c_7 : i < 9 := (nI_ltI (a := i) (b := 9) (by omega) (by omega)).mp c_7
      refine lv_iload_n hx hb dX2_canStand_12 rfl (lv_at hl 1 rfl) ?_
      refine lv_if_ne (tgt := 21) hx hb dX2_canStand_13 (by decide) (fun c_13 => ?_) (fun c_13 => ?_)
      · have c_13 : ¬ (i = 0) := fun q9 => c_13 ((nI_eq (a := i) (b := 0) (by omega) (by omega)).mpr q9)
        refine lv_iload_n hx hb dX2_canStand_21 rfl (lv_at hl 1 rfl) ?_
        refine lv_bipush (v := 8) hx hb dX2_canStand_22 (by decide) ?_
        refine lv_icmp_lt (tgt := 40) hx hb dX2_canStand_24 (by decide) (fun c_24 => ?_) (fun c_24 => ?_)
        · have c_24 : i < 8 := (nI_ltI (a := i) (b := 8) (by omega) (by omega)).mp c_24
          refine lv_iconst (v := 1) hx hb dX2_canStand_40 (by decide) ?_
          refine lv_goto (tgt := 45) hx hb dX2_canStand_41 (by decide) ?_
          exact W.zret (v := 1) hx hb hr rfl (fun t9 ht9 hW9 => ⟨⟨_, (), rfl, zB_t ⟨by omega, by omega, fun _ => by omega, fun _ => by omega⟩, trivial⟩, hS.F ht9⟩) hS.2.2 dX2_canStand_45
        · have c_24 : ¬ (i < 8) := fun q9 => c_24 ((nI_ltI (a := i) (b := 8) (by omega) (by omega)).mpr q9)
          refine lv_iload_n hx hb dX2_canStand_27 rfl (lv_at hl 2 rfl) ?_
          refine lv_iload_n hx hb dX2_canStand_28 rfl (lv_at hl 0 rfl) ?_
          refine lv_iload_n hx hb dX2_canStand_29 rfl (lv_at hl 1 rfl) ?_
          refine zRo_i (va_runS (As := [.int p0, .int (nI i)]) (rest := [.int p2]) ⟨hx, hb, hml, hown, hts⟩ (cc_X2_weighted l D z H.size p0 (nI i) ) (va_cwS 2 hts gX2_canStand_X2_weighted rfl rfl rfl (by decide +kernel) ⟨Nat.le_of_ble_eq_true rfl, Nat.le_of_ble_eq_true rfl⟩) ⟨zPre_blind, (zPre_mk (wc := []) (tc := []) hP hK hD hC hS [] (by decide) rfl rfl [] rfl (zro_free hS hA))⟩ rfl rfl hl.1 rfl (lv_room (Nat.le_of_ble_eq_true rfl)) dX2_canStand_30 ⟨Nat.zero_le _, Nat.zero_le _⟩) hS hA hP (fun r_30 H locs hw hP hS => ?_)
          have hw_30 : r_30 = zWgt p0 (nI i) := hw
          refine lv_iadd hx hb dX2_canStand_33 ?_
          refine lv_bipush (v := 31) hx hb dX2_canStand_34 (by decide) ?_
          refine lv_irem hx hb dX2_canStand_36 (by decide) ?_
          refine lv_if_ne (tgt := 44) hx hb dX2_canStand_37 (by decide) (fun c_37 => ?_) (fun c_37 => ?_)
          · have i_37 : ¬ (((p2 + r_30) - (p2 + r_30) / 31 * 31).toInt = 0) := fun q9 => c_37 (zi_eq.mpr q9)
            refine lv_iconst (v := 0) hx hb dX2_canStand_44 (by decide) ?_
            exact W.zret (v := 0) hx hb hr rfl (fun t9 ht9 hW9 => ⟨⟨_, (), rfl, zB_f (fun q => c_37 (by obtain rfl : i = 8 := (by omega); rw [hw_30]; exact q.2.2.2 rfl)), trivial⟩, hS.F ht9⟩) hS.2.2 dX2_canStand_45
          · have i_37 : ((p2 + r_30) - (p2 + r_30) / 31 * 31).toInt = 0 := zi_eq.mp c_37
            refine lv_iconst (v := 1) hx hb dX2_canStand_40 (by decide) ?_
            refine lv_goto (tgt := 45) hx hb dX2_canStand_41 (by decide) ?_
            exact W.zret (v := 1) hx hb hr rfl (fun t9 ht9 hW9 => ⟨⟨_, (), rfl, zB_t ⟨by omega, by omega, fun _ => by omega, fun _ => by obtain rfl : i = 8 := (by omega); rw [hw_30] at c_37; exact c_37⟩, trivial⟩, hS.F ht9⟩) hS.2.2 dX2_canStand_45
      · have c_13 : i = 0 := (nI_eq (a := i) (b := 0) (by omega) (by omega)).mp c_13
        refine lv_iload_n hx hb dX2_canStand_16 rfl (lv_at hl 0 rfl) ?_
        refine zRo_i (va_runSN (As := [.int p0]) (rest := []) ⟨hx, hb, hml, hown, hts⟩ (cc_X6_isService l D z H.size p0 ) ⟨va_cnB 1 hts gX2_canStand_X6_isService_n44 rfl rfl rfl k_0 k_1 (by decide +kernel) ⟨Nat.le_of_ble_eq_true rfl, Nat.le_of_ble_eq_true rfl⟩, k_2, trivial⟩ ⟨zPre_blind, (zPre_mk (wc := []) (tc := []) hP hK hD hC hS [] (by decide) rfl rfl [] rfl (zro_free hS hA))⟩ rfl rfl hl.1 rfl (lv_room (Nat.le_of_ble_eq_true rfl)) dX2_canStand_17 ⟨Nat.zero_le _, Nat.zero_le _⟩) hS hA hP (fun r_17 H locs hw hP hS => ?_)
        have hw_17 : zB r_17 (0 ≤ p0.toInt ∧ p0.toInt < 10) := hw
        exact W.zret (v := r_17) hx hb hr (zB_nar hw_17) (fun t9 ht9 hW9 => ⟨⟨_, (), rfl, zB_iff hw_17 ⟨fun q => ⟨q.1, by omega, fun _ => q.2, fun _ => by omega⟩, fun q => ⟨q.1, q.2.2.1 (by omega)⟩⟩, trivial⟩, hS.F ht9⟩) hS.2.2 dX2_canStand_20
    · have c_7 : ¬ (i < 9) := fun q9 => c_7 ((nI_ltI (a := i) (b := 9) (by omega) (by omega)).mpr q9)
      refine lv_iconst (v := 0) hx hb dX2_canStand_10 (by decide) ?_
      exact W.zret (v := 0) hx hb hr rfl (fun t9 ht9 hW9 => ⟨⟨_, (), rfl, zB_f (fun q => by have := q.1; have := q.2.1; omega), trivial⟩, hS.F ht9⟩) hS.2.2 dX2_canStand_11
