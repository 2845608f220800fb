/-! String.charAt of the letters -/
theorem zrecv {z : zG} {A : Nat → Prop} {s : State} {H : Heap} {locs : List Loc} (hC : zC z A s) (hS : va_S A s.heap H locs) : ∃ cell : Cell, H[z.2.1]? = some cell ∧ cell.vm.isStatics = false ∧ s.vm.findClass "java/lang/String" = some cell.cls := by
  obtain ⟨cell, h1, h2, h3, -⟩ := (hC.2.2.2.2.2.2.2.1).kept hS.2.1
  exact ⟨cell, h1, h2, h3⟩
theorem zLt_c : ∀ i, i < 31 → ((zLt i &&& 255).toUInt32 % 65536).toInt32 = zLt i := by decide +kernel
theorem zLt_n : ∀ i, i < 31 → narrow .char (.int (zLt i)) = .int (zLt i) := by
  intro i hi
  have h := zLt_c i hi
  have h2 : ∀ i, i < 31 → (zLt i).toUInt32.toUInt16.toUInt32.toInt32 = zLt i := by decide +kernel
  show Value.int _ = _
  exact congrArg Value.int (h2 i hi)

set_option maxHeartbeats 4000000 in
set_option maxRecDepth 100000 in
theorem cc_J3_checkIndex_r (l : Launch) (D : va_G) (z : zG) (sz : Nat) (i : Nat) (n : Nat) (t : Nat) (hi : i < n) (hn : n < 2 ^ 31) : Met l yJ3_checkIndex_8e157 wsJ3_checkIndex_8e157 ({ frames := 0, cells := 0, slots := 0, locals := 0 }) (zPre D z [.int (nI i), .int (nI n), .ref t] sz [] [] (va_A [] sz)) (va_Qi (fun (r : Int32) (u : Unit) => r = nI i) zT (va_A [] sz)) 0 0 (va_A [] sz) := by
  refine Met.ofW (cc := cJ3_checkIndex_8e157) (maxL := 3) (ret := (some .int)) (by decide) rfl ?_
  intro p e s m args below meth c s₁ B hml hv
  obtain ⟨rfl, hsz, hP, hK, hD, hC⟩ := hv
  have hx := B.exec
  have hb := B.bytes
  have hr := B.returns
  have hts := atoms_spec (ws := wsJ3_checkIndex_8e157) B.pre
  have hown : s.vm.findClass RJ3 = some m.cls := findClass_of_methodNamed B.named
  have hlocks := B.notSynchronized
  subst hsz
  generalize hAe : va_A [] s.heap.size = A at hC ⊢
  have hA : ∀ q : Nat, s.heap.size ≤ q → A q := fun q h => by rw [← hAe]; exact Or.inr h
  have hS : va_S A s.heap s.heap [] := va_S.rf
  have hP : va_P D vwCl [] s.heap := hP
  have hl := lv_entry ([.int (nI i), .int (nI n), .ref t]) (n := 3) (Nat.le_of_ble_eq_true rfl)
  rw [lg_entry_eq]
  generalize (lg_sl ([.int (nI i), .int (nI n), .ref t]) ++ List.replicate (3 - (lg_sl ([.int (nI i), .int (nI n), .ref t])).length) Slot.unset).toArray = ls at hl ⊢
  have hl : lv_has ls 3 [(0, .int (nI i)), (1, .int (nI n)), (2, .ref t)] := hl
  refine zNameH (D := D) (A := A) (ws := []) (fun H locs hP hS => ?_) hP hS
  refine lv_iload_n hx hb dJ3_checkIndex_8e157_0 rfl (lv_at hl 0 rfl) ?_
  refine lv_if_lt (tgt := 9) hx hb dJ3_checkIndex_8e157_1 (by decide) (fun c_1 => ?_) (fun c_1 => ?_)
  · have c_1 : i < 0 := (nI_ltI (a := i) (b := 0) (by omega) (by omega)).mp c_1
    exact absurd c_1 (by omega)
  · have c_1 : ¬ (i < 0) := fun q9 => c_1 ((nI_ltI (a := i) (b := 0) (by omega) (by omega)).mpr q9)
    refine lv_iload_n hx hb dJ3_checkIndex_8e157_4 rfl (lv_at hl 0 rfl) ?_
    refine lv_iload_n hx hb dJ3_checkIndex_8e157_5 rfl (lv_at hl 1 rfl) ?_
    refine lv_icmp_lt (tgt := 16) hx hb dJ3_checkIndex_8e157_6 (by decide) (fun c_6 => ?_) (fun c_6 => ?_)
    · have c_6 : i < n := (nI_ltI (a := i) (b := n) (by omega) (by omega)).mp c_6
      refine lv_iload_n hx hb dJ3_checkIndex_8e157_16 rfl (lv_at hl 0 rfl) ?_
      exact W.iret (v := (nI i)) hx hb hr (fun t9 ht9 hW9 => ⟨⟨_, (), rfl, rfl, trivial⟩, hS.F ht9⟩) hS.2.2 dJ3_checkIndex_8e157_17
    · have c_6 : ¬ (i < n) := fun q9 => c_6 ((nI_ltI (a := i) (b := n) (by omega) (by omega)).mpr q9)
      exact absurd c_6 (by omega)

set_option maxHeartbeats 4000000 in
set_option maxRecDepth 100000 in
theorem cc_J3_checkIndex_n (l : Launch) (D : va_G) (z : zG) (sz : Nat) (i : Nat) (n : Nat) (hi : i < n) (hn : n < 2 ^ 31) : Met l yJ3_checkIndex_8e157 wsJ3_checkIndex_8e157 ({ frames := 0, cells := 0, slots := 0, locals := 0 }) (zPre D z [.int (nI i), .int (nI n), .null] sz [] [] (va_A [] sz)) (va_Qi (fun (r : Int32) (u : Unit) => r = nI i) zT (va_A [] sz)) 0 0 (va_A [] sz) := by
  refine Met.ofW (cc := cJ3_checkIndex_8e157) (maxL := 3) (ret := (some .int)) (by decide) rfl ?_
  intro p e s m args below meth c s₁ B hml hv
  obtain ⟨rfl, hsz, hP, hK, hD, hC⟩ := hv
  have hx := B.exec
  have hb := B.bytes
  have hr := B.returns
  have hts := atoms_spec (ws := wsJ3_checkIndex_8e157) B.pre
  have hown : s.vm.findClass RJ3 = some m.cls := findClass_of_methodNamed B.named
  have hlocks := B.notSynchronized
  subst hsz
  generalize hAe : va_A [] s.heap.size = A at hC ⊢
  have hA : ∀ q : Nat, s.heap.size ≤ q → A q := fun q h => by rw [← hAe]; exact Or.inr h
  have hS : va_S A s.heap s.heap [] := va_S.rf
  have hP : va_P D vwCl [] s.heap := hP
  have hl := lv_entry ([.int (nI i), .int (nI n), .null]) (n := 3) (Nat.le_of_ble_eq_true rfl)
  rw [lg_entry_eq]
  generalize (lg_sl ([.int (nI i), .int (nI n), .null]) ++ List.replicate (3 - (lg_sl ([.int (nI i), .int (nI n), .null])).length) Slot.unset).toArray = ls at hl ⊢
  have hl : lv_has ls 3 [(0, .int (nI i)), (1, .int (nI n)), (2, .null)] := hl
  refine zNameH (D := D) (A := A) (ws := []) (fun H locs hP hS => ?_) hP hS
  refine lv_iload_n hx hb dJ3_checkIndex_8e157_0 rfl (lv_at hl 0 rfl) ?_
  refine lv_if_lt (tgt := 9) hx hb dJ3_checkIndex_8e157_1 (by decide) (fun c_1 => ?_) (fun c_1 => ?_)
  · have c_1 : i < 0 := (nI_ltI (a := i) (b := 0) (by omega) (by omega)).mp c_1
    exact absurd c_1 (by omega)
  · have c_1 : ¬ (i < 0) := fun q9 => c_1 ((nI_ltI (a := i) (b := 0) (by omega) (by omega)).mpr q9)
    refine lv_iload_n hx hb dJ3_checkIndex_8e157_4 rfl (lv_at hl 0 rfl) ?_
    refine lv_iload_n hx hb dJ3_checkIndex_8e157_5 rfl (lv_at hl 1 rfl) ?_
    refine lv_icmp_lt (tgt := 16) hx hb dJ3_checkIndex_8e157_6 (by decide) (fun c_6 => ?_) (fun c_6 => ?_)
    · have c_6 : i < n := (nI_ltI (a := i) (b := n) (by omega) (by omega)).mp c_6
      refine lv_iload_n hx hb dJ3_checkIndex_8e157_16 rfl (lv_at hl 0 rfl) ?_
      exact W.iret (v := (nI i)) hx hb hr (fun t9 ht9 hW9 => ⟨⟨_, (), rfl, rfl, trivial⟩, hS.F ht9⟩) hS.2.2 dJ3_checkIndex_8e157_17
    · have c_6 : ¬ (i < n) := fun q9 => c_6 ((nI_ltI (a := i) (b := n) (by omega) (by omega)).mpr q9)
      exact absurd c_6 (by omega)

set_option maxHeartbeats 4000000 in
set_option maxRecDepth 100000 in
theorem cc_J0_checkIndex (l : Launch) (D : va_G) (z : zG) (sz : Nat) (i : Nat) (n : Nat) (hi : i < n) (hn : n < 2 ^ 31) : Met l yJ0_checkIndex_df160 wsJ0_checkIndex_df160 ({ frames := 1, cells := 0, slots := 0, locals := 22 }) (zPre D z [.int (nI i), .int (nI n)] sz [] [] (va_A [] sz)) (va_Qv (fun u : Unit => True) zT (va_A [] sz)) 0 0 (va_A [] sz) := by
  refine Met.ofW (cc := cJ0_checkIndex_df160) (maxL := 2) (ret := none) (by decide) rfl ?_
  intro p e s m args below meth c s₁ B hml hv
  obtain ⟨rfl, hsz, hP, hK, hD, hC⟩ := hv
  have hx := B.exec
  have hb := B.bytes
  have hr := B.returns
  have hts := atoms_spec (ws := wsJ0_checkIndex_df160) B.pre
  have hown : s.vm.findClass RJ0 = some m.cls := findClass_of_methodNamed B.named
  have hlocks := B.notSynchronized
  subst hsz
  generalize hAe : va_A [] s.heap.size = A at hC ⊢
  have hA : ∀ q : Nat, s.heap.size ≤ q → A q := fun q h => by rw [← hAe]; exact Or.inr h
  have hS : va_S A s.heap s.heap [] := va_S.rf
  have hP : va_P D vwCl [] s.heap := hP
  have hl := lv_entry ([.int (nI i), .int (nI n)]) (n := 2) (Nat.le_of_ble_eq_true rfl)
  rw [lg_entry_eq]
  generalize (lg_sl ([.int (nI i), .int (nI n)]) ++ List.replicate (2 - (lg_sl ([.int (nI i), .int (nI n)])).length) Slot.unset).toArray = ls at hl ⊢
  have hl : lv_has ls 2 [(0, .int (nI i)), (1, .int (nI n))] := hl
  refine zNameH (D := D) (A := A) (ws := []) (fun H locs hP hS => ?_) hP hS
  have k_0 := hts (.fieldLink RJ0 1053 "jdk/internal/util/Preconditions" "SIOOBE_FORMATTER" "Ljava/util/function/BiFunction;") (by decide +kernel)
  refine lv_iload_n hx hb dJ0_checkIndex_df160_0 rfl (lv_at hl 0 rfl) ?_
  refine lv_iload_n hx hb dJ0_checkIndex_df160_1 rfl (lv_at hl 1 rfl) ?_
  rcases hC.2.2.2.2.2.2.1 with hZ | ⟨t7, hZ⟩
  · refine va_gets hx hb hZ hS hown k_0 (fun _ h9 => h9) dJ0_checkIndex_df160_2 ?_
    refine zRo_i (va_runS (As := [.int (nI i), .int (nI n), .null]) (rest := []) ⟨hx, hb, hml, hown, hts⟩ (cc_J3_checkIndex_n l D z H.size i n (by omega) (by omega)) (va_cwS 3 hts gJ0_checkIndex_df160_J3_checkIndex_8e157 rfl rfl rfl (by decide +kernel) ⟨Nat.le_of_ble_eq_true rfl, Nat.le_of_ble_eq_true rfl⟩) ⟨zPre_blind, (zPre_mk (wc := []) (tc := []) hP hK hD hC hS [] (by decide) rfl rfl [] rfl (zro_free hS hA))⟩ rfl rfl hl.1 rfl (lv_room (Nat.le_of_ble_eq_true rfl)) dJ0_checkIndex_df160_5 ⟨Nat.zero_le _, Nat.zero_le _⟩) hS hA hP (fun r_5 H locs hw hP hS => ?_)
    have hw_5 : r_5 = nI i := hw
    refine lv_pop hx hb dJ0_checkIndex_df160_8 rfl ?_
    exact W.vret hx hb hr (fun t9 ht9 hW9 => ⟨⟨(), rfl, trivial, trivial⟩, hS.F ht9⟩) hS.2.2 dJ0_checkIndex_df160_9
  · refine va_gets hx hb hZ hS hown k_0 (fun _ h9 => h9) dJ0_checkIndex_df160_2 ?_
    refine zRo_i (va_runS (As := [.int (nI i), .int (nI n), .ref t7]) (rest := []) ⟨hx, hb, hml, hown, hts⟩ (cc_J3_checkIndex_r l D z H.size i n t7 (by omega) (by omega)) (va_cwS 3 hts gJ0_checkIndex_df160_J3_checkIndex_8e157 rfl rfl rfl (by decide +kernel) ⟨Nat.le_of_ble_eq_true rfl, Nat.le_of_ble_eq_true rfl⟩) ⟨zPre_blind, (zPre_mk (wc := []) (tc := []) hP hK hD hC hS [] (by decide) rfl rfl [] rfl (zro_free hS hA))⟩ rfl rfl hl.1 rfl (lv_room (Nat.le_of_ble_eq_true rfl)) dJ0_checkIndex_df160_5 ⟨Nat.zero_le _, Nat.zero_le _⟩) hS hA hP (fun r_5 H locs hw hP hS => ?_)
    have hw_5 : r_5 = nI i := hw
    refine lv_pop hx hb dJ0_checkIndex_df160_8 rfl ?_
    exact W.vret hx hb hr (fun t9 ht9 hW9 => ⟨⟨(), rfl, trivial, trivial⟩, hS.F ht9⟩) hS.2.2 dJ0_checkIndex_df160_9

set_option maxHeartbeats 4000000 in
set_option maxRecDepth 100000 in
theorem cc_J1_charAt (l : Launch) (D : va_G) (z : zG) (sz : Nat) (i : Nat) (hi : i < 31) : Met l yJ1_charAt_3b067 wsJ1_charAt_3b067 ({ frames := 2, cells := 0, slots := 0, locals := 43 }) (zPre D z [.ref z.2.2.1, .int (nI i)] sz [] [] (va_A [] sz)) (va_Qi (fun (r : Int32) (u : Unit) => r = zLt i) zT (va_A [] sz)) 0 0 (va_A [] sz) := by
  refine Met.ofW (cc := cJ1_charAt_3b067) (maxL := 2) (ret := (some .char)) (by decide) rfl ?_
  intro p e s m args below meth c s₁ B hml hv
  obtain ⟨rfl, hsz, hP, hK, hD, hC⟩ := hv
  have hx := B.exec
  have hb := B.bytes
  have hr := B.returns
  have hts := atoms_spec (ws := wsJ1_charAt_3b067) B.pre
  have hown : s.vm.findClass RJ1 = some m.cls := findClass_of_methodNamed B.named
  have hlocks := B.notSynchronized
  subst hsz
  generalize hAe : va_A [] s.heap.size = A at hC ⊢
  have hA : ∀ q : Nat, s.heap.size ≤ q → A q := fun q h => by rw [← hAe]; exact Or.inr h
  have hS : va_S A s.heap s.heap [] := va_S.rf
  have hP : va_P D vwCl [] s.heap := hP
  have hl := lv_entry ([.ref z.2.2.1, .int (nI i)]) (n := 2) (Nat.le_of_ble_eq_true rfl)
  rw [lg_entry_eq]
  generalize (lg_sl ([.ref z.2.2.1, .int (nI i)]) ++ List.replicate (2 - (lg_sl ([.ref z.2.2.1, .int (nI i)])).length) Slot.unset).toArray = ls at hl ⊢
  have hl : lv_has ls 2 [(0, .ref z.2.2.1), (1, .int (nI i))] := hl
  refine zNameH (D := D) (A := A) (ws := []) (fun H locs hP hS => ?_) hP hS
  refine lv_iload_n hx hb dJ1_charAt_3b067_0 rfl (lv_at hl 1 rfl) ?_
  refine lv_aload_n hx hb dJ1_charAt_3b067_1 rfl (lv_at hl 0 rfl) ?_
  refine va_tlen (v := nI 31) hx hb hC.2.2.2.2.2.2.2.2.2.2.1 hS rfl dJ1_charAt_3b067_2 ?_
  refine zRo_v (va_runS (As := [.int (nI i), .int (nI 31)]) (rest := []) ⟨hx, hb, hml, hown, hts⟩ (cc_J0_checkIndex l D z H.size i 31 (by omega) (by omega)) (va_cwS 2 hts gJ1_charAt_3b067_J0_checkIndex_df160 rfl rfl rfl (by decide +kernel) ⟨Nat.le_of_ble_eq_true rfl, Nat.le_of_ble_eq_true rfl⟩) ⟨zPre_blind, (zPre_mk (wc := []) (tc := []) hP hK hD hC hS [] (by decide) rfl rfl [] rfl (zro_free hS hA))⟩ rfl rfl hl.1 rfl (lv_room (Nat.le_of_ble_eq_true rfl)) dJ1_charAt_3b067_3 ⟨Nat.zero_le _, Nat.zero_le _⟩) hS hA hP (fun H locs hw hP hS => ?_)
  have hw_3 : True := hw
  refine lv_aload_n hx hb dJ1_charAt_3b067_6 rfl (lv_at hl 0 rfl) ?_
  refine lv_iload_n hx hb dJ1_charAt_3b067_7 rfl (lv_at hl 1 rfl) ?_
  refine va_tb (v := .int (zLt i)) hx hb hC.2.2.2.2.2.2.2.2.2.2.1 hS (vp_in_nI hi (by decide)) (by show Value.int (zLt _) = _; rw [nI_clamp (by omega)]) dJ1_charAt_3b067_8 ?_
  refine lv_sipush (v := 255) hx hb dJ1_charAt_3b067_9 (by decide) ?_
  refine lv_iand hx hb dJ1_charAt_3b067_12 ?_
  refine lv_i2c (v := (((zLt i) &&& 255).toUInt32 % 65536).toInt32) hx hb dJ1_charAt_3b067_13 rfl ?_
  exact W.zret (v := ((((zLt i) &&& 255).toUInt32 % 65536).toInt32)) hx hb hr (by rw [zLt_c i hi]; exact zLt_n i hi) (fun t9 ht9 hW9 => ⟨⟨_, (), rfl, zLt_c i hi, trivial⟩, hS.F ht9⟩) hS.2.2 dJ1_charAt_3b067_14

set_option maxHeartbeats 4000000 in
set_option maxRecDepth 100000 in
theorem cc_J0_isLatin1 (l : Launch) (D : va_G) (z : zG) (sz : Nat)   : Met l yJ0_isLatin1_aae02 wsJ0_isLatin1_aae02 ({ frames := 0, cells := 0, slots := 0, locals := 0 }) (zPre D z [.ref z.2.1] sz [] [] (va_A [] sz)) (va_Qi (fun (r : Int32) (u : Unit) => r = 1) zT (va_A [] sz)) 0 0 (va_A [] sz) := by
  refine Met.ofW (cc := cJ0_isLatin1_aae02) (maxL := 1) (ret := (some .boolean)) (by decide) rfl ?_
  intro p e s m args below meth c s₁ B hml hv
  obtain ⟨rfl, hsz, hP, hK, hD, hC⟩ := hv
  have hx := B.exec
  have hb := B.bytes
  have hr := B.returns
  have hts := atoms_spec (ws := wsJ0_isLatin1_aae02) B.pre
  have hown : s.vm.findClass RJ0 = some m.cls := findClass_of_methodNamed B.named
  have hlocks := B.notSynchronized
  subst hsz
  generalize hAe : va_A [] s.heap.size = A at hC ⊢
  have hA : ∀ q : Nat, s.heap.size ≤ q → A q := fun q h => by rw [← hAe]; exact Or.inr h
  have hS : va_S A s.heap s.heap [] := va_S.rf
  have hP : va_P D vwCl [] s.heap := hP
  have hl := lv_entry ([.ref z.2.1]) (n := 1) (Nat.le_of_ble_eq_true rfl)
  rw [lg_entry_eq]
  generalize (lg_sl ([.ref z.2.1]) ++ List.replicate (1 - (lg_sl ([.ref z.2.1])).length) Slot.unset).toArray = ls at hl ⊢
  have hl : lv_has ls 1 [(0, .ref z.2.1)] := hl
  refine zNameH (D := D) (A := A) (ws := []) (fun H locs hP hS => ?_) hP hS
  have k_0 := hts (.fieldLink RJ0 38 "java/lang/String" "COMPACT_STRINGS" "Z") (by decide +kernel)
  have k_1 := hts (.fieldLink RJ0 15 "java/lang/String" "coder" "B") (by decide +kernel)
  refine va_gets hx hb hC.2.2.2.2.2.1 hS hown k_0 (fun _ h9 => h9) dJ0_isLatin1_aae02_0 ?_
  refine lv_if_eq (tgt := 17) hx hb dJ0_isLatin1_aae02_3 (by decide) (fun c_3 => ?_) (fun c_3 => ?_)
  · exact absurd c_3 (by decide)
  · refine lv_aload_n hx hb dJ0_isLatin1_aae02_6 rfl (lv_at hl 0 rfl) ?_
    refine vk_getf hx hb hC.2.2.2.2.2.2.2.2.1 hS hown k_1 (fun _ h9 => h9) dJ0_isLatin1_aae02_7 ?_
    refine lv_if_ne (tgt := 17) hx hb dJ0_isLatin1_aae02_10 (by decide) (fun c_10 => ?_) (fun c_10 => ?_)
    · exact absurd c_10 (by decide)
    · refine lv_iconst (v := 1) hx hb dJ0_isLatin1_aae02_13 (by decide) ?_
      refine lv_goto (tgt := 18) hx hb dJ0_isLatin1_aae02_14 (by decide) ?_
      exact W.zret (v := 1) hx hb hr rfl (fun t9 ht9 hW9 => ⟨⟨_, (), rfl, rfl, trivial⟩, hS.F ht9⟩) hS.2.2 dJ0_isLatin1_aae02_18

set_option maxHeartbeats 4000000 in
set_option maxRecDepth 100000 in
theorem cc_J0_charAt (l : Launch) (D : va_G) (z : zG) (sz : Nat) (i : Nat) (hi : i < 31) : Met l yJ0_charAt_5068e wsJ0_charAt_5068e ({ frames := 3, cells := 0, slots := 0, locals := 64 }) (zPre D z [.ref z.2.1, .int (nI i)] sz [] [] (va_A [] sz)) (va_Qi (fun (r : Int32) (u : Unit) => r = zLt i) zT (va_A [] sz)) 0 0 (va_A [] sz) := by
  refine Met.ofW (cc := cJ0_charAt_5068e) (maxL := 2) (ret := (some .char)) (by decide) rfl ?_
  intro p e s m args below meth c s₁ B hml hv
  obtain ⟨rfl, hsz, hP, hK, hD, hC⟩ := hv
  have hx := B.exec
  have hb := B.bytes
  have hr := B.returns
  have hts := atoms_spec (ws := wsJ0_charAt_5068e) B.pre
  have hown : s.vm.findClass RJ0 = some m.cls := findClass_of_methodNamed B.named
  have hlocks := B.notSynchronized
  subst hsz
  generalize hAe : va_A [] s.heap.size = A at hC ⊢
  have hA : ∀ q : Nat, s.heap.size ≤ q → A q := fun q h => by rw [← hAe]; exact Or.inr h
  have hS : va_S A s.heap s.heap [] := va_S.rf
  have hP : va_P D vwCl [] s.heap := hP
  have hl := lv_entry ([.ref z.2.1, .int (nI i)]) (n := 2) (Nat.le_of_ble_eq_true rfl)
  rw [lg_entry_eq]
  generalize (lg_sl ([.ref z.2.1, .int (nI i)]) ++ List.replicate (2 - (lg_sl ([.ref z.2.1, .int (nI i)])).length) Slot.unset).toArray = ls at hl ⊢
  have hl : lv_has ls 2 [(0, .ref z.2.1), (1, .int (nI i))] := hl
  refine zNameH (D := D) (A := A) (ws := []) (fun H locs hP hS => ?_) hP hS
  have k_0 := hts (.fieldLink RJ0 9 "java/lang/String" "value" "[B") (by decide +kernel)
  refine lv_aload_n hx hb dJ0_charAt_5068e_0 rfl (lv_at hl 0 rfl) ?_
  refine zRo_i (va_runV (As := []) (rest := []) ⟨hx, hb, hml, hown, hts⟩ (cc_J0_isLatin1 l D z H.size  ) (cwV 0 hts gJ0_charAt_5068e_J0_isLatin1_aae02 rfl rfl rfl (by decide +kernel) ⟨Nat.le_of_ble_eq_true rfl, Nat.le_of_ble_eq_true rfl⟩) ⟨zPre_blind, zrecv hC hS, (zPre_mk (wc := []) (tc := []) hP hK hD hC hS [] (by decide) rfl rfl [] rfl (zro_free hS hA))⟩ rfl rfl hl.1 rfl (lv_room (Nat.le_of_ble_eq_true rfl)) dJ0_charAt_5068e_1 ⟨Nat.zero_le _, Nat.zero_le _⟩) hS hA hP (fun r_1 H locs hw hP hS => ?_)
  have hw_1 : r_1 = 1 := hw
  refine lv_if_eq (tgt := 16) hx hb dJ0_charAt_5068e_4 (by decide) (fun c_4 => ?_) (fun c_4 => ?_)
  · have i_4 : r_1.toInt = 0 := zi_eq.mp c_4
    exact absurd c_4 (by rw [hw_1]; decide)
  · have i_4 : ¬ (r_1.toInt = 0) := fun q9 => c_4 (zi_eq.mpr q9)
    refine lv_aload_n hx hb dJ0_charAt_5068e_7 rfl (lv_at hl 0 rfl) ?_
    refine vk_getf hx hb hC.2.2.2.2.2.2.2.2.2.1 hS hown k_0 (fun _ h9 => h9) dJ0_charAt_5068e_8 ?_
    refine lv_iload_n hx hb dJ0_charAt_5068e_11 rfl (lv_at hl 1 rfl) ?_
    refine zRo_i (va_runS (As := [.ref z.2.2.1, .int (nI i)]) (rest := []) ⟨hx, hb, hml, hown, hts⟩ (cc_J1_charAt l D z H.size i (by omega)) (va_cwS 2 hts gJ0_charAt_5068e_J1_charAt_3b067 rfl rfl rfl (by decide +kernel) ⟨Nat.le_of_ble_eq_true rfl, Nat.le_of_ble_eq_true rfl⟩) ⟨zPre_blind, (zPre_mk (wc := []) (tc := []) hP hK hD hC hS [] (by decide) rfl rfl [] rfl (zro_free hS hA))⟩ rfl rfl hl.1 rfl (lv_room (Nat.le_of_ble_eq_true rfl)) dJ0_charAt_5068e_12 ⟨Nat.zero_le _, Nat.zero_le _⟩) hS hA hP (fun r_12 H locs hw hP hS => ?_)
    have hw_12 : r_12 = zLt i := hw
    exact W.zret (v := r_12) hx hb hr (by rw [hw_12]; exact zLt_n i hi) (fun t9 ht9 hW9 => ⟨⟨_, (), rfl, hw_12, trivial⟩, hS.F ht9⟩) hS.2.2 dJ0_charAt_5068e_15
