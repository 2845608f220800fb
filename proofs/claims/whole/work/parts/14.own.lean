/-! the class's own methods -/
def zOkB (p0 : Int32) (p1 p2 : Int64) : Prop := (0 ≤ p0.toInt ∧ p0.toInt < 100) ∧ (0 ≤ p1.toInt ∧ p1.toInt ≤ p2.toInt ∧ p2.toInt < 20000000000)
def zTch (n : Nat) (bf bl : Nat → Int64) (p1 p2 : Int64) : Prop := ∃ j, j < n ∧ p1 ≤ bl j ∧ bf j ≤ p2
def zOkN (p0 p1 : Int32) : Prop := (0 ≤ p0.toInt ∧ p0.toInt < 100) ∧ (0 ≤ p1.toInt ∧ p1.toInt < 10)
def zOkR (p0 p1 : Int64) : Prop := 0 ≤ p0.toInt ∧ p0.toInt ≤ p1.toInt ∧ p1.toInt < 27512614111
def zIsN (p0 : Int64) : Prop := 27512614111 ≤ p0.toInt ∧ p0.toInt < 302638755221
def zOld (p0 r : Int64) : Prop :=
  ((0 ≤ p0.toInt ∧ p0.toInt < 10000000000) ∧ r = znum (p0 / 1000000000).toInt32 (20000000000 + (p0 - p0 / 1000000000 * 1000000000))) ∨
  (¬ (0 ≤ p0.toInt ∧ p0.toInt < 10000000000) ∧ ¬ (zIsN p0 ∧ 0 ≤ (zser p0 - 20000000000).toInt ∧ (zser p0 - 20000000000).toInt < 1000000000) ∧ r = -102) ∨
  (¬ (0 ≤ p0.toInt ∧ p0.toInt < 10000000000) ∧ (zIsN p0 ∧ 0 ≤ (zser p0 - 20000000000).toInt ∧ (zser p0 - 20000000000).toInt < 1000000000) ∧ r = zsvc p0 * 1000000000 + (zser p0 - 20000000000))
def zFnd (n : Nat) (sd : Nat → Int32) (rf nm : Nat → Int64) (p0 : Int32) (p1 r : Int64) : Prop := (∃ j, j < n ∧ sd j = p0 ∧ rf j = p1 ∧ r = nm j) ∨ ((∀ j, j < n → ¬ (sd j = p0 ∧ rf j = p1)) ∧ r = -101)

set_option maxHeartbeats 4000000 in
set_option maxRecDepth 100000 in
theorem cc_X6_block (l : Launch) (D : va_G) (z : zG) (sz : Nat) (oo : Nat) (ob : Nat) (oq : Nat) (ov : Nat) (on : Nat) (ot : Nat) (ob1 : Nat) (ob2 : Nat) (ob3 : Nat) (ob4 : Nat) (kb1 : ClassId) (kb2 : ClassId) (kb3 : ClassId) (kb4 : ClassId) (nb : Nat) (bo : Nat → Int32) (bf : Nat → Int64) (bl : Nat → Int64) (br : Nat → Int64) (p0 : Int32) (p1 : Int64) (p2 : Int64) (hn : nb ≤ 50) : Met l yX6_block wsX6_block ({ frames := 1, cells := 0, slots := 0, locals := 25 }) (zPre D z [.ref oo, .int p0, .long p1, .long p2] sz [(oo, .inr (6, [.ref ob, .ref oq, .ref ov, .ref on, .ref ot])), (ob, .inr (2, [.ref ob1, .ref ob2, .ref ob3, .ref ob4, .int (nI nb)])), (ob1, .inl (kb1, 50, .inl bo)), (ob2, .inl (kb2, 50, .inr (.inl bf))), (ob3, .inl (kb3, 50, .inr (.inl bl))), (ob4, .inl (kb4, 50, .inr (.inl br)))] [(kb1, .int), (kb2, .long), (kb3, .long), (kb4, .long)] (va_A [(oo, .inr (6, [.ref ob, .ref oq, .ref ov, .ref on, .ref ot])), (ob, .inr (2, [.ref ob1, .ref ob2, .ref ob3, .ref ob4, .int (nI nb)])), (ob1, .inl (kb1, 50, .inl bo)), (ob2, .inl (kb2, 50, .inr (.inl bf))), (ob3, .inl (kb3, 50, .inr (.inl bl))), (ob4, .inl (kb4, 50, .inr (.inl br)))] sz)) (va_Qi (fun (r : Int32) (u : Nat × (Nat → Int32) × (Nat → Int64) × (Nat → Int64) × (Nat → Int64)) => (¬ zOkB p0 p1 p2 ∧ r = -102 ∧ u.1 = nb ∧ u.2.1 = bo ∧ u.2.2.1 = bf ∧ u.2.2.2.1 = bl ∧ u.2.2.2.2 = br) ∨ (zOkB p0 p1 p2 ∧ zTch nb bf bl p1 p2 ∧ r = -103 ∧ u.1 = nb ∧ u.2.1 = bo ∧ u.2.2.1 = bf ∧ u.2.2.2.1 = bl ∧ u.2.2.2.2 = br) ∨ (zOkB p0 p1 p2 ∧ ¬ zTch nb bf bl p1 p2 ∧ 50 ≤ nb ∧ r = -104 ∧ u.1 = nb ∧ u.2.1 = bo ∧ u.2.2.1 = bf ∧ u.2.2.2.1 = bl ∧ u.2.2.2.2 = br) ∨ (zOkB p0 p1 p2 ∧ ¬ zTch nb bf bl p1 p2 ∧ nb < 50 ∧ r = nI (nb + 1) ∧ u.1 = nb + 1 ∧ u.2.1 = upd bo nb p0 ∧ u.2.2.1 = vp_updL bf nb p1 ∧ u.2.2.2.1 = vp_updL bl nb p2 ∧ u.2.2.2.2 = vp_updL br nb p1)) (zAt D [(kb1, .int), (kb2, .long), (kb3, .long), (kb4, .long)] (va_A [(oo, .inr (6, [.ref ob, .ref oq, .ref ov, .ref on, .ref ot])), (ob, .inr (2, [.ref ob1, .ref ob2, .ref ob3, .ref ob4, .int (nI nb)])), (ob1, .inl (kb1, 50, .inl bo)), (ob2, .inl (kb2, 50, .inr (.inl bf))), (ob3, .inl (kb3, 50, .inr (.inl bl))), (ob4, .inl (kb4, 50, .inr (.inl br)))] sz) (fun u : Nat × (Nat → Int32) × (Nat → Int64) × (Nat → Int64) × (Nat → Int64) => [(oo, .inr (6, [.ref ob, .ref oq, .ref ov, .ref on, .ref ot])), (ob, .inr (2, [.ref ob1, .ref ob2, .ref ob3, .ref ob4, .int (nI u.1)])), (ob1, .inl (kb1, 50, .inl u.2.1)), (ob2, .inl (kb2, 50, .inr (.inl u.2.2.1))), (ob3, .inl (kb3, 50, .inr (.inl u.2.2.2.1))), (ob4, .inl (kb4, 50, .inr (.inl u.2.2.2.2)))])) (va_A [(oo, .inr (6, [.ref ob, .ref oq, .ref ov, .ref on, .ref ot])), (ob, .inr (2, [.ref ob1, .ref ob2, .ref ob3, .ref ob4, .int (nI nb)])), (ob1, .inl (kb1, 50, .inl bo)), (ob2, .inl (kb2, 50, .inr (.inl bf))), (ob3, .inl (kb3, 50, .inr (.inl bl))), (ob4, .inl (kb4, 50, .inr (.inl br)))] sz)) 0 0 (va_A [(oo, .inr (6, [.ref ob, .ref oq, .ref ov, .ref on, .ref ot])), (ob, .inr (2, [.ref ob1, .ref ob2, .ref ob3, .ref ob4, .int (nI nb)])), (ob1, .inl (kb1, 50, .inl bo)), (ob2, .inl (kb2, 50, .inr (.inl bf))), (ob3, .inl (kb3, 50, .inr (.inl bl))), (ob4, .inl (kb4, 50, .inr (.inl br)))] sz) := by
  refine Met.ofW (cc := cX6_block) (maxL := 6) (ret := (some .int)) (by decide) rfl ?_
  intro p e s m args below meth c s₁ B hml hv
  obtain ⟨rfl, hsz, hP, hK, hD, hC⟩ := hv
  have hx := B.exec
  have hb := B.bytes
  have hr := B.returns
  have hts := atoms_spec (ws := wsX6_block) B.pre
  have hown : s.vm.findClass RX6 = some m.cls := findClass_of_methodNamed B.named
  have hlocks := B.notSynchronized
  subst hsz
  have hD := hD.self (sz := s.heap.size)
  generalize hAe : va_A [(oo, .inr (6, [.ref ob, .ref oq, .ref ov, .ref on, .ref ot])), (ob, .inr (2, [.ref ob1, .ref ob2, .ref ob3, .ref ob4, .int (nI nb)])), (ob1, .inl (kb1, 50, .inl bo)), (ob2, .inl (kb2, 50, .inr (.inl bf))), (ob3, .inl (kb3, 50, .inr (.inl bl))), (ob4, .inl (kb4, 50, .inr (.inl br)))] s.heap.size = A at hC hD ⊢
  have hA : ∀ q : Nat, s.heap.size ≤ q → A q := fun q h => by rw [← hAe]; exact Or.inr h
  have hS : va_S A s.heap s.heap [] := va_S.rf
  have hP : va_P D vwCl [(oo, .inr (6, [.ref ob, .ref oq, .ref ov, .ref on, .ref ot])), (ob, .inr (2, [.ref ob1, .ref ob2, .ref ob3, .ref ob4, .int (nI nb)])), (ob1, .inl (kb1, 50, .inl bo)), (ob2, .inl (kb2, 50, .inr (.inl bf))), (ob3, .inl (kb3, 50, .inr (.inl bl))), (ob4, .inl (kb4, 50, .inr (.inl br)))] s.heap := hP
  have hl := lv_entry ([.ref oo, .int p0, .long p1, .long p2]) (n := 6) (Nat.le_of_ble_eq_true rfl)
  rw [lg_entry_eq]
  generalize (lg_sl ([.ref oo, .int p0, .long p1, .long p2]) ++ List.replicate (6 - (lg_sl ([.ref oo, .int p0, .long p1, .long p2])).length) Slot.unset).toArray = ls at hl ⊢
  have hl : lv_has ls 6 [(0, .ref oo), (1, .int p0), (2, .long p1), (4, .long p2)] := hl
  refine zNameH (D := D) (A := A) (ws := [(oo, .inr (6, [.ref ob, .ref oq, .ref ov, .ref on, .ref ot])), (ob, .inr (2, [.ref ob1, .ref ob2, .ref ob3, .ref ob4, .int (nI nb)])), (ob1, .inl (kb1, 50, .inl bo)), (ob2, .inl (kb2, 50, .inr (.inl bf))), (ob3, .inl (kb3, 50, .inr (.inl bl))), (ob4, .inl (kb4, 50, .inr (.inl br)))]) (fun H locs hP hS => ?_) hP hS
  have k_0 := hts (.constantLong RX6 48 (20000000000)) (by decide +kernel)
  have k_1 := hts (.fieldLink RX6 10 "NumberRows2" "blocks" "LNumberRows2$Blocks;") (by decide +kernel)
  have k_2 : ∀ w ∈ wsX60, w ∈ wsX6_block := by decide +kernel
  refine lv_iload_n hx hb dX6_block_0 rfl (lv_at hl 1 rfl) ?_
  refine zRo_i (va_runS (As := [.int p0]) (rest := []) ⟨hx, hb, hml, hown, hts⟩ (cc_X6_isOffice l D z H.size p0 ) (va_cwS 1 hts gX6_block_X6_isOffice rfl rfl rfl (by decide +kernel) ⟨Nat.le_of_ble_eq_true rfl, Nat.le_of_ble_eq_true rfl⟩) ⟨zPre_blind, (zPre_mk (wc := []) (tc := []) hP hK hD hC hS [] (by decide) rfl rfl [] rfl (zro_free hS hA))⟩ rfl rfl hl.1 rfl (lv_room (Nat.le_of_ble_eq_true rfl)) dX6_block_1 ⟨Nat.zero_le _, Nat.zero_le _⟩) hS hA hP (fun r_1 H locs hw hP hS => ?_)
  have hw_1 : zB r_1 (0 ≤ p0.toInt ∧ p0.toInt < 100) := hw
  refine lv_if_eq (tgt := 19) hx hb dX6_block_4 (by decide) (fun c_4 => ?_) (fun c_4 => ?_)
  · have i_4 : r_1.toInt = 0 := zi_eq.mp c_4
    refine lv_bipush (v := -102) hx hb dX6_block_19 (by decide) ?_
    exact W.iret (v := (-102)) hx hb hr (fun t9 ht9 hW9 => ⟨⟨_, (nb, bo, bf, bl, br), rfl, Or.inl ⟨fun q => zB_eq hw_1 c_4 q.1, rfl, rfl, rfl, rfl, rfl, rfl⟩, by rw [ht9]; exact hP, va_K.moved hW9.alike hK, hD⟩, hS.F ht9⟩) hS.2.2 dX6_block_21
  · have i_4 : ¬ (r_1.toInt = 0) := fun q9 => c_4 (zi_eq.mpr q9)
    refine lv_lload_n hx hb dX6_block_7 rfl (lv_at hl 2 rfl) ?_
    refine lv_lload hx hb dX6_block_8 (lv_at hl 3 rfl) ?_
    refine lv_ldc2 hx hb hown k_0 dX6_block_10 ?_
    refine zRo_i (va_runS (As := [.long p1, .long p2, .long 20000000000]) (rest := []) ⟨hx, hb, hml, hown, hts⟩ (cc_X6_isRowBelow l D z H.size p1 p2 (20000000000 : Int64) ) (va_cwS 3 hts gX6_block_X6_isRowBelow rfl rfl rfl (by decide +kernel) ⟨Nat.le_of_ble_eq_true rfl, Nat.le_of_ble_eq_true rfl⟩) ⟨zPre_blind, (zPre_mk (wc := []) (tc := []) hP hK hD hC hS [] (by decide) rfl rfl [] rfl (zro_free hS hA))⟩ rfl rfl hl.1 rfl (lv_room (Nat.le_of_ble_eq_true rfl)) dX6_block_13 ⟨Nat.zero_le _, Nat.zero_le _⟩) hS hA hP (fun r_13 H locs hw hP hS => ?_)
    have hw_13 : zB r_13 (0 ≤ p1.toInt ∧ p1.toInt ≤ p2.toInt ∧ p2.toInt < 20000000000) := hw
    refine lv_if_ne (tgt := 22) hx hb dX6_block_16 (by decide) (fun c_16 => ?_) (fun c_16 => ?_)
    · have i_16 : ¬ (r_13.toInt = 0) := fun q9 => c_16 (zi_eq.mpr q9)
      refine lv_aload_n hx hb dX6_block_22 rfl (lv_at hl 0 rfl) ?_
      refine va_get (D := D) (ci := 6) (v := .ref ob) (C := RX6) (T := TX6) (N := 5) hx hb hts k_2 hown hK hP 0 rfl rfl 0 (by decide) k_1 (fun _ h9 => h9) rfl dX6_block_23 ?_
      refine lv_lload_n hx hb dX6_block_26 rfl (lv_at hl 2 rfl) ?_
      refine lv_lload hx hb dX6_block_27 (lv_at hl 3 rfl) ?_
      refine zRo_i (va_runV (As := [.long p1, .long p2]) (rest := []) ⟨hx, hb, hml, hown, hts⟩ (cc_X1_touches l D z H.size ob ob1 ob2 ob3 ob4 kb1 kb2 kb3 kb4 nb bo bf bl br p1 p2 (by omega)) (cwV 2 hts gX6_block_X1_touches rfl rfl rfl (by decide +kernel) ⟨Nat.le_of_ble_eq_true rfl, Nat.le_of_ble_eq_true rfl⟩) ⟨zPre_blind, va_recv hK hP (ci := 2) (q0 := 1) rfl rfl, (zPre_mk (wc := [(ob, .inr (2, [.ref ob1, .ref ob2, .ref ob3, .ref ob4, .int (nI nb)])), (ob1, .inl (kb1, 50, .inl bo)), (ob2, .inl (kb2, 50, .inr (.inl bf))), (ob3, .inl (kb3, 50, .inr (.inl bl))), (ob4, .inl (kb4, 50, .inr (.inl br)))]) (tc := [(kb1, .int), (kb2, .long), (kb3, .long), (kb4, .long)]) hP hK hD hC hS [1, 2, 3, 4, 5] (by decide) rfl rfl [0, 1, 2, 3] rfl (zro_free hS hA))⟩ rfl rfl hl.1 rfl (lv_room (Nat.le_of_ble_eq_true rfl)) dX6_block_29 ⟨Nat.zero_le _, Nat.zero_le _⟩) hS hA hP (fun r_29 H locs hw hP hS => ?_)
      have hw_29 : zB r_29 (∃ j, j < nb ∧ p1 ≤ bl j ∧ bf j ≤ p2) := hw
      refine lv_if_eq (tgt := 38) hx hb dX6_block_32 (by decide) (fun c_32 => ?_) (fun c_32 => ?_)
      · have i_32 : r_29.toInt = 0 := zi_eq.mp c_32
        refine lv_aload_n hx hb dX6_block_38 rfl (lv_at hl 0 rfl) ?_
        refine va_get (D := D) (ci := 6) (v := .ref ob) (C := RX6) (T := TX6) (N := 5) hx hb hts k_2 hown hK hP 0 rfl rfl 0 (by decide) k_1 (fun _ h9 => h9) rfl dX6_block_39 ?_
        refine zRo_i (va_runV (As := []) (rest := []) ⟨hx, hb, hml, hown, hts⟩ (cc_X1_isFull l D z H.size ob ob1 ob2 ob3 ob4 kb1 kb2 kb3 kb4 nb bo bf bl br (by omega)) (cwV 0 hts gX6_block_X1_isFull rfl rfl rfl (by decide +kernel) ⟨Nat.le_of_ble_eq_true rfl, Nat.le_of_ble_eq_true rfl⟩) ⟨zPre_blind, va_recv hK hP (ci := 2) (q0 := 1) rfl rfl, (zPre_mk (wc := [(ob, .inr (2, [.ref ob1, .ref ob2, .ref ob3, .ref ob4, .int (nI nb)])), (ob1, .inl (kb1, 50, .inl bo)), (ob2, .inl (kb2, 50, .inr (.inl bf))), (ob3, .inl (kb3, 50, .inr (.inl bl))), (ob4, .inl (kb4, 50, .inr (.inl br)))]) (tc := [(kb1, .int), (kb2, .long), (kb3, .long), (kb4, .long)]) hP hK hD hC hS [1, 2, 3, 4, 5] (by decide) rfl rfl [0, 1, 2, 3] rfl (zro_free hS hA))⟩ rfl rfl hl.1 rfl (lv_room (Nat.le_of_ble_eq_true rfl)) dX6_block_42 ⟨Nat.zero_le _, Nat.zero_le _⟩) hS hA hP (fun r_42 H locs hw hP hS => ?_)
        have hw_42 : zB r_42 (50 ≤ nb) := hw
        refine lv_if_eq (tgt := 51) hx hb dX6_block_45 (by decide) (fun c_45 => ?_) (fun c_45 => ?_)
        · have i_45 : r_42.toInt = 0 := zi_eq.mp c_45
          have hf := zB_eq hw_42 c_45
          refine lv_aload_n hx hb dX6_block_51 rfl (lv_at hl 0 rfl) ?_
          refine va_get (D := D) (ci := 6) (v := .ref ob) (C := RX6) (T := TX6) (N := 5) hx hb hts k_2 hown hK hP 0 rfl rfl 0 (by decide) k_1 (fun _ h9 => h9) rfl dX6_block_52 ?_
          refine lv_iload_n hx hb dX6_block_55 rfl (lv_at hl 1 rfl) ?_
          refine lv_lload_n hx hb dX6_block_56 rfl (lv_at hl 2 rfl) ?_
          refine lv_lload hx hb dX6_block_57 (lv_at hl 3 rfl) ?_
          refine zMu_i (wr := [(oo, .inr (6, [.ref ob, .ref oq, .ref ov, .ref on, .ref ot]))]) (va_runV (As := [.int p0, .long p1, .long p2]) (rest := []) ⟨hx, hb, hml, hown, hts⟩ (cc_X1_add l D z H.size ob ob1 ob2 ob3 ob4 kb1 kb2 kb3 kb4 nb bo bf bl br p0 p1 p2 (by omega)) (cwV 3 hts gX6_block_X1_add rfl rfl rfl (by decide +kernel) ⟨Nat.le_of_ble_eq_true rfl, Nat.le_of_ble_eq_true rfl⟩) ⟨zPre_blind, va_recv hK hP (ci := 2) (q0 := 1) rfl rfl, (zPre_mk (wc := [(ob, .inr (2, [.ref ob1, .ref ob2, .ref ob3, .ref ob4, .int (nI nb)])), (ob1, .inl (kb1, 50, .inl bo)), (ob2, .inl (kb2, 50, .inr (.inl bf))), (ob3, .inl (kb3, 50, .inr (.inl bl))), (ob4, .inl (kb4, 50, .inr (.inl br)))]) (tc := [(kb1, .int), (kb2, .long), (kb3, .long), (kb4, .long)]) hP hK hD hC hS [1, 2, 3, 4, 5] (by decide) rfl rfl [0, 1, 2, 3] rfl (va_free (wc := [(ob, .inr (2, [.ref ob1, .ref ob2, .ref ob3, .ref ob4, .int (nI nb)])), (ob1, .inl (kb1, 50, .inl bo)), (ob2, .inl (kb2, 50, .inr (.inl bf))), (ob3, .inl (kb3, 50, .inr (.inl bl))), (ob4, .inl (kb4, 50, .inr (.inl br)))]) hD hS hA [1, 2, 3, 4, 5] rfl))⟩ rfl rfl hl.1 rfl (lv_room (Nat.le_of_ble_eq_true rfl)) dX6_block_59 ⟨Nat.zero_le _, Nat.zero_le _⟩) hS hA hP hD [1, 2, 3, 4, 5] [0] rfl rfl (by decide) (by decide) (fun r_59 u H locs hw hP hD hS => ?_)
          obtain ⟨un_59, uo_59, uf_59, ul_59, ur_59⟩ := u
          have hw_59 : r_59 = nI (nb + 1) ∧ un_59 = nb + 1 ∧ uo_59 = upd bo nb p0 ∧ uf_59 = vp_updL bf nb p1 ∧ ul_59 = vp_updL bl nb p2 ∧ ur_59 = vp_updL br nb p1 := hw
          have hP : va_P D vwCl [(oo, .inr (6, [.ref ob, .ref oq, .ref ov, .ref on, .ref ot])), (ob, .inr (2, [.ref ob1, .ref ob2, .ref ob3, .ref ob4, .int (nI un_59)])), (ob1, .inl (kb1, 50, .inl uo_59)), (ob2, .inl (kb2, 50, .inr (.inl uf_59))), (ob3, .inl (kb3, 50, .inr (.inl ul_59))), (ob4, .inl (kb4, 50, .inr (.inl ur_59)))] H := hP
          have hD : va_D A [(oo, .inr (6, [.ref ob, .ref oq, .ref ov, .ref on, .ref ot])), (ob, .inr (2, [.ref ob1, .ref ob2, .ref ob3, .ref ob4, .int (nI un_59)])), (ob1, .inl (kb1, 50, .inl uo_59)), (ob2, .inl (kb2, 50, .inr (.inl uf_59))), (ob3, .inl (kb3, 50, .inr (.inl ul_59))), (ob4, .inl (kb4, 50, .inr (.inl ur_59)))] := hD
          exact W.iret (v := r_59) hx hb hr (fun t9 ht9 hW9 => ⟨⟨_, (un_59, uo_59, uf_59, ul_59, ur_59), rfl, Or.inr (Or.inr (Or.inr ⟨⟨zB_ne hw_1 c_4, zB_ne hw_13 c_16⟩, zB_eq hw_29 c_32, by omega, hw_59⟩)), by rw [ht9]; exact hP, va_K.moved hW9.alike hK, hD⟩, hS.F ht9⟩) hS.2.2 dX6_block_62
        · have i_45 : ¬ (r_42.toInt = 0) := fun q9 => c_45 (zi_eq.mpr q9)
          refine lv_bipush (v := -104) hx hb dX6_block_48 (by decide) ?_
          exact W.iret (v := (-104)) hx hb hr (fun t9 ht9 hW9 => ⟨⟨_, (nb, bo, bf, bl, br), rfl, Or.inr (Or.inr (Or.inl ⟨⟨zB_ne hw_1 c_4, zB_ne hw_13 c_16⟩, zB_eq hw_29 c_32, zB_ne hw_42 c_45, rfl, rfl, rfl, rfl, rfl, rfl⟩)), by rw [ht9]; exact hP, va_K.moved hW9.alike hK, hD⟩, hS.F ht9⟩) hS.2.2 dX6_block_50
      · have i_32 : ¬ (r_29.toInt = 0) := fun q9 => c_32 (zi_eq.mpr q9)
        refine lv_bipush (v := -103) hx hb dX6_block_35 (by decide) ?_
        exact W.iret (v := (-103)) hx hb hr (fun t9 ht9 hW9 => ⟨⟨_, (nb, bo, bf, bl, br), rfl, Or.inr (Or.inl ⟨⟨zB_ne hw_1 c_4, zB_ne hw_13 c_16⟩, zB_ne hw_29 c_32, rfl, rfl, rfl, rfl, rfl, rfl⟩), by rw [ht9]; exact hP, va_K.moved hW9.alike hK, hD⟩, hS.F ht9⟩) hS.2.2 dX6_block_37
    · have i_16 : r_13.toInt = 0 := zi_eq.mp c_16
      refine lv_bipush (v := -102) hx hb dX6_block_19 (by decide) ?_
      exact W.iret (v := (-102)) hx hb hr (fun t9 ht9 hW9 => ⟨⟨_, (nb, bo, bf, bl, br), rfl, Or.inl ⟨fun q => zB_eq hw_13 c_16 q.2, rfl, rfl, rfl, rfl, rfl, rfl⟩, by rw [ht9]; exact hP, va_K.moved hW9.alike hK, hD⟩, hS.F ht9⟩) hS.2.2 dX6_block_21

set_option maxHeartbeats 4000000 in
set_option maxRecDepth 100000 in
theorem cc_X6_next (l : Launch) (D : va_G) (z : zG) (sz : Nat) (oo : Nat) (ob : Nat) (oq : Nat) (ov : Nat) (on : Nat) (ot : Nat) (ob1 : Nat) (ob2 : Nat) (ob3 : Nat) (ob4 : Nat) (kb1 : ClassId) (kb2 : ClassId) (kb3 : ClassId) (kb4 : ClassId) (nb : Nat) (bo : Nat → Int32) (bf : Nat → Int64) (bl : Nat → Int64) (br : Nat → Int64) (oq1 : Nat) (oq2 : Nat) (kq1 : ClassId) (kq2 : ClassId) (nq : Nat) (qf : Nat → Int64) (ql : Nat → Int64) (ov1 : Nat) (kv1 : ClassId) (nv : Nat) (gv : Nat → Int64) (p0 : Int32) (p1 : Int32) (hn : nb ≤ 50) (hq : nq ≤ 50) (ht : zTop nq ql) (hv9 : nv < 512) : Met l yX6_next wsX6_next ({ frames := 3, cells := 0, slots := 0, locals := 75 }) (zPre D z [.ref oo, .int p0, .int p1] sz [(oo, .inr (6, [.ref ob, .ref oq, .ref ov, .ref on, .ref ot])), (ob, .inr (2, [.ref ob1, .ref ob2, .ref ob3, .ref ob4, .int (nI nb)])), (ob1, .inl (kb1, 50, .inl bo)), (ob2, .inl (kb2, 50, .inr (.inl bf))), (ob3, .inl (kb3, 50, .inr (.inl bl))), (ob4, .inl (kb4, 50, .inr (.inl br))), (oq, .inr (1, [.ref oq1, .ref oq2, .int (nI nq)])), (oq1, .inl (kq1, 50, .inr (.inl qf))), (oq2, .inl (kq2, 50, .inr (.inl ql))), (ov, .inr (3, [.ref ov1, .int (nI nv)])), (ov1, .inl (kv1, 512, .inr (.inl gv)))] [(kb1, .int), (kb2, .long), (kb3, .long), (kb4, .long), (kq1, .long), (kq2, .long), (kv1, .long)] (va_A [(oo, .inr (6, [.ref ob, .ref oq, .ref ov, .ref on, .ref ot])), (ob, .inr (2, [.ref ob1, .ref ob2, .ref ob3, .ref ob4, .int (nI nb)])), (ob1, .inl (kb1, 50, .inl bo)), (ob2, .inl (kb2, 50, .inr (.inl bf))), (ob3, .inl (kb3, 50, .inr (.inl bl))), (ob4, .inl (kb4, 50, .inr (.inl br))), (oq, .inr (1, [.ref oq1, .ref oq2, .int (nI nq)])), (oq1, .inl (kq1, 50, .inr (.inl qf))), (oq2, .inl (kq2, 50, .inr (.inl ql))), (ov, .inr (3, [.ref ov1, .int (nI nv)])), (ov1, .inl (kv1, 512, .inr (.inl gv)))] sz)) (va_Ql (fun (r : Int64) (u : (Nat → Int64) × Nat × (Nat → Int64)) => (¬ zOkN p0 p1 ∧ r = -102 ∧ u.1 = br ∧ u.2.1 = nv ∧ u.2.2 = gv) ∨ (zOkN p0 p1 ∧ ∃ x, zTake nq qf ql nb bo bl p0 br u.1 x ∧ ((x.toInt < 0 ∧ r = 0 ∧ u.2.1 = nv ∧ u.2.2 = gv) ∨ (0 ≤ x.toInt ∧ r = znum p1 x ∧ u.2.1 = nv + 1 ∧ u.2.2 = vp_updL gv nv (znum p1 x))))) (zAt D [(kb1, .int), (kb2, .long), (kb3, .long), (kb4, .long), (kq1, .long), (kq2, .long), (kv1, .long)] (va_A [(oo, .inr (6, [.ref ob, .ref oq, .ref ov, .ref on, .ref ot])), (ob, .inr (2, [.ref ob1, .ref ob2, .ref ob3, .ref ob4, .int (nI nb)])), (ob1, .inl (kb1, 50, .inl bo)), (ob2, .inl (kb2, 50, .inr (.inl bf))), (ob3, .inl (kb3, 50, .inr (.inl bl))), (ob4, .inl (kb4, 50, .inr (.inl br))), (oq, .inr (1, [.ref oq1, .ref oq2, .int (nI nq)])), (oq1, .inl (kq1, 50, .inr (.inl qf))), (oq2, .inl (kq2, 50, .inr (.inl ql))), (ov, .inr (3, [.ref ov1, .int (nI nv)])), (ov1, .inl (kv1, 512, .inr (.inl gv)))] sz) (fun u : (Nat → Int64) × Nat × (Nat → Int64) => [(oo, .inr (6, [.ref ob, .ref oq, .ref ov, .ref on, .ref ot])), (ob, .inr (2, [.ref ob1, .ref ob2, .ref ob3, .ref ob4, .int (nI nb)])), (ob1, .inl (kb1, 50, .inl bo)), (ob2, .inl (kb2, 50, .inr (.inl bf))), (ob3, .inl (kb3, 50, .inr (.inl bl))), (ob4, .inl (kb4, 50, .inr (.inl u.1))), (oq, .inr (1, [.ref oq1, .ref oq2, .int (nI nq)])), (oq1, .inl (kq1, 50, .inr (.inl qf))), (oq2, .inl (kq2, 50, .inr (.inl ql))), (ov, .inr (3, [.ref ov1, .int (nI u.2.1)])), (ov1, .inl (kv1, 512, .inr (.inl u.2.2)))])) (va_A [(oo, .inr (6, [.ref ob, .ref oq, .ref ov, .ref on, .ref ot])), (ob, .inr (2, [.ref ob1, .ref ob2, .ref ob3, .ref ob4, .int (nI nb)])), (ob1, .inl (kb1, 50, .inl bo)), (ob2, .inl (kb2, 50, .inr (.inl bf))), (ob3, .inl (kb3, 50, .inr (.inl bl))), (ob4, .inl (kb4, 50, .inr (.inl br))), (oq, .inr (1, [.ref oq1, .ref oq2, .int (nI nq)])), (oq1, .inl (kq1, 50, .inr (.inl qf))), (oq2, .inl (kq2, 50, .inr (.inl ql))), (ov, .inr (3, [.ref ov1, .int (nI nv)])), (ov1, .inl (kv1, 512, .inr (.inl gv)))] sz)) 0 0 (va_A [(oo, .inr (6, [.ref ob, .ref oq, .ref ov, .ref on, .ref ot])), (ob, .inr (2, [.ref ob1, .ref ob2, .ref ob3, .ref ob4, .int (nI nb)])), (ob1, .inl (kb1, 50, .inl bo)), (ob2, .inl (kb2, 50, .inr (.inl bf))), (ob3, .inl (kb3, 50, .inr (.inl bl))), (ob4, .inl (kb4, 50, .inr (.inl br))), (oq, .inr (1, [.ref oq1, .ref oq2, .int (nI nq)])), (oq1, .inl (kq1, 50, .inr (.inl qf))), (oq2, .inl (kq2, 50, .inr (.inl ql))), (ov, .inr (3, [.ref ov1, .int (nI nv)])), (ov1, .inl (kv1, 512, .inr (.inl gv)))] sz) := by
  refine Met.ofW (cc := cX6_next) (maxL := 7) (ret := (some .long)) (by decide) rfl ?_
  intro p e s m args below meth c s₁ B hml hv
  obtain ⟨rfl, hsz, hP, hK, hD, hC⟩ := hv
  have hx := B.exec
  have hb := B.bytes
  have hr := B.returns
  have hts := atoms_spec (ws := wsX6_next) B.pre
  have hown : s.vm.findClass RX6 = some m.cls := findClass_of_methodNamed B.named
  have hlocks := B.notSynchronized
  subst hsz
  have hD := hD.self (sz := s.heap.size)
  generalize hAe : va_A [(oo, .inr (6, [.ref ob, .ref oq, .ref ov, .ref on, .ref ot])), (ob, .inr (2, [.ref ob1, .ref ob2, .ref ob3, .ref ob4, .int (nI nb)])), (ob1, .inl (kb1, 50, .inl bo)), (ob2, .inl (kb2, 50, .inr (.inl bf))), (ob3, .inl (kb3, 50, .inr (.inl bl))), (ob4, .inl (kb4, 50, .inr (.inl br))), (oq, .inr (1, [.ref oq1, .ref oq2, .int (nI nq)])), (oq1, .inl (kq1, 50, .inr (.inl qf))), (oq2, .inl (kq2, 50, .inr (.inl ql))), (ov, .inr (3, [.ref ov1, .int (nI nv)])), (ov1, .inl (kv1, 512, .inr (.inl gv)))] s.heap.size = A at hC hD ⊢
  have hA : ∀ q : Nat, s.heap.size ≤ q → A q := fun q h => by rw [← hAe]; exact Or.inr h
  have hS : va_S A s.heap s.heap [] := va_S.rf
  have hP : va_P D vwCl [(oo, .inr (6, [.ref ob, .ref oq, .ref ov, .ref on, .ref ot])), (ob, .inr (2, [.ref ob1, .ref ob2, .ref ob3, .ref ob4, .int (nI nb)])), (ob1, .inl (kb1, 50, .inl bo)), (ob2, .inl (kb2, 50, .inr (.inl bf))), (ob3, .inl (kb3, 50, .inr (.inl bl))), (ob4, .inl (kb4, 50, .inr (.inl br))), (oq, .inr (1, [.ref oq1, .ref oq2, .int (nI nq)])), (oq1, .inl (kq1, 50, .inr (.inl qf))), (oq2, .inl (kq2, 50, .inr (.inl ql))), (ov, .inr (3, [.ref ov1, .int (nI nv)])), (ov1, .inl (kv1, 512, .inr (.inl gv)))] s.heap := hP
  have hl := lv_entry ([.ref oo, .int p0, .int p1]) (n := 7) (Nat.le_of_ble_eq_true rfl)
  rw [lg_entry_eq]
  generalize (lg_sl ([.ref oo, .int p0, .int p1]) ++ List.replicate (7 - (lg_sl ([.ref oo, .int p0, .int p1])).length) Slot.unset).toArray = ls at hl ⊢
  have hl : lv_has ls 7 [(0, .ref oo), (1, .int p0), (2, .int p1)] := hl
  refine zNameH (D := D) (A := A) (ws := [(oo, .inr (6, [.ref ob, .ref oq, .ref ov, .ref on, .ref ot])), (ob, .inr (2, [.ref ob1, .ref ob2, .ref ob3, .ref ob4, .int (nI nb)])), (ob1, .inl (kb1, 50, .inl bo)), (ob2, .inl (kb2, 50, .inr (.inl bf))), (ob3, .inl (kb3, 50, .inr (.inl bl))), (ob4, .inl (kb4, 50, .inr (.inl br))), (oq, .inr (1, [.ref oq1, .ref oq2, .int (nI nq)])), (oq1, .inl (kq1, 50, .inr (.inl qf))), (oq2, .inl (kq2, 50, .inr (.inl ql))), (ov, .inr (3, [.ref ov1, .int (nI nv)])), (ov1, .inl (kv1, 512, .inr (.inl gv)))]) (fun H locs hP hS => ?_) hP hS
  have k_0 := hts (.constantLong RX6 69 (-102)) (by decide +kernel)
  have k_1 := hts (.fieldLink RX6 26 "NumberRows2" "givenNumbers" "LNumberRows2$GivenNumbers;") (by decide +kernel)
  have k_2 : ∀ w ∈ wsX60, w ∈ wsX6_next := by decide +kernel
  have k_3 := hts (.fieldLink RX6 10 "NumberRows2" "blocks" "LNumberRows2$Blocks;") (by decide +kernel)
  have k_4 := hts (.fieldLink RX6 19 "NumberRows2" "barredRows" "LNumberRows2$BarredRows;") (by decide +kernel)
  refine lv_iload_n hx hb dX6_next_0 rfl (lv_at hl 1 rfl) ?_
  refine zRo_i (va_runS (As := [.int p0]) (rest := []) ⟨hx, hb, hml, hown, hts⟩ (cc_X6_isOffice l D z H.size p0 ) (va_cwS 1 hts gX6_next_X6_isOffice rfl rfl rfl (by decide +kernel) ⟨Nat.le_of_ble_eq_true rfl, Nat.le_of_ble_eq_true rfl⟩) ⟨zPre_blind, (zPre_mk (wc := []) (tc := []) hP hK hD hC hS [] (by decide) rfl rfl [] rfl (zro_free hS hA))⟩ rfl rfl hl.1 rfl (lv_room (Nat.le_of_ble_eq_true rfl)) dX6_next_1 ⟨Nat.zero_le _, Nat.zero_le _⟩) hS hA hP (fun r_1 H locs hw hP hS => ?_)
  have hw_1 : zB r_1 (0 ≤ p0.toInt ∧ p0.toInt < 100) := hw
  refine lv_if_eq (tgt := 14) hx hb dX6_next_4 (by decide) (fun c_4 => ?_) (fun c_4 => ?_)
  · have i_4 : r_1.toInt = 0 := zi_eq.mp c_4
    refine lv_ldc2 hx hb hown k_0 dX6_next_14 ?_
    exact W.lret (v := (-102)) hx hb hr (fun t9 ht9 hW9 => ⟨⟨_, (br, nv, gv), rfl, Or.inl ⟨fun q => zB_eq hw_1 c_4 q.1, rfl, rfl, rfl, rfl⟩, by rw [ht9]; exact hP, va_K.moved hW9.alike hK, hD⟩, hS.F ht9⟩) hS.2.2 dX6_next_17
  · have i_4 : ¬ (r_1.toInt = 0) := fun q9 => c_4 (zi_eq.mpr q9)
    refine lv_iload_n hx hb dX6_next_7 rfl (lv_at hl 2 rfl) ?_
    refine zRo_i (va_runS (As := [.int p1]) (rest := []) ⟨hx, hb, hml, hown, hts⟩ (cc_X6_isService l D z H.size p1 ) (va_cwS 1 hts gX6_next_X6_isService rfl rfl rfl (by decide +kernel) ⟨Nat.le_of_ble_eq_true rfl, Nat.le_of_ble_eq_true rfl⟩) ⟨zPre_blind, (zPre_mk (wc := []) (tc := []) hP hK hD hC hS [] (by decide) rfl rfl [] rfl (zro_free hS hA))⟩ rfl rfl hl.1 rfl (lv_room (Nat.le_of_ble_eq_true rfl)) dX6_next_8 ⟨Nat.zero_le _, Nat.zero_le _⟩) hS hA hP (fun r_8 H locs hw hP hS => ?_)
    have hw_8 : zB r_8 (0 ≤ p1.toInt ∧ p1.toInt < 10) := hw
    refine lv_if_ne (tgt := 18) hx hb dX6_next_11 (by decide) (fun c_11 => ?_) (fun c_11 => ?_)
    · have i_11 : ¬ (r_8.toInt = 0) := fun q9 => c_11 (zi_eq.mpr q9)
      refine lv_aload_n hx hb dX6_next_18 rfl (lv_at hl 0 rfl) ?_
      refine va_get (D := D) (ci := 6) (v := .ref ov) (C := RX6) (T := TX6) (N := 5) hx hb hts k_2 hown hK hP 0 rfl rfl 2 (by decide) k_1 (fun _ h9 => h9) rfl dX6_next_19 ?_
      refine zRo_i (va_runV (As := []) (rest := []) ⟨hx, hb, hml, hown, hts⟩ (cc_X3_isFull l D z H.size ov ov1 kv1 nv gv (by omega)) (cwV 0 hts gX6_next_X3_isFull rfl rfl rfl (by decide +kernel) ⟨Nat.le_of_ble_eq_true rfl, Nat.le_of_ble_eq_true rfl⟩) ⟨zPre_blind, va_recv hK hP (ci := 3) (q0 := 9) rfl rfl, (zPre_mk (wc := [(ov, .inr (3, [.ref ov1, .int (nI nv)])), (ov1, .inl (kv1, 512, .inr (.inl gv)))]) (tc := [(kv1, .long)]) hP hK hD hC hS [9, 10] (by decide) rfl rfl [6] rfl (zro_free hS hA))⟩ rfl rfl hl.1 rfl (lv_room (Nat.le_of_ble_eq_true rfl)) dX6_next_22 ⟨Nat.zero_le _, Nat.zero_le _⟩) hS hA hP (fun r_22 H locs hw hP hS => ?_)
      have hw_22 : zB r_22 (512 ≤ nv) := hw
      refine lv_if_eq (tgt := 32) hx hb dX6_next_25 (by decide) (fun c_25 => ?_) (fun c_25 => ?_)
      · have i_25 : r_22.toInt = 0 := zi_eq.mp c_25
        refine lv_aload_n hx hb dX6_next_32 rfl (lv_at hl 0 rfl) ?_
        refine va_get (D := D) (ci := 6) (v := .ref ob) (C := RX6) (T := TX6) (N := 5) hx hb hts k_2 hown hK hP 0 rfl rfl 0 (by decide) k_3 (fun _ h9 => h9) rfl dX6_next_33 ?_
        refine lv_iload_n hx hb dX6_next_36 rfl (lv_at hl 1 rfl) ?_
        refine lv_aload_n hx hb dX6_next_37 rfl (lv_at hl 0 rfl) ?_
        refine va_get (D := D) (ci := 6) (v := .ref oq) (C := RX6) (T := TX6) (N := 5) hx hb hts k_2 hown hK hP 0 rfl rfl 1 (by decide) k_4 (fun _ h9 => h9) rfl dX6_next_38 ?_
        refine zMu_l (wr := [(oo, .inr (6, [.ref ob, .ref oq, .ref ov, .ref on, .ref ot])), (ov, .inr (3, [.ref ov1, .int (nI nv)])), (ov1, .inl (kv1, 512, .inr (.inl gv)))]) (va_runV (As := [.int p0, .ref oq]) (rest := []) ⟨hx, hb, hml, hown, hts⟩ (cc_X1_takeSerial l D z H.size ob ob1 ob2 ob3 ob4 kb1 kb2 kb3 kb4 nb bo bf bl br oq oq1 oq2 kq1 kq2 nq qf ql p0 (by omega) (by omega) ht) (cwV 2 hts gX6_next_X1_takeSerial rfl rfl rfl (by decide +kernel) ⟨Nat.le_of_ble_eq_true rfl, Nat.le_of_ble_eq_true rfl⟩) ⟨zPre_blind, va_recv hK hP (ci := 2) (q0 := 1) rfl rfl, (zPre_mk (wc := [(ob, .inr (2, [.ref ob1, .ref ob2, .ref ob3, .ref ob4, .int (nI nb)])), (ob1, .inl (kb1, 50, .inl bo)), (ob2, .inl (kb2, 50, .inr (.inl bf))), (ob3, .inl (kb3, 50, .inr (.inl bl))), (ob4, .inl (kb4, 50, .inr (.inl br))), (oq, .inr (1, [.ref oq1, .ref oq2, .int (nI nq)])), (oq1, .inl (kq1, 50, .inr (.inl qf))), (oq2, .inl (kq2, 50, .inr (.inl ql)))]) (tc := [(kb1, .int), (kb2, .long), (kb3, .long), (kb4, .long), (kq1, .long), (kq2, .long)]) hP hK hD hC hS [1, 2, 3, 4, 5, 6, 7, 8] (by decide) rfl rfl [0, 1, 2, 3, 4, 5] rfl (va_free (wc := [(ob, .inr (2, [.ref ob1, .ref ob2, .ref ob3, .ref ob4, .int (nI nb)])), (ob1, .inl (kb1, 50, .inl bo)), (ob2, .inl (kb2, 50, .inr (.inl bf))), (ob3, .inl (kb3, 50, .inr (.inl bl))), (ob4, .inl (kb4, 50, .inr (.inl br))), (oq, .inr (1, [.ref oq1, .ref oq2, .int (nI nq)])), (oq1, .inl (kq1, 50, .inr (.inl qf))), (oq2, .inl (kq2, 50, .inr (.inl ql)))]) hD hS hA [1, 2, 3, 4, 5, 6, 7, 8] rfl))⟩ rfl rfl hl.1 rfl (lv_room (Nat.le_of_ble_eq_true rfl)) dX6_next_41 ⟨Nat.zero_le _, Nat.zero_le _⟩) hS hA hP hD [1, 2, 3, 4, 5, 6, 7, 8] [0, 9, 10] rfl rfl (by decide) (by decide) (fun r_41 u H locs hw hP hD hS => ?_)
        obtain ⟨ur_41, rfl⟩ : ∃ y9, y9 = u := ⟨_, rfl⟩
        have hw_41 : zTake nq qf ql nb bo bl p0 br ur_41 r_41 := hw
        have hP : va_P D vwCl [(oo, .inr (6, [.ref ob, .ref oq, .ref ov, .ref on, .ref ot])), (ov, .inr (3, [.ref ov1, .int (nI nv)])), (ov1, .inl (kv1, 512, .inr (.inl gv))), (ob, .inr (2, [.ref ob1, .ref ob2, .ref ob3, .ref ob4, .int (nI nb)])), (ob1, .inl (kb1, 50, .inl bo)), (ob2, .inl (kb2, 50, .inr (.inl bf))), (ob3, .inl (kb3, 50, .inr (.inl bl))), (ob4, .inl (kb4, 50, .inr (.inl ur_41))), (oq, .inr (1, [.ref oq1, .ref oq2, .int (nI nq)])), (oq1, .inl (kq1, 50, .inr (.inl qf))), (oq2, .inl (kq2, 50, .inr (.inl ql)))] H := hP
        have hD : va_D A [(oo, .inr (6, [.ref ob, .ref oq, .ref ov, .ref on, .ref ot])), (ov, .inr (3, [.ref ov1, .int (nI nv)])), (ov1, .inl (kv1, 512, .inr (.inl gv))), (ob, .inr (2, [.ref ob1, .ref ob2, .ref ob3, .ref ob4, .int (nI nb)])), (ob1, .inl (kb1, 50, .inl bo)), (ob2, .inl (kb2, 50, .inr (.inl bf))), (ob3, .inl (kb3, 50, .inr (.inl bl))), (ob4, .inl (kb4, 50, .inr (.inl ur_41))), (oq, .inr (1, [.ref oq1, .ref oq2, .int (nI nq)])), (oq1, .inl (kq1, 50, .inr (.inl qf))), (oq2, .inl (kq2, 50, .inr (.inl ql)))] := hD
        refine lv_lstore_n (lv' := [(3, .long r_41), (0, .ref oo), (1, .int p0), (2, .int p1)]) hx hb dX6_next_44 rfl hl (by decide) rfl (fun ls hl => ?_)
        refine lv_lload_n hx hb dX6_next_45 rfl (lv_at hl 0 rfl) ?_
        refine lv_lconst (v := 0) hx hb dX6_next_46 (by decide) ?_
        refine W.lcmp hx hb dX6_next_47 ?_
        refine lv_if_ge (tgt := 53) hx hb dX6_next_48 (by decide) (fun c_48 => ?_) (fun c_48 => ?_)
        · have c_48 : 0 ≤ r_41 := (lg_cmp_ge _ _).mp c_48
          have i_48 : 0 ≤ r_41.toInt := zl_le.mp c_48
          refine lv_iload_n hx hb dX6_next_53 rfl (lv_at hl 3 rfl) ?_
          refine lv_lload_n hx hb dX6_next_54 rfl (lv_at hl 0 rfl) ?_
          refine zRo_l (va_runS (As := [.int p1, .long r_41]) (rest := []) ⟨hx, hb, hml, hown, hts⟩ (cc_X6_numberOf l D z H.size p1 r_41 ) (va_cwS 2 hts gX6_next_X6_numberOf rfl rfl rfl (by decide +kernel) ⟨Nat.le_of_ble_eq_true rfl, Nat.le_of_ble_eq_true rfl⟩) ⟨zPre_blind, (zPre_mk (wc := []) (tc := []) hP hK hD hC hS [] (by decide) rfl rfl [] rfl (zro_free hS hA))⟩ rfl rfl hl.1 rfl (lv_room (Nat.le_of_ble_eq_true rfl)) dX6_next_55 ⟨Nat.zero_le _, Nat.zero_le _⟩) hS hA hP (fun r_55 H locs hw hP hS => ?_)
          have hw_55 : r_55 = znum p1 r_41 := hw
          refine lv_lstore (lv' := [(5, .long r_55), (3, .long r_41), (0, .ref oo), (1, .int p0), (2, .int p1)]) hx hb dX6_next_58 hl (by decide) rfl (fun ls hl => ?_)
          refine lv_aload_n hx hb dX6_next_60 rfl (lv_at hl 2 rfl) ?_
          refine va_get (D := D) (ci := 6) (v := .ref ov) (C := RX6) (T := TX6) (N := 5) hx hb hts k_2 hown hK hP 0 rfl rfl 2 (by decide) k_1 (fun _ h9 => h9) rfl dX6_next_61 ?_
          refine lv_lload hx hb dX6_next_64 (lv_at hl 0 rfl) ?_
          refine zMu_v (wr := [(oo, .inr (6, [.ref ob, .ref oq, .ref ov, .ref on, .ref ot])), (ob, .inr (2, [.ref ob1, .ref ob2, .ref ob3, .ref ob4, .int (nI nb)])), (ob1, .inl (kb1, 50, .inl bo)), (ob2, .inl (kb2, 50, .inr (.inl bf))), (ob3, .inl (kb3, 50, .inr (.inl bl))), (ob4, .inl (kb4, 50, .inr (.inl ur_41))), (oq, .inr (1, [.ref oq1, .ref oq2, .int (nI nq)])), (oq1, .inl (kq1, 50, .inr (.inl qf))), (oq2, .inl (kq2, 50, .inr (.inl ql)))]) (va_runV (As := [.long r_55]) (rest := []) ⟨hx, hb, hml, hown, hts⟩ (cc_X3_add l D z H.size ov ov1 kv1 nv gv r_55 (by omega)) (cwV 1 hts gX6_next_X3_add rfl rfl rfl (by decide +kernel) ⟨Nat.le_of_ble_eq_true rfl, Nat.le_of_ble_eq_true rfl⟩) ⟨zPre_blind, va_recv hK hP (ci := 3) (q0 := 1) rfl rfl, (zPre_mk (wc := [(ov, .inr (3, [.ref ov1, .int (nI nv)])), (ov1, .inl (kv1, 512, .inr (.inl gv)))]) (tc := [(kv1, .long)]) hP hK hD hC hS [1, 2] (by decide) rfl rfl [6] rfl (va_free (wc := [(ov, .inr (3, [.ref ov1, .int (nI nv)])), (ov1, .inl (kv1, 512, .inr (.inl gv)))]) hD hS hA [1, 2] rfl))⟩ rfl rfl hl.1 rfl (lv_room (Nat.le_of_ble_eq_true rfl)) dX6_next_66 ⟨Nat.zero_le _, Nat.zero_le _⟩) hS hA hP hD [1, 2] [0, 3, 4, 5, 6, 7, 8, 9, 10] rfl rfl (by decide) (by decide) (fun u H locs hw hP hD hS => ?_)
          obtain ⟨un_66, ug_66⟩ := u
          have hw_66 : un_66 = nv + 1 ∧ ug_66 = vp_updL gv nv r_55 := hw
          have hP : va_P D vwCl [(oo, .inr (6, [.ref ob, .ref oq, .ref ov, .ref on, .ref ot])), (ob, .inr (2, [.ref ob1, .ref ob2, .ref ob3, .ref ob4, .int (nI nb)])), (ob1, .inl (kb1, 50, .inl bo)), (ob2, .inl (kb2, 50, .inr (.inl bf))), (ob3, .inl (kb3, 50, .inr (.inl bl))), (ob4, .inl (kb4, 50, .inr (.inl ur_41))), (oq, .inr (1, [.ref oq1, .ref oq2, .int (nI nq)])), (oq1, .inl (kq1, 50, .inr (.inl qf))), (oq2, .inl (kq2, 50, .inr (.inl ql))), (ov, .inr (3, [.ref ov1, .int (nI un_66)])), (ov1, .inl (kv1, 512, .inr (.inl ug_66)))] H := hP
          have hD : va_D A [(oo, .inr (6, [.ref ob, .ref oq, .ref ov, .ref on, .ref ot])), (ob, .inr (2, [.ref ob1, .ref ob2, .ref ob3, .ref ob4, .int (nI nb)])), (ob1, .inl (kb1, 50, .inl bo)), (ob2, .inl (kb2, 50, .inr (.inl bf))), (ob3, .inl (kb3, 50, .inr (.inl bl))), (ob4, .inl (kb4, 50, .inr (.inl ur_41))), (oq, .inr (1, [.ref oq1, .ref oq2, .int (nI nq)])), (oq1, .inl (kq1, 50, .inr (.inl qf))), (oq2, .inl (kq2, 50, .inr (.inl ql))), (ov, .inr (3, [.ref ov1, .int (nI un_66)])), (ov1, .inl (kv1, 512, .inr (.inl ug_66)))] := hD
          refine lv_lload hx hb dX6_next_69 (lv_at hl 0 rfl) ?_
          exact W.lret (v := r_55) hx hb hr (fun t9 ht9 hW9 => ⟨⟨_, (ur_41, un_66, ug_66), rfl, Or.inr ⟨⟨zB_ne hw_1 c_4, zB_ne hw_8 c_11⟩, r_41, hw_41, Or.inr ⟨by omega, hw_55, hw_66.1, by rw [hw_66.2, hw_55]⟩⟩, by rw [ht9]; exact hP, va_K.moved hW9.alike hK, hD⟩, hS.F ht9⟩) hS.2.2 dX6_next_71
        · have c_48 : ¬ (0 ≤ r_41) := fun q9 => c_48 ((lg_cmp_ge _ _).mpr q9)
          have i_48 : ¬ (0 ≤ r_41.toInt) := fun q9 => c_48 (zl_le.mpr q9)
          refine lv_lconst (v := 0) hx hb dX6_next_51 (by decide) ?_
          exact W.lret (v := 0) hx hb hr (fun t9 ht9 hW9 => ⟨⟨_, (ur_41, nv, gv), rfl, Or.inr ⟨⟨zB_ne hw_1 c_4, zB_ne hw_8 c_11⟩, r_41, hw_41, Or.inl ⟨by omega, rfl, rfl, rfl⟩⟩, by rw [ht9]; exact hP.sub [0, 3, 4, 5, 6, 7, 8, 9, 10, 1, 2] rfl, va_K.moved hW9.alike hK, hD.sub [0, 3, 4, 5, 6, 7, 8, 9, 10, 1, 2] (by decide) rfl⟩, hS.F ht9⟩) hS.2.2 dX6_next_52
      · have i_25 : ¬ (r_22.toInt = 0) := fun q9 => c_25 (zi_eq.mpr q9)
        exact absurd (zB_ne hw_22 c_25) (by omega)
    · have i_11 : r_8.toInt = 0 := zi_eq.mp c_11
      refine lv_ldc2 hx hb hown k_0 dX6_next_14 ?_
      exact W.lret (v := (-102)) hx hb hr (fun t9 ht9 hW9 => ⟨⟨_, (br, nv, gv), rfl, Or.inl ⟨fun q => zB_eq hw_8 c_11 q.2, rfl, rfl, rfl, rfl⟩, by rw [ht9]; exact hP, va_K.moved hW9.alike hK, hD⟩, hS.F ht9⟩) hS.2.2 dX6_next_17

set_option maxHeartbeats 4000000 in
set_option maxRecDepth 100000 in
theorem cc_X6_type (l : Launch) (D : va_G) (z : zG) (sz : Nat) (oo : Nat) (ob : Nat) (oq : Nat) (ov : Nat) (on : Nat) (ot : Nat) (ot1 : Nat) (kt1 : ClassId) (nt : Nat) (ch : Nat → Int32) (p0 : Int32) (hn : nt ≤ 60) : Met l yX6_type wsX6_type ({ frames := 1, cells := 0, slots := 0, locals := 21 }) (zPre D z [.ref oo, .int p0] sz [(oo, .inr (6, [.ref ob, .ref oq, .ref ov, .ref on, .ref ot])), (ot, .inr (5, [.ref ot1, .int (nI nt)])), (ot1, .inl (kt1, 60, .inl ch))] [(kt1, .int)] (va_A [(oo, .inr (6, [.ref ob, .ref oq, .ref ov, .ref on, .ref ot])), (ot, .inr (5, [.ref ot1, .int (nI nt)])), (ot1, .inl (kt1, 60, .inl ch))] sz)) (va_Qv (fun u : Nat × (Nat → Int32) => (nt < 60 → u.1 = nt + 1 ∧ u.2 = upd ch nt p0) ∧ (¬ nt < 60 → u.1 = nt ∧ u.2 = ch)) (zAt D [(kt1, .int)] (va_A [(oo, .inr (6, [.ref ob, .ref oq, .ref ov, .ref on, .ref ot])), (ot, .inr (5, [.ref ot1, .int (nI nt)])), (ot1, .inl (kt1, 60, .inl ch))] sz) (fun u : Nat × (Nat → Int32) => [(oo, .inr (6, [.ref ob, .ref oq, .ref ov, .ref on, .ref ot])), (ot, .inr (5, [.ref ot1, .int (nI u.1)])), (ot1, .inl (kt1, 60, .inl u.2))])) (va_A [(oo, .inr (6, [.ref ob, .ref oq, .ref ov, .ref on, .ref ot])), (ot, .inr (5, [.ref ot1, .int (nI nt)])), (ot1, .inl (kt1, 60, .inl ch))] sz)) 0 0 (va_A [(oo, .inr (6, [.ref ob, .ref oq, .ref ov, .ref on, .ref ot])), (ot, .inr (5, [.ref ot1, .int (nI nt)])), (ot1, .inl (kt1, 60, .inl ch))] sz) := by
  refine Met.ofW (cc := cX6_type) (maxL := 2) (ret := none) (by decide) rfl ?_
  intro p e s m args below meth c s₁ B hml hv
  obtain ⟨rfl, hsz, hP, hK, hD, hC⟩ := hv
  have hx := B.exec
  have hb := B.bytes
  have hr := B.returns
  have hts := atoms_spec (ws := wsX6_type) B.pre
  have hown : s.vm.findClass RX6 = some m.cls := findClass_of_methodNamed B.named
  have hlocks := B.notSynchronized
  subst hsz
  have hD := hD.self (sz := s.heap.size)
  generalize hAe : va_A [(oo, .inr (6, [.ref ob, .ref oq, .ref ov, .ref on, .ref ot])), (ot, .inr (5, [.ref ot1, .int (nI nt)])), (ot1, .inl (kt1, 60, .inl ch))] s.heap.size = A at hC hD ⊢
  have hA : ∀ q : Nat, s.heap.size ≤ q → A q := fun q h => by rw [← hAe]; exact Or.inr h
  have hS : va_S A s.heap s.heap [] := va_S.rf
  have hP : va_P D vwCl [(oo, .inr (6, [.ref ob, .ref oq, .ref ov, .ref on, .ref ot])), (ot, .inr (5, [.ref ot1, .int (nI nt)])), (ot1, .inl (kt1, 60, .inl ch))] s.heap := hP
  have hl := lv_entry ([.ref oo, .int p0]) (n := 2) (Nat.le_of_ble_eq_true rfl)
  rw [lg_entry_eq]
  generalize (lg_sl ([.ref oo, .int p0]) ++ List.replicate (2 - (lg_sl ([.ref oo, .int p0])).length) Slot.unset).toArray = ls at hl ⊢
  have hl : lv_has ls 2 [(0, .ref oo), (1, .int p0)] := hl
  refine zNameH (D := D) (A := A) (ws := [(oo, .inr (6, [.ref ob, .ref oq, .ref ov, .ref on, .ref ot])), (ot, .inr (5, [.ref ot1, .int (nI nt)])), (ot1, .inl (kt1, 60, .inl ch))]) (fun H locs hP hS => ?_) hP hS
  have k_0 := hts (.fieldLink RX6 40 "NumberRows2" "typedText" "LNumberRows2$TypedText;") (by decide +kernel)
  have k_1 : ∀ w ∈ wsX60, w ∈ wsX6_type := by decide +kernel
  refine lv_aload_n hx hb dX6_type_0 rfl (lv_at hl 0 rfl) ?_
  refine va_get (D := D) (ci := 6) (v := .ref ot) (C := RX6) (T := TX6) (N := 5) hx hb hts k_1 hown hK hP 0 rfl rfl 4 (by decide) k_0 (fun _ h9 => h9) rfl dX6_type_1 ?_
  refine lv_iload_n hx hb dX6_type_4 rfl (lv_at hl 1 rfl) ?_
  refine zMu_v (wr := [(oo, .inr (6, [.ref ob, .ref oq, .ref ov, .ref on, .ref ot]))]) (va_runV (As := [.int p0]) (rest := []) ⟨hx, hb, hml, hown, hts⟩ (cc_X5_add l D z H.size ot ot1 kt1 nt ch p0 (by omega)) (cwV 1 hts gX6_type_X5_add rfl rfl rfl (by decide +kernel) ⟨Nat.le_of_ble_eq_true rfl, Nat.le_of_ble_eq_true rfl⟩) ⟨zPre_blind, va_recv hK hP (ci := 5) (q0 := 1) rfl rfl, (zPre_mk (wc := [(ot, .inr (5, [.ref ot1, .int (nI nt)])), (ot1, .inl (kt1, 60, .inl ch))]) (tc := [(kt1, .int)]) hP hK hD hC hS [1, 2] (by decide) rfl rfl [0] rfl (va_free (wc := [(ot, .inr (5, [.ref ot1, .int (nI nt)])), (ot1, .inl (kt1, 60, .inl ch))]) hD hS hA [1, 2] rfl))⟩ rfl rfl hl.1 rfl (lv_room (Nat.le_of_ble_eq_true rfl)) dX6_type_5 ⟨Nat.zero_le _, Nat.zero_le _⟩) hS hA hP hD [1, 2] [0] rfl rfl (by decide) (by decide) (fun u H locs hw hP hD hS => ?_)
  obtain ⟨un_5, uc_5⟩ := u
  have hw_5 : (nt < 60 → un_5 = nt + 1 ∧ uc_5 = upd ch nt p0) ∧ (¬ nt < 60 → un_5 = nt ∧ uc_5 = ch) := hw
  have hP : va_P D vwCl [(oo, .inr (6, [.ref ob, .ref oq, .ref ov, .ref on, .ref ot])), (ot, .inr (5, [.ref ot1, .int (nI un_5)])), (ot1, .inl (kt1, 60, .inl uc_5))] H := hP
  have hD : va_D A [(oo, .inr (6, [.ref ob, .ref oq, .ref ov, .ref on, .ref ot])), (ot, .inr (5, [.ref ot1, .int (nI un_5)])), (ot1, .inl (kt1, 60, .inl uc_5))] := hD
  exact W.vret hx hb hr (fun t9 ht9 hW9 => ⟨⟨(un_5, uc_5), rfl, hw_5, by rw [ht9]; exact hP, va_K.moved hW9.alike hK, hD⟩, hS.F ht9⟩) hS.2.2 dX6_type_8

set_option maxHeartbeats 4000000 in
set_option maxRecDepth 100000 in
theorem cc_X6_read (l : Launch) (D : va_G) (z : zG) (sz : Nat) (oo : Nat) (ob : Nat) (oq : Nat) (ov : Nat) (on : Nat) (ot : Nat) (ot1 : Nat) (kt1 : ClassId) (nt : Nat) (ch : Nat → Int32) (hn : nt ≤ 60) : Met l yX6_read wsX6_read ({ frames := 6, cells := 0, slots := 0, locals := 133 }) (zPre D z [.ref oo] sz [(oo, .inr (6, [.ref ob, .ref oq, .ref ov, .ref on, .ref ot])), (ot, .inr (5, [.ref ot1, .int (nI nt)])), (ot1, .inl (kt1, 60, .inl ch))] [(kt1, .int)] (va_A [(oo, .inr (6, [.ref ob, .ref oq, .ref ov, .ref on, .ref ot])), (ot, .inr (5, [.ref ot1, .int (nI nt)])), (ot1, .inl (kt1, 60, .inl ch))] sz)) (va_Ql (fun (r : Int64) (u : Unit) => zPar ch nt r) (zAt D [(kt1, .int)] (va_A [(oo, .inr (6, [.ref ob, .ref oq, .ref ov, .ref on, .ref ot])), (ot, .inr (5, [.ref ot1, .int (nI nt)])), (ot1, .inl (kt1, 60, .inl ch))] sz) (fun u : Unit => [(oo, .inr (6, [.ref ob, .ref oq, .ref ov, .ref on, .ref ot])), (ot, .inr (5, [.ref ot1, .int (nI 0)])), (ot1, .inl (kt1, 60, .inl ch))])) (va_A [(oo, .inr (6, [.ref ob, .ref oq, .ref ov, .ref on, .ref ot])), (ot, .inr (5, [.ref ot1, .int (nI nt)])), (ot1, .inl (kt1, 60, .inl ch))] sz)) 0 0 (va_A [(oo, .inr (6, [.ref ob, .ref oq, .ref ov, .ref on, .ref ot])), (ot, .inr (5, [.ref ot1, .int (nI nt)])), (ot1, .inl (kt1, 60, .inl ch))] sz) := by
  refine Met.ofW (cc := cX6_read) (maxL := 3) (ret := (some .long)) (by decide) rfl ?_
  intro p e s m args below meth c s₁ B hml hv
  obtain ⟨rfl, hsz, hP, hK, hD, hC⟩ := hv
  have hx := B.exec
  have hb := B.bytes
  have hr := B.returns
  have hts := atoms_spec (ws := wsX6_read) B.pre
  have hown : s.vm.findClass RX6 = some m.cls := findClass_of_methodNamed B.named
  have hlocks := B.notSynchronized
  subst hsz
  have hD := hD.self (sz := s.heap.size)
  generalize hAe : va_A [(oo, .inr (6, [.ref ob, .ref oq, .ref ov, .ref on, .ref ot])), (ot, .inr (5, [.ref ot1, .int (nI nt)])), (ot1, .inl (kt1, 60, .inl ch))] s.heap.size = A at hC hD ⊢
  have hA : ∀ q : Nat, s.heap.size ≤ q → A q := fun q h => by rw [← hAe]; exact Or.inr h
  have hS : va_S A s.heap s.heap [] := va_S.rf
  have hP : va_P D vwCl [(oo, .inr (6, [.ref ob, .ref oq, .ref ov, .ref on, .ref ot])), (ot, .inr (5, [.ref ot1, .int (nI nt)])), (ot1, .inl (kt1, 60, .inl ch))] s.heap := hP
  have hl := lv_entry ([.ref oo]) (n := 3) (Nat.le_of_ble_eq_true rfl)
  rw [lg_entry_eq]
  generalize (lg_sl ([.ref oo]) ++ List.replicate (3 - (lg_sl ([.ref oo])).length) Slot.unset).toArray = ls at hl ⊢
  have hl : lv_has ls 3 [(0, .ref oo)] := hl
  refine zNameH (D := D) (A := A) (ws := [(oo, .inr (6, [.ref ob, .ref oq, .ref ov, .ref on, .ref ot])), (ot, .inr (5, [.ref ot1, .int (nI nt)])), (ot1, .inl (kt1, 60, .inl ch))]) (fun H locs hP hS => ?_) hP hS
  have k_0 := hts (.fieldLink RX6 40 "NumberRows2" "typedText" "LNumberRows2$TypedText;") (by decide +kernel)
  have k_1 : ∀ w ∈ wsX60, w ∈ wsX6_read := by decide +kernel
  refine lv_aload_n hx hb dX6_read_0 rfl (lv_at hl 0 rfl) ?_
  refine va_get (D := D) (ci := 6) (v := .ref ot) (C := RX6) (T := TX6) (N := 5) hx hb hts k_1 hown hK hP 0 rfl rfl 4 (by decide) k_0 (fun _ h9 => h9) rfl dX6_read_1 ?_
  refine zRo_l (va_runV (As := []) (rest := []) ⟨hx, hb, hml, hown, hts⟩ (cc_X5_parse l D z H.size ot ot1 kt1 nt ch (by omega)) (cwV 0 hts gX6_read_X5_parse rfl rfl rfl (by decide +kernel) ⟨Nat.le_of_ble_eq_true rfl, Nat.le_of_ble_eq_true rfl⟩) ⟨zPre_blind, va_recv hK hP (ci := 5) (q0 := 1) rfl rfl, (zPre_mk (wc := [(ot, .inr (5, [.ref ot1, .int (nI nt)])), (ot1, .inl (kt1, 60, .inl ch))]) (tc := [(kt1, .int)]) hP hK hD hC hS [1, 2] (by decide) rfl rfl [0] rfl (zro_free hS hA))⟩ rfl rfl hl.1 rfl (lv_room (Nat.le_of_ble_eq_true rfl)) dX6_read_4 ⟨Nat.zero_le _, Nat.zero_le _⟩) hS hA hP (fun r_4 H locs hw hP hS => ?_)
  have hw_4 : zPar ch nt r_4 := hw
  refine lv_lstore_n (lv' := [(1, .long r_4), (0, .ref oo)]) hx hb dX6_read_7 rfl hl (by decide) rfl (fun ls hl => ?_)
  refine lv_aload_n hx hb dX6_read_8 rfl (lv_at hl 1 rfl) ?_
  refine va_get (D := D) (ci := 6) (v := .ref ot) (C := RX6) (T := TX6) (N := 5) hx hb hts k_1 hown hK hP 0 rfl rfl 4 (by decide) k_0 (fun _ h9 => h9) rfl dX6_read_9 ?_
  refine zMu_v (wr := [(oo, .inr (6, [.ref ob, .ref oq, .ref ov, .ref on, .ref ot]))]) (va_runV (As := []) (rest := []) ⟨hx, hb, hml, hown, hts⟩ (cc_X5_clear l D z H.size ot ot1 kt1 nt ch (by omega)) (cwV 0 hts gX6_read_X5_clear rfl rfl rfl (by decide +kernel) ⟨Nat.le_of_ble_eq_true rfl, Nat.le_of_ble_eq_true rfl⟩) ⟨zPre_blind, va_recv hK hP (ci := 5) (q0 := 1) rfl rfl, (zPre_mk (wc := [(ot, .inr (5, [.ref ot1, .int (nI nt)])), (ot1, .inl (kt1, 60, .inl ch))]) (tc := [(kt1, .int)]) hP hK hD hC hS [1, 2] (by decide) rfl rfl [0] rfl (va_free (wc := [(ot, .inr (5, [.ref ot1, .int (nI nt)])), (ot1, .inl (kt1, 60, .inl ch))]) hD hS hA [1, 2] rfl))⟩ rfl rfl hl.1 rfl (lv_room (Nat.le_of_ble_eq_true rfl)) dX6_read_12 ⟨Nat.zero_le _, Nat.zero_le _⟩) hS hA hP hD [1, 2] [0] rfl rfl (by decide) (by decide) (fun u H locs hw hP hD hS => ?_)
  have hw_12 : True := hw
  have hP : va_P D vwCl [(oo, .inr (6, [.ref ob, .ref oq, .ref ov, .ref on, .ref ot])), (ot, .inr (5, [.ref ot1, .int (nI 0)])), (ot1, .inl (kt1, 60, .inl ch))] H := hP
  have hD : va_D A [(oo, .inr (6, [.ref ob, .ref oq, .ref ov, .ref on, .ref ot])), (ot, .inr (5, [.ref ot1, .int (nI 0)])), (ot1, .inl (kt1, 60, .inl ch))] := hD
  refine lv_lload_n hx hb dX6_read_15 rfl (lv_at hl 0 rfl) ?_
  exact W.lret (v := r_4) hx hb hr (fun t9 ht9 hW9 => ⟨⟨_, (), rfl, hw_4, by rw [ht9]; exact hP, va_K.moved hW9.alike hK, hD⟩, hS.F ht9⟩) hS.2.2 dX6_read_16

set_option maxHeartbeats 4000000 in
set_option maxRecDepth 100000 in
theorem cc_X6_bar (l : Launch) (D : va_G) (z : zG) (sz : Nat) (oo : Nat) (ob : Nat) (oq : Nat) (ov : Nat) (on : Nat) (ot : Nat) (oq1 : Nat) (oq2 : Nat) (kq1 : ClassId) (kq2 : ClassId) (nq : Nat) (qf : Nat → Int64) (ql : Nat → Int64) (ov1 : Nat) (kv1 : ClassId) (nv : Nat) (gv : Nat → Int64) (p0 : Int64) (p1 : Int64) (hq : nq ≤ 50) (hv9 : nv ≤ 512) : Met l yX6_bar wsX6_bar ({ frames := 2, cells := 0, slots := 0, locals := 49 }) (zPre D z [.ref oo, .long p0, .long p1] sz [(oo, .inr (6, [.ref ob, .ref oq, .ref ov, .ref on, .ref ot])), (oq, .inr (1, [.ref oq1, .ref oq2, .int (nI nq)])), (oq1, .inl (kq1, 50, .inr (.inl qf))), (oq2, .inl (kq2, 50, .inr (.inl ql))), (ov, .inr (3, [.ref ov1, .int (nI nv)])), (ov1, .inl (kv1, 512, .inr (.inl gv)))] [(kq1, .long), (kq2, .long), (kv1, .long)] (va_A [(oo, .inr (6, [.ref ob, .ref oq, .ref ov, .ref on, .ref ot])), (oq, .inr (1, [.ref oq1, .ref oq2, .int (nI nq)])), (oq1, .inl (kq1, 50, .inr (.inl qf))), (oq2, .inl (kq2, 50, .inr (.inl ql))), (ov, .inr (3, [.ref ov1, .int (nI nv)])), (ov1, .inl (kv1, 512, .inr (.inl gv)))] sz)) (va_Qi (fun (r : Int32) (u : Nat × (Nat → Int64) × (Nat → Int64) × Nat × (Nat → Int64)) => (¬ zOkR p0 p1 ∧ r = -102 ∧ u.1 = nq ∧ u.2.1 = qf ∧ u.2.2.1 = ql ∧ u.2.2.2.1 = nv ∧ u.2.2.2.2 = gv) ∨ (zOkR p0 p1 ∧ 50 ≤ nq ∧ r = -104 ∧ u.1 = nq ∧ u.2.1 = qf ∧ u.2.2.1 = ql ∧ u.2.2.2.1 = nv ∧ u.2.2.2.2 = gv) ∨ (zOkR p0 p1 ∧ nq < 50 ∧ (u.1 = nq + 1 ∧ u.2.1 = vp_updL qf nq p0 ∧ u.2.2.1 = vp_updL ql nq p1) ∧ zRow p0 p1 nv gv u.2.2.2.1 u.2.2.2.2 ∧ r = nI (nv - u.2.2.2.1))) (zAt D [(kq1, .long), (kq2, .long), (kv1, .long)] (va_A [(oo, .inr (6, [.ref ob, .ref oq, .ref ov, .ref on, .ref ot])), (oq, .inr (1, [.ref oq1, .ref oq2, .int (nI nq)])), (oq1, .inl (kq1, 50, .inr (.inl qf))), (oq2, .inl (kq2, 50, .inr (.inl ql))), (ov, .inr (3, [.ref ov1, .int (nI nv)])), (ov1, .inl (kv1, 512, .inr (.inl gv)))] sz) (fun u : Nat × (Nat → Int64) × (Nat → Int64) × Nat × (Nat → Int64) => [(oo, .inr (6, [.ref ob, .ref oq, .ref ov, .ref on, .ref ot])), (oq, .inr (1, [.ref oq1, .ref oq2, .int (nI u.1)])), (oq1, .inl (kq1, 50, .inr (.inl u.2.1))), (oq2, .inl (kq2, 50, .inr (.inl u.2.2.1))), (ov, .inr (3, [.ref ov1, .int (nI u.2.2.2.1)])), (ov1, .inl (kv1, 512, .inr (.inl u.2.2.2.2)))])) (va_A [(oo, .inr (6, [.ref ob, .ref oq, .ref ov, .ref on, .ref ot])), (oq, .inr (1, [.ref oq1, .ref oq2, .int (nI nq)])), (oq1, .inl (kq1, 50, .inr (.inl qf))), (oq2, .inl (kq2, 50, .inr (.inl ql))), (ov, .inr (3, [.ref ov1, .int (nI nv)])), (ov1, .inl (kv1, 512, .inr (.inl gv)))] sz)) 0 0 (va_A [(oo, .inr (6, [.ref ob, .ref oq, .ref ov, .ref on, .ref ot])), (oq, .inr (1, [.ref oq1, .ref oq2, .int (nI nq)])), (oq1, .inl (kq1, 50, .inr (.inl qf))), (oq2, .inl (kq2, 50, .inr (.inl ql))), (ov, .inr (3, [.ref ov1, .int (nI nv)])), (ov1, .inl (kv1, 512, .inr (.inl gv)))] sz) := by
  refine Met.ofW (cc := cX6_bar) (maxL := 5) (ret := (some .int)) (by decide) rfl ?_
  intro p e s m args below meth c s₁ B hml hv
  obtain ⟨rfl, hsz, hP, hK, hD, hC⟩ := hv
  have hx := B.exec
  have hb := B.bytes
  have hr := B.returns
  have hts := atoms_spec (ws := wsX6_bar) B.pre
  have hown : s.vm.findClass RX6 = some m.cls := findClass_of_methodNamed B.named
  have hlocks := B.notSynchronized
  subst hsz
  have hD := hD.self (sz := s.heap.size)
  generalize hAe : va_A [(oo, .inr (6, [.ref ob, .ref oq, .ref ov, .ref on, .ref ot])), (oq, .inr (1, [.ref oq1, .ref oq2, .int (nI nq)])), (oq1, .inl (kq1, 50, .inr (.inl qf))), (oq2, .inl (kq2, 50, .inr (.inl ql))), (ov, .inr (3, [.ref ov1, .int (nI nv)])), (ov1, .inl (kv1, 512, .inr (.inl gv)))] s.heap.size = A at hC hD ⊢
  have hA : ∀ q : Nat, s.heap.size ≤ q → A q := fun q h => by rw [← hAe]; exact Or.inr h
  have hS : va_S A s.heap s.heap [] := va_S.rf
  have hP : va_P D vwCl [(oo, .inr (6, [.ref ob, .ref oq, .ref ov, .ref on, .ref ot])), (oq, .inr (1, [.ref oq1, .ref oq2, .int (nI nq)])), (oq1, .inl (kq1, 50, .inr (.inl qf))), (oq2, .inl (kq2, 50, .inr (.inl ql))), (ov, .inr (3, [.ref ov1, .int (nI nv)])), (ov1, .inl (kv1, 512, .inr (.inl gv)))] s.heap := hP
  have hl := lv_entry ([.ref oo, .long p0, .long p1]) (n := 5) (Nat.le_of_ble_eq_true rfl)
  rw [lg_entry_eq]
  generalize (lg_sl ([.ref oo, .long p0, .long p1]) ++ List.replicate (5 - (lg_sl ([.ref oo, .long p0, .long p1])).length) Slot.unset).toArray = ls at hl ⊢
  have hl : lv_has ls 5 [(0, .ref oo), (1, .long p0), (3, .long p1)] := hl
  refine zNameH (D := D) (A := A) (ws := [(oo, .inr (6, [.ref ob, .ref oq, .ref ov, .ref on, .ref ot])), (oq, .inr (1, [.ref oq1, .ref oq2, .int (nI nq)])), (oq1, .inl (kq1, 50, .inr (.inl qf))), (oq2, .inl (kq2, 50, .inr (.inl ql))), (ov, .inr (3, [.ref ov1, .int (nI nv)])), (ov1, .inl (kv1, 512, .inr (.inl gv)))]) (fun H locs hP hS => ?_) hP hS
  have k_0 := hts (.constantLong RX6 116 (27512614111)) (by decide +kernel)
  have k_1 := hts (.fieldLink RX6 19 "NumberRows2" "barredRows" "LNumberRows2$BarredRows;") (by decide +kernel)
  have k_2 : ∀ w ∈ wsX60, w ∈ wsX6_bar := by decide +kernel
  have k_3 := hts (.fieldLink RX6 26 "NumberRows2" "givenNumbers" "LNumberRows2$GivenNumbers;") (by decide +kernel)
  refine lv_lload_n hx hb dX6_bar_0 rfl (lv_at hl 1 rfl) ?_
  refine lv_lload_n hx hb dX6_bar_1 rfl (lv_at hl 2 rfl) ?_
  refine lv_ldc2 hx hb hown k_0 dX6_bar_2 ?_
  refine zRo_i (va_runS (As := [.long p0, .long p1, .long 27512614111]) (rest := []) ⟨hx, hb, hml, hown, hts⟩ (cc_X6_isRowBelow l D z H.size p0 p1 (27512614111 : Int64) ) (va_cwS 3 hts gX6_bar_X6_isRowBelow rfl rfl rfl (by decide +kernel) ⟨Nat.le_of_ble_eq_true rfl, Nat.le_of_ble_eq_true rfl⟩) ⟨zPre_blind, (zPre_mk (wc := []) (tc := []) hP hK hD hC hS [] (by decide) rfl rfl [] rfl (zro_free hS hA))⟩ rfl rfl hl.1 rfl (lv_room (Nat.le_of_ble_eq_true rfl)) dX6_bar_5 ⟨Nat.zero_le _, Nat.zero_le _⟩) hS hA hP (fun r_5 H locs hw hP hS => ?_)
  have hw_5 : zB r_5 (0 ≤ p0.toInt ∧ p0.toInt ≤ p1.toInt ∧ p1.toInt < 27512614111) := hw
  refine lv_if_ne (tgt := 14) hx hb dX6_bar_8 (by decide) (fun c_8 => ?_) (fun c_8 => ?_)
  · have i_8 : ¬ (r_5.toInt = 0) := fun q9 => c_8 (zi_eq.mpr q9)
    refine lv_aload_n hx hb dX6_bar_14 rfl (lv_at hl 0 rfl) ?_
    refine va_get (D := D) (ci := 6) (v := .ref oq) (C := RX6) (T := TX6) (N := 5) hx hb hts k_2 hown hK hP 0 rfl rfl 1 (by decide) k_1 (fun _ h9 => h9) rfl dX6_bar_15 ?_
    refine zRo_i (va_runV (As := []) (rest := []) ⟨hx, hb, hml, hown, hts⟩ (cc_X0_isFull l D z H.size oq oq1 oq2 kq1 kq2 nq qf ql (by omega)) (cwV 0 hts gX6_bar_X0_isFull rfl rfl rfl (by decide +kernel) ⟨Nat.le_of_ble_eq_true rfl, Nat.le_of_ble_eq_true rfl⟩) ⟨zPre_blind, va_recv hK hP (ci := 1) (q0 := 1) rfl rfl, (zPre_mk (wc := [(oq, .inr (1, [.ref oq1, .ref oq2, .int (nI nq)])), (oq1, .inl (kq1, 50, .inr (.inl qf))), (oq2, .inl (kq2, 50, .inr (.inl ql)))]) (tc := [(kq1, .long), (kq2, .long)]) hP hK hD hC hS [1, 2, 3] (by decide) rfl rfl [0, 1] rfl (zro_free hS hA))⟩ rfl rfl hl.1 rfl (lv_room (Nat.le_of_ble_eq_true rfl)) dX6_bar_18 ⟨Nat.zero_le _, Nat.zero_le _⟩) hS hA hP (fun r_18 H locs hw hP hS => ?_)
    have hw_18 : zB r_18 (50 ≤ nq) := hw
    refine lv_if_eq (tgt := 27) hx hb dX6_bar_21 (by decide) (fun c_21 => ?_) (fun c_21 => ?_)
    · have i_21 : r_18.toInt = 0 := zi_eq.mp c_21
      have hf := zB_eq hw_18 c_21
      refine lv_aload_n hx hb dX6_bar_27 rfl (lv_at hl 0 rfl) ?_
      refine va_get (D := D) (ci := 6) (v := .ref oq) (C := RX6) (T := TX6) (N := 5) hx hb hts k_2 hown hK hP 0 rfl rfl 1 (by decide) k_1 (fun _ h9 => h9) rfl dX6_bar_28 ?_
      refine lv_lload_n hx hb dX6_bar_31 rfl (lv_at hl 1 rfl) ?_
      refine lv_lload_n hx hb dX6_bar_32 rfl (lv_at hl 2 rfl) ?_
      refine zMu_v (wr := [(oo, .inr (6, [.ref ob, .ref oq, .ref ov, .ref on, .ref ot])), (ov, .inr (3, [.ref ov1, .int (nI nv)])), (ov1, .inl (kv1, 512, .inr (.inl gv)))]) (va_runV (As := [.long p0, .long p1]) (rest := []) ⟨hx, hb, hml, hown, hts⟩ (cc_X0_add l D z H.size oq oq1 oq2 kq1 kq2 nq qf ql p0 p1 (by omega)) (cwV 2 hts gX6_bar_X0_add rfl rfl rfl (by decide +kernel) ⟨Nat.le_of_ble_eq_true rfl, Nat.le_of_ble_eq_true rfl⟩) ⟨zPre_blind, va_recv hK hP (ci := 1) (q0 := 1) rfl rfl, (zPre_mk (wc := [(oq, .inr (1, [.ref oq1, .ref oq2, .int (nI nq)])), (oq1, .inl (kq1, 50, .inr (.inl qf))), (oq2, .inl (kq2, 50, .inr (.inl ql)))]) (tc := [(kq1, .long), (kq2, .long)]) hP hK hD hC hS [1, 2, 3] (by decide) rfl rfl [0, 1] rfl (va_free (wc := [(oq, .inr (1, [.ref oq1, .ref oq2, .int (nI nq)])), (oq1, .inl (kq1, 50, .inr (.inl qf))), (oq2, .inl (kq2, 50, .inr (.inl ql)))]) hD hS hA [1, 2, 3] rfl))⟩ rfl rfl hl.1 rfl (lv_room (Nat.le_of_ble_eq_true rfl)) dX6_bar_33 ⟨Nat.zero_le _, Nat.zero_le _⟩) hS hA hP hD [1, 2, 3] [0, 4, 5] rfl rfl (by decide) (by decide) (fun u H locs hw hP hD hS => ?_)
      obtain ⟨nn_33, b1_33, b2_33⟩ := u
      have hw_33 : nn_33 = nq + 1 ∧ b1_33 = vp_updL qf nq p0 ∧ b2_33 = vp_updL ql nq p1 := hw
      have hP : va_P D vwCl [(oo, .inr (6, [.ref ob, .ref oq, .ref ov, .ref on, .ref ot])), (ov, .inr (3, [.ref ov1, .int (nI nv)])), (ov1, .inl (kv1, 512, .inr (.inl gv))), (oq, .inr (1, [.ref oq1, .ref oq2, .int (nI nn_33)])), (oq1, .inl (kq1, 50, .inr (.inl b1_33))), (oq2, .inl (kq2, 50, .inr (.inl b2_33)))] H := hP
      have hD : va_D A [(oo, .inr (6, [.ref ob, .ref oq, .ref ov, .ref on, .ref ot])), (ov, .inr (3, [.ref ov1, .int (nI nv)])), (ov1, .inl (kv1, 512, .inr (.inl gv))), (oq, .inr (1, [.ref oq1, .ref oq2, .int (nI nn_33)])), (oq1, .inl (kq1, 50, .inr (.inl b1_33))), (oq2, .inl (kq2, 50, .inr (.inl b2_33)))] := hD
      refine lv_aload_n hx hb dX6_bar_36 rfl (lv_at hl 0 rfl) ?_
      refine va_get (D := D) (ci := 6) (v := .ref ov) (C := RX6) (T := TX6) (N := 5) hx hb hts k_2 hown hK hP 0 rfl rfl 2 (by decide) k_3 (fun _ h9 => h9) rfl dX6_bar_37 ?_
      refine lv_lload_n hx hb dX6_bar_40 rfl (lv_at hl 1 rfl) ?_
      refine lv_lload_n hx hb dX6_bar_41 rfl (lv_at hl 2 rfl) ?_
      refine zMu_i (wr := [(oo, .inr (6, [.ref ob, .ref oq, .ref ov, .ref on, .ref ot])), (oq, .inr (1, [.ref oq1, .ref oq2, .int (nI nn_33)])), (oq1, .inl (kq1, 50, .inr (.inl b1_33))), (oq2, .inl (kq2, 50, .inr (.inl b2_33)))]) (va_runV (As := [.long p0, .long p1]) (rest := []) ⟨hx, hb, hml, hown, hts⟩ (cc_X3_removeRow l D z H.size ov ov1 kv1 nv gv p0 p1 (by omega)) (cwV 2 hts gX6_bar_X3_removeRow rfl rfl rfl (by decide +kernel) ⟨Nat.le_of_ble_eq_true rfl, Nat.le_of_ble_eq_true rfl⟩) ⟨zPre_blind, va_recv hK hP (ci := 3) (q0 := 1) rfl rfl, (zPre_mk (wc := [(ov, .inr (3, [.ref ov1, .int (nI nv)])), (ov1, .inl (kv1, 512, .inr (.inl gv)))]) (tc := [(kv1, .long)]) hP hK hD hC hS [1, 2] (by decide) rfl rfl [2] rfl (va_free (wc := [(ov, .inr (3, [.ref ov1, .int (nI nv)])), (ov1, .inl (kv1, 512, .inr (.inl gv)))]) hD hS hA [1, 2] rfl))⟩ rfl rfl hl.1 rfl (lv_room (Nat.le_of_ble_eq_true rfl)) dX6_bar_42 ⟨Nat.zero_le _, Nat.zero_le _⟩) hS hA hP hD [1, 2] [0, 3, 4, 5] rfl rfl (by decide) (by decide) (fun r_42 u H locs hw hP hD hS => ?_)
      obtain ⟨un_42, ug_42⟩ := u
      have hw_42 : zRow p0 p1 nv gv un_42 ug_42 ∧ r_42 = nI (nv - un_42) := hw
      have hP : va_P D vwCl [(oo, .inr (6, [.ref ob, .ref oq, .ref ov, .ref on, .ref ot])), (oq, .inr (1, [.ref oq1, .ref oq2, .int (nI nn_33)])), (oq1, .inl (kq1, 50, .inr (.inl b1_33))), (oq2, .inl (kq2, 50, .inr (.inl b2_33))), (ov, .inr (3, [.ref ov1, .int (nI un_42)])), (ov1, .inl (kv1, 512, .inr (.inl ug_42)))] H := hP
      have hD : va_D A [(oo, .inr (6, [.ref ob, .ref oq, .ref ov, .ref on, .ref ot])), (oq, .inr (1, [.ref oq1, .ref oq2, .int (nI nn_33)])), (oq1, .inl (kq1, 50, .inr (.inl b1_33))), (oq2, .inl (kq2, 50, .inr (.inl b2_33))), (ov, .inr (3, [.ref ov1, .int (nI un_42)])), (ov1, .inl (kv1, 512, .inr (.inl ug_42)))] := hD
      exact W.iret (v := r_42) hx hb hr (fun t9 ht9 hW9 => ⟨⟨_, (nn_33, b1_33, b2_33, un_42, ug_42), rfl, Or.inr (Or.inr ⟨zB_ne hw_5 c_8, by omega, hw_33, hw_42⟩), by rw [ht9]; exact hP, va_K.moved hW9.alike hK, hD⟩, hS.F ht9⟩) hS.2.2 dX6_bar_45
    · have i_21 : ¬ (r_18.toInt = 0) := fun q9 => c_21 (zi_eq.mpr q9)
      refine lv_bipush (v := -104) hx hb dX6_bar_24 (by decide) ?_
      exact W.iret (v := (-104)) hx hb hr (fun t9 ht9 hW9 => ⟨⟨_, (nq, qf, ql, nv, gv), rfl, Or.inr (Or.inl ⟨zB_ne hw_5 c_8, zB_ne hw_18 c_21, rfl, rfl, rfl, rfl, rfl, rfl⟩), by rw [ht9]; exact hP, va_K.moved hW9.alike hK, hD⟩, hS.F ht9⟩) hS.2.2 dX6_bar_26
  · have i_8 : r_5.toInt = 0 := zi_eq.mp c_8
    refine lv_bipush (v := -102) hx hb dX6_bar_11 (by decide) ?_
    exact W.iret (v := (-102)) hx hb hr (fun t9 ht9 hW9 => ⟨⟨_, (nq, qf, ql, nv, gv), rfl, Or.inl ⟨zB_eq hw_5 c_8, rfl, rfl, rfl, rfl, rfl, rfl⟩, by rw [ht9]; exact hP, va_K.moved hW9.alike hK, hD⟩, hS.F ht9⟩) hS.2.2 dX6_bar_13

set_option maxHeartbeats 4000000 in
set_option maxRecDepth 100000 in
theorem cc_X6_given (l : Launch) (D : va_G) (z : zG) (sz : Nat) (oo : Nat) (ob : Nat) (oq : Nat) (ov : Nat) (on : Nat) (ot : Nat) (ov1 : Nat) (kv1 : ClassId) (nv : Nat) (gv : Nat → Int64) (p0 : Int64) (hv9 : nv ≤ 512) : Met l yX6_given wsX6_given ({ frames := 1, cells := 0, slots := 0, locals := 23 }) (zPre D z [.ref oo, .long p0] sz [(oo, .inr (6, [.ref ob, .ref oq, .ref ov, .ref on, .ref ot])), (ov, .inr (3, [.ref ov1, .int (nI nv)])), (ov1, .inl (kv1, 512, .inr (.inl gv)))] [(kv1, .long)] (va_A [] sz)) (va_Qi (fun (r : Int32) (u : Unit) => zB r (∃ j, j < nv ∧ gv j = p0)) zT (va_A [] sz)) 0 0 (va_A [] sz) := by
  refine Met.ofW (cc := cX6_given) (maxL := 3) (ret := (some .boolean)) (by decide) rfl ?_
  intro p e s m args below meth c s₁ B hml hv
  obtain ⟨rfl, hsz, hP, hK, hD, hC⟩ := hv
  have hx := B.exec
  have hb := B.bytes
  have hr := B.returns
  have hts := atoms_spec (ws := wsX6_given) B.pre
  have hown : s.vm.findClass RX6 = some m.cls := findClass_of_methodNamed B.named
  have hlocks := B.notSynchronized
  subst hsz
  generalize hAe : va_A [] s.heap.size = A at hC ⊢
  have hA : ∀ q : Nat, s.heap.size ≤ q → A q := fun q h => by rw [← hAe]; exact Or.inr h
  have hS : va_S A s.heap s.heap [] := va_S.rf
  have hP : va_P D vwCl [(oo, .inr (6, [.ref ob, .ref oq, .ref ov, .ref on, .ref ot])), (ov, .inr (3, [.ref ov1, .int (nI nv)])), (ov1, .inl (kv1, 512, .inr (.inl gv)))] s.heap := hP
  have hl := lv_entry ([.ref oo, .long p0]) (n := 3) (Nat.le_of_ble_eq_true rfl)
  rw [lg_entry_eq]
  generalize (lg_sl ([.ref oo, .long p0]) ++ List.replicate (3 - (lg_sl ([.ref oo, .long p0])).length) Slot.unset).toArray = ls at hl ⊢
  have hl : lv_has ls 3 [(0, .ref oo), (1, .long p0)] := hl
  refine zNameH (D := D) (A := A) (ws := [(oo, .inr (6, [.ref ob, .ref oq, .ref ov, .ref on, .ref ot])), (ov, .inr (3, [.ref ov1, .int (nI nv)])), (ov1, .inl (kv1, 512, .inr (.inl gv)))]) (fun H locs hP hS => ?_) hP hS
  have k_0 := hts (.fieldLink RX6 26 "NumberRows2" "givenNumbers" "LNumberRows2$GivenNumbers;") (by decide +kernel)
  have k_1 : ∀ w ∈ wsX60, w ∈ wsX6_given := by decide +kernel
  refine lv_aload_n hx hb dX6_given_0 rfl (lv_at hl 0 rfl) ?_
  refine va_get (D := D) (ci := 6) (v := .ref ov) (C := RX6) (T := TX6) (N := 5) hx hb hts k_1 hown hK hP 0 rfl rfl 2 (by decide) k_0 (fun _ h9 => h9) rfl dX6_given_1 ?_
  refine lv_lload_n hx hb dX6_given_4 rfl (lv_at hl 1 rfl) ?_
  refine zRo_i (va_runV (As := [.long p0]) (rest := []) ⟨hx, hb, hml, hown, hts⟩ (cc_X3_contains l D z H.size ov ov1 kv1 nv gv p0 (by omega)) (cwV 1 hts gX6_given_X3_contains rfl rfl rfl (by decide +kernel) ⟨Nat.le_of_ble_eq_true rfl, Nat.le_of_ble_eq_true rfl⟩) ⟨zPre_blind, va_recv hK hP (ci := 3) (q0 := 1) rfl rfl, (zPre_mk (wc := [(ov, .inr (3, [.ref ov1, .int (nI nv)])), (ov1, .inl (kv1, 512, .inr (.inl gv)))]) (tc := [(kv1, .long)]) hP hK hD hC hS [1, 2] (by decide) rfl rfl [0] rfl (zro_free hS hA))⟩ rfl rfl hl.1 rfl (lv_room (Nat.le_of_ble_eq_true rfl)) dX6_given_5 ⟨Nat.zero_le _, Nat.zero_le _⟩) hS hA hP (fun r_5 H locs hw hP hS => ?_)
  have hw_5 : zB r_5 (∃ j, j < nv ∧ gv j = p0) := hw
  exact W.zret (v := r_5) hx hb hr (zB_nar hw_5) (fun t9 ht9 hW9 => ⟨⟨_, (), rfl, hw_5, trivial⟩, hS.F ht9⟩) hS.2.2 dX6_given_8

set_option maxHeartbeats 4000000 in
set_option maxRecDepth 100000 in
theorem cc_X6_old (l : Launch) (D : va_G) (z : zG) (sz : Nat) (oo : Nat) (p0 : Int64)  : Met l yX6_old wsX6_old ({ frames := 1, cells := 0, slots := 0, locals := 22 }) (zPre D z [.ref oo, .long p0] sz [] [] (va_A [] sz)) (va_Ql (fun (r : Int64) (u : Unit) => zOld p0 r) zT (va_A [] sz)) 0 0 (va_A [] sz) := by
  refine Met.ofW (cc := cX6_old) (maxL := 5) (ret := (some .long)) (by decide) rfl ?_
  intro p e s m args below meth c s₁ B hml hv
  obtain ⟨rfl, hsz, hP, hK, hD, hC⟩ := hv
  have hx := B.exec
  have hb := B.bytes
  have hr := B.returns
  have hts := atoms_spec (ws := wsX6_old) B.pre
  have hown : s.vm.findClass RX6 = some m.cls := findClass_of_methodNamed B.named
  have hlocks := B.notSynchronized
  subst hsz
  generalize hAe : va_A [] s.heap.size = A at hC ⊢
  have hA : ∀ q : Nat, s.heap.size ≤ q → A q := fun q h => by rw [← hAe]; exact Or.inr h
  have hS : va_S A s.heap s.heap [] := va_S.rf
  have hP : va_P D vwCl [] s.heap := hP
  have hl := lv_entry ([.ref oo, .long p0]) (n := 5) (Nat.le_of_ble_eq_true rfl)
  rw [lg_entry_eq]
  generalize (lg_sl ([.ref oo, .long p0]) ++ List.replicate (5 - (lg_sl ([.ref oo, .long p0])).length) Slot.unset).toArray = ls at hl ⊢
  have hl : lv_has ls 5 [(0, .ref oo), (1, .long p0)] := hl
  refine zNameH (D := D) (A := A) (ws := []) (fun H locs hP hS => ?_) hP hS
  have k_0 := hts (.constantLong RX6 48 (20000000000)) (by decide +kernel)
  have k_1 := hts (.constantLong RX6 69 (-102)) (by decide +kernel)
  have k_2 := hts (.constantLong RX6 131 (1000000000)) (by decide +kernel)
  have k_3 := hts (.constantLong RX6 129 (10000000000)) (by decide +kernel)
  refine lv_lload_n hx hb dX6_old_0 rfl (lv_at hl 1 rfl) ?_
  refine lv_lconst (v := 0) hx hb dX6_old_1 (by decide) ?_
  refine W.lcmp hx hb dX6_old_2 ?_
  refine lv_if_lt (tgt := 35) hx hb dX6_old_3 (by decide) (fun c_3 => ?_) (fun c_3 => ?_)
  · have c_3 : p0 < 0 := (lg_cmp_lt _ _).mp c_3
    have i_3 : p0.toInt < 0 := zl_lt.mp c_3
    refine lv_lload_n hx hb dX6_old_35 rfl (lv_at hl 1 rfl) ?_
    refine zRo_i (va_runS (As := [.long p0]) (rest := []) ⟨hx, hb, hml, hown, hts⟩ (cc_X6_isNumber l D z H.size p0 ) (va_cwS 1 hts gX6_old_X6_isNumber rfl rfl rfl (by decide +kernel) ⟨Nat.le_of_ble_eq_true rfl, Nat.le_of_ble_eq_true rfl⟩) ⟨zPre_blind, (zPre_mk (wc := []) (tc := []) hP hK hD hC hS [] (by decide) rfl rfl [] rfl (zro_free hS hA))⟩ rfl rfl hl.1 rfl (lv_room (Nat.le_of_ble_eq_true rfl)) dX6_old_36 ⟨Nat.zero_le _, Nat.zero_le _⟩) hS hA hP (fun r_36 H locs hw hP hS => ?_)
    have hw_36 : zB r_36 (27512614111 ≤ p0.toInt ∧ p0.toInt < 302638755221) := hw
    refine lv_if_ne (tgt := 46) hx hb dX6_old_39 (by decide) (fun c_39 => ?_) (fun c_39 => ?_)
    · have i_39 : ¬ (r_36.toInt = 0) := fun q9 => c_39 (zi_eq.mpr q9)
      refine lv_lload_n hx hb dX6_old_46 rfl (lv_at hl 1 rfl) ?_
      refine zRo_l (va_runS (As := [.long p0]) (rest := []) ⟨hx, hb, hml, hown, hts⟩ (cc_X6_serialOf l D z H.size p0 ) (va_cwS 1 hts gX6_old_X6_serialOf rfl rfl rfl (by decide +kernel) ⟨Nat.le_of_ble_eq_true rfl, Nat.le_of_ble_eq_true rfl⟩) ⟨zPre_blind, (zPre_mk (wc := []) (tc := []) hP hK hD hC hS [] (by decide) rfl rfl [] rfl (zro_free hS hA))⟩ rfl rfl hl.1 rfl (lv_room (Nat.le_of_ble_eq_true rfl)) dX6_old_47 ⟨Nat.zero_le _, Nat.zero_le _⟩) hS hA hP (fun r_47 H locs hw hP hS => ?_)
      have hw_47 : r_47 = zser p0 := hw
      refine lv_ldc2 hx hb hown k_0 dX6_old_50 ?_
      refine lv_lsub hx hb dX6_old_53 ?_
      refine lv_lstore_n (lv' := [(3, .long (r_47 - 20000000000)), (0, .ref oo), (1, .long p0)]) hx hb dX6_old_54 rfl hl (by decide) rfl (fun ls hl => ?_)
      refine lv_lload_n hx hb dX6_old_55 rfl (lv_at hl 0 rfl) ?_
      refine lv_lconst (v := 0) hx hb dX6_old_56 (by decide) ?_
      refine W.lcmp hx hb dX6_old_57 ?_
      refine lv_if_lt (tgt := 69) hx hb dX6_old_58 (by decide) (fun c_58 => ?_) (fun c_58 => ?_)
      · have c_58 : (r_47 - 20000000000) < 0 := (lg_cmp_lt _ _).mp c_58
        have i_58 : (r_47 - 20000000000).toInt < 0 := zl_lt.mp c_58
        refine lv_ldc2 hx hb hown k_1 dX6_old_69 ?_
        exact W.lret (v := (-102)) hx hb hr (fun t9 ht9 hW9 => ⟨⟨_, (), rfl, Or.inr (Or.inl ⟨by omega, fun q => by rw [hw_47] at *; omega, rfl⟩), trivial⟩, hS.F ht9⟩) hS.2.2 dX6_old_72
      · have c_58 : ¬ ((r_47 - 20000000000) < 0) := fun q9 => c_58 ((lg_cmp_lt _ _).mpr q9)
        have i_58 : ¬ ((r_47 - 20000000000).toInt < 0) := fun q9 => c_58 (zl_lt.mpr q9)
        refine lv_lload_n hx hb dX6_old_61 rfl (lv_at hl 0 rfl) ?_
        refine lv_ldc2 hx hb hown k_2 dX6_old_62 ?_
        refine W.lcmp hx hb dX6_old_65 ?_
        refine lv_if_lt (tgt := 73) hx hb dX6_old_66 (by decide) (fun c_66 => ?_) (fun c_66 => ?_)
        · have c_66 : (r_47 - 20000000000) < 1000000000 := (lg_cmp_lt _ _).mp c_66
          have i_66 : (r_47 - 20000000000).toInt < 1000000000 := zl_lt.mp c_66
          refine lv_lload_n hx hb dX6_old_73 rfl (lv_at hl 2 rfl) ?_
          refine zRo_l (va_runS (As := [.long p0]) (rest := []) ⟨hx, hb, hml, hown, hts⟩ (cc_X6_serviceOf l D z H.size p0 ) (va_cwS 1 hts gX6_old_X6_serviceOf rfl rfl rfl (by decide +kernel) ⟨Nat.le_of_ble_eq_true rfl, Nat.le_of_ble_eq_true rfl⟩) ⟨zPre_blind, (zPre_mk (wc := []) (tc := []) hP hK hD hC hS [] (by decide) rfl rfl [] rfl (zro_free hS hA))⟩ rfl rfl hl.1 rfl (lv_room (Nat.le_of_ble_eq_true rfl)) dX6_old_74 ⟨Nat.zero_le _, Nat.zero_le _⟩) hS hA hP (fun r_74 H locs hw hP hS => ?_)
          have hw_74 : r_74 = zsvc p0 := hw
          refine lv_ldc2 hx hb hown k_2 dX6_old_77 ?_
          refine lv_lmul hx hb dX6_old_80 ?_
          refine lv_lload_n hx hb dX6_old_81 rfl (lv_at hl 0 rfl) ?_
          refine lv_ladd hx hb dX6_old_82 ?_
          exact W.lret (v := ((r_74 * 1000000000) + (r_47 - 20000000000))) hx hb hr (fun t9 ht9 hW9 => ⟨⟨_, (), rfl, by rw [hw_47] at *; exact Or.inr (Or.inr ⟨by omega, ⟨zB_ne hw_36 c_39, by omega, by omega⟩, by rw [hw_74]⟩), trivial⟩, hS.F ht9⟩) hS.2.2 dX6_old_83
        · have c_66 : ¬ ((r_47 - 20000000000) < 1000000000) := fun q9 => c_66 ((lg_cmp_lt _ _).mpr q9)
          have i_66 : ¬ ((r_47 - 20000000000).toInt < 1000000000) := fun q9 => c_66 (zl_lt.mpr q9)
          refine lv_ldc2 hx hb hown k_1 dX6_old_69 ?_
          exact W.lret (v := (-102)) hx hb hr (fun t9 ht9 hW9 => ⟨⟨_, (), rfl, Or.inr (Or.inl ⟨by omega, fun q => by rw [hw_47] at *; omega, rfl⟩), trivial⟩, hS.F ht9⟩) hS.2.2 dX6_old_72
    · have i_39 : r_36.toInt = 0 := zi_eq.mp c_39
      refine lv_ldc2 hx hb hown k_1 dX6_old_42 ?_
      exact W.lret (v := (-102)) hx hb hr (fun t9 ht9 hW9 => ⟨⟨_, (), rfl, Or.inr (Or.inl ⟨by omega, fun q => zB_eq hw_36 c_39 q.1, rfl⟩), trivial⟩, hS.F ht9⟩) hS.2.2 dX6_old_45
  · have c_3 : ¬ (p0 < 0) := fun q9 => c_3 ((lg_cmp_lt _ _).mpr q9)
    have i_3 : ¬ (p0.toInt < 0) := fun q9 => c_3 (zl_lt.mpr q9)
    refine lv_lload_n hx hb dX6_old_6 rfl (lv_at hl 1 rfl) ?_
    refine lv_ldc2 hx hb hown k_3 dX6_old_7 ?_
    refine W.lcmp hx hb dX6_old_10 ?_
    refine lv_if_ge (tgt := 35) hx hb dX6_old_11 (by decide) (fun c_11 => ?_) (fun c_11 => ?_)
    · have c_11 : 10000000000 ≤ p0 := (lg_cmp_ge _ _).mp c_11
      have i_11 : 10000000000 ≤ p0.toInt := zl_le.mp c_11
      refine lv_lload_n hx hb dX6_old_35 rfl (lv_at hl 1 rfl) ?_
      refine zRo_i (va_runS (As := [.long p0]) (rest := []) ⟨hx, hb, hml, hown, hts⟩ (cc_X6_isNumber l D z H.size p0 ) (va_cwS 1 hts gX6_old_X6_isNumber rfl rfl rfl (by decide +kernel) ⟨Nat.le_of_ble_eq_true rfl, Nat.le_of_ble_eq_true rfl⟩) ⟨zPre_blind, (zPre_mk (wc := []) (tc := []) hP hK hD hC hS [] (by decide) rfl rfl [] rfl (zro_free hS hA))⟩ rfl rfl hl.1 rfl (lv_room (Nat.le_of_ble_eq_true rfl)) dX6_old_36 ⟨Nat.zero_le _, Nat.zero_le _⟩) hS hA hP (fun r_36 H locs hw hP hS => ?_)
      have hw_36 : zB r_36 (27512614111 ≤ p0.toInt ∧ p0.toInt < 302638755221) := hw
      refine lv_if_ne (tgt := 46) hx hb dX6_old_39 (by decide) (fun c_39 => ?_) (fun c_39 => ?_)
      · have i_39 : ¬ (r_36.toInt = 0) := fun q9 => c_39 (zi_eq.mpr q9)
        refine lv_lload_n hx hb dX6_old_46 rfl (lv_at hl 1 rfl) ?_
        refine zRo_l (va_runS (As := [.long p0]) (rest := []) ⟨hx, hb, hml, hown, hts⟩ (cc_X6_serialOf l D z H.size p0 ) (va_cwS 1 hts gX6_old_X6_serialOf rfl rfl rfl (by decide +kernel) ⟨Nat.le_of_ble_eq_true rfl, Nat.le_of_ble_eq_true rfl⟩) ⟨zPre_blind, (zPre_mk (wc := []) (tc := []) hP hK hD hC hS [] (by decide) rfl rfl [] rfl (zro_free hS hA))⟩ rfl rfl hl.1 rfl (lv_room (Nat.le_of_ble_eq_true rfl)) dX6_old_47 ⟨Nat.zero_le _, Nat.zero_le _⟩) hS hA hP (fun r_47 H locs hw hP hS => ?_)
        have hw_47 : r_47 = zser p0 := hw
        refine lv_ldc2 hx hb hown k_0 dX6_old_50 ?_
        refine lv_lsub hx hb dX6_old_53 ?_
        refine lv_lstore_n (lv' := [(3, .long (r_47 - 20000000000)), (0, .ref oo), (1, .long p0)]) hx hb dX6_old_54 rfl hl (by decide) rfl (fun ls hl => ?_)
        refine lv_lload_n hx hb dX6_old_55 rfl (lv_at hl 0 rfl) ?_
        refine lv_lconst (v := 0) hx hb dX6_old_56 (by decide) ?_
        refine W.lcmp hx hb dX6_old_57 ?_
        refine lv_if_lt (tgt := 69) hx hb dX6_old_58 (by decide) (fun c_58 => ?_) (fun c_58 => ?_)
        · have c_58 : (r_47 - 20000000000) < 0 := (lg_cmp_lt _ _).mp c_58
          have i_58 : (r_47 - 20000000000).toInt < 0 := zl_lt.mp c_58
          refine lv_ldc2 hx hb hown k_1 dX6_old_69 ?_
          exact W.lret (v := (-102)) hx hb hr (fun t9 ht9 hW9 => ⟨⟨_, (), rfl, Or.inr (Or.inl ⟨by omega, fun q => by rw [hw_47] at *; omega, rfl⟩), trivial⟩, hS.F ht9⟩) hS.2.2 dX6_old_72
        · have c_58 : ¬ ((r_47 - 20000000000) < 0) := fun q9 => c_58 ((lg_cmp_lt _ _).mpr q9)
          have i_58 : ¬ ((r_47 - 20000000000).toInt < 0) := fun q9 => c_58 (zl_lt.mpr q9)
          refine lv_lload_n hx hb dX6_old_61 rfl (lv_at hl 0 rfl) ?_
          refine lv_ldc2 hx hb hown k_2 dX6_old_62 ?_
          refine W.lcmp hx hb dX6_old_65 ?_
          refine lv_if_lt (tgt := 73) hx hb dX6_old_66 (by decide) (fun c_66 => ?_) (fun c_66 => ?_)
          · have c_66 : (r_47 - 20000000000) < 1000000000 := (lg_cmp_lt _ _).mp c_66
            have i_66 : (r_47 - 20000000000).toInt < 1000000000 := zl_lt.mp c_66
            refine lv_lload_n hx hb dX6_old_73 rfl (lv_at hl 2 rfl) ?_
            refine zRo_l (va_runS (As := [.long p0]) (rest := []) ⟨hx, hb, hml, hown, hts⟩ (cc_X6_serviceOf l D z H.size p0 ) (va_cwS 1 hts gX6_old_X6_serviceOf rfl rfl rfl (by decide +kernel) ⟨Nat.le_of_ble_eq_true rfl, Nat.le_of_ble_eq_true rfl⟩) ⟨zPre_blind, (zPre_mk (wc := []) (tc := []) hP hK hD hC hS [] (by decide) rfl rfl [] rfl (zro_free hS hA))⟩ rfl rfl hl.1 rfl (lv_room (Nat.le_of_ble_eq_true rfl)) dX6_old_74 ⟨Nat.zero_le _, Nat.zero_le _⟩) hS hA hP (fun r_74 H locs hw hP hS => ?_)
            have hw_74 : r_74 = zsvc p0 := hw
            refine lv_ldc2 hx hb hown k_2 dX6_old_77 ?_
            refine lv_lmul hx hb dX6_old_80 ?_
            refine lv_lload_n hx hb dX6_old_81 rfl (lv_at hl 0 rfl) ?_
            refine lv_ladd hx hb dX6_old_82 ?_
            exact W.lret (v := ((r_74 * 1000000000) + (r_47 - 20000000000))) hx hb hr (fun t9 ht9 hW9 => ⟨⟨_, (), rfl, by rw [hw_47] at *; exact Or.inr (Or.inr ⟨by omega, ⟨zB_ne hw_36 c_39, by omega, by omega⟩, by rw [hw_74]⟩), trivial⟩, hS.F ht9⟩) hS.2.2 dX6_old_83
          · have c_66 : ¬ ((r_47 - 20000000000) < 1000000000) := fun q9 => c_66 ((lg_cmp_lt _ _).mpr q9)
            have i_66 : ¬ ((r_47 - 20000000000).toInt < 1000000000) := fun q9 => c_66 (zl_lt.mpr q9)
            refine lv_ldc2 hx hb hown k_1 dX6_old_69 ?_
            exact W.lret (v := (-102)) hx hb hr (fun t9 ht9 hW9 => ⟨⟨_, (), rfl, Or.inr (Or.inl ⟨by omega, fun q => by rw [hw_47] at *; omega, rfl⟩), trivial⟩, hS.F ht9⟩) hS.2.2 dX6_old_72
      · have i_39 : r_36.toInt = 0 := zi_eq.mp c_39
        refine lv_ldc2 hx hb hown k_1 dX6_old_42 ?_
        exact W.lret (v := (-102)) hx hb hr (fun t9 ht9 hW9 => ⟨⟨_, (), rfl, Or.inr (Or.inl ⟨by omega, fun q => zB_eq hw_36 c_39 q.1, rfl⟩), trivial⟩, hS.F ht9⟩) hS.2.2 dX6_old_45
    · have c_11 : ¬ (10000000000 ≤ p0) := fun q9 => c_11 ((lg_cmp_ge _ _).mpr q9)
      have i_11 : ¬ (10000000000 ≤ p0.toInt) := fun q9 => c_11 (zl_le.mpr q9)
      refine lv_lload_n hx hb dX6_old_14 rfl (lv_at hl 1 rfl) ?_
      refine lv_ldc2 hx hb hown k_2 dX6_old_15 ?_
      refine lv_ldiv hx hb dX6_old_18 (by decide) ?_
      refine lv_l2i (v := (p0 / 1000000000).toInt32) hx hb dX6_old_19 rfl ?_
      refine lv_istore_n (lv' := [(3, .int ((p0 / 1000000000).toInt32)), (0, .ref oo), (1, .long p0)]) hx hb dX6_old_20 rfl hl (by decide) rfl (fun ls hl => ?_)
      refine lv_iload_n hx hb dX6_old_21 rfl (lv_at hl 0 rfl) ?_
      refine lv_ldc2 hx hb hown k_0 dX6_old_22 ?_
      refine lv_lload_n hx hb dX6_old_25 rfl (lv_at hl 2 rfl) ?_
      refine lv_ldc2 hx hb hown k_2 dX6_old_26 ?_
      refine lv_lrem hx hb dX6_old_29 (by decide) ?_
      refine lv_ladd hx hb dX6_old_30 ?_
      refine zRo_l (va_runS (As := [.int ((p0 / 1000000000).toInt32), .long (20000000000 + (p0 - p0 / 1000000000 * 1000000000))]) (rest := []) ⟨hx, hb, hml, hown, hts⟩ (cc_X6_numberOf l D z H.size ((p0 / 1000000000).toInt32) (20000000000 + (p0 - p0 / 1000000000 * 1000000000)) ) (va_cwS 2 hts gX6_old_X6_numberOf rfl rfl rfl (by decide +kernel) ⟨Nat.le_of_ble_eq_true rfl, Nat.le_of_ble_eq_true rfl⟩) ⟨zPre_blind, (zPre_mk (wc := []) (tc := []) hP hK hD hC hS [] (by decide) rfl rfl [] rfl (zro_free hS hA))⟩ rfl rfl hl.1 rfl (lv_room (Nat.le_of_ble_eq_true rfl)) dX6_old_31 ⟨Nat.zero_le _, Nat.zero_le _⟩) hS hA hP (fun r_31 H locs hw hP hS => ?_)
      have hw_31 : r_31 = znum ((p0 / 1000000000).toInt32) (20000000000 + (p0 - p0 / 1000000000 * 1000000000)) := hw
      exact W.lret (v := r_31) hx hb hr (fun t9 ht9 hW9 => ⟨⟨_, (), rfl, Or.inl ⟨by omega, hw_31⟩, trivial⟩, hS.F ht9⟩) hS.2.2 dX6_old_34

set_option maxHeartbeats 4000000 in
set_option maxRecDepth 100000 in
theorem cc_X6_named (l : Launch) (D : va_G) (z : zG) (sz : Nat) (oo : Nat) (ob : Nat) (oq : Nat) (ov : Nat) (on : Nat) (ot : Nat) (on1 : Nat) (on2 : Nat) (on3 : Nat) (kn1 : ClassId) (kn2 : ClassId) (kn3 : ClassId) (nn : Nat) (sd : Nat → Int32) (rf : Nat → Int64) (nm : Nat → Int64) (p0 : Int32) (p1 : Int64) (hn : nn ≤ 300) : Met l yX6_named wsX6_named ({ frames := 1, cells := 0, slots := 0, locals := 24 }) (zPre D z [.ref oo, .int p0, .long p1] sz [(oo, .inr (6, [.ref ob, .ref oq, .ref ov, .ref on, .ref ot])), (on, .inr (4, [.ref on1, .ref on2, .ref on3, .int (nI nn)])), (on1, .inl (kn1, 300, .inl sd)), (on2, .inl (kn2, 300, .inr (.inl rf))), (on3, .inl (kn3, 300, .inr (.inl nm)))] [(kn1, .int), (kn2, .long), (kn3, .long)] (va_A [] sz)) (va_Ql (fun (r : Int64) (u : Unit) => zFnd nn sd rf nm p0 p1 r) zT (va_A [] sz)) 0 0 (va_A [] sz) := by
  refine Met.ofW (cc := cX6_named) (maxL := 4) (ret := (some .long)) (by decide) rfl ?_
  intro p e s m args below meth c s₁ B hml hv
  obtain ⟨rfl, hsz, hP, hK, hD, hC⟩ := hv
  have hx := B.exec
  have hb := B.bytes
  have hr := B.returns
  have hts := atoms_spec (ws := wsX6_named) B.pre
  have hown : s.vm.findClass RX6 = some m.cls := findClass_of_methodNamed B.named
  have hlocks := B.notSynchronized
  subst hsz
  generalize hAe : va_A [] s.heap.size = A at hC ⊢
  have hA : ∀ q : Nat, s.heap.size ≤ q → A q := fun q h => by rw [← hAe]; exact Or.inr h
  have hS : va_S A s.heap s.heap [] := va_S.rf
  have hP : va_P D vwCl [(oo, .inr (6, [.ref ob, .ref oq, .ref ov, .ref on, .ref ot])), (on, .inr (4, [.ref on1, .ref on2, .ref on3, .int (nI nn)])), (on1, .inl (kn1, 300, .inl sd)), (on2, .inl (kn2, 300, .inr (.inl rf))), (on3, .inl (kn3, 300, .inr (.inl nm)))] s.heap := hP
  have hl := lv_entry ([.ref oo, .int p0, .long p1]) (n := 4) (Nat.le_of_ble_eq_true rfl)
  rw [lg_entry_eq]
  generalize (lg_sl ([.ref oo, .int p0, .long p1]) ++ List.replicate (4 - (lg_sl ([.ref oo, .int p0, .long p1])).length) Slot.unset).toArray = ls at hl ⊢
  have hl : lv_has ls 4 [(0, .ref oo), (1, .int p0), (2, .long p1)] := hl
  refine zNameH (D := D) (A := A) (ws := [(oo, .inr (6, [.ref ob, .ref oq, .ref ov, .ref on, .ref ot])), (on, .inr (4, [.ref on1, .ref on2, .ref on3, .int (nI nn)])), (on1, .inl (kn1, 300, .inl sd)), (on2, .inl (kn2, 300, .inr (.inl rf))), (on3, .inl (kn3, 300, .inr (.inl nm)))]) (fun H locs hP hS => ?_) hP hS
  have k_0 := hts (.fieldLink RX6 33 "NumberRows2" "names" "LNumberRows2$Names;") (by decide +kernel)
  have k_1 : ∀ w ∈ wsX60, w ∈ wsX6_named := by decide +kernel
  refine lv_aload_n hx hb dX6_named_0 rfl (lv_at hl 0 rfl) ?_
  refine va_get (D := D) (ci := 6) (v := .ref on) (C := RX6) (T := TX6) (N := 5) hx hb hts k_1 hown hK hP 0 rfl rfl 3 (by decide) k_0 (fun _ h9 => h9) rfl dX6_named_1 ?_
  refine lv_iload_n hx hb dX6_named_4 rfl (lv_at hl 1 rfl) ?_
  refine lv_lload_n hx hb dX6_named_5 rfl (lv_at hl 2 rfl) ?_
  refine zRo_l (va_runV (As := [.int p0, .long p1]) (rest := []) ⟨hx, hb, hml, hown, hts⟩ (cc_X4_numberOfReference l D z H.size on on1 on2 on3 kn1 kn2 kn3 nn sd rf nm p0 p1 (by omega)) (cwV 2 hts gX6_named_X4_numberOfReference rfl rfl rfl (by decide +kernel) ⟨Nat.le_of_ble_eq_true rfl, Nat.le_of_ble_eq_true rfl⟩) ⟨zPre_blind, va_recv hK hP (ci := 4) (q0 := 1) rfl rfl, (zPre_mk (wc := [(on, .inr (4, [.ref on1, .ref on2, .ref on3, .int (nI nn)])), (on1, .inl (kn1, 300, .inl sd)), (on2, .inl (kn2, 300, .inr (.inl rf))), (on3, .inl (kn3, 300, .inr (.inl nm)))]) (tc := [(kn1, .int), (kn2, .long), (kn3, .long)]) hP hK hD hC hS [1, 2, 3, 4] (by decide) rfl rfl [0, 1, 2] rfl (zro_free hS hA))⟩ rfl rfl hl.1 rfl (lv_room (Nat.le_of_ble_eq_true rfl)) dX6_named_6 ⟨Nat.zero_le _, Nat.zero_le _⟩) hS hA hP (fun r_6 H locs hw hP hS => ?_)
  have hw_6 : (∃ j, j < nn ∧ sd j = p0 ∧ rf j = p1 ∧ r_6 = nm j) ∨ ((∀ j, j < nn → ¬ (sd j = p0 ∧ rf j = p1)) ∧ r_6 = -101) := hw
  exact W.lret (v := r_6) hx hb hr (fun t9 ht9 hW9 => ⟨⟨_, (), rfl, hw_6, trivial⟩, hS.F ht9⟩) hS.2.2 dX6_named_9

theorem zRpl_t {n : Nat} {sd : Nat → Int32} {rf nm ur : Nat → Int64} {p0 r : Int32} {p1 p2 : Int64} (h : (∃ j, j < n ∧ sd j = p0 ∧ nm j = p2 ∧ ur = vp_updL rf j p1 ∧ r = 1) ∨ ((∀ j, j < n → ¬ (sd j = p0 ∧ nm j = p2)) ∧ ur = rf ∧ r = 0)) (h0 : ¬ r = 0) : ∃ j, j < n ∧ sd j = p0 ∧ nm j = p2 ∧ ur = vp_updL rf j p1 := by
  rcases h with ⟨j, h1, h2, h3, h4, -⟩ | ⟨-, -, h⟩
  · exact ⟨j, h1, h2, h3, h4⟩
  · exact absurd h h0
theorem zRpl_f {n : Nat} {sd : Nat → Int32} {rf nm ur : Nat → Int64} {p0 r : Int32} {p1 p2 : Int64} (h : (∃ j, j < n ∧ sd j = p0 ∧ nm j = p2 ∧ ur = vp_updL rf j p1 ∧ r = 1) ∨ ((∀ j, j < n → ¬ (sd j = p0 ∧ nm j = p2)) ∧ ur = rf ∧ r = 0)) (h0 : r = 0) : (∀ j, j < n → ¬ (sd j = p0 ∧ nm j = p2)) ∧ ur = rf := by
  rcases h with ⟨j, -, -, -, -, h⟩ | ⟨h1, h2, -⟩
  · rw [h] at h0; exact absurd h0 (by decide)
  · exact ⟨h1, h2⟩

set_option maxHeartbeats 4000000 in
set_option maxRecDepth 100000 in
theorem cc_X6_map (l : Launch) (D : va_G) (z : zG) (sz : Nat) (oo : Nat) (ob : Nat) (oq : Nat) (ov : Nat) (on : Nat) (ot : Nat) (ov1 : Nat) (kv1 : ClassId) (nv : Nat) (gv : Nat → Int64) (on1 : Nat) (on2 : Nat) (on3 : Nat) (kn1 : ClassId) (kn2 : ClassId) (kn3 : ClassId) (nn : Nat) (sd : Nat → Int32) (rf : Nat → Int64) (nm : Nat → Int64) (p0 : Int32) (p1 : Int64) (p2 : Int64) (hv9 : nv ≤ 512) (hn : nn ≤ 300) : Met l yX6_map wsX6_map ({ frames := 1, cells := 0, slots := 0, locals := 26 }) (zPre D z [.ref oo, .int p0, .long p1, .long p2] sz [(oo, .inr (6, [.ref ob, .ref oq, .ref ov, .ref on, .ref ot])), (ov, .inr (3, [.ref ov1, .int (nI nv)])), (ov1, .inl (kv1, 512, .inr (.inl gv))), (on, .inr (4, [.ref on1, .ref on2, .ref on3, .int (nI nn)])), (on1, .inl (kn1, 300, .inl sd)), (on2, .inl (kn2, 300, .inr (.inl rf))), (on3, .inl (kn3, 300, .inr (.inl nm)))] [(kv1, .long), (kn1, .int), (kn2, .long), (kn3, .long)] (va_A [(oo, .inr (6, [.ref ob, .ref oq, .ref ov, .ref on, .ref ot])), (ov, .inr (3, [.ref ov1, .int (nI nv)])), (ov1, .inl (kv1, 512, .inr (.inl gv))), (on, .inr (4, [.ref on1, .ref on2, .ref on3, .int (nI nn)])), (on1, .inl (kn1, 300, .inl sd)), (on2, .inl (kn2, 300, .inr (.inl rf))), (on3, .inl (kn3, 300, .inr (.inl nm)))] sz)) (va_Qi (fun (r : Int32) (u : Nat × (Nat → Int32) × (Nat → Int64) × (Nat → Int64)) => (¬ (∃ j, j < nv ∧ gv j = p2) ∧ r = -101 ∧ u.1 = nn ∧ u.2.1 = sd ∧ u.2.2.1 = rf ∧ u.2.2.2 = nm) ∨ ((∃ j, j < nv ∧ gv j = p2) ∧ ((¬ (0 ≤ p0.toInt ∧ p0.toInt < 100 ∧ 0 ≤ p1.toInt) ∧ r = -102 ∧ u.1 = nn ∧ u.2.1 = sd ∧ u.2.2.1 = rf ∧ u.2.2.2 = nm) ∨ ((0 ≤ p0.toInt ∧ p0.toInt < 100 ∧ 0 ≤ p1.toInt) ∧ ∃ x, zFnd nn sd rf nm p0 p1 x ∧ ((x = p2 ∧ r = 0 ∧ u.1 = nn ∧ u.2.1 = sd ∧ u.2.2.1 = rf ∧ u.2.2.2 = nm) ∨ (¬ x = p2 ∧ ¬ x = -101 ∧ r = -103 ∧ u.1 = nn ∧ u.2.1 = sd ∧ u.2.2.1 = rf ∧ u.2.2.2 = nm) ∨ (¬ x = p2 ∧ x = -101 ∧ (∃ j, j < nn ∧ sd j = p0 ∧ nm j = p2 ∧ u.2.2.1 = vp_updL rf j p1) ∧ r = 2 ∧ u.1 = nn ∧ u.2.1 = sd ∧ u.2.2.2 = nm) ∨ (¬ x = p2 ∧ x = -101 ∧ (∀ j, j < nn → ¬ (sd j = p0 ∧ nm j = p2)) ∧ ((300 ≤ nn ∧ r = -104 ∧ u.1 = nn ∧ u.2.1 = sd ∧ u.2.2.1 = rf ∧ u.2.2.2 = nm) ∨ (nn < 300 ∧ r = 1 ∧ u.1 = nn + 1 ∧ u.2.1 = upd sd nn p0 ∧ u.2.2.1 = vp_updL rf nn p1 ∧ u.2.2.2 = vp_updL nm nn p2)))))))) (zAt D [(kv1, .long), (kn1, .int), (kn2, .long), (kn3, .long)] (va_A [(oo, .inr (6, [.ref ob, .ref oq, .ref ov, .ref on, .ref ot])), (ov, .inr (3, [.ref ov1, .int (nI nv)])), (ov1, .inl (kv1, 512, .inr (.inl gv))), (on, .inr (4, [.ref on1, .ref on2, .ref on3, .int (nI nn)])), (on1, .inl (kn1, 300, .inl sd)), (on2, .inl (kn2, 300, .inr (.inl rf))), (on3, .inl (kn3, 300, .inr (.inl nm)))] sz) (fun u : Nat × (Nat → Int32) × (Nat → Int64) × (Nat → Int64) => [(oo, .inr (6, [.ref ob, .ref oq, .ref ov, .ref on, .ref ot])), (ov, .inr (3, [.ref ov1, .int (nI nv)])), (ov1, .inl (kv1, 512, .inr (.inl gv))), (on, .inr (4, [.ref on1, .ref on2, .ref on3, .int (nI u.1)])), (on1, .inl (kn1, 300, .inl u.2.1)), (on2, .inl (kn2, 300, .inr (.inl u.2.2.1))), (on3, .inl (kn3, 300, .inr (.inl u.2.2.2)))])) (va_A [(oo, .inr (6, [.ref ob, .ref oq, .ref ov, .ref on, .ref ot])), (ov, .inr (3, [.ref ov1, .int (nI nv)])), (ov1, .inl (kv1, 512, .inr (.inl gv))), (on, .inr (4, [.ref on1, .ref on2, .ref on3, .int (nI nn)])), (on1, .inl (kn1, 300, .inl sd)), (on2, .inl (kn2, 300, .inr (.inl rf))), (on3, .inl (kn3, 300, .inr (.inl nm)))] sz)) 0 0 (va_A [(oo, .inr (6, [.ref ob, .ref oq, .ref ov, .ref on, .ref ot])), (ov, .inr (3, [.ref ov1, .int (nI nv)])), (ov1, .inl (kv1, 512, .inr (.inl gv))), (on, .inr (4, [.ref on1, .ref on2, .ref on3, .int (nI nn)])), (on1, .inl (kn1, 300, .inl sd)), (on2, .inl (kn2, 300, .inr (.inl rf))), (on3, .inl (kn3, 300, .inr (.inl nm)))] sz) := by
  refine Met.ofW (cc := cX6_map) (maxL := 8) (ret := (some .int)) (by decide) rfl ?_
  intro p e s m args below meth c s₁ B hml hv
  obtain ⟨rfl, hsz, hP, hK, hD, hC⟩ := hv
  have hx := B.exec
  have hb := B.bytes
  have hr := B.returns
  have hts := atoms_spec (ws := wsX6_map) B.pre
  have hown : s.vm.findClass RX6 = some m.cls := findClass_of_methodNamed B.named
  have hlocks := B.notSynchronized
  subst hsz
  have hD := hD.self (sz := s.heap.size)
  generalize hAe : va_A [(oo, .inr (6, [.ref ob, .ref oq, .ref ov, .ref on, .ref ot])), (ov, .inr (3, [.ref ov1, .int (nI nv)])), (ov1, .inl (kv1, 512, .inr (.inl gv))), (on, .inr (4, [.ref on1, .ref on2, .ref on3, .int (nI nn)])), (on1, .inl (kn1, 300, .inl sd)), (on2, .inl (kn2, 300, .inr (.inl rf))), (on3, .inl (kn3, 300, .inr (.inl nm)))] s.heap.size = A at hC hD ⊢
  have hA : ∀ q : Nat, s.heap.size ≤ q → A q := fun q h => by rw [← hAe]; exact Or.inr h
  have hS : va_S A s.heap s.heap [] := va_S.rf
  have hP : va_P D vwCl [(oo, .inr (6, [.ref ob, .ref oq, .ref ov, .ref on, .ref ot])), (ov, .inr (3, [.ref ov1, .int (nI nv)])), (ov1, .inl (kv1, 512, .inr (.inl gv))), (on, .inr (4, [.ref on1, .ref on2, .ref on3, .int (nI nn)])), (on1, .inl (kn1, 300, .inl sd)), (on2, .inl (kn2, 300, .inr (.inl rf))), (on3, .inl (kn3, 300, .inr (.inl nm)))] s.heap := hP
  have hl := lv_entry ([.ref oo, .int p0, .long p1, .long p2]) (n := 8) (Nat.le_of_ble_eq_true rfl)
  rw [lg_entry_eq]
  generalize (lg_sl ([.ref oo, .int p0, .long p1, .long p2]) ++ List.replicate (8 - (lg_sl ([.ref oo, .int p0, .long p1, .long p2])).length) Slot.unset).toArray = ls at hl ⊢
  have hl : lv_has ls 8 [(0, .ref oo), (1, .int p0), (2, .long p1), (4, .long p2)] := hl
  refine zNameH (D := D) (A := A) (ws := [(oo, .inr (6, [.ref ob, .ref oq, .ref ov, .ref on, .ref ot])), (ov, .inr (3, [.ref ov1, .int (nI nv)])), (ov1, .inl (kv1, 512, .inr (.inl gv))), (on, .inr (4, [.ref on1, .ref on2, .ref on3, .int (nI nn)])), (on1, .inl (kn1, 300, .inl sd)), (on2, .inl (kn2, 300, .inr (.inl rf))), (on3, .inl (kn3, 300, .inr (.inl nm)))]) (fun H locs hP hS => ?_) hP hS
  have k_0 := hts (.fieldLink RX6 26 "NumberRows2" "givenNumbers" "LNumberRows2$GivenNumbers;") (by decide +kernel)
  have k_1 : ∀ w ∈ wsX60, w ∈ wsX6_map := by decide +kernel
  have k_2 := hts (.fieldLink RX6 33 "NumberRows2" "names" "LNumberRows2$Names;") (by decide +kernel)
  have k_3 := hts (.constantLong RX6 143 (-101)) (by decide +kernel)
  refine lv_aload_n hx hb dX6_map_0 rfl (lv_at hl 0 rfl) ?_
  refine va_get (D := D) (ci := 6) (v := .ref ov) (C := RX6) (T := TX6) (N := 5) hx hb hts k_1 hown hK hP 0 rfl rfl 2 (by decide) k_0 (fun _ h9 => h9) rfl dX6_map_1 ?_
  refine lv_lload hx hb dX6_map_4 (lv_at hl 3 rfl) ?_
  refine zRo_i (va_runV (As := [.long p2]) (rest := []) ⟨hx, hb, hml, hown, hts⟩ (cc_X3_contains l D z H.size ov ov1 kv1 nv gv p2 (by omega)) (cwV 1 hts gX6_map_X3_contains rfl rfl rfl (by decide +kernel) ⟨Nat.le_of_ble_eq_true rfl, Nat.le_of_ble_eq_true rfl⟩) ⟨zPre_blind, va_recv hK hP (ci := 3) (q0 := 1) rfl rfl, (zPre_mk (wc := [(ov, .inr (3, [.ref ov1, .int (nI nv)])), (ov1, .inl (kv1, 512, .inr (.inl gv)))]) (tc := [(kv1, .long)]) hP hK hD hC hS [1, 2] (by decide) rfl rfl [0] rfl (zro_free hS hA))⟩ rfl rfl hl.1 rfl (lv_room (Nat.le_of_ble_eq_true rfl)) dX6_map_6 ⟨Nat.zero_le _, Nat.zero_le _⟩) hS hA hP (fun r_6 H locs hw hP hS => ?_)
  have hw_6 : zB r_6 (∃ j, j < nv ∧ gv j = p2) := hw
  refine lv_if_ne (tgt := 15) hx hb dX6_map_9 (by decide) (fun c_9 => ?_) (fun c_9 => ?_)
  · have i_9 : ¬ (r_6.toInt = 0) := fun q9 => c_9 (zi_eq.mpr q9)
    refine lv_iload_n hx hb dX6_map_15 rfl (lv_at hl 1 rfl) ?_
    refine lv_if_lt (tgt := 31) hx hb dX6_map_16 (by decide) (fun c_16 => ?_) (fun c_16 => ?_)
    · have i_16 : p0.toInt < 0 := zi_lt.mp c_16
      refine lv_bipush (v := -102) hx hb dX6_map_31 (by decide) ?_
      exact W.iret (v := (-102)) hx hb hr (fun t9 ht9 hW9 => ⟨⟨_, (nn, sd, rf, nm), rfl, Or.inr ⟨zB_ne hw_6 c_9, Or.inl ⟨by omega, rfl, rfl, rfl, rfl, rfl⟩⟩, by rw [ht9]; exact hP, va_K.moved hW9.alike hK, hD⟩, hS.F ht9⟩) hS.2.2 dX6_map_33
    · have i_16 : ¬ (p0.toInt < 0) := fun q9 => c_16 (zi_lt.mpr q9)
      refine lv_iload_n hx hb dX6_map_19 rfl (lv_at hl 1 rfl) ?_
      refine lv_bipush (v := 100) hx hb dX6_map_20 (by decide) ?_
      refine lv_icmp_ge (tgt := 31) hx hb dX6_map_22 (by decide) (fun c_22 => ?_) (fun c_22 => ?_)
      · have i_22 : 100 ≤ p0.toInt := zi_le.mp c_22
        refine lv_bipush (v := -102) hx hb dX6_map_31 (by decide) ?_
        exact W.iret (v := (-102)) hx hb hr (fun t9 ht9 hW9 => ⟨⟨_, (nn, sd, rf, nm), rfl, Or.inr ⟨zB_ne hw_6 c_9, Or.inl ⟨by omega, rfl, rfl, rfl, rfl, rfl⟩⟩, by rw [ht9]; exact hP, va_K.moved hW9.alike hK, hD⟩, hS.F ht9⟩) hS.2.2 dX6_map_33
      · have i_22 : ¬ (100 ≤ p0.toInt) := fun q9 => c_22 (zi_le.mpr q9)
        refine lv_lload_n hx hb dX6_map_25 rfl (lv_at hl 2 rfl) ?_
        refine lv_lconst (v := 0) hx hb dX6_map_26 (by decide) ?_
        refine W.lcmp hx hb dX6_map_27 ?_
        refine lv_if_ge (tgt := 34) hx hb dX6_map_28 (by decide) (fun c_28 => ?_) (fun c_28 => ?_)
        · have c_28 : 0 ≤ p1 := (lg_cmp_ge _ _).mp c_28
          have i_28 : 0 ≤ p1.toInt := zl_le.mp c_28
          refine lv_aload_n hx hb dX6_map_34 rfl (lv_at hl 0 rfl) ?_
          refine va_get (D := D) (ci := 6) (v := .ref on) (C := RX6) (T := TX6) (N := 5) hx hb hts k_1 hown hK hP 0 rfl rfl 3 (by decide) k_2 (fun _ h9 => h9) rfl dX6_map_35 ?_
          refine lv_iload_n hx hb dX6_map_38 rfl (lv_at hl 1 rfl) ?_
          refine lv_lload_n hx hb dX6_map_39 rfl (lv_at hl 2 rfl) ?_
          refine zRo_l (va_runV (As := [.int p0, .long p1]) (rest := []) ⟨hx, hb, hml, hown, hts⟩ (cc_X4_numberOfReference l D z H.size on on1 on2 on3 kn1 kn2 kn3 nn sd rf nm p0 p1 (by omega)) (cwV 2 hts gX6_map_X4_numberOfReference rfl rfl rfl (by decide +kernel) ⟨Nat.le_of_ble_eq_true rfl, Nat.le_of_ble_eq_true rfl⟩) ⟨zPre_blind, va_recv hK hP (ci := 4) (q0 := 3) rfl rfl, (zPre_mk (wc := [(on, .inr (4, [.ref on1, .ref on2, .ref on3, .int (nI nn)])), (on1, .inl (kn1, 300, .inl sd)), (on2, .inl (kn2, 300, .inr (.inl rf))), (on3, .inl (kn3, 300, .inr (.inl nm)))]) (tc := [(kn1, .int), (kn2, .long), (kn3, .long)]) hP hK hD hC hS [3, 4, 5, 6] (by decide) rfl rfl [1, 2, 3] rfl (zro_free hS hA))⟩ rfl rfl hl.1 rfl (lv_room (Nat.le_of_ble_eq_true rfl)) dX6_map_40 ⟨Nat.zero_le _, Nat.zero_le _⟩) hS hA hP (fun r_40 H locs hw hP hS => ?_)
          have hw_40 : (∃ j, j < nn ∧ sd j = p0 ∧ rf j = p1 ∧ r_40 = nm j) ∨ ((∀ j, j < nn → ¬ (sd j = p0 ∧ rf j = p1)) ∧ r_40 = -101) := hw
          refine lv_lstore (lv' := [(6, .long r_40), (0, .ref oo), (1, .int p0), (2, .long p1), (4, .long p2)]) hx hb dX6_map_43 hl (by decide) rfl (fun ls hl => ?_)
          refine lv_lload hx hb dX6_map_45 (lv_at hl 0 rfl) ?_
          refine lv_lload hx hb dX6_map_47 (lv_at hl 4 rfl) ?_
          refine W.lcmp hx hb dX6_map_49 ?_
          refine lv_if_ne (tgt := 55) hx hb dX6_map_50 (by decide) (fun c_50 => ?_) (fun c_50 => ?_)
          · have c_50 : ¬ (r_40 = p2) := fun q9 => c_50 ((lg_cmp_eq _ _).mpr q9)
            have i_50 : ¬ (r_40.toInt = p2.toInt) := fun q9 => c_50 (zl_eq.mpr q9)
            refine lv_lload hx hb dX6_map_55 (lv_at hl 0 rfl) ?_
            refine lv_ldc2 hx hb hown k_3 dX6_map_57 ?_
            refine W.lcmp hx hb dX6_map_60 ?_
            refine lv_if_eq (tgt := 67) hx hb dX6_map_61 (by decide) (fun c_61 => ?_) (fun c_61 => ?_)
            · have c_61 : r_40 = (-101) := (lg_cmp_eq _ _).mp c_61
              have i_61 : r_40.toInt = (-101) := zl_eq.mp c_61
              refine lv_aload_n hx hb dX6_map_67 rfl (lv_at hl 1 rfl) ?_
              refine va_get (D := D) (ci := 6) (v := .ref on) (C := RX6) (T := TX6) (N := 5) hx hb hts k_1 hown hK hP 0 rfl rfl 3 (by decide) k_2 (fun _ h9 => h9) rfl dX6_map_68 ?_
              refine lv_iload_n hx hb dX6_map_71 rfl (lv_at hl 2 rfl) ?_
              refine lv_lload_n hx hb dX6_map_72 rfl (lv_at hl 3 rfl) ?_
              refine lv_lload hx hb dX6_map_73 (lv_at hl 4 rfl) ?_
              refine zMu_i (wr := [(oo, .inr (6, [.ref ob, .ref oq, .ref ov, .ref on, .ref ot])), (ov, .inr (3, [.ref ov1, .int (nI nv)])), (ov1, .inl (kv1, 512, .inr (.inl gv)))]) (va_runV (As := [.int p0, .long p1, .long p2]) (rest := []) ⟨hx, hb, hml, hown, hts⟩ (cc_X4_replace l D z H.size on on1 on2 on3 kn1 kn2 kn3 nn sd rf nm p0 p1 p2 (by omega)) (cwV 3 hts gX6_map_X4_replace rfl rfl rfl (by decide +kernel) ⟨Nat.le_of_ble_eq_true rfl, Nat.le_of_ble_eq_true rfl⟩) ⟨zPre_blind, va_recv hK hP (ci := 4) (q0 := 3) rfl rfl, (zPre_mk (wc := [(on, .inr (4, [.ref on1, .ref on2, .ref on3, .int (nI nn)])), (on1, .inl (kn1, 300, .inl sd)), (on2, .inl (kn2, 300, .inr (.inl rf))), (on3, .inl (kn3, 300, .inr (.inl nm)))]) (tc := [(kn1, .int), (kn2, .long), (kn3, .long)]) hP hK hD hC hS [3, 4, 5, 6] (by decide) rfl rfl [1, 2, 3] rfl (va_free (wc := [(on, .inr (4, [.ref on1, .ref on2, .ref on3, .int (nI nn)])), (on1, .inl (kn1, 300, .inl sd)), (on2, .inl (kn2, 300, .inr (.inl rf))), (on3, .inl (kn3, 300, .inr (.inl nm)))]) hD hS hA [3, 4, 5, 6] rfl))⟩ rfl rfl hl.1 rfl (lv_room (Nat.le_of_ble_eq_true rfl)) dX6_map_75 ⟨Nat.zero_le _, Nat.zero_le _⟩) hS hA hP hD [3, 4, 5, 6] [0, 1, 2] rfl rfl (by decide) (by decide) (fun r_75 u H locs hw hP hD hS => ?_)
              obtain ⟨ur_75, rfl⟩ : ∃ y9, y9 = u := ⟨_, rfl⟩
              have hw_75 : (∃ j, j < nn ∧ sd j = p0 ∧ nm j = p2 ∧ ur_75 = vp_updL rf j p1 ∧ r_75 = 1) ∨ ((∀ j, j < nn → ¬ (sd j = p0 ∧ nm j = p2)) ∧ ur_75 = rf ∧ r_75 = 0) := hw
              have hP : va_P D vwCl [(oo, .inr (6, [.ref ob, .ref oq, .ref ov, .ref on, .ref ot])), (ov, .inr (3, [.ref ov1, .int (nI nv)])), (ov1, .inl (kv1, 512, .inr (.inl gv))), (on, .inr (4, [.ref on1, .ref on2, .ref on3, .int (nI nn)])), (on1, .inl (kn1, 300, .inl sd)), (on2, .inl (kn2, 300, .inr (.inl ur_75))), (on3, .inl (kn3, 300, .inr (.inl nm)))] H := hP
              have hD : va_D A [(oo, .inr (6, [.ref ob, .ref oq, .ref ov, .ref on, .ref ot])), (ov, .inr (3, [.ref ov1, .int (nI nv)])), (ov1, .inl (kv1, 512, .inr (.inl gv))), (on, .inr (4, [.ref on1, .ref on2, .ref on3, .int (nI nn)])), (on1, .inl (kn1, 300, .inl sd)), (on2, .inl (kn2, 300, .inr (.inl ur_75))), (on3, .inl (kn3, 300, .inr (.inl nm)))] := hD
              refine lv_if_eq (tgt := 83) hx hb dX6_map_78 (by decide) (fun c_78 => ?_) (fun c_78 => ?_)
              · have i_78 : r_75.toInt = 0 := zi_eq.mp c_78
                refine lv_aload_n hx hb dX6_map_83 rfl (lv_at hl 1 rfl) ?_
                refine va_get (D := D) (ci := 6) (v := .ref on) (C := RX6) (T := TX6) (N := 5) hx hb hts k_1 hown hK hP 0 rfl rfl 3 (by decide) k_2 (fun _ h9 => h9) rfl dX6_map_84 ?_
                refine zRo_i (va_runV (As := []) (rest := []) ⟨hx, hb, hml, hown, hts⟩ (cc_X4_isFull l D z H.size on on1 on2 on3 kn1 kn2 kn3 nn sd ur_75 nm (by omega)) (cwV 0 hts gX6_map_X4_isFull rfl rfl rfl (by decide +kernel) ⟨Nat.le_of_ble_eq_true rfl, Nat.le_of_ble_eq_true rfl⟩) ⟨zPre_blind, va_recv hK hP (ci := 4) (q0 := 3) rfl rfl, (zPre_mk (wc := [(on, .inr (4, [.ref on1, .ref on2, .ref on3, .int (nI nn)])), (on1, .inl (kn1, 300, .inl sd)), (on2, .inl (kn2, 300, .inr (.inl ur_75))), (on3, .inl (kn3, 300, .inr (.inl nm)))]) (tc := [(kn1, .int), (kn2, .long), (kn3, .long)]) hP hK hD hC hS [3, 4, 5, 6] (by decide) rfl rfl [1, 2, 3] rfl (zro_free hS hA))⟩ rfl rfl hl.1 rfl (lv_room (Nat.le_of_ble_eq_true rfl)) dX6_map_87 ⟨Nat.zero_le _, Nat.zero_le _⟩) hS hA hP (fun r_87 H locs hw hP hS => ?_)
                have hw_87 : zB r_87 (300 ≤ nn) := hw
                refine lv_if_eq (tgt := 96) hx hb dX6_map_90 (by decide) (fun c_90 => ?_) (fun c_90 => ?_)
                · have i_90 : r_87.toInt = 0 := zi_eq.mp c_90
                  have hf := zB_eq hw_87 c_90
                  refine lv_aload_n hx hb dX6_map_96 rfl (lv_at hl 1 rfl) ?_
                  refine va_get (D := D) (ci := 6) (v := .ref on) (C := RX6) (T := TX6) (N := 5) hx hb hts k_1 hown hK hP 0 rfl rfl 3 (by decide) k_2 (fun _ h9 => h9) rfl dX6_map_97 ?_
                  refine lv_iload_n hx hb dX6_map_100 rfl (lv_at hl 2 rfl) ?_
                  refine lv_lload_n hx hb dX6_map_101 rfl (lv_at hl 3 rfl) ?_
                  refine lv_lload hx hb dX6_map_102 (lv_at hl 4 rfl) ?_
                  refine zMu_v (wr := [(oo, .inr (6, [.ref ob, .ref oq, .ref ov, .ref on, .ref ot])), (ov, .inr (3, [.ref ov1, .int (nI nv)])), (ov1, .inl (kv1, 512, .inr (.inl gv)))]) (va_runV (As := [.int p0, .long p1, .long p2]) (rest := []) ⟨hx, hb, hml, hown, hts⟩ (cc_X4_add l D z H.size on on1 on2 on3 kn1 kn2 kn3 nn sd ur_75 nm p0 p1 p2 (by omega)) (cwV 3 hts gX6_map_X4_add rfl rfl rfl (by decide +kernel) ⟨Nat.le_of_ble_eq_true rfl, Nat.le_of_ble_eq_true rfl⟩) ⟨zPre_blind, va_recv hK hP (ci := 4) (q0 := 3) rfl rfl, (zPre_mk (wc := [(on, .inr (4, [.ref on1, .ref on2, .ref on3, .int (nI nn)])), (on1, .inl (kn1, 300, .inl sd)), (on2, .inl (kn2, 300, .inr (.inl ur_75))), (on3, .inl (kn3, 300, .inr (.inl nm)))]) (tc := [(kn1, .int), (kn2, .long), (kn3, .long)]) hP hK hD hC hS [3, 4, 5, 6] (by decide) rfl rfl [1, 2, 3] rfl (va_free (wc := [(on, .inr (4, [.ref on1, .ref on2, .ref on3, .int (nI nn)])), (on1, .inl (kn1, 300, .inl sd)), (on2, .inl (kn2, 300, .inr (.inl ur_75))), (on3, .inl (kn3, 300, .inr (.inl nm)))]) hD hS hA [3, 4, 5, 6] rfl))⟩ rfl rfl hl.1 rfl (lv_room (Nat.le_of_ble_eq_true rfl)) dX6_map_104 ⟨Nat.zero_le _, Nat.zero_le _⟩) hS hA hP hD [3, 4, 5, 6] [0, 1, 2] rfl rfl (by decide) (by decide) (fun u H locs hw hP hD hS => ?_)
                  obtain ⟨un_104, us_104, ur_104, um_104⟩ := u
                  have hw_104 : un_104 = nn + 1 ∧ us_104 = upd sd nn p0 ∧ ur_104 = vp_updL ur_75 nn p1 ∧ um_104 = vp_updL nm nn p2 := hw
                  have hP : va_P D vwCl [(oo, .inr (6, [.ref ob, .ref oq, .ref ov, .ref on, .ref ot])), (ov, .inr (3, [.ref ov1, .int (nI nv)])), (ov1, .inl (kv1, 512, .inr (.inl gv))), (on, .inr (4, [.ref on1, .ref on2, .ref on3, .int (nI un_104)])), (on1, .inl (kn1, 300, .inl us_104)), (on2, .inl (kn2, 300, .inr (.inl ur_104))), (on3, .inl (kn3, 300, .inr (.inl um_104)))] H := hP
                  have hD : va_D A [(oo, .inr (6, [.ref ob, .ref oq, .ref ov, .ref on, .ref ot])), (ov, .inr (3, [.ref ov1, .int (nI nv)])), (ov1, .inl (kv1, 512, .inr (.inl gv))), (on, .inr (4, [.ref on1, .ref on2, .ref on3, .int (nI un_104)])), (on1, .inl (kn1, 300, .inl us_104)), (on2, .inl (kn2, 300, .inr (.inl ur_104))), (on3, .inl (kn3, 300, .inr (.inl um_104)))] := hD
                  refine lv_iconst (v := 1) hx hb dX6_map_107 (by decide) ?_
                  exact W.iret (v := 1) hx hb hr (fun t9 ht9 hW9 => ⟨⟨_, (un_104, us_104, ur_104, um_104), rfl, Or.inr ⟨zB_ne hw_6 c_9, Or.inr ⟨by omega, r_40, hw_40, Or.inr (Or.inr (Or.inr ⟨c_50, c_61, (zRpl_f hw_75 c_78).1, Or.inr ⟨by omega, rfl, hw_104.1, hw_104.2.1, hw_104.2.2.1.trans (by rw [(zRpl_f hw_75 c_78).2]), hw_104.2.2.2⟩⟩))⟩⟩, by rw [ht9]; exact hP, va_K.moved hW9.alike hK, hD⟩, hS.F ht9⟩) hS.2.2 dX6_map_108
                · have i_90 : ¬ (r_87.toInt = 0) := fun q9 => c_90 (zi_eq.mpr q9)
                  refine lv_bipush (v := -104) hx hb dX6_map_93 (by decide) ?_
                  exact W.iret (v := (-104)) hx hb hr (fun t9 ht9 hW9 => ⟨⟨_, (nn, sd, ur_75, nm), rfl, Or.inr ⟨zB_ne hw_6 c_9, Or.inr ⟨by omega, r_40, hw_40, Or.inr (Or.inr (Or.inr ⟨c_50, c_61, (zRpl_f hw_75 c_78).1, Or.inl ⟨zB_ne hw_87 c_90, rfl, rfl, rfl, (zRpl_f hw_75 c_78).2, rfl⟩⟩))⟩⟩, by rw [ht9]; exact hP, va_K.moved hW9.alike hK, hD⟩, hS.F ht9⟩) hS.2.2 dX6_map_95
              · have i_78 : ¬ (r_75.toInt = 0) := fun q9 => c_78 (zi_eq.mpr q9)
                refine lv_iconst (v := 2) hx hb dX6_map_81 (by decide) ?_
                exact W.iret (v := 2) hx hb hr (fun t9 ht9 hW9 => ⟨⟨_, (nn, sd, ur_75, nm), rfl, Or.inr ⟨zB_ne hw_6 c_9, Or.inr ⟨by omega, r_40, hw_40, Or.inr (Or.inr (Or.inl ⟨c_50, c_61, zRpl_t hw_75 c_78, rfl, rfl, rfl, rfl⟩))⟩⟩, by rw [ht9]; exact hP, va_K.moved hW9.alike hK, hD⟩, hS.F ht9⟩) hS.2.2 dX6_map_82
            · have c_61 : ¬ (r_40 = (-101)) := fun q9 => c_61 ((lg_cmp_eq _ _).mpr q9)
              have i_61 : ¬ (r_40.toInt = (-101)) := fun q9 => c_61 (zl_eq.mpr q9)
              refine lv_bipush (v := -103) hx hb dX6_map_64 (by decide) ?_
              exact W.iret (v := (-103)) hx hb hr (fun t9 ht9 hW9 => ⟨⟨_, (nn, sd, rf, nm), rfl, Or.inr ⟨zB_ne hw_6 c_9, Or.inr ⟨by omega, r_40, hw_40, Or.inr (Or.inl ⟨c_50, c_61, rfl, rfl, rfl, rfl, rfl⟩)⟩⟩, by rw [ht9]; exact hP, va_K.moved hW9.alike hK, hD⟩, hS.F ht9⟩) hS.2.2 dX6_map_66
          · have c_50 : r_40 = p2 := (lg_cmp_eq _ _).mp c_50
            have i_50 : r_40.toInt = p2.toInt := zl_eq.mp c_50
            refine lv_iconst (v := 0) hx hb dX6_map_53 (by decide) ?_
            exact W.iret (v := 0) hx hb hr (fun t9 ht9 hW9 => ⟨⟨_, (nn, sd, rf, nm), rfl, Or.inr ⟨zB_ne hw_6 c_9, Or.inr ⟨by omega, r_40, hw_40, Or.inl ⟨c_50, rfl, rfl, rfl, rfl, rfl⟩⟩⟩, by rw [ht9]; exact hP, va_K.moved hW9.alike hK, hD⟩, hS.F ht9⟩) hS.2.2 dX6_map_54
        · have c_28 : ¬ (0 ≤ p1) := fun q9 => c_28 ((lg_cmp_ge _ _).mpr q9)
          have i_28 : ¬ (0 ≤ p1.toInt) := fun q9 => c_28 (zl_le.mpr q9)
          refine lv_bipush (v := -102) hx hb dX6_map_31 (by decide) ?_
          exact W.iret (v := (-102)) hx hb hr (fun t9 ht9 hW9 => ⟨⟨_, (nn, sd, rf, nm), rfl, Or.inr ⟨zB_ne hw_6 c_9, Or.inl ⟨by omega, rfl, rfl, rfl, rfl, rfl⟩⟩, by rw [ht9]; exact hP, va_K.moved hW9.alike hK, hD⟩, hS.F ht9⟩) hS.2.2 dX6_map_33
  · have i_9 : r_6.toInt = 0 := zi_eq.mp c_9
    refine lv_bipush (v := -101) hx hb dX6_map_12 (by decide) ?_
    exact W.iret (v := (-101)) hx hb hr (fun t9 ht9 hW9 => ⟨⟨_, (nn, sd, rf, nm), rfl, Or.inl ⟨zB_eq hw_6 c_9, rfl, rfl, rfl, rfl, rfl⟩, by rw [ht9]; exact hP, va_K.moved hW9.alike hK, hD⟩, hS.F ht9⟩) hS.2.2 dX6_map_14
