/-! the reference's methods -/
def zBwf (n : Nat) (bf bl : Nat → Int64) : Prop := ∀ j, j < n → 0 ≤ (bf j).toInt ∧ (bf j).toInt ≤ (bl j).toInt ∧ (bl j).toInt < 20000000000
def znumM (k : Int32) (x : Int64) : Int64 := (k.toInt64 + 1) * 27512614111 + x
def zNxt (nq : Nat) (qf ql : Nat → Int64) (ng : Nat) (gn : Nat → Int64) (nb : Nat) (bo : Nat → Int32) (bf bl : Nat → Int64) (o : Int32) (x : Int64) : Prop := ∃ i, i < nb ∧ (∀ j, j < i → bo j = o → zFul nq qf ql ng gn (bf j) (bl j)) ∧ bo i = o ∧ zFre nq qf ql ng gn (bf i) (bl i) x
def zNon (nq : Nat) (qf ql : Nat → Int64) (ng : Nat) (gn : Nat → Int64) (nb : Nat) (bo : Nat → Int32) (bf bl : Nat → Int64) (o : Int32) : Prop := ∀ j, j < nb → bo j = o → zFul nq qf ql ng gn (bf j) (bl j)
def zMR (p0 p1 : Int64) (n : Nat) (gn : Nat → Int64) (gg g : Nat → Int32) (i c : Nat) : Prop := i ≤ n ∧ c = zcnt (fun k => decide (gg k = 0) && zIn p0 p1 (gn k)) i ∧ (∀ k, k < i → (g k = 0 ↔ gg k = 0 ∧ zIn p0 p1 (gn k) = false)) ∧ ∀ k, i ≤ k → g k = gg k
theorem zMR_0 {p0 p1 : Int64} {n : Nat} {gn : Nat → Int64} {gg : Nat → Int32} : zMR p0 p1 n gn gg gg 0 0 := ⟨Nat.zero_le _, rfl, fun k h => absurd h (Nat.not_lt_zero _), fun _ _ => rfl⟩
theorem zMR_stay {p0 p1 : Int64} {n i c : Nat} {gn : Nat → Int64} {gg g : Nat → Int32} (h : zMR p0 p1 n gn gg g i c) (hi : i < n) (hn : ¬ g i = 0 ∨ zIn p0 p1 (gn i) = false) : zMR p0 p1 n gn gg g (i + 1) c := by
  obtain ⟨h1, h2, h3, h4⟩ := h
  have e := h4 i (Nat.le_refl _)
  refine ⟨hi, ?_, lt_s h3 ?_, fun k hk => h4 k (by omega)⟩
  · show c = zcnt _ i + _
    have : (decide (gg i = 0) && zIn p0 p1 (gn i)) = false := by
      rcases hn with q | q
      · rw [← e, decide_eq_false q]; rfl
      · rw [q, Bool.and_false]
    dsimp only
    simp only [this, ← h2]; rfl
  · rw [e]
    refine ⟨fun q => ⟨q, ?_⟩, fun q => q.1⟩
    rcases hn with w | w
    · rw [e] at w; exact absurd q w
    · exact w
theorem zMR_go {p0 p1 : Int64} {n i c : Nat} {gn : Nat → Int64} {gg g : Nat → Int32} (h : zMR p0 p1 n gn gg g i c) (hi : i < n) (h0 : g i = 0) (hn : zIn p0 p1 (gn i) = true) : zMR p0 p1 n gn gg (upd g i (vp_nar .boolean 1)) (i + 1) (c + 1) := by
  obtain ⟨h1, h2, h3, h4⟩ := h
  have e := h4 i (Nat.le_refl _)
  refine ⟨hi, ?_, lt_s (fun k hk => ?_) ?_, fun k hk => by rw [pk_un (by omega)]; exact h4 k (by omega)⟩
  · show c + 1 = zcnt _ i + _
    have : (decide (gg i = 0) && zIn p0 p1 (gn i)) = true := by rw [← e, h0, hn]; rfl
    dsimp only
    simp only [this, ← h2, if_true]
  · rw [pk_un (by omega)]; exact h3 k hk
  · rw [pk_us, hn]
    exact ⟨fun q => absurd q (by decide), fun q => by cases q.2⟩
theorem zIn_iff {p0 p1 x : Int64} : zIn p0 p1 x = true ↔ p0.toInt ≤ (zser x).toInt ∧ (zser x).toInt ≤ p1.toInt := by
  unfold zIn; rw [Bool.and_eq_true, decide_eq_true_eq, decide_eq_true_eq, zl_le, zl_le]
theorem zIn_no {p0 p1 x : Int64} (h : ¬ (p0.toInt ≤ (zser x).toInt ∧ (zser x).toInt ≤ p1.toInt)) : zIn p0 p1 x = false := by
  cases e : zIn p0 p1 x
  · rfl
  · exact absurd (zIn_iff.mp e) h
def zGiv (n : Nat) (gn : Nat → Int64) (gg : Nat → Int32) (x : Int64) : Prop := ∃ k, k < n ∧ gn k = x ∧ gg k = 0
theorem zfnd {n : Nat} {gn : Nat → Int64} {gg : Nat → Int32} {x : Int64} {r : Int32} (h : (∃ k, k < n ∧ gn k = x ∧ gg k = 0 ∧ r = nI k) ∨ ((∀ k, k < n → ¬ (gn k = x ∧ gg k = 0)) ∧ r = -1)) (hn : n ≤ 4200) : (¬ r.toInt < 0 ∧ zGiv n gn gg x) ∨ (r.toInt < 0 ∧ ¬ zGiv n gn gg x) := by
  rcases h with ⟨k, h1, h2, h3, h4⟩ | ⟨h1, h2⟩
  · left; rw [h4, nI_toInt (by omega)]; exact ⟨by omega, k, h1, h2, h3⟩
  · right; rw [h2]; exact ⟨by decide, fun ⟨k, q1, q2⟩ => h1 k q1 q2⟩
/-- a search for the last place -/
def zLs (P : Nat → Prop) (i : Nat) (x : Int32) : Prop := (x = -1 ∧ ∀ j, j < i → ¬ P j) ∨ ∃ j, j < i ∧ P j ∧ x = nI j
theorem zLs_0 {P : Nat → Prop} : zLs P 0 (-1) := Or.inl ⟨rfl, fun j h => absurd h (Nat.not_lt_zero _)⟩
theorem zLs_hit {P : Nat → Prop} {i : Nat} (h : P i) : zLs P (i + 1) (nI i) := Or.inr ⟨i, by omega, h, rfl⟩
theorem zLs_no {P : Nat → Prop} {i : Nat} {x : Int32} (h : zLs P i x) (hn : ¬ P i) : zLs P (i + 1) x := by
  rcases h with ⟨h1, h2⟩ | ⟨j, h1, h2⟩
  · exact Or.inl ⟨h1, lt_s h2 hn⟩
  · exact Or.inr ⟨j, by omega, h2⟩
theorem zLs_neg {P : Nat → Prop} {i : Nat} {x : Int32} (h : zLs P i x) (hi : i ≤ 4200) (hx : x.toInt < 0) : ∀ j, j < i → ¬ P j := by
  rcases h with ⟨h1, h2⟩ | ⟨j, h1, h2, h3⟩
  · exact h2
  · rw [h3, nI_toInt (by omega)] at hx; omega
theorem zLs_pos {P : Nat → Prop} {i : Nat} {x : Int32} (h : zLs P i x) (hx : ¬ x.toInt < 0) : ∃ j, j < i ∧ P j ∧ x = nI j := by
  rcases h with ⟨h1, h2⟩ | h
  · rw [h1] at hx; exact absurd (by decide) hx
  · exact h
def zOldM (p0 r : Int64) : Prop :=
  ((0 ≤ p0.toInt ∧ p0.toInt < 10000000000) ∧ r = (p0 / 1000000000 + 1) * 27512614111 + 20000000000 + (p0 - p0 / 1000000000 * 1000000000)) ∨
  (¬ (0 ≤ p0.toInt ∧ p0.toInt < 10000000000) ∧ ¬ (zIsN p0 ∧ 0 ≤ (zser p0 - 20000000000).toInt ∧ (zser p0 - 20000000000).toInt < 1000000000) ∧ r = -102) ∨
  (¬ (0 ≤ p0.toInt ∧ p0.toInt < 10000000000) ∧ (zIsN p0 ∧ 0 ≤ (zser p0 - 20000000000).toInt ∧ (zser p0 - 20000000000).toInt < 1000000000) ∧ r = zsvc p0 * 1000000000 + (zser p0 - 20000000000))

set_option maxHeartbeats 4000000 in
set_option maxRecDepth 100000 in
theorem mx_block (l : Launch) (D : va_G) (z : zG) (sz : Nat) (mo : Nat) (ma1 : Nat) (ma2 : Nat) (ma3 : Nat) (mb1 : Nat) (mb2 : Nat) (mg1 : Nat) (mg2 : Nat) (mt1 : Nat) (mn1 : Nat) (mn2 : Nat) (mn3 : Nat) (ml1 : Nat) (mw1 : Nat) (th : Int32) (nb : Nat) (nq : Nat) (ng : Nat) (nt : Nat) (nn : Nat) (ja1 : ClassId) (bo : Nat → Int32) (ja2 : ClassId) (bf : Nat → Int64) (ja3 : ClassId) (bl : Nat → Int64) (p0 : Int32) (p1 : Int64) (p2 : Int64) (hn : nb ≤ 50) (hB : zBwf nb bf bl) : Met l yX7_block wsX7_block ({ frames := 1, cells := 0, slots := 0, locals := 25 }) (zPre D z [.ref mo, .int p0, .long p1, .long p2] sz [(mo, .inr (7, [.int th, .int (nI nb), .ref ma1, .ref ma2, .ref ma3, .int (nI nq), .ref mb1, .ref mb2, .int (nI ng), .ref mg1, .ref mg2, .int (nI nt), .ref mt1, .int (nI nn), .ref mn1, .ref mn2, .ref mn3, .ref ml1, .ref mw1])), (ma1, .inl (ja1, 50, .inl bo)), (ma2, .inl (ja2, 50, .inr (.inl bf))), (ma3, .inl (ja3, 50, .inr (.inl bl)))] [(ja1, .int), (ja2, .long), (ja3, .long)] (va_A [(mo, .inr (7, [.int th, .int (nI nb), .ref ma1, .ref ma2, .ref ma3, .int (nI nq), .ref mb1, .ref mb2, .int (nI ng), .ref mg1, .ref mg2, .int (nI nt), .ref mt1, .int (nI nn), .ref mn1, .ref mn2, .ref mn3, .ref ml1, .ref mw1])), (ma1, .inl (ja1, 50, .inl bo)), (ma2, .inl (ja2, 50, .inr (.inl bf))), (ma3, .inl (ja3, 50, .inr (.inl bl)))] sz)) (va_Qi (fun (r : Int32) (u : Nat × (Nat → Int32) × (Nat → Int64) × (Nat → Int64)) => (¬ zOkB p0 p1 p2 ∧ r = -102 ∧ u.1 = nb ∧ u.2.1 = bo ∧ u.2.2.1 = bf ∧ u.2.2.2 = bl) ∨ (zOkB p0 p1 p2 ∧ zTch nb bf bl p1 p2 ∧ r = -103 ∧ u.1 = nb ∧ u.2.1 = bo ∧ u.2.2.1 = bf ∧ u.2.2.2 = bl) ∨ (zOkB p0 p1 p2 ∧ ¬ zTch nb bf bl p1 p2 ∧ nb = 50 ∧ r = -104 ∧ u.1 = nb ∧ u.2.1 = bo ∧ u.2.2.1 = bf ∧ u.2.2.2 = bl) ∨ (zOkB p0 p1 p2 ∧ ¬ zTch nb bf bl p1 p2 ∧ ¬ nb = 50 ∧ r = nI (nb + 1) ∧ u.1 = nb + 1 ∧ u.2.1 = upd bo nb p0 ∧ u.2.2.1 = vp_updL bf nb p1 ∧ u.2.2.2 = vp_updL bl nb p2)) (zAt D [(ja1, .int), (ja2, .long), (ja3, .long)] (va_A [(mo, .inr (7, [.int th, .int (nI nb), .ref ma1, .ref ma2, .ref ma3, .int (nI nq), .ref mb1, .ref mb2, .int (nI ng), .ref mg1, .ref mg2, .int (nI nt), .ref mt1, .int (nI nn), .ref mn1, .ref mn2, .ref mn3, .ref ml1, .ref mw1])), (ma1, .inl (ja1, 50, .inl bo)), (ma2, .inl (ja2, 50, .inr (.inl bf))), (ma3, .inl (ja3, 50, .inr (.inl bl)))] sz) (fun u : Nat × (Nat → Int32) × (Nat → Int64) × (Nat → Int64) => [(mo, .inr (7, [.int 0, .int (nI u.1), .ref ma1, .ref ma2, .ref ma3, .int (nI nq), .ref mb1, .ref mb2, .int (nI ng), .ref mg1, .ref mg2, .int (nI nt), .ref mt1, .int (nI nn), .ref mn1, .ref mn2, .ref mn3, .ref ml1, .ref mw1])), (ma1, .inl (ja1, 50, .inl u.2.1)), (ma2, .inl (ja2, 50, .inr (.inl u.2.2.1))), (ma3, .inl (ja3, 50, .inr (.inl u.2.2.2)))])) (va_A [(mo, .inr (7, [.int th, .int (nI nb), .ref ma1, .ref ma2, .ref ma3, .int (nI nq), .ref mb1, .ref mb2, .int (nI ng), .ref mg1, .ref mg2, .int (nI nt), .ref mt1, .int (nI nn), .ref mn1, .ref mn2, .ref mn3, .ref ml1, .ref mw1])), (ma1, .inl (ja1, 50, .inl bo)), (ma2, .inl (ja2, 50, .inr (.inl bf))), (ma3, .inl (ja3, 50, .inr (.inl bl)))] sz)) 0 0 (va_A [(mo, .inr (7, [.int th, .int (nI nb), .ref ma1, .ref ma2, .ref ma3, .int (nI nq), .ref mb1, .ref mb2, .int (nI ng), .ref mg1, .ref mg2, .int (nI nt), .ref mt1, .int (nI nn), .ref mn1, .ref mn2, .ref mn3, .ref ml1, .ref mw1])), (ma1, .inl (ja1, 50, .inl bo)), (ma2, .inl (ja2, 50, .inr (.inl bf))), (ma3, .inl (ja3, 50, .inr (.inl bl)))] sz) := by
  refine Met.ofW (cc := cX7_block) (maxL := 7) (ret := (some .int)) (by decide) rfl ?_
  intro p e s m args below meth c s₁ B hml hv
  obtain ⟨rfl, hsz, hP, hK, hD, hC⟩ := hv
  have hx := B.exec
  have hb := B.bytes
  have hr := B.returns
  have hts := atoms_spec (ws := wsX7_block) B.pre
  have hown : s.vm.findClass RX7 = some m.cls := findClass_of_methodNamed B.named
  have hlocks := B.notSynchronized
  subst hsz
  have hD := hD.self (sz := s.heap.size)
  generalize hAe : va_A [(mo, .inr (7, [.int th, .int (nI nb), .ref ma1, .ref ma2, .ref ma3, .int (nI nq), .ref mb1, .ref mb2, .int (nI ng), .ref mg1, .ref mg2, .int (nI nt), .ref mt1, .int (nI nn), .ref mn1, .ref mn2, .ref mn3, .ref ml1, .ref mw1])), (ma1, .inl (ja1, 50, .inl bo)), (ma2, .inl (ja2, 50, .inr (.inl bf))), (ma3, .inl (ja3, 50, .inr (.inl bl)))] s.heap.size = A at hC hD ⊢
  have hA : ∀ q : Nat, s.heap.size ≤ q → A q := fun q h => by rw [← hAe]; exact Or.inr h
  have hS : va_S A s.heap s.heap [] := va_S.rf
  have hP : va_P D vwCl [(mo, .inr (7, [.int th, .int (nI nb), .ref ma1, .ref ma2, .ref ma3, .int (nI nq), .ref mb1, .ref mb2, .int (nI ng), .ref mg1, .ref mg2, .int (nI nt), .ref mt1, .int (nI nn), .ref mn1, .ref mn2, .ref mn3, .ref ml1, .ref mw1])), (ma1, .inl (ja1, 50, .inl bo)), (ma2, .inl (ja2, 50, .inr (.inl bf))), (ma3, .inl (ja3, 50, .inr (.inl bl)))] s.heap := hP
  have hl := lv_entry ([.ref mo, .int p0, .long p1, .long p2]) (n := 7) (Nat.le_of_ble_eq_true rfl)
  rw [lg_entry_eq]
  generalize (lg_sl ([.ref mo, .int p0, .long p1, .long p2]) ++ List.replicate (7 - (lg_sl ([.ref mo, .int p0, .long p1, .long p2])).length) Slot.unset).toArray = ls at hl ⊢
  have hl : lv_has ls 7 [(0, .ref mo), (1, .int p0), (2, .long p1), (4, .long p2)] := hl
  refine zNameH (D := D) (A := A) (ws := [(mo, .inr (7, [.int th, .int (nI nb), .ref ma1, .ref ma2, .ref ma3, .int (nI nq), .ref mb1, .ref mb2, .int (nI ng), .ref mg1, .ref mg2, .int (nI nt), .ref mt1, .int (nI nn), .ref mn1, .ref mn2, .ref mn3, .ref ml1, .ref mw1])), (ma1, .inl (ja1, 50, .inl bo)), (ma2, .inl (ja2, 50, .inr (.inl bf))), (ma3, .inl (ja3, 50, .inr (.inl bl)))]) (fun H locs hP hS => ?_) hP hS
  have k_0 := hts (.fieldLink RX7 55 "NumberRows2Model" "thrown" "I") (by decide +kernel)
  have k_1 : ∀ w ∈ wsX70, w ∈ wsX7_block := by decide +kernel
  have k_2 := hts (.constantLong RX7 58 (99)) (by decide +kernel)
  have k_3 := hts (.constantLong RX7 64 (20000000000)) (by decide +kernel)
  have k_4 := hts (.fieldLink RX7 66 "NumberRows2Model" "blocks" "I") (by decide +kernel)
  have k_5 := hts (.fieldLink RX7 7 "NumberRows2Model" "offices" "[I") (by decide +kernel)
  have k_6 := hts (.fieldLink RX7 13 "NumberRows2Model" "froms" "[J") (by decide +kernel)
  have k_7 := hts (.fieldLink RX7 17 "NumberRows2Model" "tos" "[J") (by decide +kernel)
  refine lv_aload_n hx hb dX7_block_0 rfl (lv_at hl 0 rfl) ?_
  refine lv_iconst (v := 0) hx hb dX7_block_1 (by decide) ?_
  refine va_put (D := D) (ci := 7) (v := .int 0) (ty := .int) (C := RX7) (T := TX7) (N := 19) hx hb hts k_1 tyX7 tyX7_ok nmX7 hown hK hP hD hS 0 rfl rfl 0 (by decide) k_0 (fun _ h9 => h9) rfl (by decide +kernel) rfl rfl (Nat.le_of_ble_eq_true rfl) dX7_block_2 (fun H locs hP hD hS => ?_)
  have hP : va_P D vwCl [(mo, .inr (7, [.int 0, .int (nI nb), .ref ma1, .ref ma2, .ref ma3, .int (nI nq), .ref mb1, .ref mb2, .int (nI ng), .ref mg1, .ref mg2, .int (nI nt), .ref mt1, .int (nI nn), .ref mn1, .ref mn2, .ref mn3, .ref ml1, .ref mw1])), (ma1, .inl (ja1, 50, .inl bo)), (ma2, .inl (ja2, 50, .inr (.inl bf))), (ma3, .inl (ja3, 50, .inr (.inl bl)))] H := hP
  have hD : va_D A [(mo, .inr (7, [.int 0, .int (nI nb), .ref ma1, .ref ma2, .ref ma3, .int (nI nq), .ref mb1, .ref mb2, .int (nI ng), .ref mg1, .ref mg2, .int (nI nt), .ref mt1, .int (nI nn), .ref mn1, .ref mn2, .ref mn3, .ref ml1, .ref mw1])), (ma1, .inl (ja1, 50, .inl bo)), (ma2, .inl (ja2, 50, .inr (.inl bf))), (ma3, .inl (ja3, 50, .inr (.inl bl)))] := hD
  refine lv_iload_n hx hb dX7_block_5 rfl (lv_at hl 1 rfl) ?_
  refine lv_i2l (v := p0.toInt64) hx hb dX7_block_6 rfl ?_
  refine lv_lconst (v := 0) hx hb dX7_block_7 (by decide) ?_
  refine lv_ldc2 hx hb hown k_2 dX7_block_8 ?_
  refine zRo_i (va_runS (As := [.long p0.toInt64, .long 0, .long 99]) (rest := []) ⟨hx, hb, hml, hown, hts⟩ (mx_isIn l D z H.size p0.toInt64 (0 : Int64) (99 : Int64) ) (va_cwS 3 hts gX7_block_X7_isIn rfl rfl rfl (by decide +kernel) ⟨Nat.le_of_ble_eq_true rfl, Nat.le_of_ble_eq_true rfl⟩) ⟨zPre_blind, (zPre_mk (wc := []) (tc := []) hP hK hD hC hS [] (by decide) rfl rfl [] rfl (zro_free hS hA))⟩ rfl rfl hl.1 rfl (lv_room (Nat.le_of_ble_eq_true rfl)) dX7_block_11 ⟨Nat.zero_le _, Nat.zero_le _⟩) hS hA hP (fun r_11 H locs hw hP hS => ?_)
  have hw_11 : zB r_11 (0 ≤ p0.toInt64.toInt ∧ p0.toInt64.toInt ≤ 99) := hw
  rw [zi_l] at hw_11
  refine lv_if_eq (tgt := 39) hx hb dX7_block_14 (by decide) (fun c_14 => ?_) (fun c_14 => ?_)
  · have i_14 : r_11.toInt = 0 := zi_eq.mp c_14
    refine lv_bipush (v := -102) hx hb dX7_block_39 (by decide) ?_
    exact W.iret (v := (-102)) hx hb hr (fun t9 ht9 hW9 => ⟨⟨_, (nb, bo, bf, bl), rfl, Or.inl ⟨fun q => zB_eq hw_11 c_14 (by unfold zOkB at q; omega), rfl, rfl, rfl, rfl, rfl⟩, by rw [ht9]; exact hP, va_K.moved hW9.alike hK, hD⟩, hS.F ht9⟩) hS.2.2 dX7_block_41
  · have i_14 : ¬ (r_11.toInt = 0) := fun q9 => c_14 (zi_eq.mpr q9)
    refine lv_lload_n hx hb dX7_block_17 rfl (lv_at hl 2 rfl) ?_
    refine lv_lconst (v := 0) hx hb dX7_block_18 (by decide) ?_
    refine W.lcmp hx hb dX7_block_19 ?_
    refine lv_if_lt (tgt := 39) hx hb dX7_block_20 (by decide) (fun c_20 => ?_) (fun c_20 => ?_)
    · have c_20 : p1 < 0 := (lg_cmp_lt _ _).mp c_20
      have i_20 : p1.toInt < 0 := zl_lt.mp c_20
      refine lv_bipush (v := -102) hx hb dX7_block_39 (by decide) ?_
      exact W.iret (v := (-102)) hx hb hr (fun t9 ht9 hW9 => ⟨⟨_, (nb, bo, bf, bl), rfl, Or.inl ⟨fun q => by unfold zOkB at q; omega, rfl, rfl, rfl, rfl, rfl⟩, by rw [ht9]; exact hP, va_K.moved hW9.alike hK, hD⟩, hS.F ht9⟩) hS.2.2 dX7_block_41
    · have c_20 : ¬ (p1 < 0) := fun q9 => c_20 ((lg_cmp_lt _ _).mpr q9)
      have i_20 : ¬ (p1.toInt < 0) := fun q9 => c_20 (zl_lt.mpr q9)
      refine lv_lload_n hx hb dX7_block_23 rfl (lv_at hl 2 rfl) ?_
      refine lv_lload hx hb dX7_block_24 (lv_at hl 3 rfl) ?_
      refine W.lcmp hx hb dX7_block_26 ?_
      refine lv_if_gt (tgt := 39) hx hb dX7_block_27 (by decide) (fun c_27 => ?_) (fun c_27 => ?_)
      · have c_27 : p2 < p1 := (lg_cmp_gt _ _).mp c_27
        have i_27 : p2.toInt < p1.toInt := zl_lt.mp c_27
        refine lv_bipush (v := -102) hx hb dX7_block_39 (by decide) ?_
        exact W.iret (v := (-102)) hx hb hr (fun t9 ht9 hW9 => ⟨⟨_, (nb, bo, bf, bl), rfl, Or.inl ⟨fun q => by unfold zOkB at q; omega, rfl, rfl, rfl, rfl, rfl⟩, by rw [ht9]; exact hP, va_K.moved hW9.alike hK, hD⟩, hS.F ht9⟩) hS.2.2 dX7_block_41
      · have c_27 : ¬ (p2 < p1) := fun q9 => c_27 ((lg_cmp_gt _ _).mpr q9)
        have i_27 : ¬ (p2.toInt < p1.toInt) := fun q9 => c_27 (zl_lt.mpr q9)
        refine lv_lload hx hb dX7_block_30 (lv_at hl 3 rfl) ?_
        refine lv_ldc2 hx hb hown k_3 dX7_block_32 ?_
        refine W.lcmp hx hb dX7_block_35 ?_
        refine lv_if_lt (tgt := 42) hx hb dX7_block_36 (by decide) (fun c_36 => ?_) (fun c_36 => ?_)
        · have c_36 : p2 < 20000000000 := (lg_cmp_lt _ _).mp c_36
          have i_36 : p2.toInt < 20000000000 := zl_lt.mp c_36
          have hok : zOkB p0 p1 p2 := by have := zB_ne hw_11 c_14; unfold zOkB; omega
          refine lv_iconst (v := 0) hx hb dX7_block_42 (by decide) ?_
          refine lv_istore (lv' := [(6, .int 0), (0, .ref mo), (1, .int p0), (2, .long p1), (4, .long p2)]) hx hb dX7_block_43 hl (by decide) rfl (fun ls hl => ?_)
          refine zLoop (σ := Nat) (nL := 7) (μ := fun (i : Nat) => nb - i) (lv := fun (i : Nat) => [(6, .int (nI i)), (0, .ref mo), (1, .int p0), (2, .long p1), (4, .long p2)]) (wf := fun (i : Nat) => [(mo, .inr (7, [.int 0, .int (nI nb), .ref ma1, .ref ma2, .ref ma3, .int (nI nq), .ref mb1, .ref mb2, .int (nI ng), .ref mg1, .ref mg2, .int (nI nt), .ref mt1, .int (nI nn), .ref mn1, .ref mn2, .ref mn3, .ref ml1, .ref mw1])), (ma1, .inl (ja1, 50, .inl bo)), (ma2, .inl (ja2, 50, .inr (.inl bf))), (ma3, .inl (ja3, 50, .inr (.inl bl)))]) (I := fun (i : Nat) => i ≤ nb ∧ ∀ j, j < i → ¬ (p1 ≤ bl j ∧ bf j ≤ p2)) (fun x H locs ls hI hP hD hS hl ih => ?_) 0 ⟨Nat.zero_le _, fun j hj => absurd hj (Nat.not_lt_zero j)⟩ hP hD hS (lv_sub hl [0, 1, 2, 3, 4] rfl)
          obtain ⟨i, rfl⟩ : ∃ y9, y9 = x := ⟨_, rfl⟩
          have hI : i ≤ nb ∧ ∀ j, j < i → ¬ (p1 ≤ bl j ∧ bf j ≤ p2) := hI
          have hl : lv_has ls 7 [(6, .int (nI i)), (0, .ref mo), (1, .int p0), (2, .long p1), (4, .long p2)] := hl
          have hP : va_P D vwCl [(mo, .inr (7, [.int 0, .int (nI nb), .ref ma1, .ref ma2, .ref ma3, .int (nI nq), .ref mb1, .ref mb2, .int (nI ng), .ref mg1, .ref mg2, .int (nI nt), .ref mt1, .int (nI nn), .ref mn1, .ref mn2, .ref mn3, .ref ml1, .ref mw1])), (ma1, .inl (ja1, 50, .inl bo)), (ma2, .inl (ja2, 50, .inr (.inl bf))), (ma3, .inl (ja3, 50, .inr (.inl bl)))] H := hP
          have hD : va_D A [(mo, .inr (7, [.int 0, .int (nI nb), .ref ma1, .ref ma2, .ref ma3, .int (nI nq), .ref mb1, .ref mb2, .int (nI ng), .ref mg1, .ref mg2, .int (nI nt), .ref mt1, .int (nI nn), .ref mn1, .ref mn2, .ref mn3, .ref ml1, .ref mw1])), (ma1, .inl (ja1, 50, .inl bo)), (ma2, .inl (ja2, 50, .inr (.inl bf))), (ma3, .inl (ja3, 50, .inr (.inl bl)))] := hD
          have h1 := hI.1
          refine lv_iload hx hb dX7_block_45 (lv_at hl 0 rfl) ?_
          refine lv_aload_n hx hb dX7_block_47 rfl (lv_at hl 1 rfl) ?_
          refine va_get (D := D) (ci := 7) (v := .int (nI nb)) (C := RX7) (T := TX7) (N := 19) hx hb hts k_1 hown hK hP 0 rfl rfl 1 (by decide) k_4 (fun _ h9 => h9) rfl dX7_block_48 ?_
          refine lv_icmp_ge (tgt := 100) hx hb dX7_block_51 (by decide) (fun c_51 => ?_) (fun c_51 => ?_)
          · have c_51 : nb ≤ i := (nI_leI (a := nb) (b := i) (by omega) (by omega)).mp c_51
            refine lv_aload_n hx hb dX7_block_100 rfl (lv_at hl 1 rfl) ?_
            refine va_get (D := D) (ci := 7) (v := .int (nI nb)) (C := RX7) (T := TX7) (N := 19) hx hb hts k_1 hown hK hP 0 rfl rfl 1 (by decide) k_4 (fun _ h9 => h9) rfl dX7_block_101 ?_
            refine lv_bipush (v := 50) hx hb dX7_block_104 (by decide) ?_
            refine lv_icmp_ne (tgt := 112) hx hb dX7_block_106 (by decide) (fun c_106 => ?_) (fun c_106 => ?_)
            · have c_106 : ¬ (nb = 50) := fun q9 => c_106 ((nI_eq (a := nb) (b := 50) (by omega) (by omega)).mpr q9)
              refine lv_aload_n hx hb dX7_block_112 rfl (lv_at hl 1 rfl) ?_
              refine va_get (D := D) (ci := 7) (v := .ref ma1) (C := RX7) (T := TX7) (N := 19) hx hb hts k_1 hown hK hP 0 rfl rfl 2 (by decide) k_5 (fun _ h9 => h9) rfl dX7_block_113 ?_
              refine lv_aload_n hx hb dX7_block_116 rfl (lv_at hl 1 rfl) ?_
              refine va_get (D := D) (ci := 7) (v := .int (nI nb)) (C := RX7) (T := TX7) (N := 19) hx hb hts k_1 hown hK hP 0 rfl rfl 1 (by decide) k_4 (fun _ h9 => h9) rfl dX7_block_117 ?_
              refine lv_iload_n hx hb dX7_block_120 rfl (lv_at hl 2 rfl) ?_
              refine z_iast (k := nb) hx hb hK hP hD hS 1 0 rfl rfl (by omega) (by decide) dX7_block_121 (fun H locs hP hD hS => ?_)
              have hP : va_P D vwCl [(mo, .inr (7, [.int 0, .int (nI nb), .ref ma1, .ref ma2, .ref ma3, .int (nI nq), .ref mb1, .ref mb2, .int (nI ng), .ref mg1, .ref mg2, .int (nI nt), .ref mt1, .int (nI nn), .ref mn1, .ref mn2, .ref mn3, .ref ml1, .ref mw1])), (ma1, .inl (ja1, 50, .inl (upd bo nb p0))), (ma2, .inl (ja2, 50, .inr (.inl bf))), (ma3, .inl (ja3, 50, .inr (.inl bl)))] H := hP
              have hD : va_D A [(mo, .inr (7, [.int 0, .int (nI nb), .ref ma1, .ref ma2, .ref ma3, .int (nI nq), .ref mb1, .ref mb2, .int (nI ng), .ref mg1, .ref mg2, .int (nI nt), .ref mt1, .int (nI nn), .ref mn1, .ref mn2, .ref mn3, .ref ml1, .ref mw1])), (ma1, .inl (ja1, 50, .inl (upd bo nb p0))), (ma2, .inl (ja2, 50, .inr (.inl bf))), (ma3, .inl (ja3, 50, .inr (.inl bl)))] := hD
              refine lv_aload_n hx hb dX7_block_122 rfl (lv_at hl 1 rfl) ?_
              refine va_get (D := D) (ci := 7) (v := .ref ma2) (C := RX7) (T := TX7) (N := 19) hx hb hts k_1 hown hK hP 0 rfl rfl 3 (by decide) k_6 (fun _ h9 => h9) rfl dX7_block_123 ?_
              refine lv_aload_n hx hb dX7_block_126 rfl (lv_at hl 1 rfl) ?_
              refine va_get (D := D) (ci := 7) (v := .int (nI nb)) (C := RX7) (T := TX7) (N := 19) hx hb hts k_1 hown hK hP 0 rfl rfl 1 (by decide) k_4 (fun _ h9 => h9) rfl dX7_block_127 ?_
              refine lv_lload_n hx hb dX7_block_130 rfl (lv_at hl 3 rfl) ?_
              refine z_last (k := nb) hx hb hK hP hD hS 2 1 rfl rfl (by omega) (by decide) dX7_block_131 (fun H locs hP hD hS => ?_)
              have hP : va_P D vwCl [(mo, .inr (7, [.int 0, .int (nI nb), .ref ma1, .ref ma2, .ref ma3, .int (nI nq), .ref mb1, .ref mb2, .int (nI ng), .ref mg1, .ref mg2, .int (nI nt), .ref mt1, .int (nI nn), .ref mn1, .ref mn2, .ref mn3, .ref ml1, .ref mw1])), (ma1, .inl (ja1, 50, .inl (upd bo nb p0))), (ma2, .inl (ja2, 50, .inr (.inl (vp_updL bf nb p1)))), (ma3, .inl (ja3, 50, .inr (.inl bl)))] H := hP
              have hD : va_D A [(mo, .inr (7, [.int 0, .int (nI nb), .ref ma1, .ref ma2, .ref ma3, .int (nI nq), .ref mb1, .ref mb2, .int (nI ng), .ref mg1, .ref mg2, .int (nI nt), .ref mt1, .int (nI nn), .ref mn1, .ref mn2, .ref mn3, .ref ml1, .ref mw1])), (ma1, .inl (ja1, 50, .inl (upd bo nb p0))), (ma2, .inl (ja2, 50, .inr (.inl (vp_updL bf nb p1)))), (ma3, .inl (ja3, 50, .inr (.inl bl)))] := hD
              refine lv_aload_n hx hb dX7_block_132 rfl (lv_at hl 1 rfl) ?_
              refine va_get (D := D) (ci := 7) (v := .ref ma3) (C := RX7) (T := TX7) (N := 19) hx hb hts k_1 hown hK hP 0 rfl rfl 4 (by decide) k_7 (fun _ h9 => h9) rfl dX7_block_133 ?_
              refine lv_aload_n hx hb dX7_block_136 rfl (lv_at hl 1 rfl) ?_
              refine va_get (D := D) (ci := 7) (v := .int (nI nb)) (C := RX7) (T := TX7) (N := 19) hx hb hts k_1 hown hK hP 0 rfl rfl 1 (by decide) k_4 (fun _ h9 => h9) rfl dX7_block_137 ?_
              refine lv_lload hx hb dX7_block_140 (lv_at hl 4 rfl) ?_
              refine z_last (k := nb) hx hb hK hP hD hS 3 2 rfl rfl (by omega) (by decide) dX7_block_142 (fun H locs hP hD hS => ?_)
              have hP : va_P D vwCl [(mo, .inr (7, [.int 0, .int (nI nb), .ref ma1, .ref ma2, .ref ma3, .int (nI nq), .ref mb1, .ref mb2, .int (nI ng), .ref mg1, .ref mg2, .int (nI nt), .ref mt1, .int (nI nn), .ref mn1, .ref mn2, .ref mn3, .ref ml1, .ref mw1])), (ma1, .inl (ja1, 50, .inl (upd bo nb p0))), (ma2, .inl (ja2, 50, .inr (.inl (vp_updL bf nb p1)))), (ma3, .inl (ja3, 50, .inr (.inl (vp_updL bl nb p2))))] H := hP
              have hD : va_D A [(mo, .inr (7, [.int 0, .int (nI nb), .ref ma1, .ref ma2, .ref ma3, .int (nI nq), .ref mb1, .ref mb2, .int (nI ng), .ref mg1, .ref mg2, .int (nI nt), .ref mt1, .int (nI nn), .ref mn1, .ref mn2, .ref mn3, .ref ml1, .ref mw1])), (ma1, .inl (ja1, 50, .inl (upd bo nb p0))), (ma2, .inl (ja2, 50, .inr (.inl (vp_updL bf nb p1)))), (ma3, .inl (ja3, 50, .inr (.inl (vp_updL bl nb p2))))] := hD
              refine lv_aload_n hx hb dX7_block_143 rfl (lv_at hl 1 rfl) ?_
              refine lv_dup hx hb dX7_block_144 rfl ?_
              refine va_get (D := D) (ci := 7) (v := .int (nI nb)) (C := RX7) (T := TX7) (N := 19) hx hb hts k_1 hown hK hP 0 rfl rfl 1 (by decide) k_4 (fun _ h9 => h9) rfl dX7_block_145 ?_
              refine lv_iconst (v := 1) hx hb dX7_block_148 (by decide) ?_
              refine lv_iadd hx hb dX7_block_149 ?_
              refine lv_topi (fun y_1 e_1 => ?_)
              obtain rfl : y_1 = nI (nb + 1) := e_1.trans (by first | exact nI_1 _ | exact nI_add _ 1)
              refine va_put (D := D) (ci := 7) (v := .int (nI (nb + 1))) (ty := .int) (C := RX7) (T := TX7) (N := 19) hx hb hts k_1 tyX7 tyX7_ok nmX7 hown hK hP hD hS 0 rfl rfl 1 (by decide) k_4 (fun _ h9 => h9) rfl (by decide +kernel) rfl rfl (Nat.le_of_ble_eq_true rfl) dX7_block_150 (fun H locs hP hD hS => ?_)
              have hP : va_P D vwCl [(mo, .inr (7, [.int 0, .int (nI (nb + 1)), .ref ma1, .ref ma2, .ref ma3, .int (nI nq), .ref mb1, .ref mb2, .int (nI ng), .ref mg1, .ref mg2, .int (nI nt), .ref mt1, .int (nI nn), .ref mn1, .ref mn2, .ref mn3, .ref ml1, .ref mw1])), (ma1, .inl (ja1, 50, .inl (upd bo nb p0))), (ma2, .inl (ja2, 50, .inr (.inl (vp_updL bf nb p1)))), (ma3, .inl (ja3, 50, .inr (.inl (vp_updL bl nb p2))))] H := hP
              have hD : va_D A [(mo, .inr (7, [.int 0, .int (nI (nb + 1)), .ref ma1, .ref ma2, .ref ma3, .int (nI nq), .ref mb1, .ref mb2, .int (nI ng), .ref mg1, .ref mg2, .int (nI nt), .ref mt1, .int (nI nn), .ref mn1, .ref mn2, .ref mn3, .ref ml1, .ref mw1])), (ma1, .inl (ja1, 50, .inl (upd bo nb p0))), (ma2, .inl (ja2, 50, .inr (.inl (vp_updL bf nb p1)))), (ma3, .inl (ja3, 50, .inr (.inl (vp_updL bl nb p2))))] := hD
              refine lv_aload_n hx hb dX7_block_153 rfl (lv_at hl 1 rfl) ?_
              refine va_get (D := D) (ci := 7) (v := .int (nI (nb + 1))) (C := RX7) (T := TX7) (N := 19) hx hb hts k_1 hown hK hP 0 rfl rfl 1 (by decide) k_4 (fun _ h9 => h9) rfl dX7_block_154 ?_
              exact W.iret (v := (nI (nb + 1))) hx hb hr (fun t9 ht9 hW9 => ⟨⟨_, ((nb + 1), (upd bo nb p0), (vp_updL bf nb p1), (vp_updL bl nb p2)), rfl, Or.inr (Or.inr (Or.inr ⟨hok, fun ⟨j, q1, q2⟩ => hI.2 j (by omega) q2, c_106, rfl, rfl, rfl, rfl, rfl⟩)), by rw [ht9]; exact hP, va_K.moved hW9.alike hK, hD⟩, hS.F ht9⟩) hS.2.2 dX7_block_157
            · have c_106 : nb = 50 := (nI_eq (a := nb) (b := 50) (by omega) (by omega)).mp c_106
              refine lv_bipush (v := -104) hx hb dX7_block_109 (by decide) ?_
              exact W.iret (v := (-104)) hx hb hr (fun t9 ht9 hW9 => ⟨⟨_, (nb, bo, bf, bl), rfl, Or.inr (Or.inr (Or.inl ⟨hok, fun ⟨j, q1, q2⟩ => hI.2 j (by omega) q2, c_106, rfl, rfl, rfl, rfl, rfl⟩)), by rw [ht9]; exact hP, va_K.moved hW9.alike hK, hD⟩, hS.F ht9⟩) hS.2.2 dX7_block_111
          · have c_51 : ¬ (nb ≤ i) := fun q9 => c_51 ((nI_leI (a := nb) (b := i) (by omega) (by omega)).mpr q9)
            refine lv_lload_n hx hb dX7_block_54 rfl (lv_at hl 3 rfl) ?_
            refine lv_aload_n hx hb dX7_block_55 rfl (lv_at hl 1 rfl) ?_
            refine va_get (D := D) (ci := 7) (v := .ref ma2) (C := RX7) (T := TX7) (N := 19) hx hb hts k_1 hown hK hP 0 rfl rfl 3 (by decide) k_6 (fun _ h9 => h9) rfl dX7_block_56 ?_
            refine lv_iload hx hb dX7_block_59 (lv_at hl 0 rfl) ?_
            refine z_lald (k := i) hx hb hK hP 2 1 rfl rfl (by omega) (by decide) dX7_block_61 ?_
            refine lv_aload_n hx hb dX7_block_62 rfl (lv_at hl 1 rfl) ?_
            refine va_get (D := D) (ci := 7) (v := .ref ma3) (C := RX7) (T := TX7) (N := 19) hx hb hts k_1 hown hK hP 0 rfl rfl 4 (by decide) k_7 (fun _ h9 => h9) rfl dX7_block_63 ?_
            refine lv_iload hx hb dX7_block_66 (lv_at hl 0 rfl) ?_
            refine z_lald (k := i) hx hb hK hP 3 2 rfl rfl (by omega) (by decide) dX7_block_68 ?_
            refine zRo_i (va_runS (As := [.long p1, .long (bf i), .long (bl i)]) (rest := []) ⟨hx, hb, hml, hown, hts⟩ (mx_isIn l D z H.size p1 (bf i) (bl i) ) (va_cwS 3 hts gX7_block_X7_isIn rfl rfl rfl (by decide +kernel) ⟨Nat.le_of_ble_eq_true rfl, Nat.le_of_ble_eq_true rfl⟩) ⟨zPre_blind, (zPre_mk (wc := []) (tc := []) hP hK hD hC hS [] (by decide) rfl rfl [] rfl (zro_free hS hA))⟩ rfl rfl hl.1 rfl (lv_room (Nat.le_of_ble_eq_true rfl)) dX7_block_69 ⟨Nat.zero_le _, Nat.zero_le _⟩) hS hA hP (fun r_69 H locs hw hP hS => ?_)
            have hw_69 : zB r_69 ((bf i).toInt ≤ p1.toInt ∧ p1.toInt ≤ (bl i).toInt) := hw
            refine lv_if_ne (tgt := 91) hx hb dX7_block_72 (by decide) (fun c_72 => ?_) (fun c_72 => ?_)
            · have i_72 : ¬ (r_69.toInt = 0) := fun q9 => c_72 (zi_eq.mpr q9)
              refine lv_bipush (v := -103) hx hb dX7_block_91 (by decide) ?_
              exact W.iret (v := (-103)) hx hb hr (fun t9 ht9 hW9 => ⟨⟨_, (nb, bo, bf, bl), rfl, Or.inr (Or.inl ⟨hok, ⟨i, by omega, by have := zB_ne hw_69 c_72; have := hB i (by omega); unfold zOkB at hok; exact ⟨zl_le.mpr (by omega), zl_le.mpr (by omega)⟩⟩, rfl, rfl, rfl, rfl, rfl⟩), by rw [ht9]; exact hP, va_K.moved hW9.alike hK, hD⟩, hS.F ht9⟩) hS.2.2 dX7_block_93
            · have i_72 : r_69.toInt = 0 := zi_eq.mp c_72
              refine lv_aload_n hx hb dX7_block_75 rfl (lv_at hl 1 rfl) ?_
              refine va_get (D := D) (ci := 7) (v := .ref ma2) (C := RX7) (T := TX7) (N := 19) hx hb hts k_1 hown hK hP 0 rfl rfl 3 (by decide) k_6 (fun _ h9 => h9) rfl dX7_block_76 ?_
              refine lv_iload hx hb dX7_block_79 (lv_at hl 0 rfl) ?_
              refine z_lald (k := i) hx hb hK hP 2 1 rfl rfl (by omega) (by decide) dX7_block_81 ?_
              refine lv_lload_n hx hb dX7_block_82 rfl (lv_at hl 3 rfl) ?_
              refine lv_lload hx hb dX7_block_83 (lv_at hl 4 rfl) ?_
              refine zRo_i (va_runS (As := [.long (bf i), .long p1, .long p2]) (rest := []) ⟨hx, hb, hml, hown, hts⟩ (mx_isIn l D z H.size (bf i) p1 p2 ) (va_cwS 3 hts gX7_block_X7_isIn rfl rfl rfl (by decide +kernel) ⟨Nat.le_of_ble_eq_true rfl, Nat.le_of_ble_eq_true rfl⟩) ⟨zPre_blind, (zPre_mk (wc := []) (tc := []) hP hK hD hC hS [] (by decide) rfl rfl [] rfl (zro_free hS hA))⟩ rfl rfl hl.1 rfl (lv_room (Nat.le_of_ble_eq_true rfl)) dX7_block_85 ⟨Nat.zero_le _, Nat.zero_le _⟩) hS hA hP (fun r_85 H locs hw hP hS => ?_)
              have hw_85 : zB r_85 (p1.toInt ≤ (bf i).toInt ∧ (bf i).toInt ≤ p2.toInt) := hw
              refine lv_if_eq (tgt := 94) hx hb dX7_block_88 (by decide) (fun c_88 => ?_) (fun c_88 => ?_)
              · have i_88 : r_85.toInt = 0 := zi_eq.mp c_88
                refine lv_iinc (v := (nI (i + 1))) (lv' := [(6, .int (nI (i + 1))), (0, .ref mo), (1, .int p0), (2, .long p1), (4, .long p2)]) hx hb dX7_block_94 hl (k := 0) rfl (by first | exact nI_1 _ | rfl) (by decide) rfl (fun ls hl => ?_)
                refine lv_goto (tgt := 45) hx hb dX7_block_97 (by decide) ?_
                exact ih (i + 1) _ _ _ (show nb - (i + 1) < nb - i from (by omega)) ⟨by omega, lt_s hI.2 (fun q => by have h2 := zB_eq hw_69 c_72; have h3 := zB_eq hw_85 c_88; have h4 := zl_le.mp q.1; have h5 := zl_le.mp q.2; omega)⟩ hP hD hS (lv_sub hl [0, 1, 2, 3, 4] rfl)
              · have i_88 : ¬ (r_85.toInt = 0) := fun q9 => c_88 (zi_eq.mpr q9)
                refine lv_bipush (v := -103) hx hb dX7_block_91 (by decide) ?_
                exact W.iret (v := (-103)) hx hb hr (fun t9 ht9 hW9 => ⟨⟨_, (nb, bo, bf, bl), rfl, Or.inr (Or.inl ⟨hok, ⟨i, by omega, by have := zB_ne hw_85 c_88; have := hB i (by omega); unfold zOkB at hok; exact ⟨zl_le.mpr (by omega), zl_le.mpr (by omega)⟩⟩, rfl, rfl, rfl, rfl, rfl⟩), by rw [ht9]; exact hP, va_K.moved hW9.alike hK, hD⟩, hS.F ht9⟩) hS.2.2 dX7_block_93
        · have c_36 : ¬ (p2 < 20000000000) := fun q9 => c_36 ((lg_cmp_lt _ _).mpr q9)
          have i_36 : ¬ (p2.toInt < 20000000000) := fun q9 => c_36 (zl_lt.mpr q9)
          refine lv_bipush (v := -102) hx hb dX7_block_39 (by decide) ?_
          exact W.iret (v := (-102)) hx hb hr (fun t9 ht9 hW9 => ⟨⟨_, (nb, bo, bf, bl), rfl, Or.inl ⟨fun q => by unfold zOkB at q; omega, rfl, rfl, rfl, rfl, rfl⟩, by rw [ht9]; exact hP, va_K.moved hW9.alike hK, hD⟩, hS.F ht9⟩) hS.2.2 dX7_block_41

set_option maxHeartbeats 4000000 in
set_option maxRecDepth 100000 in
theorem mx_next (l : Launch) (D : va_G) (z : zG) (sz : Nat) (mo : Nat) (ma1 : Nat) (ma2 : Nat) (ma3 : Nat) (mb1 : Nat) (mb2 : Nat) (mg1 : Nat) (mg2 : Nat) (mt1 : Nat) (mn1 : Nat) (mn2 : Nat) (mn3 : Nat) (ml1 : Nat) (mw1 : Nat) (th : Int32) (nb : Nat) (nq : Nat) (ng : Nat) (nt : Nat) (nn : Nat) (ja1 : ClassId) (bo : Nat → Int32) (ja2 : ClassId) (bf : Nat → Int64) (ja3 : ClassId) (bl : Nat → Int64) (jb1 : ClassId) (qf : Nat → Int64) (jb2 : ClassId) (ql : Nat → Int64) (jg1 : ClassId) (gn : Nat → Int64) (jg2 : ClassId) (gg : Nat → Int32) (p0 : Int32) (p1 : Int32) (hn : nb ≤ 50) (hq : nq ≤ 50) (hg : ng < 4200) (ht : zTop nq ql) (hB : zBwf nb bf bl) : Met l yX7_next wsX7_next ({ frames := 3, cells := 0, slots := 0, locals := 76 }) (zPre D z [.ref mo, .int p0, .int p1] sz [(mo, .inr (7, [.int th, .int (nI nb), .ref ma1, .ref ma2, .ref ma3, .int (nI nq), .ref mb1, .ref mb2, .int (nI ng), .ref mg1, .ref mg2, .int (nI nt), .ref mt1, .int (nI nn), .ref mn1, .ref mn2, .ref mn3, .ref ml1, .ref mw1])), (ma1, .inl (ja1, 50, .inl bo)), (ma2, .inl (ja2, 50, .inr (.inl bf))), (ma3, .inl (ja3, 50, .inr (.inl bl))), (mb1, .inl (jb1, 50, .inr (.inl qf))), (mb2, .inl (jb2, 50, .inr (.inl ql))), (mg1, .inl (jg1, 4200, .inr (.inl gn))), (mg2, .inl (jg2, 4200, .inl gg))] [(ja1, .int), (ja2, .long), (ja3, .long), (jb1, .long), (jb2, .long), (jg1, .long), (jg2, .boolean)] (va_A [(mo, .inr (7, [.int th, .int (nI nb), .ref ma1, .ref ma2, .ref ma3, .int (nI nq), .ref mb1, .ref mb2, .int (nI ng), .ref mg1, .ref mg2, .int (nI nt), .ref mt1, .int (nI nn), .ref mn1, .ref mn2, .ref mn3, .ref ml1, .ref mw1])), (ma1, .inl (ja1, 50, .inl bo)), (ma2, .inl (ja2, 50, .inr (.inl bf))), (ma3, .inl (ja3, 50, .inr (.inl bl))), (mb1, .inl (jb1, 50, .inr (.inl qf))), (mb2, .inl (jb2, 50, .inr (.inl ql))), (mg1, .inl (jg1, 4200, .inr (.inl gn))), (mg2, .inl (jg2, 4200, .inl gg))] sz)) (va_Ql (fun (r : Int64) (u : Nat × (Nat → Int64) × (Nat → Int32)) => (¬ zOkN p0 p1 ∧ r = -102 ∧ u.1 = ng ∧ u.2.1 = gn ∧ u.2.2 = gg) ∨ (zOkN p0 p1 ∧ ((zNon nq qf ql ng gn nb bo bf bl p0 ∧ r = 0 ∧ u.1 = ng ∧ u.2.1 = gn ∧ u.2.2 = gg) ∨ ∃ x, zNxt nq qf ql ng gn nb bo bf bl p0 x ∧ r = znumM p1 x ∧ u.1 = ng + 1 ∧ u.2.1 = vp_updL gn ng (znumM p1 x) ∧ u.2.2 = upd gg ng 0))) (zAt D [(ja1, .int), (ja2, .long), (ja3, .long), (jb1, .long), (jb2, .long), (jg1, .long), (jg2, .boolean)] (va_A [(mo, .inr (7, [.int th, .int (nI nb), .ref ma1, .ref ma2, .ref ma3, .int (nI nq), .ref mb1, .ref mb2, .int (nI ng), .ref mg1, .ref mg2, .int (nI nt), .ref mt1, .int (nI nn), .ref mn1, .ref mn2, .ref mn3, .ref ml1, .ref mw1])), (ma1, .inl (ja1, 50, .inl bo)), (ma2, .inl (ja2, 50, .inr (.inl bf))), (ma3, .inl (ja3, 50, .inr (.inl bl))), (mb1, .inl (jb1, 50, .inr (.inl qf))), (mb2, .inl (jb2, 50, .inr (.inl ql))), (mg1, .inl (jg1, 4200, .inr (.inl gn))), (mg2, .inl (jg2, 4200, .inl gg))] sz) (fun u : Nat × (Nat → Int64) × (Nat → Int32) => [(mo, .inr (7, [.int 0, .int (nI nb), .ref ma1, .ref ma2, .ref ma3, .int (nI nq), .ref mb1, .ref mb2, .int (nI u.1), .ref mg1, .ref mg2, .int (nI nt), .ref mt1, .int (nI nn), .ref mn1, .ref mn2, .ref mn3, .ref ml1, .ref mw1])), (ma1, .inl (ja1, 50, .inl bo)), (ma2, .inl (ja2, 50, .inr (.inl bf))), (ma3, .inl (ja3, 50, .inr (.inl bl))), (mb1, .inl (jb1, 50, .inr (.inl qf))), (mb2, .inl (jb2, 50, .inr (.inl ql))), (mg1, .inl (jg1, 4200, .inr (.inl u.2.1))), (mg2, .inl (jg2, 4200, .inl u.2.2))])) (va_A [(mo, .inr (7, [.int th, .int (nI nb), .ref ma1, .ref ma2, .ref ma3, .int (nI nq), .ref mb1, .ref mb2, .int (nI ng), .ref mg1, .ref mg2, .int (nI nt), .ref mt1, .int (nI nn), .ref mn1, .ref mn2, .ref mn3, .ref ml1, .ref mw1])), (ma1, .inl (ja1, 50, .inl bo)), (ma2, .inl (ja2, 50, .inr (.inl bf))), (ma3, .inl (ja3, 50, .inr (.inl bl))), (mb1, .inl (jb1, 50, .inr (.inl qf))), (mb2, .inl (jb2, 50, .inr (.inl ql))), (mg1, .inl (jg1, 4200, .inr (.inl gn))), (mg2, .inl (jg2, 4200, .inl gg))] sz)) 0 0 (va_A [(mo, .inr (7, [.int th, .int (nI nb), .ref ma1, .ref ma2, .ref ma3, .int (nI nq), .ref mb1, .ref mb2, .int (nI ng), .ref mg1, .ref mg2, .int (nI nt), .ref mt1, .int (nI nn), .ref mn1, .ref mn2, .ref mn3, .ref ml1, .ref mw1])), (ma1, .inl (ja1, 50, .inl bo)), (ma2, .inl (ja2, 50, .inr (.inl bf))), (ma3, .inl (ja3, 50, .inr (.inl bl))), (mb1, .inl (jb1, 50, .inr (.inl qf))), (mb2, .inl (jb2, 50, .inr (.inl ql))), (mg1, .inl (jg1, 4200, .inr (.inl gn))), (mg2, .inl (jg2, 4200, .inl gg))] sz) := by
  refine Met.ofW (cc := cX7_next) (maxL := 6) (ret := (some .long)) (by decide) rfl ?_
  intro p e s m args below meth c s₁ B hml hv
  obtain ⟨rfl, hsz, hP, hK, hD, hC⟩ := hv
  have hx := B.exec
  have hb := B.bytes
  have hr := B.returns
  have hts := atoms_spec (ws := wsX7_next) B.pre
  have hown : s.vm.findClass RX7 = some m.cls := findClass_of_methodNamed B.named
  have hlocks := B.notSynchronized
  subst hsz
  have hD := hD.self (sz := s.heap.size)
  generalize hAe : va_A [(mo, .inr (7, [.int th, .int (nI nb), .ref ma1, .ref ma2, .ref ma3, .int (nI nq), .ref mb1, .ref mb2, .int (nI ng), .ref mg1, .ref mg2, .int (nI nt), .ref mt1, .int (nI nn), .ref mn1, .ref mn2, .ref mn3, .ref ml1, .ref mw1])), (ma1, .inl (ja1, 50, .inl bo)), (ma2, .inl (ja2, 50, .inr (.inl bf))), (ma3, .inl (ja3, 50, .inr (.inl bl))), (mb1, .inl (jb1, 50, .inr (.inl qf))), (mb2, .inl (jb2, 50, .inr (.inl ql))), (mg1, .inl (jg1, 4200, .inr (.inl gn))), (mg2, .inl (jg2, 4200, .inl gg))] s.heap.size = A at hC hD ⊢
  have hA : ∀ q : Nat, s.heap.size ≤ q → A q := fun q h => by rw [← hAe]; exact Or.inr h
  have hS : va_S A s.heap s.heap [] := va_S.rf
  have hP : va_P D vwCl [(mo, .inr (7, [.int th, .int (nI nb), .ref ma1, .ref ma2, .ref ma3, .int (nI nq), .ref mb1, .ref mb2, .int (nI ng), .ref mg1, .ref mg2, .int (nI nt), .ref mt1, .int (nI nn), .ref mn1, .ref mn2, .ref mn3, .ref ml1, .ref mw1])), (ma1, .inl (ja1, 50, .inl bo)), (ma2, .inl (ja2, 50, .inr (.inl bf))), (ma3, .inl (ja3, 50, .inr (.inl bl))), (mb1, .inl (jb1, 50, .inr (.inl qf))), (mb2, .inl (jb2, 50, .inr (.inl ql))), (mg1, .inl (jg1, 4200, .inr (.inl gn))), (mg2, .inl (jg2, 4200, .inl gg))] s.heap := hP
  have hl := lv_entry ([.ref mo, .int p0, .int p1]) (n := 6) (Nat.le_of_ble_eq_true rfl)
  rw [lg_entry_eq]
  generalize (lg_sl ([.ref mo, .int p0, .int p1]) ++ List.replicate (6 - (lg_sl ([.ref mo, .int p0, .int p1])).length) Slot.unset).toArray = ls at hl ⊢
  have hl : lv_has ls 6 [(0, .ref mo), (1, .int p0), (2, .int p1)] := hl
  refine zNameH (D := D) (A := A) (ws := [(mo, .inr (7, [.int th, .int (nI nb), .ref ma1, .ref ma2, .ref ma3, .int (nI nq), .ref mb1, .ref mb2, .int (nI ng), .ref mg1, .ref mg2, .int (nI nt), .ref mt1, .int (nI nn), .ref mn1, .ref mn2, .ref mn3, .ref ml1, .ref mw1])), (ma1, .inl (ja1, 50, .inl bo)), (ma2, .inl (ja2, 50, .inr (.inl bf))), (ma3, .inl (ja3, 50, .inr (.inl bl))), (mb1, .inl (jb1, 50, .inr (.inl qf))), (mb2, .inl (jb2, 50, .inr (.inl ql))), (mg1, .inl (jg1, 4200, .inr (.inl gn))), (mg2, .inl (jg2, 4200, .inl gg))]) (fun H locs hP hS => ?_) hP hS
  have k_0 := hts (.fieldLink RX7 55 "NumberRows2Model" "thrown" "I") (by decide +kernel)
  have k_1 : ∀ w ∈ wsX70, w ∈ wsX7_next := by decide +kernel
  have k_2 := hts (.constantLong RX7 58 (99)) (by decide +kernel)
  have k_3 := hts (.constantLong RX7 89 (-102)) (by decide +kernel)
  have k_4 := hts (.constantLong RX7 87 (9)) (by decide +kernel)
  have k_5 := hts (.fieldLink RX7 66 "NumberRows2Model" "blocks" "I") (by decide +kernel)
  have k_6 := hts (.fieldLink RX7 7 "NumberRows2Model" "offices" "[I") (by decide +kernel)
  have k_7 := hts (.constantLong RX7 69 (-1)) (by decide +kernel)
  have k_8 := hts (.fieldLink RX7 26 "NumberRows2Model" "numbers" "[J") (by decide +kernel)
  have k_9 := hts (.fieldLink RX7 74 "NumberRows2Model" "gave" "I") (by decide +kernel)
  have k_10 := hts (.constantLong RX7 77 (27512614111)) (by decide +kernel)
  have k_11 := hts (.fieldLink RX7 29 "NumberRows2Model" "gone" "[Z") (by decide +kernel)
  refine lv_aload_n hx hb dX7_next_0 rfl (lv_at hl 0 rfl) ?_
  refine lv_iconst (v := 0) hx hb dX7_next_1 (by decide) ?_
  refine va_put (D := D) (ci := 7) (v := .int 0) (ty := .int) (C := RX7) (T := TX7) (N := 19) hx hb hts k_1 tyX7 tyX7_ok nmX7 hown hK hP hD hS 0 rfl rfl 0 (by decide) k_0 (fun _ h9 => h9) rfl (by decide +kernel) rfl rfl (Nat.le_of_ble_eq_true rfl) dX7_next_2 (fun H locs hP hD hS => ?_)
  have hP : va_P D vwCl [(mo, .inr (7, [.int 0, .int (nI nb), .ref ma1, .ref ma2, .ref ma3, .int (nI nq), .ref mb1, .ref mb2, .int (nI ng), .ref mg1, .ref mg2, .int (nI nt), .ref mt1, .int (nI nn), .ref mn1, .ref mn2, .ref mn3, .ref ml1, .ref mw1])), (ma1, .inl (ja1, 50, .inl bo)), (ma2, .inl (ja2, 50, .inr (.inl bf))), (ma3, .inl (ja3, 50, .inr (.inl bl))), (mb1, .inl (jb1, 50, .inr (.inl qf))), (mb2, .inl (jb2, 50, .inr (.inl ql))), (mg1, .inl (jg1, 4200, .inr (.inl gn))), (mg2, .inl (jg2, 4200, .inl gg))] H := hP
  have hD : va_D A [(mo, .inr (7, [.int 0, .int (nI nb), .ref ma1, .ref ma2, .ref ma3, .int (nI nq), .ref mb1, .ref mb2, .int (nI ng), .ref mg1, .ref mg2, .int (nI nt), .ref mt1, .int (nI nn), .ref mn1, .ref mn2, .ref mn3, .ref ml1, .ref mw1])), (ma1, .inl (ja1, 50, .inl bo)), (ma2, .inl (ja2, 50, .inr (.inl bf))), (ma3, .inl (ja3, 50, .inr (.inl bl))), (mb1, .inl (jb1, 50, .inr (.inl qf))), (mb2, .inl (jb2, 50, .inr (.inl ql))), (mg1, .inl (jg1, 4200, .inr (.inl gn))), (mg2, .inl (jg2, 4200, .inl gg))] := hD
  refine lv_iload_n hx hb dX7_next_5 rfl (lv_at hl 1 rfl) ?_
  refine lv_i2l (v := p0.toInt64) hx hb dX7_next_6 rfl ?_
  refine lv_lconst (v := 0) hx hb dX7_next_7 (by decide) ?_
  refine lv_ldc2 hx hb hown k_2 dX7_next_8 ?_
  refine zRo_i (va_runS (As := [.long p0.toInt64, .long 0, .long 99]) (rest := []) ⟨hx, hb, hml, hown, hts⟩ (mx_isIn l D z H.size p0.toInt64 (0 : Int64) (99 : Int64) ) (va_cwS 3 hts gX7_next_X7_isIn rfl rfl rfl (by decide +kernel) ⟨Nat.le_of_ble_eq_true rfl, Nat.le_of_ble_eq_true rfl⟩) ⟨zPre_blind, (zPre_mk (wc := []) (tc := []) hP hK hD hC hS [] (by decide) rfl rfl [] rfl (zro_free hS hA))⟩ rfl rfl hl.1 rfl (lv_room (Nat.le_of_ble_eq_true rfl)) dX7_next_11 ⟨Nat.zero_le _, Nat.zero_le _⟩) hS hA hP (fun r_11 H locs hw hP hS => ?_)
  have hw_11 : zB r_11 (0 ≤ p0.toInt64.toInt ∧ p0.toInt64.toInt ≤ 99) := hw
  rw [zi_l] at hw_11
  refine lv_if_eq (tgt := 29) hx hb dX7_next_14 (by decide) (fun c_14 => ?_) (fun c_14 => ?_)
  · have i_14 : r_11.toInt = 0 := zi_eq.mp c_14
    refine lv_ldc2 hx hb hown k_3 dX7_next_29 ?_
    exact W.lret (v := (-102)) hx hb hr (fun t9 ht9 hW9 => ⟨⟨_, (ng, gn, gg), rfl, Or.inl ⟨fun q => zB_eq hw_11 c_14 (by unfold zOkN at q; omega), rfl, rfl, rfl, rfl⟩, by rw [ht9]; exact hP, va_K.moved hW9.alike hK, hD⟩, hS.F ht9⟩) hS.2.2 dX7_next_32
  · have i_14 : ¬ (r_11.toInt = 0) := fun q9 => c_14 (zi_eq.mpr q9)
    refine lv_iload_n hx hb dX7_next_17 rfl (lv_at hl 2 rfl) ?_
    refine lv_i2l (v := p1.toInt64) hx hb dX7_next_18 rfl ?_
    refine lv_lconst (v := 0) hx hb dX7_next_19 (by decide) ?_
    refine lv_ldc2 hx hb hown k_4 dX7_next_20 ?_
    refine zRo_i (va_runS (As := [.long p1.toInt64, .long 0, .long 9]) (rest := []) ⟨hx, hb, hml, hown, hts⟩ (mx_isIn l D z H.size p1.toInt64 (0 : Int64) (9 : Int64) ) (va_cwS 3 hts gX7_next_X7_isIn rfl rfl rfl (by decide +kernel) ⟨Nat.le_of_ble_eq_true rfl, Nat.le_of_ble_eq_true rfl⟩) ⟨zPre_blind, (zPre_mk (wc := []) (tc := []) hP hK hD hC hS [] (by decide) rfl rfl [] rfl (zro_free hS hA))⟩ rfl rfl hl.1 rfl (lv_room (Nat.le_of_ble_eq_true rfl)) dX7_next_23 ⟨Nat.zero_le _, Nat.zero_le _⟩) hS hA hP (fun r_23 H locs hw hP hS => ?_)
    have hw_23 : zB r_23 (0 ≤ p1.toInt64.toInt ∧ p1.toInt64.toInt ≤ 9) := hw
    rw [zi_l] at hw_23
    refine lv_if_ne (tgt := 33) hx hb dX7_next_26 (by decide) (fun c_26 => ?_) (fun c_26 => ?_)
    · have i_26 : ¬ (r_23.toInt = 0) := fun q9 => c_26 (zi_eq.mpr q9)
      have hok : zOkN p0 p1 := by have := zB_ne hw_11 c_14; have := zB_ne hw_23 c_26; unfold zOkN; omega
      refine lv_iconst (v := 0) hx hb dX7_next_33 (by decide) ?_
      refine lv_istore_n (lv' := [(3, .int 0), (0, .ref mo), (1, .int p0), (2, .int p1)]) hx hb dX7_next_34 rfl hl (by decide) rfl (fun ls hl => ?_)
      refine zLoop (σ := Nat) (nL := 6) (μ := fun (i : Nat) => nb - i) (lv := fun (i : Nat) => [(3, .int (nI i)), (0, .ref mo), (1, .int p0), (2, .int p1)]) (wf := fun (i : Nat) => [(mo, .inr (7, [.int 0, .int (nI nb), .ref ma1, .ref ma2, .ref ma3, .int (nI nq), .ref mb1, .ref mb2, .int (nI ng), .ref mg1, .ref mg2, .int (nI nt), .ref mt1, .int (nI nn), .ref mn1, .ref mn2, .ref mn3, .ref ml1, .ref mw1])), (ma1, .inl (ja1, 50, .inl bo)), (ma2, .inl (ja2, 50, .inr (.inl bf))), (ma3, .inl (ja3, 50, .inr (.inl bl))), (mb1, .inl (jb1, 50, .inr (.inl qf))), (mb2, .inl (jb2, 50, .inr (.inl ql))), (mg1, .inl (jg1, 4200, .inr (.inl gn))), (mg2, .inl (jg2, 4200, .inl gg))]) (I := fun (i : Nat) => i ≤ nb ∧ ∀ j, j < i → bo j = p0 → zFul nq qf ql ng gn (bf j) (bl j)) (fun x H locs ls hI hP hD hS hl ih => ?_) 0 ⟨Nat.zero_le _, fun j hj => absurd hj (Nat.not_lt_zero j)⟩ hP hD hS (lv_sub hl [0, 1, 2, 3] rfl)
      obtain ⟨i, rfl⟩ : ∃ y9, y9 = x := ⟨_, rfl⟩
      have hI : i ≤ nb ∧ ∀ j, j < i → bo j = p0 → zFul nq qf ql ng gn (bf j) (bl j) := hI
      have hl : lv_has ls 6 [(3, .int (nI i)), (0, .ref mo), (1, .int p0), (2, .int p1)] := hl
      have hP : va_P D vwCl [(mo, .inr (7, [.int 0, .int (nI nb), .ref ma1, .ref ma2, .ref ma3, .int (nI nq), .ref mb1, .ref mb2, .int (nI ng), .ref mg1, .ref mg2, .int (nI nt), .ref mt1, .int (nI nn), .ref mn1, .ref mn2, .ref mn3, .ref ml1, .ref mw1])), (ma1, .inl (ja1, 50, .inl bo)), (ma2, .inl (ja2, 50, .inr (.inl bf))), (ma3, .inl (ja3, 50, .inr (.inl bl))), (mb1, .inl (jb1, 50, .inr (.inl qf))), (mb2, .inl (jb2, 50, .inr (.inl ql))), (mg1, .inl (jg1, 4200, .inr (.inl gn))), (mg2, .inl (jg2, 4200, .inl gg))] H := hP
      have hD : va_D A [(mo, .inr (7, [.int 0, .int (nI nb), .ref ma1, .ref ma2, .ref ma3, .int (nI nq), .ref mb1, .ref mb2, .int (nI ng), .ref mg1, .ref mg2, .int (nI nt), .ref mt1, .int (nI nn), .ref mn1, .ref mn2, .ref mn3, .ref ml1, .ref mw1])), (ma1, .inl (ja1, 50, .inl bo)), (ma2, .inl (ja2, 50, .inr (.inl bf))), (ma3, .inl (ja3, 50, .inr (.inl bl))), (mb1, .inl (jb1, 50, .inr (.inl qf))), (mb2, .inl (jb2, 50, .inr (.inl ql))), (mg1, .inl (jg1, 4200, .inr (.inl gn))), (mg2, .inl (jg2, 4200, .inl gg))] := hD
      have h1 := hI.1
      refine lv_iload_n hx hb dX7_next_35 rfl (lv_at hl 0 rfl) ?_
      refine lv_aload_n hx hb dX7_next_36 rfl (lv_at hl 1 rfl) ?_
      refine va_get (D := D) (ci := 7) (v := .int (nI nb)) (C := RX7) (T := TX7) (N := 19) hx hb hts k_1 hown hK hP 0 rfl rfl 1 (by decide) k_5 (fun _ h9 => h9) rfl dX7_next_37 ?_
      refine lv_icmp_ge (tgt := 131) hx hb dX7_next_40 (by decide) (fun c_40 => ?_) (fun c_40 => ?_)
      · have c_40 : nb ≤ i := (nI_leI (a := nb) (b := i) (by omega) (by omega)).mp c_40
        refine lv_lconst (v := 0) hx hb dX7_next_131 (by decide) ?_
        exact W.lret (v := 0) hx hb hr (fun t9 ht9 hW9 => ⟨⟨_, (ng, gn, gg), rfl, Or.inr ⟨hok, Or.inl ⟨fun j hj => hI.2 j (by omega), rfl, rfl, rfl, rfl⟩⟩, by rw [ht9]; exact hP, va_K.moved hW9.alike hK, hD⟩, hS.F ht9⟩) hS.2.2 dX7_next_132
      · have c_40 : ¬ (nb ≤ i) := fun q9 => c_40 ((nI_leI (a := nb) (b := i) (by omega) (by omega)).mpr q9)
        refine lv_aload_n hx hb dX7_next_43 rfl (lv_at hl 1 rfl) ?_
        refine va_get (D := D) (ci := 7) (v := .ref ma1) (C := RX7) (T := TX7) (N := 19) hx hb hts k_1 hown hK hP 0 rfl rfl 2 (by decide) k_6 (fun _ h9 => h9) rfl dX7_next_44 ?_
        refine lv_iload_n hx hb dX7_next_47 rfl (lv_at hl 0 rfl) ?_
        refine z_iald (k := i) hx hb hK hP 1 0 rfl rfl (by omega) (by decide) dX7_next_48 ?_
        refine lv_iload_n hx hb dX7_next_49 rfl (lv_at hl 2 rfl) ?_
        refine lv_icmp_ne (tgt := 61) hx hb dX7_next_50 (by decide) (fun c_50 => ?_) (fun c_50 => ?_)
        · have i_50 : ¬ ((bo i).toInt = p0.toInt) := fun q9 => c_50 (zi_eq.mpr q9)
          refine lv_ldc2 hx hb hown k_7 dX7_next_61 ?_
          refine lv_lstore (lv' := [(4, .long (-1)), (3, .int (nI i)), (0, .ref mo), (1, .int p0), (2, .int p1)]) hx hb dX7_next_64 hl (by decide) rfl (fun ls hl => ?_)
          refine lv_lload hx hb dX7_next_66 (lv_at hl 0 rfl) ?_
          refine lv_lconst (v := 0) hx hb dX7_next_68 (by decide) ?_
          refine W.lcmp hx hb dX7_next_69 ?_
          refine lv_if_lt (tgt := 125) hx hb dX7_next_70 (by decide) (fun c_70 => ?_) (fun c_70 => ?_)
          · have c_70 : ((-1) : Int64) < 0 := (lg_cmp_lt _ _).mp c_70
            refine lv_iinc (v := (nI (i + 1))) (lv' := [(3, .int (nI (i + 1))), (4, .long (-1)), (0, .ref mo), (1, .int p0), (2, .int p1)]) hx hb dX7_next_125 hl (k := 1) rfl (by first | exact nI_1 _ | rfl) (by decide) rfl (fun ls hl => ?_)
            refine lv_goto (tgt := 35) hx hb dX7_next_128 (by decide) ?_
            exact ih (i + 1) _ _ _ (show nb - (i + 1) < nb - i from (by omega)) ⟨by omega, lt_s hI.2 (fun q => absurd q c_50)⟩ hP hD hS (lv_sub hl [0, 2, 3, 4] rfl)
          · have c_70 : ¬ (((-1) : Int64) < 0) := fun q9 => c_70 ((lg_cmp_lt _ _).mpr q9)
            exact absurd c_70 (fun q => q (by decide))
        · have i_50 : (bo i).toInt = p0.toInt := zi_eq.mp c_50
          refine lv_aload_n hx hb dX7_next_53 rfl (lv_at hl 1 rfl) ?_
          refine lv_iload_n hx hb dX7_next_54 rfl (lv_at hl 0 rfl) ?_
          refine zRo_l (va_runV (As := [.int (nI i)]) (rest := []) ⟨hx, hb, hml, hown, hts⟩ (mx_free l D z H.size mo ma1 ma2 ma3 mb1 mb2 mg1 mg2 mt1 mn1 mn2 mn3 ml1 mw1 (0 : Int32) nb nq ng nt nn ja2 bf ja3 bl jb1 qf jb2 ql jg1 gn i (by omega) (by omega) (by omega) ht (hB i (by omega))) (cwV 1 hts gX7_next_X7_free rfl rfl rfl (by decide +kernel) ⟨Nat.le_of_ble_eq_true rfl, Nat.le_of_ble_eq_true rfl⟩) ⟨zPre_blind, va_recv hK hP (ci := 7) (q0 := 0) rfl rfl, (zPre_mk (wc := [(mo, .inr (7, [.int (0 : Int32), .int (nI nb), .ref ma1, .ref ma2, .ref ma3, .int (nI nq), .ref mb1, .ref mb2, .int (nI ng), .ref mg1, .ref mg2, .int (nI nt), .ref mt1, .int (nI nn), .ref mn1, .ref mn2, .ref mn3, .ref ml1, .ref mw1])), (ma2, .inl (ja2, 50, .inr (.inl bf))), (ma3, .inl (ja3, 50, .inr (.inl bl))), (mb1, .inl (jb1, 50, .inr (.inl qf))), (mb2, .inl (jb2, 50, .inr (.inl ql))), (mg1, .inl (jg1, 4200, .inr (.inl gn)))]) (tc := [(ja2, .long), (ja3, .long), (jb1, .long), (jb2, .long), (jg1, .long)]) hP hK hD hC hS [0, 2, 3, 4, 5, 6] (by decide) rfl rfl [1, 2, 3, 4, 5] rfl (zro_free hS hA))⟩ rfl rfl hl.1 rfl (lv_room (Nat.le_of_ble_eq_true rfl)) dX7_next_55 ⟨Nat.zero_le _, Nat.zero_le _⟩) hS hA hP (fun r_55 H locs hw hP hS => ?_)
          have hw_55 : zFre nq qf ql ng gn (bf i) (bl i) r_55 ∨ (zFul nq qf ql ng gn (bf i) (bl i) ∧ r_55 = -1) := hw
          refine lv_goto (tgt := 64) hx hb dX7_next_58 (by decide) ?_
          refine lv_lstore (lv' := [(4, .long r_55), (3, .int (nI i)), (0, .ref mo), (1, .int p0), (2, .int p1)]) hx hb dX7_next_64 hl (by decide) rfl (fun ls hl => ?_)
          refine lv_lload hx hb dX7_next_66 (lv_at hl 0 rfl) ?_
          refine lv_lconst (v := 0) hx hb dX7_next_68 (by decide) ?_
          refine W.lcmp hx hb dX7_next_69 ?_
          refine lv_if_lt (tgt := 125) hx hb dX7_next_70 (by decide) (fun c_70 => ?_) (fun c_70 => ?_)
          · have c_70 : r_55 < 0 := (lg_cmp_lt _ _).mp c_70
            have i_70 : r_55.toInt < 0 := zl_lt.mp c_70
            refine lv_iinc (v := (nI (i + 1))) (lv' := [(3, .int (nI (i + 1))), (4, .long r_55), (0, .ref mo), (1, .int p0), (2, .int p1)]) hx hb dX7_next_125 hl (k := 1) rfl (by first | exact nI_1 _ | rfl) (by decide) rfl (fun ls hl => ?_)
            refine lv_goto (tgt := 35) hx hb dX7_next_128 (by decide) ?_
            exact ih (i + 1) _ _ _ (show nb - (i + 1) < nb - i from (by omega)) ⟨by omega, lt_s hI.2 (fun _ => (hw_55.resolve_left (fun q => by have := zl_le.mp q.1; have := hB i (by omega); omega)).1)⟩ hP hD hS (lv_sub hl [0, 2, 3, 4] rfl)
          · have c_70 : ¬ (r_55 < 0) := fun q9 => c_70 ((lg_cmp_lt _ _).mpr q9)
            have i_70 : ¬ (r_55.toInt < 0) := fun q9 => c_70 (zl_lt.mpr q9)
            have hfr : zFre nq qf ql ng gn (bf i) (bl i) r_55 := hw_55.resolve_right (fun q => i_70 (by rw [q.2]; decide))
            refine lv_aload_n hx hb dX7_next_73 rfl (lv_at hl 2 rfl) ?_
            refine va_get (D := D) (ci := 7) (v := .ref mg1) (C := RX7) (T := TX7) (N := 19) hx hb hts k_1 hown hK hP 0 rfl rfl 9 (by decide) k_8 (fun _ h9 => h9) rfl dX7_next_74 ?_
            refine lv_aload_n hx hb dX7_next_77 rfl (lv_at hl 2 rfl) ?_
            refine va_get (D := D) (ci := 7) (v := .int (nI ng)) (C := RX7) (T := TX7) (N := 19) hx hb hts k_1 hown hK hP 0 rfl rfl 8 (by decide) k_9 (fun _ h9 => h9) rfl dX7_next_78 ?_
            refine lv_iload_n hx hb dX7_next_81 rfl (lv_at hl 4 rfl) ?_
            refine lv_i2l (v := p1.toInt64) hx hb dX7_next_82 rfl ?_
            refine lv_lconst (v := 1) hx hb dX7_next_83 (by decide) ?_
            refine lv_ladd hx hb dX7_next_84 ?_
            refine lv_ldc2 hx hb hown k_10 dX7_next_85 ?_
            refine lv_lmul hx hb dX7_next_88 ?_
            refine lv_lload hx hb dX7_next_89 (lv_at hl 0 rfl) ?_
            refine lv_ladd hx hb dX7_next_91 ?_
            refine z_last (k := ng) hx hb hK hP hD hS 6 5 rfl rfl (by omega) (by decide) dX7_next_92 (fun H locs hP hD hS => ?_)
            have hP : va_P D vwCl [(mo, .inr (7, [.int 0, .int (nI nb), .ref ma1, .ref ma2, .ref ma3, .int (nI nq), .ref mb1, .ref mb2, .int (nI ng), .ref mg1, .ref mg2, .int (nI nt), .ref mt1, .int (nI nn), .ref mn1, .ref mn2, .ref mn3, .ref ml1, .ref mw1])), (ma1, .inl (ja1, 50, .inl bo)), (ma2, .inl (ja2, 50, .inr (.inl bf))), (ma3, .inl (ja3, 50, .inr (.inl bl))), (mb1, .inl (jb1, 50, .inr (.inl qf))), (mb2, .inl (jb2, 50, .inr (.inl ql))), (mg1, .inl (jg1, 4200, .inr (.inl (vp_updL gn ng (((p1.toInt64 + 1) * 27512614111) + r_55))))), (mg2, .inl (jg2, 4200, .inl gg))] H := hP
            have hD : va_D A [(mo, .inr (7, [.int 0, .int (nI nb), .ref ma1, .ref ma2, .ref ma3, .int (nI nq), .ref mb1, .ref mb2, .int (nI ng), .ref mg1, .ref mg2, .int (nI nt), .ref mt1, .int (nI nn), .ref mn1, .ref mn2, .ref mn3, .ref ml1, .ref mw1])), (ma1, .inl (ja1, 50, .inl bo)), (ma2, .inl (ja2, 50, .inr (.inl bf))), (ma3, .inl (ja3, 50, .inr (.inl bl))), (mb1, .inl (jb1, 50, .inr (.inl qf))), (mb2, .inl (jb2, 50, .inr (.inl ql))), (mg1, .inl (jg1, 4200, .inr (.inl (vp_updL gn ng (((p1.toInt64 + 1) * 27512614111) + r_55))))), (mg2, .inl (jg2, 4200, .inl gg))] := hD
            refine lv_aload_n hx hb dX7_next_93 rfl (lv_at hl 2 rfl) ?_
            refine va_get (D := D) (ci := 7) (v := .ref mg2) (C := RX7) (T := TX7) (N := 19) hx hb hts k_1 hown hK hP 0 rfl rfl 10 (by decide) k_11 (fun _ h9 => h9) rfl dX7_next_94 ?_
            refine lv_aload_n hx hb dX7_next_97 rfl (lv_at hl 2 rfl) ?_
            refine va_get (D := D) (ci := 7) (v := .int (nI ng)) (C := RX7) (T := TX7) (N := 19) hx hb hts k_1 hown hK hP 0 rfl rfl 8 (by decide) k_9 (fun _ h9 => h9) rfl dX7_next_98 ?_
            refine lv_iconst (v := 0) hx hb dX7_next_101 (by decide) ?_
            refine z_zast (k := ng) hx hb hK hP hD hS 7 6 rfl rfl (by omega) (by decide) dX7_next_102 (fun H locs hP hD hS => ?_)
            have hP : va_P D vwCl [(mo, .inr (7, [.int 0, .int (nI nb), .ref ma1, .ref ma2, .ref ma3, .int (nI nq), .ref mb1, .ref mb2, .int (nI ng), .ref mg1, .ref mg2, .int (nI nt), .ref mt1, .int (nI nn), .ref mn1, .ref mn2, .ref mn3, .ref ml1, .ref mw1])), (ma1, .inl (ja1, 50, .inl bo)), (ma2, .inl (ja2, 50, .inr (.inl bf))), (ma3, .inl (ja3, 50, .inr (.inl bl))), (mb1, .inl (jb1, 50, .inr (.inl qf))), (mb2, .inl (jb2, 50, .inr (.inl ql))), (mg1, .inl (jg1, 4200, .inr (.inl (vp_updL gn ng (((p1.toInt64 + 1) * 27512614111) + r_55))))), (mg2, .inl (jg2, 4200, .inl (upd gg ng (vp_nar .boolean 0))))] H := hP
            have hD : va_D A [(mo, .inr (7, [.int 0, .int (nI nb), .ref ma1, .ref ma2, .ref ma3, .int (nI nq), .ref mb1, .ref mb2, .int (nI ng), .ref mg1, .ref mg2, .int (nI nt), .ref mt1, .int (nI nn), .ref mn1, .ref mn2, .ref mn3, .ref ml1, .ref mw1])), (ma1, .inl (ja1, 50, .inl bo)), (ma2, .inl (ja2, 50, .inr (.inl bf))), (ma3, .inl (ja3, 50, .inr (.inl bl))), (mb1, .inl (jb1, 50, .inr (.inl qf))), (mb2, .inl (jb2, 50, .inr (.inl ql))), (mg1, .inl (jg1, 4200, .inr (.inl (vp_updL gn ng (((p1.toInt64 + 1) * 27512614111) + r_55))))), (mg2, .inl (jg2, 4200, .inl (upd gg ng (vp_nar .boolean 0))))] := hD
            refine lv_aload_n hx hb dX7_next_103 rfl (lv_at hl 2 rfl) ?_
            refine lv_dup hx hb dX7_next_104 rfl ?_
            refine va_get (D := D) (ci := 7) (v := .int (nI ng)) (C := RX7) (T := TX7) (N := 19) hx hb hts k_1 hown hK hP 0 rfl rfl 8 (by decide) k_9 (fun _ h9 => h9) rfl dX7_next_105 ?_
            refine lv_iconst (v := 1) hx hb dX7_next_108 (by decide) ?_
            refine lv_iadd hx hb dX7_next_109 ?_
            refine lv_topi (fun y_1 e_1 => ?_)
            obtain rfl : y_1 = nI (ng + 1) := e_1.trans (by first | exact nI_1 _ | exact nI_add _ 1)
            refine va_put (D := D) (ci := 7) (v := .int (nI (ng + 1))) (ty := .int) (C := RX7) (T := TX7) (N := 19) hx hb hts k_1 tyX7 tyX7_ok nmX7 hown hK hP hD hS 0 rfl rfl 8 (by decide) k_9 (fun _ h9 => h9) rfl (by decide +kernel) rfl rfl (Nat.le_of_ble_eq_true rfl) dX7_next_110 (fun H locs hP hD hS => ?_)
            have hP : va_P D vwCl [(mo, .inr (7, [.int 0, .int (nI nb), .ref ma1, .ref ma2, .ref ma3, .int (nI nq), .ref mb1, .ref mb2, .int (nI (ng + 1)), .ref mg1, .ref mg2, .int (nI nt), .ref mt1, .int (nI nn), .ref mn1, .ref mn2, .ref mn3, .ref ml1, .ref mw1])), (ma1, .inl (ja1, 50, .inl bo)), (ma2, .inl (ja2, 50, .inr (.inl bf))), (ma3, .inl (ja3, 50, .inr (.inl bl))), (mb1, .inl (jb1, 50, .inr (.inl qf))), (mb2, .inl (jb2, 50, .inr (.inl ql))), (mg1, .inl (jg1, 4200, .inr (.inl (vp_updL gn ng (((p1.toInt64 + 1) * 27512614111) + r_55))))), (mg2, .inl (jg2, 4200, .inl (upd gg ng (vp_nar .boolean 0))))] H := hP
            have hD : va_D A [(mo, .inr (7, [.int 0, .int (nI nb), .ref ma1, .ref ma2, .ref ma3, .int (nI nq), .ref mb1, .ref mb2, .int (nI (ng + 1)), .ref mg1, .ref mg2, .int (nI nt), .ref mt1, .int (nI nn), .ref mn1, .ref mn2, .ref mn3, .ref ml1, .ref mw1])), (ma1, .inl (ja1, 50, .inl bo)), (ma2, .inl (ja2, 50, .inr (.inl bf))), (ma3, .inl (ja3, 50, .inr (.inl bl))), (mb1, .inl (jb1, 50, .inr (.inl qf))), (mb2, .inl (jb2, 50, .inr (.inl ql))), (mg1, .inl (jg1, 4200, .inr (.inl (vp_updL gn ng (((p1.toInt64 + 1) * 27512614111) + r_55))))), (mg2, .inl (jg2, 4200, .inl (upd gg ng (vp_nar .boolean 0))))] := hD
            refine lv_aload_n hx hb dX7_next_113 rfl (lv_at hl 2 rfl) ?_
            refine va_get (D := D) (ci := 7) (v := .ref mg1) (C := RX7) (T := TX7) (N := 19) hx hb hts k_1 hown hK hP 0 rfl rfl 9 (by decide) k_8 (fun _ h9 => h9) rfl dX7_next_114 ?_
            refine lv_aload_n hx hb dX7_next_117 rfl (lv_at hl 2 rfl) ?_
            refine va_get (D := D) (ci := 7) (v := .int (nI (ng + 1))) (C := RX7) (T := TX7) (N := 19) hx hb hts k_1 hown hK hP 0 rfl rfl 8 (by decide) k_9 (fun _ h9 => h9) rfl dX7_next_118 ?_
            refine lv_iconst (v := 1) hx hb dX7_next_121 (by decide) ?_
            refine lv_isub hx hb dX7_next_122 ?_
            refine lv_topi (fun t_122 et_122 => ?_)
            obtain rfl : t_122 = nI ng := et_122.trans (nI_pred ng)
            refine z_lald (k := ng) hx hb hK hP 6 5 rfl rfl (by omega) (by decide) dX7_next_123 ?_
            exact W.lret (v := ((vp_updL gn ng (((p1.toInt64 + 1) * 27512614111) + r_55)) ng)) hx hb hr (fun t9 ht9 hW9 => ⟨⟨_, ((ng + 1), (vp_updL gn ng (znumM p1 r_55)), (upd gg ng 0)), rfl, Or.inr ⟨hok, Or.inr ⟨r_55, ⟨i, by omega, hI.2, c_50, hfr⟩, pk_uLs, rfl, rfl, rfl⟩⟩, by rw [ht9]; exact hP, va_K.moved hW9.alike hK, hD⟩, hS.F ht9⟩) hS.2.2 dX7_next_124
    · have i_26 : r_23.toInt = 0 := zi_eq.mp c_26
      refine lv_ldc2 hx hb hown k_3 dX7_next_29 ?_
      exact W.lret (v := (-102)) hx hb hr (fun t9 ht9 hW9 => ⟨⟨_, (ng, gn, gg), rfl, Or.inl ⟨fun q => zB_eq hw_23 c_26 (by unfold zOkN at q; omega), rfl, rfl, rfl, rfl⟩, by rw [ht9]; exact hP, va_K.moved hW9.alike hK, hD⟩, hS.F ht9⟩) hS.2.2 dX7_next_32

set_option maxHeartbeats 4000000 in
set_option maxRecDepth 100000 in
theorem mx_type (l : Launch) (D : va_G) (z : zG) (sz : Nat) (mo : Nat) (ma1 : Nat) (ma2 : Nat) (ma3 : Nat) (mb1 : Nat) (mb2 : Nat) (mg1 : Nat) (mg2 : Nat) (mt1 : Nat) (mn1 : Nat) (mn2 : Nat) (mn3 : Nat) (ml1 : Nat) (mw1 : Nat) (th : Int32) (nb : Nat) (nq : Nat) (ng : Nat) (nt : Nat) (nn : Nat) (jt1 : ClassId) (ch : Nat → Int32) (p0 : Int32) (hn : nt ≤ 60) : Met l yX7_type wsX7_type ({ frames := 0, cells := 0, slots := 0, locals := 0 }) (zPre D z [.ref mo, .int p0] sz [(mo, .inr (7, [.int th, .int (nI nb), .ref ma1, .ref ma2, .ref ma3, .int (nI nq), .ref mb1, .ref mb2, .int (nI ng), .ref mg1, .ref mg2, .int (nI nt), .ref mt1, .int (nI nn), .ref mn1, .ref mn2, .ref mn3, .ref ml1, .ref mw1])), (mt1, .inl (jt1, 60, .inl ch))] [(jt1, .int)] (va_A [(mo, .inr (7, [.int th, .int (nI nb), .ref ma1, .ref ma2, .ref ma3, .int (nI nq), .ref mb1, .ref mb2, .int (nI ng), .ref mg1, .ref mg2, .int (nI nt), .ref mt1, .int (nI nn), .ref mn1, .ref mn2, .ref mn3, .ref ml1, .ref mw1])), (mt1, .inl (jt1, 60, .inl ch))] sz)) (va_Qv (fun u : Nat × (Nat → Int32) => (nt < 60 → u.1 = nt + 1 ∧ u.2 = upd ch nt p0) ∧ (¬ nt < 60 → u.1 = nt ∧ u.2 = ch)) (zAt D [(jt1, .int)] (va_A [(mo, .inr (7, [.int th, .int (nI nb), .ref ma1, .ref ma2, .ref ma3, .int (nI nq), .ref mb1, .ref mb2, .int (nI ng), .ref mg1, .ref mg2, .int (nI nt), .ref mt1, .int (nI nn), .ref mn1, .ref mn2, .ref mn3, .ref ml1, .ref mw1])), (mt1, .inl (jt1, 60, .inl ch))] sz) (fun u : Nat × (Nat → Int32) => [(mo, .inr (7, [.int 0, .int (nI nb), .ref ma1, .ref ma2, .ref ma3, .int (nI nq), .ref mb1, .ref mb2, .int (nI ng), .ref mg1, .ref mg2, .int (nI u.1), .ref mt1, .int (nI nn), .ref mn1, .ref mn2, .ref mn3, .ref ml1, .ref mw1])), (mt1, .inl (jt1, 60, .inl u.2))])) (va_A [(mo, .inr (7, [.int th, .int (nI nb), .ref ma1, .ref ma2, .ref ma3, .int (nI nq), .ref mb1, .ref mb2, .int (nI ng), .ref mg1, .ref mg2, .int (nI nt), .ref mt1, .int (nI nn), .ref mn1, .ref mn2, .ref mn3, .ref ml1, .ref mw1])), (mt1, .inl (jt1, 60, .inl ch))] sz)) 0 0 (va_A [(mo, .inr (7, [.int th, .int (nI nb), .ref ma1, .ref ma2, .ref ma3, .int (nI nq), .ref mb1, .ref mb2, .int (nI ng), .ref mg1, .ref mg2, .int (nI nt), .ref mt1, .int (nI nn), .ref mn1, .ref mn2, .ref mn3, .ref ml1, .ref mw1])), (mt1, .inl (jt1, 60, .inl ch))] sz) := by
  refine Met.ofW (cc := cX7_type) (maxL := 2) (ret := none) (by decide) rfl ?_
  intro p e s m args below meth c s₁ B hml hv
  obtain ⟨rfl, hsz, hP, hK, hD, hC⟩ := hv
  have hx := B.exec
  have hb := B.bytes
  have hr := B.returns
  have hts := atoms_spec (ws := wsX7_type) B.pre
  have hown : s.vm.findClass RX7 = some m.cls := findClass_of_methodNamed B.named
  have hlocks := B.notSynchronized
  subst hsz
  have hD := hD.self (sz := s.heap.size)
  generalize hAe : va_A [(mo, .inr (7, [.int th, .int (nI nb), .ref ma1, .ref ma2, .ref ma3, .int (nI nq), .ref mb1, .ref mb2, .int (nI ng), .ref mg1, .ref mg2, .int (nI nt), .ref mt1, .int (nI nn), .ref mn1, .ref mn2, .ref mn3, .ref ml1, .ref mw1])), (mt1, .inl (jt1, 60, .inl ch))] s.heap.size = A at hC hD ⊢
  have hA : ∀ q : Nat, s.heap.size ≤ q → A q := fun q h => by rw [← hAe]; exact Or.inr h
  have hS : va_S A s.heap s.heap [] := va_S.rf
  have hP : va_P D vwCl [(mo, .inr (7, [.int th, .int (nI nb), .ref ma1, .ref ma2, .ref ma3, .int (nI nq), .ref mb1, .ref mb2, .int (nI ng), .ref mg1, .ref mg2, .int (nI nt), .ref mt1, .int (nI nn), .ref mn1, .ref mn2, .ref mn3, .ref ml1, .ref mw1])), (mt1, .inl (jt1, 60, .inl ch))] s.heap := hP
  have hl := lv_entry ([.ref mo, .int p0]) (n := 2) (Nat.le_of_ble_eq_true rfl)
  rw [lg_entry_eq]
  generalize (lg_sl ([.ref mo, .int p0]) ++ List.replicate (2 - (lg_sl ([.ref mo, .int p0])).length) Slot.unset).toArray = ls at hl ⊢
  have hl : lv_has ls 2 [(0, .ref mo), (1, .int p0)] := hl
  refine zNameH (D := D) (A := A) (ws := [(mo, .inr (7, [.int th, .int (nI nb), .ref ma1, .ref ma2, .ref ma3, .int (nI nq), .ref mb1, .ref mb2, .int (nI ng), .ref mg1, .ref mg2, .int (nI nt), .ref mt1, .int (nI nn), .ref mn1, .ref mn2, .ref mn3, .ref ml1, .ref mw1])), (mt1, .inl (jt1, 60, .inl ch))]) (fun H locs hP hS => ?_) hP hS
  have k_0 := hts (.fieldLink RX7 55 "NumberRows2Model" "thrown" "I") (by decide +kernel)
  have k_1 : ∀ w ∈ wsX70, w ∈ wsX7_type := by decide +kernel
  have k_2 := hts (.fieldLink RX7 51 "NumberRows2Model" "typed" "I") (by decide +kernel)
  have k_3 := hts (.fieldLink RX7 33 "NumberRows2Model" "signs" "[I") (by decide +kernel)
  refine lv_aload_n hx hb dX7_type_0 rfl (lv_at hl 0 rfl) ?_
  refine lv_iconst (v := 0) hx hb dX7_type_1 (by decide) ?_
  refine va_put (D := D) (ci := 7) (v := .int 0) (ty := .int) (C := RX7) (T := TX7) (N := 19) hx hb hts k_1 tyX7 tyX7_ok nmX7 hown hK hP hD hS 0 rfl rfl 0 (by decide) k_0 (fun _ h9 => h9) rfl (by decide +kernel) rfl rfl (Nat.le_of_ble_eq_true rfl) dX7_type_2 (fun H locs hP hD hS => ?_)
  have hP : va_P D vwCl [(mo, .inr (7, [.int 0, .int (nI nb), .ref ma1, .ref ma2, .ref ma3, .int (nI nq), .ref mb1, .ref mb2, .int (nI ng), .ref mg1, .ref mg2, .int (nI nt), .ref mt1, .int (nI nn), .ref mn1, .ref mn2, .ref mn3, .ref ml1, .ref mw1])), (mt1, .inl (jt1, 60, .inl ch))] H := hP
  have hD : va_D A [(mo, .inr (7, [.int 0, .int (nI nb), .ref ma1, .ref ma2, .ref ma3, .int (nI nq), .ref mb1, .ref mb2, .int (nI ng), .ref mg1, .ref mg2, .int (nI nt), .ref mt1, .int (nI nn), .ref mn1, .ref mn2, .ref mn3, .ref ml1, .ref mw1])), (mt1, .inl (jt1, 60, .inl ch))] := hD
  refine lv_aload_n hx hb dX7_type_5 rfl (lv_at hl 0 rfl) ?_
  refine va_get (D := D) (ci := 7) (v := .int (nI nt)) (C := RX7) (T := TX7) (N := 19) hx hb hts k_1 hown hK hP 0 rfl rfl 11 (by decide) k_2 (fun _ h9 => h9) rfl dX7_type_6 ?_
  refine lv_bipush (v := 60) hx hb dX7_type_9 (by decide) ?_
  refine lv_icmp_ge (tgt := 34) hx hb dX7_type_11 (by decide) (fun c_11 => ?_) (fun c_11 => ?_)
  · have c_11 : 60 ≤ nt := (nI_leI (a := 60) (b := nt) (by omega) (by omega)).mp c_11
    exact W.vret hx hb hr (fun t9 ht9 hW9 => ⟨⟨(nt, ch), rfl, ⟨fun q => absurd q (by omega), fun _ => ⟨rfl, rfl⟩⟩, by rw [ht9]; exact hP, va_K.moved hW9.alike hK, hD⟩, hS.F ht9⟩) hS.2.2 dX7_type_34
  · have c_11 : ¬ (60 ≤ nt) := fun q9 => c_11 ((nI_leI (a := 60) (b := nt) (by omega) (by omega)).mpr q9)
    refine lv_aload_n hx hb dX7_type_14 rfl (lv_at hl 0 rfl) ?_
    refine va_get (D := D) (ci := 7) (v := .ref mt1) (C := RX7) (T := TX7) (N := 19) hx hb hts k_1 hown hK hP 0 rfl rfl 12 (by decide) k_3 (fun _ h9 => h9) rfl dX7_type_15 ?_
    refine lv_aload_n hx hb dX7_type_18 rfl (lv_at hl 0 rfl) ?_
    refine va_get (D := D) (ci := 7) (v := .int (nI nt)) (C := RX7) (T := TX7) (N := 19) hx hb hts k_1 hown hK hP 0 rfl rfl 11 (by decide) k_2 (fun _ h9 => h9) rfl dX7_type_19 ?_
    refine lv_iload_n hx hb dX7_type_22 rfl (lv_at hl 1 rfl) ?_
    refine z_iast (k := nt) hx hb hK hP hD hS 1 0 rfl rfl (by omega) (by decide) dX7_type_23 (fun H locs hP hD hS => ?_)
    have hP : va_P D vwCl [(mo, .inr (7, [.int 0, .int (nI nb), .ref ma1, .ref ma2, .ref ma3, .int (nI nq), .ref mb1, .ref mb2, .int (nI ng), .ref mg1, .ref mg2, .int (nI nt), .ref mt1, .int (nI nn), .ref mn1, .ref mn2, .ref mn3, .ref ml1, .ref mw1])), (mt1, .inl (jt1, 60, .inl (upd ch nt p0)))] H := hP
    have hD : va_D A [(mo, .inr (7, [.int 0, .int (nI nb), .ref ma1, .ref ma2, .ref ma3, .int (nI nq), .ref mb1, .ref mb2, .int (nI ng), .ref mg1, .ref mg2, .int (nI nt), .ref mt1, .int (nI nn), .ref mn1, .ref mn2, .ref mn3, .ref ml1, .ref mw1])), (mt1, .inl (jt1, 60, .inl (upd ch nt p0)))] := hD
    refine lv_aload_n hx hb dX7_type_24 rfl (lv_at hl 0 rfl) ?_
    refine lv_dup hx hb dX7_type_25 rfl ?_
    refine va_get (D := D) (ci := 7) (v := .int (nI nt)) (C := RX7) (T := TX7) (N := 19) hx hb hts k_1 hown hK hP 0 rfl rfl 11 (by decide) k_2 (fun _ h9 => h9) rfl dX7_type_26 ?_
    refine lv_iconst (v := 1) hx hb dX7_type_29 (by decide) ?_
    refine lv_iadd hx hb dX7_type_30 ?_
    refine lv_topi (fun y_1 e_1 => ?_)
    obtain rfl : y_1 = nI (nt + 1) := e_1.trans (by first | exact nI_1 _ | exact nI_add _ 1)
    refine va_put (D := D) (ci := 7) (v := .int (nI (nt + 1))) (ty := .int) (C := RX7) (T := TX7) (N := 19) hx hb hts k_1 tyX7 tyX7_ok nmX7 hown hK hP hD hS 0 rfl rfl 11 (by decide) k_2 (fun _ h9 => h9) rfl (by decide +kernel) rfl rfl (Nat.le_of_ble_eq_true rfl) dX7_type_31 (fun H locs hP hD hS => ?_)
    have hP : va_P D vwCl [(mo, .inr (7, [.int 0, .int (nI nb), .ref ma1, .ref ma2, .ref ma3, .int (nI nq), .ref mb1, .ref mb2, .int (nI ng), .ref mg1, .ref mg2, .int (nI (nt + 1)), .ref mt1, .int (nI nn), .ref mn1, .ref mn2, .ref mn3, .ref ml1, .ref mw1])), (mt1, .inl (jt1, 60, .inl (upd ch nt p0)))] H := hP
    have hD : va_D A [(mo, .inr (7, [.int 0, .int (nI nb), .ref ma1, .ref ma2, .ref ma3, .int (nI nq), .ref mb1, .ref mb2, .int (nI ng), .ref mg1, .ref mg2, .int (nI (nt + 1)), .ref mt1, .int (nI nn), .ref mn1, .ref mn2, .ref mn3, .ref ml1, .ref mw1])), (mt1, .inl (jt1, 60, .inl (upd ch nt p0)))] := hD
    exact W.vret hx hb hr (fun t9 ht9 hW9 => ⟨⟨((nt + 1), (upd ch nt p0)), rfl, ⟨fun _ => ⟨rfl, rfl⟩, fun q => absurd q (by omega)⟩, by rw [ht9]; exact hP, va_K.moved hW9.alike hK, hD⟩, hS.F ht9⟩) hS.2.2 dX7_type_34

set_option maxHeartbeats 4000000 in
set_option maxRecDepth 100000 in
theorem mx_bar (l : Launch) (D : va_G) (z : zG) (sz : Nat) (mo : Nat) (ma1 : Nat) (ma2 : Nat) (ma3 : Nat) (mb1 : Nat) (mb2 : Nat) (mg1 : Nat) (mg2 : Nat) (mt1 : Nat) (mn1 : Nat) (mn2 : Nat) (mn3 : Nat) (ml1 : Nat) (mw1 : Nat) (th : Int32) (nb : Nat) (nq : Nat) (ng : Nat) (nt : Nat) (nn : Nat) (jb1 : ClassId) (qf : Nat → Int64) (jb2 : ClassId) (ql : Nat → Int64) (jg1 : ClassId) (gn : Nat → Int64) (jg2 : ClassId) (gg : Nat → Int32) (p0 : Int64) (p1 : Int64) (hq : nq ≤ 50) (hg : ng ≤ 4200) : Met l yX7_bar wsX7_bar ({ frames := 1, cells := 0, slots := 0, locals := 25 }) (zPre D z [.ref mo, .long p0, .long p1] sz [(mo, .inr (7, [.int th, .int (nI nb), .ref ma1, .ref ma2, .ref ma3, .int (nI nq), .ref mb1, .ref mb2, .int (nI ng), .ref mg1, .ref mg2, .int (nI nt), .ref mt1, .int (nI nn), .ref mn1, .ref mn2, .ref mn3, .ref ml1, .ref mw1])), (mb1, .inl (jb1, 50, .inr (.inl qf))), (mb2, .inl (jb2, 50, .inr (.inl ql))), (mg1, .inl (jg1, 4200, .inr (.inl gn))), (mg2, .inl (jg2, 4200, .inl gg))] [(jb1, .long), (jb2, .long), (jg1, .long), (jg2, .boolean)] (va_A [(mo, .inr (7, [.int th, .int (nI nb), .ref ma1, .ref ma2, .ref ma3, .int (nI nq), .ref mb1, .ref mb2, .int (nI ng), .ref mg1, .ref mg2, .int (nI nt), .ref mt1, .int (nI nn), .ref mn1, .ref mn2, .ref mn3, .ref ml1, .ref mw1])), (mb1, .inl (jb1, 50, .inr (.inl qf))), (mb2, .inl (jb2, 50, .inr (.inl ql))), (mg1, .inl (jg1, 4200, .inr (.inl gn))), (mg2, .inl (jg2, 4200, .inl gg))] sz)) (va_Qi (fun (r : Int32) (u : Nat × (Nat → Int64) × (Nat → Int64) × (Nat → Int32)) => (¬ zOkR p0 p1 ∧ r = -102 ∧ u.1 = nq ∧ u.2.1 = qf ∧ u.2.2.1 = ql ∧ u.2.2.2 = gg) ∨ (zOkR p0 p1 ∧ nq = 50 ∧ r = -104 ∧ u.1 = nq ∧ u.2.1 = qf ∧ u.2.2.1 = ql ∧ u.2.2.2 = gg) ∨ (zOkR p0 p1 ∧ ¬ nq = 50 ∧ u.1 = nq + 1 ∧ u.2.1 = vp_updL qf nq p0 ∧ u.2.2.1 = vp_updL ql nq p1 ∧ ∃ c9, zMR p0 p1 ng gn gg u.2.2.2 ng c9 ∧ r = nI c9)) (zAt D [(jb1, .long), (jb2, .long), (jg1, .long), (jg2, .boolean)] (va_A [(mo, .inr (7, [.int th, .int (nI nb), .ref ma1, .ref ma2, .ref ma3, .int (nI nq), .ref mb1, .ref mb2, .int (nI ng), .ref mg1, .ref mg2, .int (nI nt), .ref mt1, .int (nI nn), .ref mn1, .ref mn2, .ref mn3, .ref ml1, .ref mw1])), (mb1, .inl (jb1, 50, .inr (.inl qf))), (mb2, .inl (jb2, 50, .inr (.inl ql))), (mg1, .inl (jg1, 4200, .inr (.inl gn))), (mg2, .inl (jg2, 4200, .inl gg))] sz) (fun u : Nat × (Nat → Int64) × (Nat → Int64) × (Nat → Int32) => [(mo, .inr (7, [.int 0, .int (nI nb), .ref ma1, .ref ma2, .ref ma3, .int (nI u.1), .ref mb1, .ref mb2, .int (nI ng), .ref mg1, .ref mg2, .int (nI nt), .ref mt1, .int (nI nn), .ref mn1, .ref mn2, .ref mn3, .ref ml1, .ref mw1])), (mb1, .inl (jb1, 50, .inr (.inl u.2.1))), (mb2, .inl (jb2, 50, .inr (.inl u.2.2.1))), (mg1, .inl (jg1, 4200, .inr (.inl gn))), (mg2, .inl (jg2, 4200, .inl u.2.2.2))])) (va_A [(mo, .inr (7, [.int th, .int (nI nb), .ref ma1, .ref ma2, .ref ma3, .int (nI nq), .ref mb1, .ref mb2, .int (nI ng), .ref mg1, .ref mg2, .int (nI nt), .ref mt1, .int (nI nn), .ref mn1, .ref mn2, .ref mn3, .ref ml1, .ref mw1])), (mb1, .inl (jb1, 50, .inr (.inl qf))), (mb2, .inl (jb2, 50, .inr (.inl ql))), (mg1, .inl (jg1, 4200, .inr (.inl gn))), (mg2, .inl (jg2, 4200, .inl gg))] sz)) 0 0 (va_A [(mo, .inr (7, [.int th, .int (nI nb), .ref ma1, .ref ma2, .ref ma3, .int (nI nq), .ref mb1, .ref mb2, .int (nI ng), .ref mg1, .ref mg2, .int (nI nt), .ref mt1, .int (nI nn), .ref mn1, .ref mn2, .ref mn3, .ref ml1, .ref mw1])), (mb1, .inl (jb1, 50, .inr (.inl qf))), (mb2, .inl (jb2, 50, .inr (.inl ql))), (mg1, .inl (jg1, 4200, .inr (.inl gn))), (mg2, .inl (jg2, 4200, .inl gg))] sz) := by
  refine Met.ofW (cc := cX7_bar) (maxL := 7) (ret := (some .int)) (by decide) rfl ?_
  intro p e s m args below meth c s₁ B hml hv
  obtain ⟨rfl, hsz, hP, hK, hD, hC⟩ := hv
  have hx := B.exec
  have hb := B.bytes
  have hr := B.returns
  have hts := atoms_spec (ws := wsX7_bar) B.pre
  have hown : s.vm.findClass RX7 = some m.cls := findClass_of_methodNamed B.named
  have hlocks := B.notSynchronized
  subst hsz
  have hD := hD.self (sz := s.heap.size)
  generalize hAe : va_A [(mo, .inr (7, [.int th, .int (nI nb), .ref ma1, .ref ma2, .ref ma3, .int (nI nq), .ref mb1, .ref mb2, .int (nI ng), .ref mg1, .ref mg2, .int (nI nt), .ref mt1, .int (nI nn), .ref mn1, .ref mn2, .ref mn3, .ref ml1, .ref mw1])), (mb1, .inl (jb1, 50, .inr (.inl qf))), (mb2, .inl (jb2, 50, .inr (.inl ql))), (mg1, .inl (jg1, 4200, .inr (.inl gn))), (mg2, .inl (jg2, 4200, .inl gg))] s.heap.size = A at hC hD ⊢
  have hA : ∀ q : Nat, s.heap.size ≤ q → A q := fun q h => by rw [← hAe]; exact Or.inr h
  have hS : va_S A s.heap s.heap [] := va_S.rf
  have hP : va_P D vwCl [(mo, .inr (7, [.int th, .int (nI nb), .ref ma1, .ref ma2, .ref ma3, .int (nI nq), .ref mb1, .ref mb2, .int (nI ng), .ref mg1, .ref mg2, .int (nI nt), .ref mt1, .int (nI nn), .ref mn1, .ref mn2, .ref mn3, .ref ml1, .ref mw1])), (mb1, .inl (jb1, 50, .inr (.inl qf))), (mb2, .inl (jb2, 50, .inr (.inl ql))), (mg1, .inl (jg1, 4200, .inr (.inl gn))), (mg2, .inl (jg2, 4200, .inl gg))] s.heap := hP
  have hl := lv_entry ([.ref mo, .long p0, .long p1]) (n := 7) (Nat.le_of_ble_eq_true rfl)
  rw [lg_entry_eq]
  generalize (lg_sl ([.ref mo, .long p0, .long p1]) ++ List.replicate (7 - (lg_sl ([.ref mo, .long p0, .long p1])).length) Slot.unset).toArray = ls at hl ⊢
  have hl : lv_has ls 7 [(0, .ref mo), (1, .long p0), (3, .long p1)] := hl
  refine zNameH (D := D) (A := A) (ws := [(mo, .inr (7, [.int th, .int (nI nb), .ref ma1, .ref ma2, .ref ma3, .int (nI nq), .ref mb1, .ref mb2, .int (nI ng), .ref mg1, .ref mg2, .int (nI nt), .ref mt1, .int (nI nn), .ref mn1, .ref mn2, .ref mn3, .ref ml1, .ref mw1])), (mb1, .inl (jb1, 50, .inr (.inl qf))), (mb2, .inl (jb2, 50, .inr (.inl ql))), (mg1, .inl (jg1, 4200, .inr (.inl gn))), (mg2, .inl (jg2, 4200, .inl gg))]) (fun H locs hP hS => ?_) hP hS
  have k_0 := hts (.fieldLink RX7 55 "NumberRows2Model" "thrown" "I") (by decide +kernel)
  have k_1 : ∀ w ∈ wsX70, w ∈ wsX7_bar := by decide +kernel
  have k_2 := hts (.constantLong RX7 77 (27512614111)) (by decide +kernel)
  have k_3 := hts (.fieldLink RX7 71 "NumberRows2Model" "barred" "I") (by decide +kernel)
  have k_4 := hts (.fieldLink RX7 20 "NumberRows2Model" "barFroms" "[J") (by decide +kernel)
  have k_5 := hts (.fieldLink RX7 23 "NumberRows2Model" "barTos" "[J") (by decide +kernel)
  have k_6 := hts (.fieldLink RX7 74 "NumberRows2Model" "gave" "I") (by decide +kernel)
  have k_7 := hts (.fieldLink RX7 29 "NumberRows2Model" "gone" "[Z") (by decide +kernel)
  have k_8 := hts (.fieldLink RX7 26 "NumberRows2Model" "numbers" "[J") (by decide +kernel)
  refine lv_aload_n hx hb dX7_bar_0 rfl (lv_at hl 0 rfl) ?_
  refine lv_iconst (v := 0) hx hb dX7_bar_1 (by decide) ?_
  refine va_put (D := D) (ci := 7) (v := .int 0) (ty := .int) (C := RX7) (T := TX7) (N := 19) hx hb hts k_1 tyX7 tyX7_ok nmX7 hown hK hP hD hS 0 rfl rfl 0 (by decide) k_0 (fun _ h9 => h9) rfl (by decide +kernel) rfl rfl (Nat.le_of_ble_eq_true rfl) dX7_bar_2 (fun H locs hP hD hS => ?_)
  have hP : va_P D vwCl [(mo, .inr (7, [.int 0, .int (nI nb), .ref ma1, .ref ma2, .ref ma3, .int (nI nq), .ref mb1, .ref mb2, .int (nI ng), .ref mg1, .ref mg2, .int (nI nt), .ref mt1, .int (nI nn), .ref mn1, .ref mn2, .ref mn3, .ref ml1, .ref mw1])), (mb1, .inl (jb1, 50, .inr (.inl qf))), (mb2, .inl (jb2, 50, .inr (.inl ql))), (mg1, .inl (jg1, 4200, .inr (.inl gn))), (mg2, .inl (jg2, 4200, .inl gg))] H := hP
  have hD : va_D A [(mo, .inr (7, [.int 0, .int (nI nb), .ref ma1, .ref ma2, .ref ma3, .int (nI nq), .ref mb1, .ref mb2, .int (nI ng), .ref mg1, .ref mg2, .int (nI nt), .ref mt1, .int (nI nn), .ref mn1, .ref mn2, .ref mn3, .ref ml1, .ref mw1])), (mb1, .inl (jb1, 50, .inr (.inl qf))), (mb2, .inl (jb2, 50, .inr (.inl ql))), (mg1, .inl (jg1, 4200, .inr (.inl gn))), (mg2, .inl (jg2, 4200, .inl gg))] := hD
  refine lv_lload_n hx hb dX7_bar_5 rfl (lv_at hl 1 rfl) ?_
  refine lv_lconst (v := 0) hx hb dX7_bar_6 (by decide) ?_
  refine W.lcmp hx hb dX7_bar_7 ?_
  refine lv_if_lt (tgt := 25) hx hb dX7_bar_8 (by decide) (fun c_8 => ?_) (fun c_8 => ?_)
  · have c_8 : p0 < 0 := (lg_cmp_lt _ _).mp c_8
    have i_8 : p0.toInt < 0 := zl_lt.mp c_8
    refine lv_bipush (v := -102) hx hb dX7_bar_25 (by decide) ?_
    exact W.iret (v := (-102)) hx hb hr (fun t9 ht9 hW9 => ⟨⟨_, (nq, qf, ql, gg), rfl, Or.inl ⟨fun q => by unfold zOkR at q; omega, rfl, rfl, rfl, rfl, rfl⟩, by rw [ht9]; exact hP, va_K.moved hW9.alike hK, hD⟩, hS.F ht9⟩) hS.2.2 dX7_bar_27
  · have c_8 : ¬ (p0 < 0) := fun q9 => c_8 ((lg_cmp_lt _ _).mpr q9)
    have i_8 : ¬ (p0.toInt < 0) := fun q9 => c_8 (zl_lt.mpr q9)
    refine lv_lload_n hx hb dX7_bar_11 rfl (lv_at hl 1 rfl) ?_
    refine lv_lload_n hx hb dX7_bar_12 rfl (lv_at hl 2 rfl) ?_
    refine W.lcmp hx hb dX7_bar_13 ?_
    refine lv_if_gt (tgt := 25) hx hb dX7_bar_14 (by decide) (fun c_14 => ?_) (fun c_14 => ?_)
    · have c_14 : p1 < p0 := (lg_cmp_gt _ _).mp c_14
      have i_14 : p1.toInt < p0.toInt := zl_lt.mp c_14
      refine lv_bipush (v := -102) hx hb dX7_bar_25 (by decide) ?_
      exact W.iret (v := (-102)) hx hb hr (fun t9 ht9 hW9 => ⟨⟨_, (nq, qf, ql, gg), rfl, Or.inl ⟨fun q => by unfold zOkR at q; omega, rfl, rfl, rfl, rfl, rfl⟩, by rw [ht9]; exact hP, va_K.moved hW9.alike hK, hD⟩, hS.F ht9⟩) hS.2.2 dX7_bar_27
    · have c_14 : ¬ (p1 < p0) := fun q9 => c_14 ((lg_cmp_gt _ _).mpr q9)
      have i_14 : ¬ (p1.toInt < p0.toInt) := fun q9 => c_14 (zl_lt.mpr q9)
      refine lv_lload_n hx hb dX7_bar_17 rfl (lv_at hl 2 rfl) ?_
      refine lv_ldc2 hx hb hown k_2 dX7_bar_18 ?_
      refine W.lcmp hx hb dX7_bar_21 ?_
      refine lv_if_lt (tgt := 28) hx hb dX7_bar_22 (by decide) (fun c_22 => ?_) (fun c_22 => ?_)
      · have c_22 : p1 < 27512614111 := (lg_cmp_lt _ _).mp c_22
        have i_22 : p1.toInt < 27512614111 := zl_lt.mp c_22
        refine lv_aload_n hx hb dX7_bar_28 rfl (lv_at hl 0 rfl) ?_
        refine va_get (D := D) (ci := 7) (v := .int (nI nq)) (C := RX7) (T := TX7) (N := 19) hx hb hts k_1 hown hK hP 0 rfl rfl 5 (by decide) k_3 (fun _ h9 => h9) rfl dX7_bar_29 ?_
        refine lv_bipush (v := 50) hx hb dX7_bar_32 (by decide) ?_
        refine lv_icmp_ne (tgt := 40) hx hb dX7_bar_34 (by decide) (fun c_34 => ?_) (fun c_34 => ?_)
        · have c_34 : ¬ (nq = 50) := fun q9 => c_34 ((nI_eq (a := nq) (b := 50) (by omega) (by omega)).mpr q9)
          refine lv_aload_n hx hb dX7_bar_40 rfl (lv_at hl 0 rfl) ?_
          refine va_get (D := D) (ci := 7) (v := .ref mb1) (C := RX7) (T := TX7) (N := 19) hx hb hts k_1 hown hK hP 0 rfl rfl 6 (by decide) k_4 (fun _ h9 => h9) rfl dX7_bar_41 ?_
          refine lv_aload_n hx hb dX7_bar_44 rfl (lv_at hl 0 rfl) ?_
          refine va_get (D := D) (ci := 7) (v := .int (nI nq)) (C := RX7) (T := TX7) (N := 19) hx hb hts k_1 hown hK hP 0 rfl rfl 5 (by decide) k_3 (fun _ h9 => h9) rfl dX7_bar_45 ?_
          refine lv_lload_n hx hb dX7_bar_48 rfl (lv_at hl 1 rfl) ?_
          refine z_last (k := nq) hx hb hK hP hD hS 1 0 rfl rfl (by omega) (by decide) dX7_bar_49 (fun H locs hP hD hS => ?_)
          have hP : va_P D vwCl [(mo, .inr (7, [.int 0, .int (nI nb), .ref ma1, .ref ma2, .ref ma3, .int (nI nq), .ref mb1, .ref mb2, .int (nI ng), .ref mg1, .ref mg2, .int (nI nt), .ref mt1, .int (nI nn), .ref mn1, .ref mn2, .ref mn3, .ref ml1, .ref mw1])), (mb1, .inl (jb1, 50, .inr (.inl (vp_updL qf nq p0)))), (mb2, .inl (jb2, 50, .inr (.inl ql))), (mg1, .inl (jg1, 4200, .inr (.inl gn))), (mg2, .inl (jg2, 4200, .inl gg))] H := hP
          have hD : va_D A [(mo, .inr (7, [.int 0, .int (nI nb), .ref ma1, .ref ma2, .ref ma3, .int (nI nq), .ref mb1, .ref mb2, .int (nI ng), .ref mg1, .ref mg2, .int (nI nt), .ref mt1, .int (nI nn), .ref mn1, .ref mn2, .ref mn3, .ref ml1, .ref mw1])), (mb1, .inl (jb1, 50, .inr (.inl (vp_updL qf nq p0)))), (mb2, .inl (jb2, 50, .inr (.inl ql))), (mg1, .inl (jg1, 4200, .inr (.inl gn))), (mg2, .inl (jg2, 4200, .inl gg))] := hD
          refine lv_aload_n hx hb dX7_bar_50 rfl (lv_at hl 0 rfl) ?_
          refine va_get (D := D) (ci := 7) (v := .ref mb2) (C := RX7) (T := TX7) (N := 19) hx hb hts k_1 hown hK hP 0 rfl rfl 7 (by decide) k_5 (fun _ h9 => h9) rfl dX7_bar_51 ?_
          refine lv_aload_n hx hb dX7_bar_54 rfl (lv_at hl 0 rfl) ?_
          refine va_get (D := D) (ci := 7) (v := .int (nI nq)) (C := RX7) (T := TX7) (N := 19) hx hb hts k_1 hown hK hP 0 rfl rfl 5 (by decide) k_3 (fun _ h9 => h9) rfl dX7_bar_55 ?_
          refine lv_lload_n hx hb dX7_bar_58 rfl (lv_at hl 2 rfl) ?_
          refine z_last (k := nq) hx hb hK hP hD hS 2 1 rfl rfl (by omega) (by decide) dX7_bar_59 (fun H locs hP hD hS => ?_)
          have hP : va_P D vwCl [(mo, .inr (7, [.int 0, .int (nI nb), .ref ma1, .ref ma2, .ref ma3, .int (nI nq), .ref mb1, .ref mb2, .int (nI ng), .ref mg1, .ref mg2, .int (nI nt), .ref mt1, .int (nI nn), .ref mn1, .ref mn2, .ref mn3, .ref ml1, .ref mw1])), (mb1, .inl (jb1, 50, .inr (.inl (vp_updL qf nq p0)))), (mb2, .inl (jb2, 50, .inr (.inl (vp_updL ql nq p1)))), (mg1, .inl (jg1, 4200, .inr (.inl gn))), (mg2, .inl (jg2, 4200, .inl gg))] H := hP
          have hD : va_D A [(mo, .inr (7, [.int 0, .int (nI nb), .ref ma1, .ref ma2, .ref ma3, .int (nI nq), .ref mb1, .ref mb2, .int (nI ng), .ref mg1, .ref mg2, .int (nI nt), .ref mt1, .int (nI nn), .ref mn1, .ref mn2, .ref mn3, .ref ml1, .ref mw1])), (mb1, .inl (jb1, 50, .inr (.inl (vp_updL qf nq p0)))), (mb2, .inl (jb2, 50, .inr (.inl (vp_updL ql nq p1)))), (mg1, .inl (jg1, 4200, .inr (.inl gn))), (mg2, .inl (jg2, 4200, .inl gg))] := hD
          refine lv_aload_n hx hb dX7_bar_60 rfl (lv_at hl 0 rfl) ?_
          refine lv_dup hx hb dX7_bar_61 rfl ?_
          refine va_get (D := D) (ci := 7) (v := .int (nI nq)) (C := RX7) (T := TX7) (N := 19) hx hb hts k_1 hown hK hP 0 rfl rfl 5 (by decide) k_3 (fun _ h9 => h9) rfl dX7_bar_62 ?_
          refine lv_iconst (v := 1) hx hb dX7_bar_65 (by decide) ?_
          refine lv_iadd hx hb dX7_bar_66 ?_
          refine lv_topi (fun y_1 e_1 => ?_)
          obtain rfl : y_1 = nI (nq + 1) := e_1.trans (by first | exact nI_1 _ | exact nI_add _ 1)
          refine va_put (D := D) (ci := 7) (v := .int (nI (nq + 1))) (ty := .int) (C := RX7) (T := TX7) (N := 19) hx hb hts k_1 tyX7 tyX7_ok nmX7 hown hK hP hD hS 0 rfl rfl 5 (by decide) k_3 (fun _ h9 => h9) rfl (by decide +kernel) rfl rfl (Nat.le_of_ble_eq_true rfl) dX7_bar_67 (fun H locs hP hD hS => ?_)
          have hP : va_P D vwCl [(mo, .inr (7, [.int 0, .int (nI nb), .ref ma1, .ref ma2, .ref ma3, .int (nI (nq + 1)), .ref mb1, .ref mb2, .int (nI ng), .ref mg1, .ref mg2, .int (nI nt), .ref mt1, .int (nI nn), .ref mn1, .ref mn2, .ref mn3, .ref ml1, .ref mw1])), (mb1, .inl (jb1, 50, .inr (.inl (vp_updL qf nq p0)))), (mb2, .inl (jb2, 50, .inr (.inl (vp_updL ql nq p1)))), (mg1, .inl (jg1, 4200, .inr (.inl gn))), (mg2, .inl (jg2, 4200, .inl gg))] H := hP
          have hD : va_D A [(mo, .inr (7, [.int 0, .int (nI nb), .ref ma1, .ref ma2, .ref ma3, .int (nI (nq + 1)), .ref mb1, .ref mb2, .int (nI ng), .ref mg1, .ref mg2, .int (nI nt), .ref mt1, .int (nI nn), .ref mn1, .ref mn2, .ref mn3, .ref ml1, .ref mw1])), (mb1, .inl (jb1, 50, .inr (.inl (vp_updL qf nq p0)))), (mb2, .inl (jb2, 50, .inr (.inl (vp_updL ql nq p1)))), (mg1, .inl (jg1, 4200, .inr (.inl gn))), (mg2, .inl (jg2, 4200, .inl gg))] := hD
          refine lv_iconst (v := 0) hx hb dX7_bar_70 (by decide) ?_
          refine lv_istore (lv' := [(5, .int 0), (0, .ref mo), (1, .long p0), (3, .long p1)]) hx hb dX7_bar_71 hl (by decide) rfl (fun ls hl => ?_)
          refine lv_iconst (v := 0) hx hb dX7_bar_73 (by decide) ?_
          refine lv_istore (lv' := [(6, .int 0), (5, .int 0), (0, .ref mo), (1, .long p0), (3, .long p1)]) hx hb dX7_bar_74 hl (by decide) rfl (fun ls hl => ?_)
          refine zLoop (σ := Nat × Nat × (Nat → Int32)) (nL := 7) (μ := fun (x : Nat × Nat × (Nat → Int32)) => match x with | (i, ct, g) => ng - i) (lv := fun (x : Nat × Nat × (Nat → Int32)) => match x with | (i, ct, g) => [(6, .int (nI i)), (0, .ref mo), (1, .long p0), (3, .long p1), (5, .int (nI ct))]) (wf := fun (x : Nat × Nat × (Nat → Int32)) => match x with | (i, ct, g) => [(mo, .inr (7, [.int 0, .int (nI nb), .ref ma1, .ref ma2, .ref ma3, .int (nI (nq + 1)), .ref mb1, .ref mb2, .int (nI ng), .ref mg1, .ref mg2, .int (nI nt), .ref mt1, .int (nI nn), .ref mn1, .ref mn2, .ref mn3, .ref ml1, .ref mw1])), (mb1, .inl (jb1, 50, .inr (.inl (vp_updL qf nq p0)))), (mb2, .inl (jb2, 50, .inr (.inl (vp_updL ql nq p1)))), (mg1, .inl (jg1, 4200, .inr (.inl gn))), (mg2, .inl (jg2, 4200, .inl g))]) (I := fun (x : Nat × Nat × (Nat → Int32)) => match x with | (i, ct, g) => zMR p0 p1 ng gn gg g i ct) (fun x H locs ls hI hP hD hS hl ih => ?_) (0, 0, gg) zMR_0 hP hD hS (lv_sub hl [0, 2, 3, 4, 1] rfl)
          obtain ⟨i, ct, g⟩ := x
          have hI : zMR p0 p1 ng gn gg g i ct := hI
          have hl : lv_has ls 7 [(6, .int (nI i)), (0, .ref mo), (1, .long p0), (3, .long p1), (5, .int (nI ct))] := hl
          have hP : va_P D vwCl [(mo, .inr (7, [.int 0, .int (nI nb), .ref ma1, .ref ma2, .ref ma3, .int (nI (nq + 1)), .ref mb1, .ref mb2, .int (nI ng), .ref mg1, .ref mg2, .int (nI nt), .ref mt1, .int (nI nn), .ref mn1, .ref mn2, .ref mn3, .ref ml1, .ref mw1])), (mb1, .inl (jb1, 50, .inr (.inl (vp_updL qf nq p0)))), (mb2, .inl (jb2, 50, .inr (.inl (vp_updL ql nq p1)))), (mg1, .inl (jg1, 4200, .inr (.inl gn))), (mg2, .inl (jg2, 4200, .inl g))] H := hP
          have hD : va_D A [(mo, .inr (7, [.int 0, .int (nI nb), .ref ma1, .ref ma2, .ref ma3, .int (nI (nq + 1)), .ref mb1, .ref mb2, .int (nI ng), .ref mg1, .ref mg2, .int (nI nt), .ref mt1, .int (nI nn), .ref mn1, .ref mn2, .ref mn3, .ref ml1, .ref mw1])), (mb1, .inl (jb1, 50, .inr (.inl (vp_updL qf nq p0)))), (mb2, .inl (jb2, 50, .inr (.inl (vp_updL ql nq p1)))), (mg1, .inl (jg1, 4200, .inr (.inl gn))), (mg2, .inl (jg2, 4200, .inl g))] := hD
          have h1 := hI.1
          refine lv_iload hx hb dX7_bar_76 (lv_at hl 0 rfl) ?_
          refine lv_aload_n hx hb dX7_bar_78 rfl (lv_at hl 1 rfl) ?_
          refine va_get (D := D) (ci := 7) (v := .int (nI ng)) (C := RX7) (T := TX7) (N := 19) hx hb hts k_1 hown hK hP 0 rfl rfl 8 (by decide) k_6 (fun _ h9 => h9) rfl dX7_bar_79 ?_
          refine lv_icmp_ge (tgt := 131) hx hb dX7_bar_82 (by decide) (fun c_82 => ?_) (fun c_82 => ?_)
          · have c_82 : ng ≤ i := (nI_leI (a := ng) (b := i) (by omega) (by omega)).mp c_82
            refine lv_iload hx hb dX7_bar_131 (lv_at hl 4 rfl) ?_
            exact W.iret (v := (nI ct)) hx hb hr (fun t9 ht9 hW9 => ⟨⟨_, ((nq + 1), (vp_updL qf nq p0), (vp_updL ql nq p1), g), rfl, Or.inr (Or.inr ⟨by unfold zOkR; omega, c_34, rfl, rfl, rfl, ct, by obtain rfl : i = ng := (by have := hI.1; omega); exact hI, rfl⟩), by rw [ht9]; exact hP, va_K.moved hW9.alike hK, hD⟩, hS.F ht9⟩) hS.2.2 dX7_bar_133
          · have c_82 : ¬ (ng ≤ i) := fun q9 => c_82 ((nI_leI (a := ng) (b := i) (by omega) (by omega)).mpr q9)
            refine lv_aload_n hx hb dX7_bar_85 rfl (lv_at hl 1 rfl) ?_
            refine va_get (D := D) (ci := 7) (v := .ref mg2) (C := RX7) (T := TX7) (N := 19) hx hb hts k_1 hown hK hP 0 rfl rfl 10 (by decide) k_7 (fun _ h9 => h9) rfl dX7_bar_86 ?_
            refine lv_iload hx hb dX7_bar_89 (lv_at hl 0 rfl) ?_
            refine z_zald (k := i) hx hb hK hP 4 3 rfl rfl (by omega) (by decide) dX7_bar_91 ?_
            refine lv_if_ne (tgt := 125) hx hb dX7_bar_92 (by decide) (fun c_92 => ?_) (fun c_92 => ?_)
            · have i_92 : ¬ ((g i).toInt = 0) := fun q9 => c_92 (zi_eq.mpr q9)
              refine lv_iinc (v := (nI (i + 1))) (lv' := [(6, .int (nI (i + 1))), (0, .ref mo), (1, .long p0), (3, .long p1), (5, .int (nI ct))]) hx hb dX7_bar_125 hl (k := 0) rfl (by first | exact nI_1 _ | rfl) (by decide) rfl (fun ls hl => ?_)
              refine lv_goto (tgt := 76) hx hb dX7_bar_128 (by decide) ?_
              exact ih (i + 1, ct, g) _ _ _ (show ng - (i + 1) < ng - i from (by omega)) (zMR_stay hI (by omega) (Or.inl c_92)) hP hD hS (lv_sub hl [0, 1, 2, 3, 4] rfl)
            · have i_92 : (g i).toInt = 0 := zi_eq.mp c_92
              refine lv_aload_n hx hb dX7_bar_95 rfl (lv_at hl 1 rfl) ?_
              refine va_get (D := D) (ci := 7) (v := .ref mg1) (C := RX7) (T := TX7) (N := 19) hx hb hts k_1 hown hK hP 0 rfl rfl 9 (by decide) k_8 (fun _ h9 => h9) rfl dX7_bar_96 ?_
              refine lv_iload hx hb dX7_bar_99 (lv_at hl 0 rfl) ?_
              refine z_lald (k := i) hx hb hK hP 3 2 rfl rfl (by omega) (by decide) dX7_bar_101 ?_
              refine lv_ldc2 hx hb hown k_2 dX7_bar_102 ?_
              refine lv_lrem hx hb dX7_bar_105 (by decide) ?_
              refine lv_lload_n hx hb dX7_bar_106 rfl (lv_at hl 2 rfl) ?_
              refine lv_lload_n hx hb dX7_bar_107 rfl (lv_at hl 3 rfl) ?_
              refine zRo_i (va_runS (As := [.long ((gn i) - (gn i) / 27512614111 * 27512614111), .long p0, .long p1]) (rest := []) ⟨hx, hb, hml, hown, hts⟩ (mx_isIn l D z H.size ((gn i) - (gn i) / 27512614111 * 27512614111) p0 p1 ) (va_cwS 3 hts gX7_bar_X7_isIn rfl rfl rfl (by decide +kernel) ⟨Nat.le_of_ble_eq_true rfl, Nat.le_of_ble_eq_true rfl⟩) ⟨zPre_blind, (zPre_mk (wc := []) (tc := []) hP hK hD hC hS [] (by decide) rfl rfl [] rfl (zro_free hS hA))⟩ rfl rfl hl.1 rfl (lv_room (Nat.le_of_ble_eq_true rfl)) dX7_bar_108 ⟨Nat.zero_le _, Nat.zero_le _⟩) hS hA hP (fun r_108 H locs hw hP hS => ?_)
              have hw_108 : zB r_108 (p0.toInt ≤ ((gn i) - (gn i) / 27512614111 * 27512614111).toInt ∧ ((gn i) - (gn i) / 27512614111 * 27512614111).toInt ≤ p1.toInt) := hw
              refine lv_if_eq (tgt := 125) hx hb dX7_bar_111 (by decide) (fun c_111 => ?_) (fun c_111 => ?_)
              · have i_111 : r_108.toInt = 0 := zi_eq.mp c_111
                refine lv_iinc (v := (nI (i + 1))) (lv' := [(6, .int (nI (i + 1))), (0, .ref mo), (1, .long p0), (3, .long p1), (5, .int (nI ct))]) hx hb dX7_bar_125 hl (k := 0) rfl (by first | exact nI_1 _ | rfl) (by decide) rfl (fun ls hl => ?_)
                refine lv_goto (tgt := 76) hx hb dX7_bar_128 (by decide) ?_
                exact ih (i + 1, ct, g) _ _ _ (show ng - (i + 1) < ng - i from (by omega)) (zMR_stay hI (by omega) (Or.inr (zIn_no (zB_eq hw_108 c_111)))) hP hD hS (lv_sub hl [0, 1, 2, 3, 4] rfl)
              · have i_111 : ¬ (r_108.toInt = 0) := fun q9 => c_111 (zi_eq.mpr q9)
                refine lv_aload_n hx hb dX7_bar_114 rfl (lv_at hl 1 rfl) ?_
                refine va_get (D := D) (ci := 7) (v := .ref mg2) (C := RX7) (T := TX7) (N := 19) hx hb hts k_1 hown hK hP 0 rfl rfl 10 (by decide) k_7 (fun _ h9 => h9) rfl dX7_bar_115 ?_
                refine lv_iload hx hb dX7_bar_118 (lv_at hl 0 rfl) ?_
                refine lv_iconst (v := 1) hx hb dX7_bar_120 (by decide) ?_
                refine z_zast (k := i) hx hb hK hP hD hS 4 3 rfl rfl (by omega) (by decide) dX7_bar_121 (fun H locs hP hD hS => ?_)
                have hP : va_P D vwCl [(mo, .inr (7, [.int 0, .int (nI nb), .ref ma1, .ref ma2, .ref ma3, .int (nI (nq + 1)), .ref mb1, .ref mb2, .int (nI ng), .ref mg1, .ref mg2, .int (nI nt), .ref mt1, .int (nI nn), .ref mn1, .ref mn2, .ref mn3, .ref ml1, .ref mw1])), (mb1, .inl (jb1, 50, .inr (.inl (vp_updL qf nq p0)))), (mb2, .inl (jb2, 50, .inr (.inl (vp_updL ql nq p1)))), (mg1, .inl (jg1, 4200, .inr (.inl gn))), (mg2, .inl (jg2, 4200, .inl (upd g i (vp_nar .boolean 1))))] H := hP
                have hD : va_D A [(mo, .inr (7, [.int 0, .int (nI nb), .ref ma1, .ref ma2, .ref ma3, .int (nI (nq + 1)), .ref mb1, .ref mb2, .int (nI ng), .ref mg1, .ref mg2, .int (nI nt), .ref mt1, .int (nI nn), .ref mn1, .ref mn2, .ref mn3, .ref ml1, .ref mw1])), (mb1, .inl (jb1, 50, .inr (.inl (vp_updL qf nq p0)))), (mb2, .inl (jb2, 50, .inr (.inl (vp_updL ql nq p1)))), (mg1, .inl (jg1, 4200, .inr (.inl gn))), (mg2, .inl (jg2, 4200, .inl (upd g i (vp_nar .boolean 1))))] := hD
                refine lv_iinc (v := (nI (ct + 1))) (lv' := [(5, .int (nI (ct + 1))), (6, .int (nI i)), (0, .ref mo), (1, .long p0), (3, .long p1)]) hx hb dX7_bar_122 hl (k := 4) rfl (by first | exact nI_1 _ | rfl) (by decide) rfl (fun ls hl => ?_)
                refine lv_iinc (v := (nI (i + 1))) (lv' := [(6, .int (nI (i + 1))), (5, .int (nI (ct + 1))), (0, .ref mo), (1, .long p0), (3, .long p1)]) hx hb dX7_bar_125 hl (k := 1) rfl (by first | exact nI_1 _ | rfl) (by decide) rfl (fun ls hl => ?_)
                refine lv_goto (tgt := 76) hx hb dX7_bar_128 (by decide) ?_
                exact ih (i + 1, ct + 1, upd g i (vp_nar .boolean 1)) _ _ _ (show ng - (i + 1) < ng - i from (by omega)) (zMR_go hI (by omega) c_92 (zIn_iff.mpr (zB_ne hw_108 c_111))) hP hD hS (lv_sub hl [0, 2, 3, 4, 1] rfl)
        · have c_34 : nq = 50 := (nI_eq (a := nq) (b := 50) (by omega) (by omega)).mp c_34
          refine lv_bipush (v := -104) hx hb dX7_bar_37 (by decide) ?_
          exact W.iret (v := (-104)) hx hb hr (fun t9 ht9 hW9 => ⟨⟨_, (nq, qf, ql, gg), rfl, Or.inr (Or.inl ⟨by unfold zOkR; omega, c_34, rfl, rfl, rfl, rfl, rfl⟩), by rw [ht9]; exact hP, va_K.moved hW9.alike hK, hD⟩, hS.F ht9⟩) hS.2.2 dX7_bar_39
      · have c_22 : ¬ (p1 < 27512614111) := fun q9 => c_22 ((lg_cmp_lt _ _).mpr q9)
        have i_22 : ¬ (p1.toInt < 27512614111) := fun q9 => c_22 (zl_lt.mpr q9)
        refine lv_bipush (v := -102) hx hb dX7_bar_25 (by decide) ?_
        exact W.iret (v := (-102)) hx hb hr (fun t9 ht9 hW9 => ⟨⟨_, (nq, qf, ql, gg), rfl, Or.inl ⟨fun q => by unfold zOkR at q; omega, rfl, rfl, rfl, rfl, rfl⟩, by rw [ht9]; exact hP, va_K.moved hW9.alike hK, hD⟩, hS.F ht9⟩) hS.2.2 dX7_bar_27

set_option maxHeartbeats 4000000 in
set_option maxRecDepth 100000 in
theorem mx_find (l : Launch) (D : va_G) (z : zG) (sz : Nat) (mo : Nat) (ma1 : Nat) (ma2 : Nat) (ma3 : Nat) (mb1 : Nat) (mb2 : Nat) (mg1 : Nat) (mg2 : Nat) (mt1 : Nat) (mn1 : Nat) (mn2 : Nat) (mn3 : Nat) (ml1 : Nat) (mw1 : Nat) (th : Int32) (nb : Nat) (nq : Nat) (ng : Nat) (nt : Nat) (nn : Nat) (jg1 : ClassId) (gn : Nat → Int64) (jg2 : ClassId) (gg : Nat → Int32) (p0 : Int64) (hg : ng ≤ 4200) : Met l yX7_find wsX7_find ({ frames := 0, cells := 0, slots := 0, locals := 0 }) (zPre D z [.ref mo, .long p0] sz [(mo, .inr (7, [.int th, .int (nI nb), .ref ma1, .ref ma2, .ref ma3, .int (nI nq), .ref mb1, .ref mb2, .int (nI ng), .ref mg1, .ref mg2, .int (nI nt), .ref mt1, .int (nI nn), .ref mn1, .ref mn2, .ref mn3, .ref ml1, .ref mw1])), (mg1, .inl (jg1, 4200, .inr (.inl gn))), (mg2, .inl (jg2, 4200, .inl gg))] [(jg1, .long), (jg2, .boolean)] (va_A [] sz)) (va_Qi (fun (r : Int32) (u : Unit) => (∃ k, k < ng ∧ gn k = p0 ∧ gg k = 0 ∧ r = nI k) ∨ ((∀ k, k < ng → ¬ (gn k = p0 ∧ gg k = 0)) ∧ r = -1)) zT (va_A [] sz)) 0 0 (va_A [] sz) := by
  refine Met.ofW (cc := cX7_find) (maxL := 4) (ret := (some .int)) (by decide) rfl ?_
  intro p e s m args below meth c s₁ B hml hv
  obtain ⟨rfl, hsz, hP, hK, hD, hC⟩ := hv
  have hx := B.exec
  have hb := B.bytes
  have hr := B.returns
  have hts := atoms_spec (ws := wsX7_find) B.pre
  have hown : s.vm.findClass RX7 = some m.cls := findClass_of_methodNamed B.named
  have hlocks := B.notSynchronized
  subst hsz
  generalize hAe : va_A [] s.heap.size = A at hC ⊢
  have hA : ∀ q : Nat, s.heap.size ≤ q → A q := fun q h => by rw [← hAe]; exact Or.inr h
  have hS : va_S A s.heap s.heap [] := va_S.rf
  have hP : va_P D vwCl [(mo, .inr (7, [.int th, .int (nI nb), .ref ma1, .ref ma2, .ref ma3, .int (nI nq), .ref mb1, .ref mb2, .int (nI ng), .ref mg1, .ref mg2, .int (nI nt), .ref mt1, .int (nI nn), .ref mn1, .ref mn2, .ref mn3, .ref ml1, .ref mw1])), (mg1, .inl (jg1, 4200, .inr (.inl gn))), (mg2, .inl (jg2, 4200, .inl gg))] s.heap := hP
  have hl := lv_entry ([.ref mo, .long p0]) (n := 4) (Nat.le_of_ble_eq_true rfl)
  rw [lg_entry_eq]
  generalize (lg_sl ([.ref mo, .long p0]) ++ List.replicate (4 - (lg_sl ([.ref mo, .long p0])).length) Slot.unset).toArray = ls at hl ⊢
  have hl : lv_has ls 4 [(0, .ref mo), (1, .long p0)] := hl
  refine zNameH (D := D) (A := A) (ws := [(mo, .inr (7, [.int th, .int (nI nb), .ref ma1, .ref ma2, .ref ma3, .int (nI nq), .ref mb1, .ref mb2, .int (nI ng), .ref mg1, .ref mg2, .int (nI nt), .ref mt1, .int (nI nn), .ref mn1, .ref mn2, .ref mn3, .ref ml1, .ref mw1])), (mg1, .inl (jg1, 4200, .inr (.inl gn))), (mg2, .inl (jg2, 4200, .inl gg))]) (fun H locs hP hS => ?_) hP hS
  have k_0 := hts (.fieldLink RX7 74 "NumberRows2Model" "gave" "I") (by decide +kernel)
  have k_1 : ∀ w ∈ wsX70, w ∈ wsX7_find := by decide +kernel
  have k_2 := hts (.fieldLink RX7 26 "NumberRows2Model" "numbers" "[J") (by decide +kernel)
  have k_3 := hts (.fieldLink RX7 29 "NumberRows2Model" "gone" "[Z") (by decide +kernel)
  refine lv_iconst (v := 0) hx hb dX7_find_0 (by decide) ?_
  refine lv_istore_n (lv' := [(3, .int 0), (0, .ref mo), (1, .long p0)]) hx hb dX7_find_1 rfl hl (by decide) rfl (fun ls hl => ?_)
  refine zLoop (σ := Nat) (nL := 4) (μ := fun (i : Nat) => ng - i) (lv := fun (i : Nat) => [(3, .int (nI i)), (0, .ref mo), (1, .long p0)]) (wf := fun (i : Nat) => [(mo, .inr (7, [.int th, .int (nI nb), .ref ma1, .ref ma2, .ref ma3, .int (nI nq), .ref mb1, .ref mb2, .int (nI ng), .ref mg1, .ref mg2, .int (nI nt), .ref mt1, .int (nI nn), .ref mn1, .ref mn2, .ref mn3, .ref ml1, .ref mw1])), (mg1, .inl (jg1, 4200, .inr (.inl gn))), (mg2, .inl (jg2, 4200, .inl gg))]) (I := fun (i : Nat) => i ≤ ng ∧ ∀ k, k < i → ¬ (gn k = p0 ∧ gg k = 0)) (fun x H locs ls hI hP hD hS hl ih => ?_) 0 ⟨Nat.zero_le _, fun j hj => absurd hj (Nat.not_lt_zero j)⟩ hP hD hS (lv_sub hl [0, 1, 2] rfl)
  obtain ⟨i, rfl⟩ : ∃ y9, y9 = x := ⟨_, rfl⟩
  have hI : i ≤ ng ∧ ∀ k, k < i → ¬ (gn k = p0 ∧ gg k = 0) := hI
  have hl : lv_has ls 4 [(3, .int (nI i)), (0, .ref mo), (1, .long p0)] := hl
  have hP : va_P D vwCl [(mo, .inr (7, [.int th, .int (nI nb), .ref ma1, .ref ma2, .ref ma3, .int (nI nq), .ref mb1, .ref mb2, .int (nI ng), .ref mg1, .ref mg2, .int (nI nt), .ref mt1, .int (nI nn), .ref mn1, .ref mn2, .ref mn3, .ref ml1, .ref mw1])), (mg1, .inl (jg1, 4200, .inr (.inl gn))), (mg2, .inl (jg2, 4200, .inl gg))] H := hP
  have hD : va_D (fun _ => True) [(mo, .inr (7, [.int th, .int (nI nb), .ref ma1, .ref ma2, .ref ma3, .int (nI nq), .ref mb1, .ref mb2, .int (nI ng), .ref mg1, .ref mg2, .int (nI nt), .ref mt1, .int (nI nn), .ref mn1, .ref mn2, .ref mn3, .ref ml1, .ref mw1])), (mg1, .inl (jg1, 4200, .inr (.inl gn))), (mg2, .inl (jg2, 4200, .inl gg))] := hD
  have h1 := hI.1
  refine lv_iload_n hx hb dX7_find_2 rfl (lv_at hl 0 rfl) ?_
  refine lv_aload_n hx hb dX7_find_3 rfl (lv_at hl 1 rfl) ?_
  refine va_get (D := D) (ci := 7) (v := .int (nI ng)) (C := RX7) (T := TX7) (N := 19) hx hb hts k_1 hown hK hP 0 rfl rfl 8 (by decide) k_0 (fun _ h9 => h9) rfl dX7_find_4 ?_
  refine lv_icmp_ge (tgt := 38) hx hb dX7_find_7 (by decide) (fun c_7 => ?_) (fun c_7 => ?_)
  · have c_7 : ng ≤ i := (nI_leI (a := ng) (b := i) (by omega) (by omega)).mp c_7
    refine lv_iconst (v := -1) hx hb dX7_find_38 (by decide) ?_
    exact W.iret (v := (-1)) hx hb hr (fun t9 ht9 hW9 => ⟨⟨_, (), rfl, Or.inr ⟨fun k hk => hI.2 k (by omega), rfl⟩, trivial⟩, hS.F ht9⟩) hS.2.2 dX7_find_39
  · have c_7 : ¬ (ng ≤ i) := fun q9 => c_7 ((nI_leI (a := ng) (b := i) (by omega) (by omega)).mpr q9)
    refine lv_aload_n hx hb dX7_find_10 rfl (lv_at hl 1 rfl) ?_
    refine va_get (D := D) (ci := 7) (v := .ref mg1) (C := RX7) (T := TX7) (N := 19) hx hb hts k_1 hown hK hP 0 rfl rfl 9 (by decide) k_2 (fun _ h9 => h9) rfl dX7_find_11 ?_
    refine lv_iload_n hx hb dX7_find_14 rfl (lv_at hl 0 rfl) ?_
    refine z_lald (k := i) hx hb hK hP 1 0 rfl rfl (by omega) (by decide) dX7_find_15 ?_
    refine lv_lload_n hx hb dX7_find_16 rfl (lv_at hl 2 rfl) ?_
    refine W.lcmp hx hb dX7_find_17 ?_
    refine lv_if_ne (tgt := 32) hx hb dX7_find_18 (by decide) (fun c_18 => ?_) (fun c_18 => ?_)
    · have c_18 : ¬ ((gn i) = p0) := fun q9 => c_18 ((lg_cmp_eq _ _).mpr q9)
      have i_18 : ¬ ((gn i).toInt = p0.toInt) := fun q9 => c_18 (zl_eq.mpr q9)
      refine lv_iinc (v := (nI (i + 1))) (lv' := [(3, .int (nI (i + 1))), (0, .ref mo), (1, .long p0)]) hx hb dX7_find_32 hl (k := 0) rfl (by first | exact nI_1 _ | rfl) (by decide) rfl (fun ls hl => ?_)
      refine lv_goto (tgt := 2) hx hb dX7_find_35 (by decide) ?_
      exact ih (i + 1) _ _ _ (show ng - (i + 1) < ng - i from (by omega)) ⟨by omega, lt_s hI.2 (fun q => c_18 q.1)⟩ hP hD hS (lv_sub hl [0, 1, 2] rfl)
    · have c_18 : (gn i) = p0 := (lg_cmp_eq _ _).mp c_18
      have i_18 : (gn i).toInt = p0.toInt := zl_eq.mp c_18
      refine lv_aload_n hx hb dX7_find_21 rfl (lv_at hl 1 rfl) ?_
      refine va_get (D := D) (ci := 7) (v := .ref mg2) (C := RX7) (T := TX7) (N := 19) hx hb hts k_1 hown hK hP 0 rfl rfl 10 (by decide) k_3 (fun _ h9 => h9) rfl dX7_find_22 ?_
      refine lv_iload_n hx hb dX7_find_25 rfl (lv_at hl 0 rfl) ?_
      refine z_zald (k := i) hx hb hK hP 2 1 rfl rfl (by omega) (by decide) dX7_find_26 ?_
      refine lv_if_ne (tgt := 32) hx hb dX7_find_27 (by decide) (fun c_27 => ?_) (fun c_27 => ?_)
      · have i_27 : ¬ ((gg i).toInt = 0) := fun q9 => c_27 (zi_eq.mpr q9)
        refine lv_iinc (v := (nI (i + 1))) (lv' := [(3, .int (nI (i + 1))), (0, .ref mo), (1, .long p0)]) hx hb dX7_find_32 hl (k := 0) rfl (by first | exact nI_1 _ | rfl) (by decide) rfl (fun ls hl => ?_)
        refine lv_goto (tgt := 2) hx hb dX7_find_35 (by decide) ?_
        exact ih (i + 1) _ _ _ (show ng - (i + 1) < ng - i from (by omega)) ⟨by omega, lt_s hI.2 (fun q => c_27 q.2)⟩ hP hD hS (lv_sub hl [0, 1, 2] rfl)
      · have i_27 : (gg i).toInt = 0 := zi_eq.mp c_27
        refine lv_iload_n hx hb dX7_find_30 rfl (lv_at hl 0 rfl) ?_
        exact W.iret (v := (nI i)) hx hb hr (fun t9 ht9 hW9 => ⟨⟨_, (), rfl, Or.inl ⟨i, by omega, c_18, c_27, rfl⟩, trivial⟩, hS.F ht9⟩) hS.2.2 dX7_find_31

set_option maxHeartbeats 4000000 in
set_option maxRecDepth 100000 in
theorem mx_given (l : Launch) (D : va_G) (z : zG) (sz : Nat) (mo : Nat) (ma1 : Nat) (ma2 : Nat) (ma3 : Nat) (mb1 : Nat) (mb2 : Nat) (mg1 : Nat) (mg2 : Nat) (mt1 : Nat) (mn1 : Nat) (mn2 : Nat) (mn3 : Nat) (ml1 : Nat) (mw1 : Nat) (th : Int32) (nb : Nat) (nq : Nat) (ng : Nat) (nt : Nat) (nn : Nat) (jg1 : ClassId) (gn : Nat → Int64) (jg2 : ClassId) (gg : Nat → Int32) (p0 : Int64) (hg : ng ≤ 4200) : Met l yX7_given wsX7_given ({ frames := 1, cells := 0, slots := 0, locals := 23 }) (zPre D z [.ref mo, .long p0] sz [(mo, .inr (7, [.int th, .int (nI nb), .ref ma1, .ref ma2, .ref ma3, .int (nI nq), .ref mb1, .ref mb2, .int (nI ng), .ref mg1, .ref mg2, .int (nI nt), .ref mt1, .int (nI nn), .ref mn1, .ref mn2, .ref mn3, .ref ml1, .ref mw1])), (mg1, .inl (jg1, 4200, .inr (.inl gn))), (mg2, .inl (jg2, 4200, .inl gg))] [(jg1, .long), (jg2, .boolean)] (va_A [(mo, .inr (7, [.int th, .int (nI nb), .ref ma1, .ref ma2, .ref ma3, .int (nI nq), .ref mb1, .ref mb2, .int (nI ng), .ref mg1, .ref mg2, .int (nI nt), .ref mt1, .int (nI nn), .ref mn1, .ref mn2, .ref mn3, .ref ml1, .ref mw1])), (mg1, .inl (jg1, 4200, .inr (.inl gn))), (mg2, .inl (jg2, 4200, .inl gg))] sz)) (va_Qi (fun (r : Int32) (u : Unit) => zB r (zGiv ng gn gg p0)) (zAt D [(jg1, .long), (jg2, .boolean)] (va_A [(mo, .inr (7, [.int th, .int (nI nb), .ref ma1, .ref ma2, .ref ma3, .int (nI nq), .ref mb1, .ref mb2, .int (nI ng), .ref mg1, .ref mg2, .int (nI nt), .ref mt1, .int (nI nn), .ref mn1, .ref mn2, .ref mn3, .ref ml1, .ref mw1])), (mg1, .inl (jg1, 4200, .inr (.inl gn))), (mg2, .inl (jg2, 4200, .inl gg))] sz) (fun u : Unit => [(mo, .inr (7, [.int 0, .int (nI nb), .ref ma1, .ref ma2, .ref ma3, .int (nI nq), .ref mb1, .ref mb2, .int (nI ng), .ref mg1, .ref mg2, .int (nI nt), .ref mt1, .int (nI nn), .ref mn1, .ref mn2, .ref mn3, .ref ml1, .ref mw1])), (mg1, .inl (jg1, 4200, .inr (.inl gn))), (mg2, .inl (jg2, 4200, .inl gg))])) (va_A [(mo, .inr (7, [.int th, .int (nI nb), .ref ma1, .ref ma2, .ref ma3, .int (nI nq), .ref mb1, .ref mb2, .int (nI ng), .ref mg1, .ref mg2, .int (nI nt), .ref mt1, .int (nI nn), .ref mn1, .ref mn2, .ref mn3, .ref ml1, .ref mw1])), (mg1, .inl (jg1, 4200, .inr (.inl gn))), (mg2, .inl (jg2, 4200, .inl gg))] sz)) 0 0 (va_A [(mo, .inr (7, [.int th, .int (nI nb), .ref ma1, .ref ma2, .ref ma3, .int (nI nq), .ref mb1, .ref mb2, .int (nI ng), .ref mg1, .ref mg2, .int (nI nt), .ref mt1, .int (nI nn), .ref mn1, .ref mn2, .ref mn3, .ref ml1, .ref mw1])), (mg1, .inl (jg1, 4200, .inr (.inl gn))), (mg2, .inl (jg2, 4200, .inl gg))] sz) := by
  refine Met.ofW (cc := cX7_given) (maxL := 3) (ret := (some .boolean)) (by decide) rfl ?_
  intro p e s m args below meth c s₁ B hml hv
  obtain ⟨rfl, hsz, hP, hK, hD, hC⟩ := hv
  have hx := B.exec
  have hb := B.bytes
  have hr := B.returns
  have hts := atoms_spec (ws := wsX7_given) B.pre
  have hown : s.vm.findClass RX7 = some m.cls := findClass_of_methodNamed B.named
  have hlocks := B.notSynchronized
  subst hsz
  have hD := hD.self (sz := s.heap.size)
  generalize hAe : va_A [(mo, .inr (7, [.int th, .int (nI nb), .ref ma1, .ref ma2, .ref ma3, .int (nI nq), .ref mb1, .ref mb2, .int (nI ng), .ref mg1, .ref mg2, .int (nI nt), .ref mt1, .int (nI nn), .ref mn1, .ref mn2, .ref mn3, .ref ml1, .ref mw1])), (mg1, .inl (jg1, 4200, .inr (.inl gn))), (mg2, .inl (jg2, 4200, .inl gg))] s.heap.size = A at hC hD ⊢
  have hA : ∀ q : Nat, s.heap.size ≤ q → A q := fun q h => by rw [← hAe]; exact Or.inr h
  have hS : va_S A s.heap s.heap [] := va_S.rf
  have hP : va_P D vwCl [(mo, .inr (7, [.int th, .int (nI nb), .ref ma1, .ref ma2, .ref ma3, .int (nI nq), .ref mb1, .ref mb2, .int (nI ng), .ref mg1, .ref mg2, .int (nI nt), .ref mt1, .int (nI nn), .ref mn1, .ref mn2, .ref mn3, .ref ml1, .ref mw1])), (mg1, .inl (jg1, 4200, .inr (.inl gn))), (mg2, .inl (jg2, 4200, .inl gg))] s.heap := hP
  have hl := lv_entry ([.ref mo, .long p0]) (n := 3) (Nat.le_of_ble_eq_true rfl)
  rw [lg_entry_eq]
  generalize (lg_sl ([.ref mo, .long p0]) ++ List.replicate (3 - (lg_sl ([.ref mo, .long p0])).length) Slot.unset).toArray = ls at hl ⊢
  have hl : lv_has ls 3 [(0, .ref mo), (1, .long p0)] := hl
  refine zNameH (D := D) (A := A) (ws := [(mo, .inr (7, [.int th, .int (nI nb), .ref ma1, .ref ma2, .ref ma3, .int (nI nq), .ref mb1, .ref mb2, .int (nI ng), .ref mg1, .ref mg2, .int (nI nt), .ref mt1, .int (nI nn), .ref mn1, .ref mn2, .ref mn3, .ref ml1, .ref mw1])), (mg1, .inl (jg1, 4200, .inr (.inl gn))), (mg2, .inl (jg2, 4200, .inl gg))]) (fun H locs hP hS => ?_) hP hS
  have k_0 := hts (.fieldLink RX7 55 "NumberRows2Model" "thrown" "I") (by decide +kernel)
  have k_1 : ∀ w ∈ wsX70, w ∈ wsX7_given := by decide +kernel
  refine lv_aload_n hx hb dX7_given_0 rfl (lv_at hl 0 rfl) ?_
  refine lv_iconst (v := 0) hx hb dX7_given_1 (by decide) ?_
  refine va_put (D := D) (ci := 7) (v := .int 0) (ty := .int) (C := RX7) (T := TX7) (N := 19) hx hb hts k_1 tyX7 tyX7_ok nmX7 hown hK hP hD hS 0 rfl rfl 0 (by decide) k_0 (fun _ h9 => h9) rfl (by decide +kernel) rfl rfl (Nat.le_of_ble_eq_true rfl) dX7_given_2 (fun H locs hP hD hS => ?_)
  have hP : va_P D vwCl [(mo, .inr (7, [.int 0, .int (nI nb), .ref ma1, .ref ma2, .ref ma3, .int (nI nq), .ref mb1, .ref mb2, .int (nI ng), .ref mg1, .ref mg2, .int (nI nt), .ref mt1, .int (nI nn), .ref mn1, .ref mn2, .ref mn3, .ref ml1, .ref mw1])), (mg1, .inl (jg1, 4200, .inr (.inl gn))), (mg2, .inl (jg2, 4200, .inl gg))] H := hP
  have hD : va_D A [(mo, .inr (7, [.int 0, .int (nI nb), .ref ma1, .ref ma2, .ref ma3, .int (nI nq), .ref mb1, .ref mb2, .int (nI ng), .ref mg1, .ref mg2, .int (nI nt), .ref mt1, .int (nI nn), .ref mn1, .ref mn2, .ref mn3, .ref ml1, .ref mw1])), (mg1, .inl (jg1, 4200, .inr (.inl gn))), (mg2, .inl (jg2, 4200, .inl gg))] := hD
  refine lv_aload_n hx hb dX7_given_5 rfl (lv_at hl 0 rfl) ?_
  refine lv_lload_n hx hb dX7_given_6 rfl (lv_at hl 1 rfl) ?_
  refine zRo_i (va_runV (As := [.long p0]) (rest := []) ⟨hx, hb, hml, hown, hts⟩ (mx_find l D z H.size mo ma1 ma2 ma3 mb1 mb2 mg1 mg2 mt1 mn1 mn2 mn3 ml1 mw1 (0 : Int32) nb nq ng nt nn jg1 gn jg2 gg p0 (by omega)) (cwV 1 hts gX7_given_X7_find rfl rfl rfl (by decide +kernel) ⟨Nat.le_of_ble_eq_true rfl, Nat.le_of_ble_eq_true rfl⟩) ⟨zPre_blind, va_recv hK hP (ci := 7) (q0 := 0) rfl rfl, (zPre_mk (wc := [(mo, .inr (7, [.int (0 : Int32), .int (nI nb), .ref ma1, .ref ma2, .ref ma3, .int (nI nq), .ref mb1, .ref mb2, .int (nI ng), .ref mg1, .ref mg2, .int (nI nt), .ref mt1, .int (nI nn), .ref mn1, .ref mn2, .ref mn3, .ref ml1, .ref mw1])), (mg1, .inl (jg1, 4200, .inr (.inl gn))), (mg2, .inl (jg2, 4200, .inl gg))]) (tc := [(jg1, .long), (jg2, .boolean)]) hP hK hD hC hS [0, 1, 2] (by decide) rfl rfl [0, 1] rfl (zro_free hS hA))⟩ rfl rfl hl.1 rfl (lv_room (Nat.le_of_ble_eq_true rfl)) dX7_given_7 ⟨Nat.zero_le _, Nat.zero_le _⟩) hS hA hP (fun r_7 H locs hw hP hS => ?_)
  have hw_7 : (∃ k, k < ng ∧ gn k = p0 ∧ gg k = 0 ∧ r_7 = nI k) ∨ ((∀ k, k < ng → ¬ (gn k = p0 ∧ gg k = 0)) ∧ r_7 = -1) := hw
  refine lv_if_lt (tgt := 17) hx hb dX7_given_10 (by decide) (fun c_10 => ?_) (fun c_10 => ?_)
  · have i_10 : r_7.toInt < 0 := zi_lt.mp c_10
    refine lv_iconst (v := 0) hx hb dX7_given_17 (by decide) ?_
    exact W.zret (v := 0) hx hb hr rfl (fun t9 ht9 hW9 => ⟨⟨_, (), rfl, zB_f (by rcases zfnd hw_7 hg with q | q; exact absurd i_10 q.1; exact q.2), by rw [ht9]; exact hP, va_K.moved hW9.alike hK, hD⟩, hS.F ht9⟩) hS.2.2 dX7_given_18
  · have i_10 : ¬ (r_7.toInt < 0) := fun q9 => c_10 (zi_lt.mpr q9)
    refine lv_iconst (v := 1) hx hb dX7_given_13 (by decide) ?_
    refine lv_goto (tgt := 18) hx hb dX7_given_14 (by decide) ?_
    exact W.zret (v := 1) hx hb hr rfl (fun t9 ht9 hW9 => ⟨⟨_, (), rfl, zB_t (by rcases zfnd hw_7 hg with q | q; exact q.2; exact absurd q.1 i_10), by rw [ht9]; exact hP, va_K.moved hW9.alike hK, hD⟩, hS.F ht9⟩) hS.2.2 dX7_given_18

set_option maxHeartbeats 4000000 in
set_option maxRecDepth 100000 in
theorem mx_old (l : Launch) (D : va_G) (z : zG) (sz : Nat) (mo : Nat) (ma1 : Nat) (ma2 : Nat) (ma3 : Nat) (mb1 : Nat) (mb2 : Nat) (mg1 : Nat) (mg2 : Nat) (mt1 : Nat) (mn1 : Nat) (mn2 : Nat) (mn3 : Nat) (ml1 : Nat) (mw1 : Nat) (th : Int32) (nb : Nat) (nq : Nat) (ng : Nat) (nt : Nat) (nn : Nat) (p0 : Int64)  : Met l yX7_old wsX7_old ({ frames := 1, cells := 0, slots := 0, locals := 25 }) (zPre D z [.ref mo, .long p0] sz [(mo, .inr (7, [.int th, .int (nI nb), .ref ma1, .ref ma2, .ref ma3, .int (nI nq), .ref mb1, .ref mb2, .int (nI ng), .ref mg1, .ref mg2, .int (nI nt), .ref mt1, .int (nI nn), .ref mn1, .ref mn2, .ref mn3, .ref ml1, .ref mw1]))] [] (va_A [(mo, .inr (7, [.int th, .int (nI nb), .ref ma1, .ref ma2, .ref ma3, .int (nI nq), .ref mb1, .ref mb2, .int (nI ng), .ref mg1, .ref mg2, .int (nI nt), .ref mt1, .int (nI nn), .ref mn1, .ref mn2, .ref mn3, .ref ml1, .ref mw1]))] sz)) (va_Ql (fun (r : Int64) (u : Unit) => zOldM p0 r) (zAt D [] (va_A [(mo, .inr (7, [.int th, .int (nI nb), .ref ma1, .ref ma2, .ref ma3, .int (nI nq), .ref mb1, .ref mb2, .int (nI ng), .ref mg1, .ref mg2, .int (nI nt), .ref mt1, .int (nI nn), .ref mn1, .ref mn2, .ref mn3, .ref ml1, .ref mw1]))] sz) (fun u : Unit => [(mo, .inr (7, [.int 0, .int (nI nb), .ref ma1, .ref ma2, .ref ma3, .int (nI nq), .ref mb1, .ref mb2, .int (nI ng), .ref mg1, .ref mg2, .int (nI nt), .ref mt1, .int (nI nn), .ref mn1, .ref mn2, .ref mn3, .ref ml1, .ref mw1]))])) (va_A [(mo, .inr (7, [.int th, .int (nI nb), .ref ma1, .ref ma2, .ref ma3, .int (nI nq), .ref mb1, .ref mb2, .int (nI ng), .ref mg1, .ref mg2, .int (nI nt), .ref mt1, .int (nI nn), .ref mn1, .ref mn2, .ref mn3, .ref ml1, .ref mw1]))] sz)) 0 0 (va_A [(mo, .inr (7, [.int th, .int (nI nb), .ref ma1, .ref ma2, .ref ma3, .int (nI nq), .ref mb1, .ref mb2, .int (nI ng), .ref mg1, .ref mg2, .int (nI nt), .ref mt1, .int (nI nn), .ref mn1, .ref mn2, .ref mn3, .ref ml1, .ref mw1]))] sz) := by
  refine Met.ofW (cc := cX7_old) (maxL := 5) (ret := (some .long)) (by decide) rfl ?_
  intro p e s m args below meth c s₁ B hml hv
  obtain ⟨rfl, hsz, hP, hK, hD, hC⟩ := hv
  have hx := B.exec
  have hb := B.bytes
  have hr := B.returns
  have hts := atoms_spec (ws := wsX7_old) B.pre
  have hown : s.vm.findClass RX7 = some m.cls := findClass_of_methodNamed B.named
  have hlocks := B.notSynchronized
  subst hsz
  have hD := hD.self (sz := s.heap.size)
  generalize hAe : va_A [(mo, .inr (7, [.int th, .int (nI nb), .ref ma1, .ref ma2, .ref ma3, .int (nI nq), .ref mb1, .ref mb2, .int (nI ng), .ref mg1, .ref mg2, .int (nI nt), .ref mt1, .int (nI nn), .ref mn1, .ref mn2, .ref mn3, .ref ml1, .ref mw1]))] s.heap.size = A at hC hD ⊢
  have hA : ∀ q : Nat, s.heap.size ≤ q → A q := fun q h => by rw [← hAe]; exact Or.inr h
  have hS : va_S A s.heap s.heap [] := va_S.rf
  have hP : va_P D vwCl [(mo, .inr (7, [.int th, .int (nI nb), .ref ma1, .ref ma2, .ref ma3, .int (nI nq), .ref mb1, .ref mb2, .int (nI ng), .ref mg1, .ref mg2, .int (nI nt), .ref mt1, .int (nI nn), .ref mn1, .ref mn2, .ref mn3, .ref ml1, .ref mw1]))] s.heap := hP
  have hl := lv_entry ([.ref mo, .long p0]) (n := 5) (Nat.le_of_ble_eq_true rfl)
  rw [lg_entry_eq]
  generalize (lg_sl ([.ref mo, .long p0]) ++ List.replicate (5 - (lg_sl ([.ref mo, .long p0])).length) Slot.unset).toArray = ls at hl ⊢
  have hl : lv_has ls 5 [(0, .ref mo), (1, .long p0)] := hl
  refine zNameH (D := D) (A := A) (ws := [(mo, .inr (7, [.int th, .int (nI nb), .ref ma1, .ref ma2, .ref ma3, .int (nI nq), .ref mb1, .ref mb2, .int (nI ng), .ref mg1, .ref mg2, .int (nI nt), .ref mt1, .int (nI nn), .ref mn1, .ref mn2, .ref mn3, .ref ml1, .ref mw1]))]) (fun H locs hP hS => ?_) hP hS
  have k_0 := hts (.fieldLink RX7 55 "NumberRows2Model" "thrown" "I") (by decide +kernel)
  have k_1 : ∀ w ∈ wsX70, w ∈ wsX7_old := by decide +kernel
  have k_2 := hts (.constantLong RX7 120 (9999999999)) (by decide +kernel)
  have k_3 := hts (.constantLong RX7 77 (27512614111)) (by decide +kernel)
  have k_4 := hts (.constantLong RX7 64 (20000000000)) (by decide +kernel)
  have k_5 := hts (.constantLong RX7 89 (-102)) (by decide +kernel)
  have k_6 := hts (.constantLong RX7 124 (999999999)) (by decide +kernel)
  have k_7 := hts (.constantLong RX7 122 (1000000000)) (by decide +kernel)
  refine lv_aload_n hx hb dX7_old_0 rfl (lv_at hl 0 rfl) ?_
  refine lv_iconst (v := 0) hx hb dX7_old_1 (by decide) ?_
  refine va_put (D := D) (ci := 7) (v := .int 0) (ty := .int) (C := RX7) (T := TX7) (N := 19) hx hb hts k_1 tyX7 tyX7_ok nmX7 hown hK hP hD hS 0 rfl rfl 0 (by decide) k_0 (fun _ h9 => h9) rfl (by decide +kernel) rfl rfl (Nat.le_of_ble_eq_true rfl) dX7_old_2 (fun H locs hP hD hS => ?_)
  have hP : va_P D vwCl [(mo, .inr (7, [.int 0, .int (nI nb), .ref ma1, .ref ma2, .ref ma3, .int (nI nq), .ref mb1, .ref mb2, .int (nI ng), .ref mg1, .ref mg2, .int (nI nt), .ref mt1, .int (nI nn), .ref mn1, .ref mn2, .ref mn3, .ref ml1, .ref mw1]))] H := hP
  have hD : va_D A [(mo, .inr (7, [.int 0, .int (nI nb), .ref ma1, .ref ma2, .ref ma3, .int (nI nq), .ref mb1, .ref mb2, .int (nI ng), .ref mg1, .ref mg2, .int (nI nt), .ref mt1, .int (nI nn), .ref mn1, .ref mn2, .ref mn3, .ref ml1, .ref mw1]))] := hD
  refine lv_lload_n hx hb dX7_old_5 rfl (lv_at hl 1 rfl) ?_
  refine lv_lconst (v := 0) hx hb dX7_old_6 (by decide) ?_
  refine lv_ldc2 hx hb hown k_2 dX7_old_7 ?_
  refine zRo_i (va_runS (As := [.long p0, .long 0, .long 9999999999]) (rest := []) ⟨hx, hb, hml, hown, hts⟩ (mx_isIn l D z H.size p0 (0 : Int64) (9999999999 : Int64) ) (va_cwS 3 hts gX7_old_X7_isIn rfl rfl rfl (by decide +kernel) ⟨Nat.le_of_ble_eq_true rfl, Nat.le_of_ble_eq_true rfl⟩) ⟨zPre_blind, (zPre_mk (wc := []) (tc := []) hP hK hD hC hS [] (by decide) rfl rfl [] rfl (zro_free hS hA))⟩ rfl rfl hl.1 rfl (lv_room (Nat.le_of_ble_eq_true rfl)) dX7_old_10 ⟨Nat.zero_le _, Nat.zero_le _⟩) hS hA hP (fun r_10 H locs hw hP hS => ?_)
  have hw_10 : zB r_10 (0 ≤ p0.toInt ∧ p0.toInt ≤ 9999999999) := hw
  refine lv_if_eq (tgt := 38) hx hb dX7_old_13 (by decide) (fun c_13 => ?_) (fun c_13 => ?_)
  · have i_13 : r_10.toInt = 0 := zi_eq.mp c_13
    refine lv_lload_n hx hb dX7_old_38 rfl (lv_at hl 1 rfl) ?_
    refine lv_ldc2 hx hb hown k_3 dX7_old_39 ?_
    refine lv_lrem hx hb dX7_old_42 (by decide) ?_
    refine lv_ldc2 hx hb hown k_4 dX7_old_43 ?_
    refine lv_lsub hx hb dX7_old_46 ?_
    refine lv_lstore_n (lv' := [(3, .long ((p0 - p0 / 27512614111 * 27512614111) - 20000000000)), (0, .ref mo), (1, .long p0)]) hx hb dX7_old_47 rfl hl (by decide) rfl (fun ls hl => ?_)
    refine lv_lload_n hx hb dX7_old_48 rfl (lv_at hl 2 rfl) ?_
    refine zRo_i (va_runS (As := [.long p0]) (rest := []) ⟨hx, hb, hml, hown, hts⟩ (mx_isNumber l D z H.size p0 ) (va_cwS 1 hts gX7_old_X7_isNumber rfl rfl rfl (by decide +kernel) ⟨Nat.le_of_ble_eq_true rfl, Nat.le_of_ble_eq_true rfl⟩) ⟨zPre_blind, (zPre_mk (wc := []) (tc := []) hP hK hD hC hS [] (by decide) rfl rfl [] rfl (zro_free hS hA))⟩ rfl rfl hl.1 rfl (lv_room (Nat.le_of_ble_eq_true rfl)) dX7_old_49 ⟨Nat.zero_le _, Nat.zero_le _⟩) hS hA hP (fun r_49 H locs hw hP hS => ?_)
    have hw_49 : zB r_49 (27512614111 ≤ p0.toInt ∧ p0.toInt < 302638755221) := hw
    refine lv_if_eq (tgt := 82) hx hb dX7_old_52 (by decide) (fun c_52 => ?_) (fun c_52 => ?_)
    · have i_52 : r_49.toInt = 0 := zi_eq.mp c_52
      refine lv_ldc2 hx hb hown k_5 dX7_old_82 ?_
      exact W.lret (v := (-102)) hx hb hr (fun t9 ht9 hW9 => ⟨⟨_, (), rfl, Or.inr (Or.inl ⟨by have := zB_eq hw_10 c_13; omega, fun q => zB_eq hw_49 c_52 q.1, rfl⟩), by rw [ht9]; exact hP, va_K.moved hW9.alike hK, hD⟩, hS.F ht9⟩) hS.2.2 dX7_old_85
    · have i_52 : ¬ (r_49.toInt = 0) := fun q9 => c_52 (zi_eq.mpr q9)
      refine lv_lload_n hx hb dX7_old_55 rfl (lv_at hl 0 rfl) ?_
      refine lv_lconst (v := 0) hx hb dX7_old_56 (by decide) ?_
      refine lv_ldc2 hx hb hown k_6 dX7_old_57 ?_
      refine zRo_i (va_runS (As := [.long ((p0 - p0 / 27512614111 * 27512614111) - 20000000000), .long 0, .long 999999999]) (rest := []) ⟨hx, hb, hml, hown, hts⟩ (mx_isIn l D z H.size ((p0 - p0 / 27512614111 * 27512614111) - 20000000000) (0 : Int64) (999999999 : Int64) ) (va_cwS 3 hts gX7_old_X7_isIn rfl rfl rfl (by decide +kernel) ⟨Nat.le_of_ble_eq_true rfl, Nat.le_of_ble_eq_true rfl⟩) ⟨zPre_blind, (zPre_mk (wc := []) (tc := []) hP hK hD hC hS [] (by decide) rfl rfl [] rfl (zro_free hS hA))⟩ rfl rfl hl.1 rfl (lv_room (Nat.le_of_ble_eq_true rfl)) dX7_old_60 ⟨Nat.zero_le _, Nat.zero_le _⟩) hS hA hP (fun r_60 H locs hw hP hS => ?_)
      have hw_60 : zB r_60 (0 ≤ ((p0 - p0 / 27512614111 * 27512614111) - 20000000000).toInt ∧ ((p0 - p0 / 27512614111 * 27512614111) - 20000000000).toInt ≤ 999999999) := hw
      refine lv_if_eq (tgt := 82) hx hb dX7_old_63 (by decide) (fun c_63 => ?_) (fun c_63 => ?_)
      · have i_63 : r_60.toInt = 0 := zi_eq.mp c_63
        refine lv_ldc2 hx hb hown k_5 dX7_old_82 ?_
        exact W.lret (v := (-102)) hx hb hr (fun t9 ht9 hW9 => ⟨⟨_, (), rfl, Or.inr (Or.inl ⟨by have := zB_eq hw_10 c_13; omega, fun q => zB_eq hw_60 c_63 (by have := q.2; unfold zser at this; omega), rfl⟩), by rw [ht9]; exact hP, va_K.moved hW9.alike hK, hD⟩, hS.F ht9⟩) hS.2.2 dX7_old_85
      · have i_63 : ¬ (r_60.toInt = 0) := fun q9 => c_63 (zi_eq.mpr q9)
        refine lv_lload_n hx hb dX7_old_66 rfl (lv_at hl 2 rfl) ?_
        refine lv_ldc2 hx hb hown k_3 dX7_old_67 ?_
        refine lv_ldiv hx hb dX7_old_70 (by decide) ?_
        refine lv_lconst (v := 1) hx hb dX7_old_71 (by decide) ?_
        refine lv_lsub hx hb dX7_old_72 ?_
        refine lv_ldc2 hx hb hown k_7 dX7_old_73 ?_
        refine lv_lmul hx hb dX7_old_76 ?_
        refine lv_lload_n hx hb dX7_old_77 rfl (lv_at hl 0 rfl) ?_
        refine lv_ladd hx hb dX7_old_78 ?_
        refine lv_goto (tgt := 85) hx hb dX7_old_79 (by decide) ?_
        exact W.lret (v := ((((p0 / 27512614111) - 1) * 1000000000) + ((p0 - p0 / 27512614111 * 27512614111) - 20000000000))) hx hb hr (fun t9 ht9 hW9 => ⟨⟨_, (), rfl, Or.inr (Or.inr ⟨by have := zB_eq hw_10 c_13; omega, ⟨zB_ne hw_49 c_52, by have := zB_ne hw_60 c_63; unfold zser; omega⟩, rfl⟩), by rw [ht9]; exact hP, va_K.moved hW9.alike hK, hD⟩, hS.F ht9⟩) hS.2.2 dX7_old_85
  · have i_13 : ¬ (r_10.toInt = 0) := fun q9 => c_13 (zi_eq.mpr q9)
    refine lv_lload_n hx hb dX7_old_16 rfl (lv_at hl 1 rfl) ?_
    refine lv_ldc2 hx hb hown k_7 dX7_old_17 ?_
    refine lv_ldiv hx hb dX7_old_20 (by decide) ?_
    refine lv_lconst (v := 1) hx hb dX7_old_21 (by decide) ?_
    refine lv_ladd hx hb dX7_old_22 ?_
    refine lv_ldc2 hx hb hown k_3 dX7_old_23 ?_
    refine lv_lmul hx hb dX7_old_26 ?_
    refine lv_ldc2 hx hb hown k_4 dX7_old_27 ?_
    refine lv_ladd hx hb dX7_old_30 ?_
    refine lv_lload_n hx hb dX7_old_31 rfl (lv_at hl 1 rfl) ?_
    refine lv_ldc2 hx hb hown k_7 dX7_old_32 ?_
    refine lv_lrem hx hb dX7_old_35 (by decide) ?_
    refine lv_ladd hx hb dX7_old_36 ?_
    exact W.lret (v := (((((p0 / 1000000000) + 1) * 27512614111) + 20000000000) + (p0 - p0 / 1000000000 * 1000000000))) hx hb hr (fun t9 ht9 hW9 => ⟨⟨_, (), rfl, Or.inl ⟨by have := zB_ne hw_10 c_13; omega, rfl⟩, by rw [ht9]; exact hP, va_K.moved hW9.alike hK, hD⟩, hS.F ht9⟩) hS.2.2 dX7_old_37

set_option maxHeartbeats 4000000 in
set_option maxRecDepth 100000 in
theorem mx_named (l : Launch) (D : va_G) (z : zG) (sz : Nat) (mo : Nat) (ma1 : Nat) (ma2 : Nat) (ma3 : Nat) (mb1 : Nat) (mb2 : Nat) (mg1 : Nat) (mg2 : Nat) (mt1 : Nat) (mn1 : Nat) (mn2 : Nat) (mn3 : Nat) (ml1 : Nat) (mw1 : Nat) (th : Int32) (nb : Nat) (nq : Nat) (ng : Nat) (nt : Nat) (nn : Nat) (jn1 : ClassId) (sd : Nat → Int32) (jn2 : ClassId) (rf : Nat → Int64) (jn3 : ClassId) (nm : Nat → Int64) (p0 : Int32) (p1 : Int64) (hn : nn ≤ 300) : Met l yX7_named wsX7_named ({ frames := 0, cells := 0, slots := 0, locals := 0 }) (zPre D z [.ref mo, .int p0, .long p1] sz [(mo, .inr (7, [.int th, .int (nI nb), .ref ma1, .ref ma2, .ref ma3, .int (nI nq), .ref mb1, .ref mb2, .int (nI ng), .ref mg1, .ref mg2, .int (nI nt), .ref mt1, .int (nI nn), .ref mn1, .ref mn2, .ref mn3, .ref ml1, .ref mw1])), (mn1, .inl (jn1, 300, .inl sd)), (mn2, .inl (jn2, 300, .inr (.inl rf))), (mn3, .inl (jn3, 300, .inr (.inl nm)))] [(jn1, .int), (jn2, .long), (jn3, .long)] (va_A [(mo, .inr (7, [.int th, .int (nI nb), .ref ma1, .ref ma2, .ref ma3, .int (nI nq), .ref mb1, .ref mb2, .int (nI ng), .ref mg1, .ref mg2, .int (nI nt), .ref mt1, .int (nI nn), .ref mn1, .ref mn2, .ref mn3, .ref ml1, .ref mw1])), (mn1, .inl (jn1, 300, .inl sd)), (mn2, .inl (jn2, 300, .inr (.inl rf))), (mn3, .inl (jn3, 300, .inr (.inl nm)))] sz)) (va_Ql (fun (r : Int64) (u : Unit) => zFnd nn sd rf nm p0 p1 r) (zAt D [(jn1, .int), (jn2, .long), (jn3, .long)] (va_A [(mo, .inr (7, [.int th, .int (nI nb), .ref ma1, .ref ma2, .ref ma3, .int (nI nq), .ref mb1, .ref mb2, .int (nI ng), .ref mg1, .ref mg2, .int (nI nt), .ref mt1, .int (nI nn), .ref mn1, .ref mn2, .ref mn3, .ref ml1, .ref mw1])), (mn1, .inl (jn1, 300, .inl sd)), (mn2, .inl (jn2, 300, .inr (.inl rf))), (mn3, .inl (jn3, 300, .inr (.inl nm)))] sz) (fun u : Unit => [(mo, .inr (7, [.int 0, .int (nI nb), .ref ma1, .ref ma2, .ref ma3, .int (nI nq), .ref mb1, .ref mb2, .int (nI ng), .ref mg1, .ref mg2, .int (nI nt), .ref mt1, .int (nI nn), .ref mn1, .ref mn2, .ref mn3, .ref ml1, .ref mw1])), (mn1, .inl (jn1, 300, .inl sd)), (mn2, .inl (jn2, 300, .inr (.inl rf))), (mn3, .inl (jn3, 300, .inr (.inl nm)))])) (va_A [(mo, .inr (7, [.int th, .int (nI nb), .ref ma1, .ref ma2, .ref ma3, .int (nI nq), .ref mb1, .ref mb2, .int (nI ng), .ref mg1, .ref mg2, .int (nI nt), .ref mt1, .int (nI nn), .ref mn1, .ref mn2, .ref mn3, .ref ml1, .ref mw1])), (mn1, .inl (jn1, 300, .inl sd)), (mn2, .inl (jn2, 300, .inr (.inl rf))), (mn3, .inl (jn3, 300, .inr (.inl nm)))] sz)) 0 0 (va_A [(mo, .inr (7, [.int th, .int (nI nb), .ref ma1, .ref ma2, .ref ma3, .int (nI nq), .ref mb1, .ref mb2, .int (nI ng), .ref mg1, .ref mg2, .int (nI nt), .ref mt1, .int (nI nn), .ref mn1, .ref mn2, .ref mn3, .ref ml1, .ref mw1])), (mn1, .inl (jn1, 300, .inl sd)), (mn2, .inl (jn2, 300, .inr (.inl rf))), (mn3, .inl (jn3, 300, .inr (.inl nm)))] sz) := by
  refine Met.ofW (cc := cX7_named) (maxL := 5) (ret := (some .long)) (by decide) rfl ?_
  intro p e s m args below meth c s₁ B hml hv
  obtain ⟨rfl, hsz, hP, hK, hD, hC⟩ := hv
  have hx := B.exec
  have hb := B.bytes
  have hr := B.returns
  have hts := atoms_spec (ws := wsX7_named) B.pre
  have hown : s.vm.findClass RX7 = some m.cls := findClass_of_methodNamed B.named
  have hlocks := B.notSynchronized
  subst hsz
  have hD := hD.self (sz := s.heap.size)
  generalize hAe : va_A [(mo, .inr (7, [.int th, .int (nI nb), .ref ma1, .ref ma2, .ref ma3, .int (nI nq), .ref mb1, .ref mb2, .int (nI ng), .ref mg1, .ref mg2, .int (nI nt), .ref mt1, .int (nI nn), .ref mn1, .ref mn2, .ref mn3, .ref ml1, .ref mw1])), (mn1, .inl (jn1, 300, .inl sd)), (mn2, .inl (jn2, 300, .inr (.inl rf))), (mn3, .inl (jn3, 300, .inr (.inl nm)))] s.heap.size = A at hC hD ⊢
  have hA : ∀ q : Nat, s.heap.size ≤ q → A q := fun q h => by rw [← hAe]; exact Or.inr h
  have hS : va_S A s.heap s.heap [] := va_S.rf
  have hP : va_P D vwCl [(mo, .inr (7, [.int th, .int (nI nb), .ref ma1, .ref ma2, .ref ma3, .int (nI nq), .ref mb1, .ref mb2, .int (nI ng), .ref mg1, .ref mg2, .int (nI nt), .ref mt1, .int (nI nn), .ref mn1, .ref mn2, .ref mn3, .ref ml1, .ref mw1])), (mn1, .inl (jn1, 300, .inl sd)), (mn2, .inl (jn2, 300, .inr (.inl rf))), (mn3, .inl (jn3, 300, .inr (.inl nm)))] s.heap := hP
  have hl := lv_entry ([.ref mo, .int p0, .long p1]) (n := 5) (Nat.le_of_ble_eq_true rfl)
  rw [lg_entry_eq]
  generalize (lg_sl ([.ref mo, .int p0, .long p1]) ++ List.replicate (5 - (lg_sl ([.ref mo, .int p0, .long p1])).length) Slot.unset).toArray = ls at hl ⊢
  have hl : lv_has ls 5 [(0, .ref mo), (1, .int p0), (2, .long p1)] := hl
  refine zNameH (D := D) (A := A) (ws := [(mo, .inr (7, [.int th, .int (nI nb), .ref ma1, .ref ma2, .ref ma3, .int (nI nq), .ref mb1, .ref mb2, .int (nI ng), .ref mg1, .ref mg2, .int (nI nt), .ref mt1, .int (nI nn), .ref mn1, .ref mn2, .ref mn3, .ref ml1, .ref mw1])), (mn1, .inl (jn1, 300, .inl sd)), (mn2, .inl (jn2, 300, .inr (.inl rf))), (mn3, .inl (jn3, 300, .inr (.inl nm)))]) (fun H locs hP hS => ?_) hP hS
  have k_0 := hts (.fieldLink RX7 55 "NumberRows2Model" "thrown" "I") (by decide +kernel)
  have k_1 : ∀ w ∈ wsX70, w ∈ wsX7_named := by decide +kernel
  have k_2 := hts (.fieldLink RX7 126 "NumberRows2Model" "names" "I") (by decide +kernel)
  have k_3 := hts (.constantLong RX7 129 (-101)) (by decide +kernel)
  have k_4 := hts (.fieldLink RX7 36 "NumberRows2Model" "senders" "[I") (by decide +kernel)
  have k_5 := hts (.fieldLink RX7 39 "NumberRows2Model" "references" "[J") (by decide +kernel)
  have k_6 := hts (.fieldLink RX7 42 "NumberRows2Model" "named" "[J") (by decide +kernel)
  refine lv_aload_n hx hb dX7_named_0 rfl (lv_at hl 0 rfl) ?_
  refine lv_iconst (v := 0) hx hb dX7_named_1 (by decide) ?_
  refine va_put (D := D) (ci := 7) (v := .int 0) (ty := .int) (C := RX7) (T := TX7) (N := 19) hx hb hts k_1 tyX7 tyX7_ok nmX7 hown hK hP hD hS 0 rfl rfl 0 (by decide) k_0 (fun _ h9 => h9) rfl (by decide +kernel) rfl rfl (Nat.le_of_ble_eq_true rfl) dX7_named_2 (fun H locs hP hD hS => ?_)
  have hP : va_P D vwCl [(mo, .inr (7, [.int 0, .int (nI nb), .ref ma1, .ref ma2, .ref ma3, .int (nI nq), .ref mb1, .ref mb2, .int (nI ng), .ref mg1, .ref mg2, .int (nI nt), .ref mt1, .int (nI nn), .ref mn1, .ref mn2, .ref mn3, .ref ml1, .ref mw1])), (mn1, .inl (jn1, 300, .inl sd)), (mn2, .inl (jn2, 300, .inr (.inl rf))), (mn3, .inl (jn3, 300, .inr (.inl nm)))] H := hP
  have hD : va_D A [(mo, .inr (7, [.int 0, .int (nI nb), .ref ma1, .ref ma2, .ref ma3, .int (nI nq), .ref mb1, .ref mb2, .int (nI ng), .ref mg1, .ref mg2, .int (nI nt), .ref mt1, .int (nI nn), .ref mn1, .ref mn2, .ref mn3, .ref ml1, .ref mw1])), (mn1, .inl (jn1, 300, .inl sd)), (mn2, .inl (jn2, 300, .inr (.inl rf))), (mn3, .inl (jn3, 300, .inr (.inl nm)))] := hD
  refine lv_iconst (v := 0) hx hb dX7_named_5 (by decide) ?_
  refine lv_istore (lv' := [(4, .int 0), (0, .ref mo), (1, .int p0), (2, .long p1)]) hx hb dX7_named_6 hl (by decide) rfl (fun ls hl => ?_)
  refine zLoop (σ := Nat) (nL := 5) (μ := fun (i : Nat) => nn - i) (lv := fun (i : Nat) => [(4, .int (nI i)), (0, .ref mo), (1, .int p0), (2, .long p1)]) (wf := fun (i : Nat) => [(mo, .inr (7, [.int 0, .int (nI nb), .ref ma1, .ref ma2, .ref ma3, .int (nI nq), .ref mb1, .ref mb2, .int (nI ng), .ref mg1, .ref mg2, .int (nI nt), .ref mt1, .int (nI nn), .ref mn1, .ref mn2, .ref mn3, .ref ml1, .ref mw1])), (mn1, .inl (jn1, 300, .inl sd)), (mn2, .inl (jn2, 300, .inr (.inl rf))), (mn3, .inl (jn3, 300, .inr (.inl nm)))]) (I := fun (i : Nat) => i ≤ nn ∧ ∀ j, j < i → ¬ (sd j = p0 ∧ rf j = p1)) (fun x H locs ls hI hP hD hS hl ih => ?_) 0 ⟨Nat.zero_le _, fun j hj => absurd hj (Nat.not_lt_zero j)⟩ hP hD hS (lv_sub hl [0, 1, 2, 3] rfl)
  obtain ⟨i, rfl⟩ : ∃ y9, y9 = x := ⟨_, rfl⟩
  have hI : i ≤ nn ∧ ∀ j, j < i → ¬ (sd j = p0 ∧ rf j = p1) := hI
  have hl : lv_has ls 5 [(4, .int (nI i)), (0, .ref mo), (1, .int p0), (2, .long p1)] := hl
  have hP : va_P D vwCl [(mo, .inr (7, [.int 0, .int (nI nb), .ref ma1, .ref ma2, .ref ma3, .int (nI nq), .ref mb1, .ref mb2, .int (nI ng), .ref mg1, .ref mg2, .int (nI nt), .ref mt1, .int (nI nn), .ref mn1, .ref mn2, .ref mn3, .ref ml1, .ref mw1])), (mn1, .inl (jn1, 300, .inl sd)), (mn2, .inl (jn2, 300, .inr (.inl rf))), (mn3, .inl (jn3, 300, .inr (.inl nm)))] H := hP
  have hD : va_D A [(mo, .inr (7, [.int 0, .int (nI nb), .ref ma1, .ref ma2, .ref ma3, .int (nI nq), .ref mb1, .ref mb2, .int (nI ng), .ref mg1, .ref mg2, .int (nI nt), .ref mt1, .int (nI nn), .ref mn1, .ref mn2, .ref mn3, .ref ml1, .ref mw1])), (mn1, .inl (jn1, 300, .inl sd)), (mn2, .inl (jn2, 300, .inr (.inl rf))), (mn3, .inl (jn3, 300, .inr (.inl nm)))] := hD
  refine lv_iload hx hb dX7_named_8 (lv_at hl 0 rfl) ?_
  refine lv_aload_n hx hb dX7_named_10 rfl (lv_at hl 1 rfl) ?_
  refine va_get (D := D) (ci := 7) (v := .int (nI nn)) (C := RX7) (T := TX7) (N := 19) hx hb hts k_1 hown hK hP 0 rfl rfl 13 (by decide) k_2 (fun _ h9 => h9) rfl dX7_named_11 ?_
  refine lv_icmp_ge (tgt := 54) hx hb dX7_named_14 (by decide) (fun c_14 => ?_) (fun c_14 => ?_)
  · have c_14 : nn ≤ i := (nI_leI (a := nn) (b := i) (by omega) (by omega)).mp c_14
    refine lv_ldc2 hx hb hown k_3 dX7_named_54 ?_
    exact W.lret (v := (-101)) hx hb hr (fun t9 ht9 hW9 => ⟨⟨_, (), rfl, Or.inr ⟨fun j hj => hI.2 j (by omega), rfl⟩, by rw [ht9]; exact hP, va_K.moved hW9.alike hK, hD⟩, hS.F ht9⟩) hS.2.2 dX7_named_57
  · have c_14 : ¬ (nn ≤ i) := fun q9 => c_14 ((nI_leI (a := nn) (b := i) (by omega) (by omega)).mpr q9)
    refine lv_aload_n hx hb dX7_named_17 rfl (lv_at hl 1 rfl) ?_
    refine va_get (D := D) (ci := 7) (v := .ref mn1) (C := RX7) (T := TX7) (N := 19) hx hb hts k_1 hown hK hP 0 rfl rfl 14 (by decide) k_4 (fun _ h9 => h9) rfl dX7_named_18 ?_
    refine lv_iload hx hb dX7_named_21 (lv_at hl 0 rfl) ?_
    refine z_iald (k := i) hx hb hK hP 1 0 rfl rfl (by omega) (by decide) dX7_named_23 ?_
    refine lv_iload_n hx hb dX7_named_24 rfl (lv_at hl 2 rfl) ?_
    refine lv_icmp_ne (tgt := 48) hx hb dX7_named_25 (by decide) (fun c_25 => ?_) (fun c_25 => ?_)
    · have i_25 : ¬ ((sd i).toInt = p0.toInt) := fun q9 => c_25 (zi_eq.mpr q9)
      refine lv_iinc (v := (nI (i + 1))) (lv' := [(4, .int (nI (i + 1))), (0, .ref mo), (1, .int p0), (2, .long p1)]) hx hb dX7_named_48 hl (k := 0) rfl (by first | exact nI_1 _ | rfl) (by decide) rfl (fun ls hl => ?_)
      refine lv_goto (tgt := 8) hx hb dX7_named_51 (by decide) ?_
      exact ih (i + 1) _ _ _ (show nn - (i + 1) < nn - i from (by omega)) ⟨by omega, lt_s hI.2 (fun q => c_25 q.1)⟩ hP hD hS (lv_sub hl [0, 1, 2, 3] rfl)
    · have i_25 : (sd i).toInt = p0.toInt := zi_eq.mp c_25
      refine lv_aload_n hx hb dX7_named_28 rfl (lv_at hl 1 rfl) ?_
      refine va_get (D := D) (ci := 7) (v := .ref mn2) (C := RX7) (T := TX7) (N := 19) hx hb hts k_1 hown hK hP 0 rfl rfl 15 (by decide) k_5 (fun _ h9 => h9) rfl dX7_named_29 ?_
      refine lv_iload hx hb dX7_named_32 (lv_at hl 0 rfl) ?_
      refine z_lald (k := i) hx hb hK hP 2 1 rfl rfl (by omega) (by decide) dX7_named_34 ?_
      refine lv_lload_n hx hb dX7_named_35 rfl (lv_at hl 3 rfl) ?_
      refine W.lcmp hx hb dX7_named_36 ?_
      refine lv_if_ne (tgt := 48) hx hb dX7_named_37 (by decide) (fun c_37 => ?_) (fun c_37 => ?_)
      · have c_37 : ¬ ((rf i) = p1) := fun q9 => c_37 ((lg_cmp_eq _ _).mpr q9)
        have i_37 : ¬ ((rf i).toInt = p1.toInt) := fun q9 => c_37 (zl_eq.mpr q9)
        refine lv_iinc (v := (nI (i + 1))) (lv' := [(4, .int (nI (i + 1))), (0, .ref mo), (1, .int p0), (2, .long p1)]) hx hb dX7_named_48 hl (k := 0) rfl (by first | exact nI_1 _ | rfl) (by decide) rfl (fun ls hl => ?_)
        refine lv_goto (tgt := 8) hx hb dX7_named_51 (by decide) ?_
        exact ih (i + 1) _ _ _ (show nn - (i + 1) < nn - i from (by omega)) ⟨by omega, lt_s hI.2 (fun q => c_37 q.2)⟩ hP hD hS (lv_sub hl [0, 1, 2, 3] rfl)
      · have c_37 : (rf i) = p1 := (lg_cmp_eq _ _).mp c_37
        have i_37 : (rf i).toInt = p1.toInt := zl_eq.mp c_37
        refine lv_aload_n hx hb dX7_named_40 rfl (lv_at hl 1 rfl) ?_
        refine va_get (D := D) (ci := 7) (v := .ref mn3) (C := RX7) (T := TX7) (N := 19) hx hb hts k_1 hown hK hP 0 rfl rfl 16 (by decide) k_6 (fun _ h9 => h9) rfl dX7_named_41 ?_
        refine lv_iload hx hb dX7_named_44 (lv_at hl 0 rfl) ?_
        refine z_lald (k := i) hx hb hK hP 3 2 rfl rfl (by omega) (by decide) dX7_named_46 ?_
        exact W.lret (v := (nm i)) hx hb hr (fun t9 ht9 hW9 => ⟨⟨_, (), rfl, Or.inl ⟨i, by omega, c_25, c_37, rfl⟩, by rw [ht9]; exact hP, va_K.moved hW9.alike hK, hD⟩, hS.F ht9⟩) hS.2.2 dX7_named_47
