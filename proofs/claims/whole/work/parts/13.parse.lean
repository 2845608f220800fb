/-! what is typed, read -/
def zvs (g : Int32) : Nat → Nat → Int32
  | 0, _ => -1
  | f + 1, v => if zLt v = g then nI v else zvs g f (v + 1)
/-- the value of a great letter, -1 for none -/
def zvf (g : Int32) : Int32 := zvs g 31 0
theorem zvs_hit {g : Int32} : ∀ (f v w : Nat), v ≤ w → w < v + f → zLt w = g → (∀ u, v ≤ u → u < w → ¬ zLt u = g) → zvs g f v = nI w
  | 0, v, w, h1, h2, _, _ => by omega
  | f + 1, v, w, h1, h2, h3, h4 => by
    unfold zvs
    by_cases e : v = w
    · subst e; rw [if_pos h3]
    · rw [if_neg (h4 v (Nat.le_refl _) (by omega))]
      exact zvs_hit f (v + 1) w (by omega) (by omega) h3 (fun u q1 q2 => h4 u (by omega) q2)
theorem zvs_miss {g : Int32} : ∀ (f v : Nat), (∀ u, v ≤ u → u < v + f → ¬ zLt u = g) → zvs g f v = -1
  | 0, v, _ => rfl
  | f + 1, v, h => by
    unfold zvs
    rw [if_neg (h v (Nat.le_refl _) (by omega))]
    exact zvs_miss f (v + 1) (fun u q1 q2 => h u (by omega) (by omega))
theorem zVal_eq {g r : Int32} (h : zVal g r) : r = zvf g := by
  rcases h with ⟨v, h1, h2, h3, h4⟩ | ⟨h1, h2⟩
  · rw [h3]; exact (zvs_hit 31 0 v (Nat.zero_le _) (by omega) h2 (fun u _ q => h4 u q)).symm
  · rw [h2]; exact (zvs_miss 31 0 (fun u _ q => h1 u (by omega))).symm
theorem zvf_or (g : Int32) : (∃ v, v < 31 ∧ zvf g = nI v) ∨ zvf g = -1 := by
  by_cases h : ∃ v, v < 31 ∧ zLt v = g
  · obtain ⟨v, hv, hm⟩ := pk_least (fun v => v < 31 ∧ zLt v = g) h
    left
    exact ⟨v, hv.1, zvs_hit 31 0 v (Nat.zero_le _) (by omega) hv.2 (fun u _ q w => hm u q ⟨by omega, w⟩)⟩
  · right
    exact zvs_miss 31 0 (fun u _ q w => h ⟨u, by omega, w⟩)
/-- letters so far, their weighted sum, the service and the serial so far; none: a character could not stand -/
noncomputable def zPS (ch : Nat → Int32) : Nat → Option (Nat × Int32 × Int64)
  | 0 => some (0, 0, 0)
  | i + 1 => match zPS ch i with
    | none => none
    | some (k, s, a) => if ch i = 32 then some (k, s, a) else
        @ite _ (zCan (zvf (zGreat (ch i))) k s) (Classical.propDecidable _) (some (k + 1, s + zWgt (zvf (zGreat (ch i))) (nI k), if k < 8 then a * 31 + (zvf (zGreat (ch i))).toInt64 else a)) none
theorem zPS_blank {ch : Nat → Int32} {i k : Nat} {s : Int32} {a : Int64} (h : zPS ch i = some (k, s, a)) (hb : ch i = 32) : zPS ch (i + 1) = some (k, s, a) := by
  show (match zPS ch i with | none => none | some (k, s, a) => _) = _
  rw [h]; dsimp only; rw [if_pos hb]
theorem zPS_go {ch : Nat → Int32} {i k : Nat} {s v : Int32} {a : Int64} (h : zPS ch i = some (k, s, a)) (hb : ¬ ch i = 32) (hv : v = zvf (zGreat (ch i))) (hc : zCan v k s) : zPS ch (i + 1) = some (k + 1, s + zWgt v (nI k), if k < 8 then a * 31 + v.toInt64 else a) := by
  subst hv
  show (match zPS ch i with | none => none | some (k, s, a) => _) = _
  rw [h]; dsimp only; rw [if_neg hb, if_pos hc]
theorem zPS_stop {ch : Nat → Int32} {i k : Nat} {s v : Int32} {a : Int64} (h : zPS ch i = some (k, s, a)) (hb : ¬ ch i = 32) (hv : v = zvf (zGreat (ch i))) (hc : ¬ zCan v k s) : zPS ch (i + 1) = none := by
  subst hv
  show (match zPS ch i with | none => none | some (k, s, a) => _) = _
  rw [h]; dsimp only; rw [if_neg hb, if_neg hc]
theorem zPS_none {ch : Nat → Int32} {i : Nat} (h : zPS ch i = none) : zPS ch (i + 1) = none := by
  show (match zPS ch i with | none => none | some (k, s, a) => _) = _
  rw [h]
def zPar (ch : Nat → Int32) (n : Nat) (r : Int64) : Prop := (∃ i, i < n ∧ ¬ zPS ch i = none ∧ zPS ch (i + 1) = none ∧ r = (-1 - nI i).toInt64) ∨ (∃ (k : Nat) (s : Int32) (a : Int64), zPS ch n = some (k, s, a) ∧ ((k < 9 ∧ r = (-1 - nI n).toInt64) ∨ (¬ k < 9 ∧ r = 27512614111 + a)))
theorem zPS_down {ch : Nat → Int32} {i : Nat} : ∀ (d : Nat), zPS ch i = none → zPS ch (i + d) = none
  | 0, h => h
  | d + 1, h => zPS_none (zPS_down d h)
theorem zPar_fun {ch : Nat → Int32} {n : Nat} {r r' : Int64} (h : zPar ch n r) (h' : zPar ch n r') : r = r' := by
  rcases h with ⟨i, h1, h2, h3, h4⟩ | ⟨k, s, a, h1, h2⟩
  · rcases h' with ⟨j, g1, g2, g3, g4⟩ | ⟨k, s, a, g1, g2⟩
    · have : i = j := by
        rcases Nat.lt_trichotomy i j with q | q | q
        · exact absurd (by have := zPS_down (j - (i + 1)) h3; rwa [show i + 1 + (j - (i + 1)) = j by omega] at this) g2
        · exact q
        · exact absurd (by have := zPS_down (i - (j + 1)) g3; rwa [show j + 1 + (i - (j + 1)) = i by omega] at this) h2
      rw [h4, g4, this]
    · have := zPS_down (n - (i + 1)) h3
      rw [show i + 1 + (n - (i + 1)) = n by omega, g1] at this; cases this
  · rcases h' with ⟨j, g1, g2, g3, g4⟩ | ⟨k', s', a', g1, g2⟩
    · have := zPS_down (n - (j + 1)) g3
      rw [show j + 1 + (n - (j + 1)) = n by omega, h1] at this; cases this
    · rw [h1] at g1
      cases g1
      rcases h2 with ⟨q1, q2⟩ | ⟨q1, q2⟩ <;> rcases g2 with ⟨q3, q4⟩ | ⟨q3, q4⟩
      · rw [q2, q4]
      · omega
      · omega
      · rw [q2, q4]
theorem zPS_k {ch : Nat → Int32} : ∀ {i k : Nat} {s : Int32} {a : Int64}, zPS ch i = some (k, s, a) → k ≤ i ∧ k ≤ 9
  | 0, k, s, a, h => by cases h; exact ⟨Nat.le_refl _, by omega⟩
  | i + 1, k, s, a, h => by
    cases e : zPS ch i with
    | none => rw [zPS_none e] at h; cases h
    | some q =>
      obtain ⟨k0, s0, a0⟩ := q
      have ih := zPS_k e
      by_cases hb : ch i = 32
      · rw [zPS_blank e hb] at h; cases h; omega
      · by_cases hc : zCan (zvf (zGreat (ch i))) k0 s0
        · rw [zPS_go e hb rfl hc] at h; cases h
          have := hc.2.1
          omega
        · rw [zPS_stop e hb rfl hc] at h; cases h

set_option maxHeartbeats 4000000 in
set_option maxRecDepth 100000 in
theorem cc_X5_parse (l : Launch) (D : va_G) (z : zG) (sz : Nat) (h : Nat) (a1 : Nat) (k1 : ClassId) (n : Nat) (ch : Nat → Int32) (hn : n ≤ 60) : Met l yX5_parse wsX5_parse ({ frames := 5, cells := 0, slots := 0, locals := 107 }) (zPre D z [.ref h] sz [(h, .inr (5, [.ref a1, .int (nI n)])), (a1, .inl (k1, 60, .inl ch))] [(k1, .int)] (va_A [] sz)) (va_Ql (fun (r : Int64) (u : Unit) => zPar ch n r) zT (va_A [] sz)) 0 0 (va_A [] sz) := by
  refine Met.ofW (cc := cX5_parse) (maxL := 7) (ret := (some .long)) (by decide) rfl ?_
  intro p e s m args below meth c s₁ B hml hv
  obtain ⟨rfl, hsz, hP, hK, hD, hC⟩ := hv
  have hx := B.exec
  have hb := B.bytes
  have hr := B.returns
  have hts := atoms_spec (ws := wsX5_parse) B.pre
  have hown : s.vm.findClass RX5 = some m.cls := findClass_of_methodNamed B.named
  have hlocks := B.notSynchronized
  subst hsz
  generalize hAe : va_A [] s.heap.size = A at hC ⊢
  have hA : ∀ q : Nat, s.heap.size ≤ q → A q := fun q h => by rw [← hAe]; exact Or.inr h
  have hS : va_S A s.heap s.heap [] := va_S.rf
  have hP : va_P D vwCl [(h, .inr (5, [.ref a1, .int (nI n)])), (a1, .inl (k1, 60, .inl ch))] s.heap := hP
  have hl := lv_entry ([.ref h]) (n := 7) (Nat.le_of_ble_eq_true rfl)
  rw [lg_entry_eq]
  generalize (lg_sl ([.ref h]) ++ List.replicate (7 - (lg_sl ([.ref h])).length) Slot.unset).toArray = ls at hl ⊢
  have hl : lv_has ls 7 [(0, .ref h)] := hl
  refine zNameH (D := D) (A := A) (ws := [(h, .inr (5, [.ref a1, .int (nI n)])), (a1, .inl (k1, 60, .inl ch))]) (fun H locs hP hS => ?_) hP hS
  have k_0 := hts (.fieldLink RX5 15 "NumberRows2$TypedText" "length" "I") (by decide +kernel)
  have k_1 : ∀ w ∈ wsX50, w ∈ wsX5_parse := by decide +kernel
  have k_2 := hts (.constantLong RX5 35 (27512614111)) (by decide +kernel)
  have k_3 := hts (.fieldLink RX5 9 "NumberRows2$TypedText" "characters" "[I") (by decide +kernel)
  have k_4 := hts (.constantLong RX5 29 (31)) (by decide +kernel)
  refine lv_lconst (v := 0) hx hb dX5_parse_0 (by decide) ?_
  refine lv_lstore_n (lv' := [(1, .long 0), (0, .ref h)]) hx hb dX5_parse_1 rfl hl (by decide) rfl (fun ls hl => ?_)
  refine lv_iconst (v := 0) hx hb dX5_parse_2 (by decide) ?_
  refine lv_istore_n (lv' := [(3, .int 0), (1, .long 0), (0, .ref h)]) hx hb dX5_parse_3 rfl hl (by decide) rfl (fun ls hl => ?_)
  refine lv_iconst (v := 0) hx hb dX5_parse_4 (by decide) ?_
  refine lv_istore (lv' := [(4, .int 0), (3, .int 0), (1, .long 0), (0, .ref h)]) hx hb dX5_parse_5 hl (by decide) rfl (fun ls hl => ?_)
  refine lv_iconst (v := 0) hx hb dX5_parse_7 (by decide) ?_
  refine lv_istore (lv' := [(5, .int 0), (4, .int 0), (3, .int 0), (1, .long 0), (0, .ref h)]) hx hb dX5_parse_8 hl (by decide) rfl (fun ls hl => ?_)
  refine zLoop (σ := Nat × Nat × Int32 × Int64) (nL := 7) (μ := fun (x : Nat × Nat × Int32 × Int64) => match x with | (i, k, sm, ac) => n - i) (lv := fun (x : Nat × Nat × Int32 × Int64) => match x with | (i, k, sm, ac) => [(5, .int (nI i)), (0, .ref h), (1, .long ac), (3, .int sm), (4, .int (nI k))]) (wf := fun (x : Nat × Nat × Int32 × Int64) => match x with | (i, k, sm, ac) => [(h, .inr (5, [.ref a1, .int (nI n)])), (a1, .inl (k1, 60, .inl ch))]) (I := fun (x : Nat × Nat × Int32 × Int64) => match x with | (i, k, sm, ac) => i ≤ n ∧ k ≤ i ∧ zPS ch i = some (k, sm, ac)) (fun x H locs ls hI hP hD hS hl ih => ?_) (0, 0, 0, 0) ⟨Nat.zero_le _, Nat.le_refl _, rfl⟩ hP hD hS (lv_sub hl [0, 4, 3, 2, 1] rfl)
  obtain ⟨i, k, sm, ac⟩ := x
  have hI : i ≤ n ∧ k ≤ i ∧ zPS ch i = some (k, sm, ac) := hI
  have hl : lv_has ls 7 [(5, .int (nI i)), (0, .ref h), (1, .long ac), (3, .int sm), (4, .int (nI k))] := hl
  have hP : va_P D vwCl [(h, .inr (5, [.ref a1, .int (nI n)])), (a1, .inl (k1, 60, .inl ch))] H := hP
  have hD : va_D (fun _ => True) [(h, .inr (5, [.ref a1, .int (nI n)])), (a1, .inl (k1, 60, .inl ch))] := hD
  have h1 := hI.1
  have h2 := hI.2.1
  refine lv_iload hx hb dX5_parse_10 (lv_at hl 0 rfl) ?_
  refine lv_aload_n hx hb dX5_parse_12 rfl (lv_at hl 1 rfl) ?_
  refine va_get (D := D) (ci := 5) (v := .int (nI n)) (C := RX5) (T := TX5) (N := 2) hx hb hts k_1 hown hK hP 0 rfl rfl 1 (by decide) k_0 (fun _ h9 => h9) rfl dX5_parse_13 ?_
  refine lv_icmp_ge (tgt := 99) hx hb dX5_parse_16 (by decide) (fun c_16 => ?_) (fun c_16 => ?_)
  · have c_16 : n ≤ i := (nI_leI (a := n) (b := i) (by omega) (by omega)).mp c_16
    refine lv_iload hx hb dX5_parse_99 (lv_at hl 4 rfl) ?_
    refine lv_bipush (v := 9) hx hb dX5_parse_101 (by decide) ?_
    refine lv_icmp_ge (tgt := 116) hx hb dX5_parse_103 (by decide) (fun c_103 => ?_) (fun c_103 => ?_)
    · have c_103 : 9 ≤ k := (nI_leI (a := 9) (b := k) (by omega) (by omega)).mp c_103
      refine lv_ldc2 hx hb hown k_2 dX5_parse_116 ?_
      refine lv_lload_n hx hb dX5_parse_119 rfl (lv_at hl 2 rfl) ?_
      refine lv_ladd hx hb dX5_parse_120 ?_
      exact W.lret (v := (27512614111 + ac)) hx hb hr (fun t9 ht9 hW9 => ⟨⟨_, (), rfl, by obtain rfl : i = n := (by omega); exact Or.inr ⟨k, sm, ac, hI.2.2, Or.inr ⟨by omega, rfl⟩⟩, trivial⟩, hS.F ht9⟩) hS.2.2 dX5_parse_121
    · have c_103 : ¬ (9 ≤ k) := fun q9 => c_103 ((nI_leI (a := 9) (b := k) (by omega) (by omega)).mpr q9)
      refine lv_iconst (v := -1) hx hb dX5_parse_106 (by decide) ?_
      refine lv_aload_n hx hb dX5_parse_107 rfl (lv_at hl 1 rfl) ?_
      refine va_get (D := D) (ci := 5) (v := .int (nI n)) (C := RX5) (T := TX5) (N := 2) hx hb hts k_1 hown hK hP 0 rfl rfl 1 (by decide) k_0 (fun _ h9 => h9) rfl dX5_parse_108 ?_
      refine lv_isub hx hb dX5_parse_111 ?_
      refine lv_i2l (v := ((-1) - (nI n)).toInt64) hx hb dX5_parse_112 rfl ?_
      refine lv_goto (tgt := 121) hx hb dX5_parse_113 (by decide) ?_
      exact W.lret (v := (((-1) - (nI n)).toInt64)) hx hb hr (fun t9 ht9 hW9 => ⟨⟨_, (), rfl, by obtain rfl : i = n := (by omega); exact Or.inr ⟨k, sm, ac, hI.2.2, Or.inl ⟨by omega, rfl⟩⟩, trivial⟩, hS.F ht9⟩) hS.2.2 dX5_parse_121
  · have c_16 : ¬ (n ≤ i) := fun q9 => c_16 ((nI_leI (a := n) (b := i) (by omega) (by omega)).mpr q9)
    refine lv_aload_n hx hb dX5_parse_19 rfl (lv_at hl 1 rfl) ?_
    refine va_get (D := D) (ci := 5) (v := .ref a1) (C := RX5) (T := TX5) (N := 2) hx hb hts k_1 hown hK hP 0 rfl rfl 0 (by decide) k_3 (fun _ h9 => h9) rfl dX5_parse_20 ?_
    refine lv_iload hx hb dX5_parse_23 (lv_at hl 0 rfl) ?_
    refine z_iald (k := i) hx hb hK hP 1 0 rfl rfl (by omega) (by decide) dX5_parse_25 ?_
    refine lv_bipush (v := 32) hx hb dX5_parse_26 (by decide) ?_
    refine lv_icmp_ne (tgt := 34) hx hb dX5_parse_28 (by decide) (fun c_28 => ?_) (fun c_28 => ?_)
    · have i_28 : ¬ ((ch i).toInt = 32) := fun q9 => c_28 (zi_eq.mpr q9)
      refine lv_aload_n hx hb dX5_parse_34 rfl (lv_at hl 1 rfl) ?_
      refine va_get (D := D) (ci := 5) (v := .ref a1) (C := RX5) (T := TX5) (N := 2) hx hb hts k_1 hown hK hP 0 rfl rfl 0 (by decide) k_3 (fun _ h9 => h9) rfl dX5_parse_35 ?_
      refine lv_iload hx hb dX5_parse_38 (lv_at hl 0 rfl) ?_
      refine z_iald (k := i) hx hb hK hP 1 0 rfl rfl (by omega) (by decide) dX5_parse_40 ?_
      refine zRo_i (va_runS (As := [.int (ch i)]) (rest := []) ⟨hx, hb, hml, hown, hts⟩ (cc_X2_valueOf l D z H.size (ch i) ) (va_cwS 1 hts gX5_parse_X2_valueOf rfl rfl rfl (by decide +kernel) ⟨Nat.le_of_ble_eq_true rfl, Nat.le_of_ble_eq_true rfl⟩) ⟨zPre_blind, (zPre_mk (wc := []) (tc := []) hP hK hD hC hS [] (by decide) rfl rfl [] rfl (zro_free hS hA))⟩ rfl rfl hl.1 rfl (lv_room (Nat.le_of_ble_eq_true rfl)) dX5_parse_41 ⟨Nat.zero_le _, Nat.zero_le _⟩) hS hA hP (fun r_41 H locs hw hP hS => ?_)
      have hw_41 : zVal (zGreat (ch i)) r_41 := hw
      refine lv_istore (lv' := [(6, .int r_41), (5, .int (nI i)), (0, .ref h), (1, .long ac), (3, .int sm), (4, .int (nI k))]) hx hb dX5_parse_44 hl (by decide) rfl (fun ls hl => ?_)
      refine lv_iload hx hb dX5_parse_46 (lv_at hl 0 rfl) ?_
      refine lv_iload hx hb dX5_parse_48 (lv_at hl 5 rfl) ?_
      refine lv_iload_n hx hb dX5_parse_50 rfl (lv_at hl 4 rfl) ?_
      refine zRo_i (va_runS (As := [.int r_41, .int (nI k), .int sm]) (rest := []) ⟨hx, hb, hml, hown, hts⟩ (cc_X2_canStand l D z H.size r_41 k sm (by omega)) (va_cwS 3 hts gX5_parse_X2_canStand rfl rfl rfl (by decide +kernel) ⟨Nat.le_of_ble_eq_true rfl, Nat.le_of_ble_eq_true rfl⟩) ⟨zPre_blind, (zPre_mk (wc := []) (tc := []) hP hK hD hC hS [] (by decide) rfl rfl [] rfl (zro_free hS hA))⟩ rfl rfl hl.1 rfl (lv_room (Nat.le_of_ble_eq_true rfl)) dX5_parse_51 ⟨Nat.zero_le _, Nat.zero_le _⟩) hS hA hP (fun r_51 H locs hw hP hS => ?_)
      have hw_51 : zB r_51 (zCan r_41 k sm) := hw
      refine lv_if_ne (tgt := 63) hx hb dX5_parse_54 (by decide) (fun c_54 => ?_) (fun c_54 => ?_)
      · have i_54 : ¬ (r_51.toInt = 0) := fun q9 => c_54 (zi_eq.mpr q9)
        refine lv_iload hx hb dX5_parse_63 (lv_at hl 5 rfl) ?_
        refine lv_bipush (v := 8) hx hb dX5_parse_65 (by decide) ?_
        refine lv_icmp_ge (tgt := 80) hx hb dX5_parse_67 (by decide) (fun c_67 => ?_) (fun c_67 => ?_)
        · have c_67 : 8 ≤ k := (nI_leI (a := 8) (b := k) (by omega) (by omega)).mp c_67
          refine lv_iload_n hx hb dX5_parse_80 rfl (lv_at hl 4 rfl) ?_
          refine lv_iload hx hb dX5_parse_81 (lv_at hl 0 rfl) ?_
          refine lv_iload hx hb dX5_parse_83 (lv_at hl 5 rfl) ?_
          refine zRo_i (va_runS (As := [.int r_41, .int (nI k)]) (rest := [.int sm]) ⟨hx, hb, hml, hown, hts⟩ (cc_X2_weighted l D z H.size r_41 (nI k) ) (va_cwS 2 hts gX5_parse_X2_weighted rfl rfl rfl (by decide +kernel) ⟨Nat.le_of_ble_eq_true rfl, Nat.le_of_ble_eq_true rfl⟩) ⟨zPre_blind, (zPre_mk (wc := []) (tc := []) hP hK hD hC hS [] (by decide) rfl rfl [] rfl (zro_free hS hA))⟩ rfl rfl hl.1 rfl (lv_room (Nat.le_of_ble_eq_true rfl)) dX5_parse_85 ⟨Nat.zero_le _, Nat.zero_le _⟩) hS hA hP (fun r_85 H locs hw hP hS => ?_)
          have hw_85 : r_85 = zWgt r_41 (nI k) := hw
          refine lv_iadd hx hb dX5_parse_88 ?_
          refine lv_istore_n (lv' := [(3, .int (sm + r_85)), (6, .int r_41), (5, .int (nI i)), (0, .ref h), (1, .long ac), (4, .int (nI k))]) hx hb dX5_parse_89 rfl hl (by decide) rfl (fun ls hl => ?_)
          refine lv_iinc (v := (nI (k + 1))) (lv' := [(4, .int (nI (k + 1))), (3, .int (sm + r_85)), (6, .int r_41), (5, .int (nI i)), (0, .ref h), (1, .long ac)]) hx hb dX5_parse_90 hl (k := 5) rfl (by first | exact nI_1 _ | rfl) (by decide) rfl (fun ls hl => ?_)
          refine lv_iinc (v := (nI (i + 1))) (lv' := [(5, .int (nI (i + 1))), (4, .int (nI (k + 1))), (3, .int (sm + r_85)), (6, .int r_41), (0, .ref h), (1, .long ac)]) hx hb dX5_parse_93 hl (k := 3) rfl (by first | exact nI_1 _ | rfl) (by decide) rfl (fun ls hl => ?_)
          refine lv_goto (tgt := 10) hx hb dX5_parse_96 (by decide) ?_
          exact ih (i + 1, k + 1, sm + r_85, ac) _ _ _ (show n - (i + 1) < n - i from (by omega)) ⟨by omega, by omega, (zPS_go hI.2.2 c_28 (zVal_eq hw_41) (zB_ne hw_51 c_54)).trans (by rw [hw_85, if_neg (by omega)])⟩ hP hD hS (lv_sub hl [0, 4, 5, 2, 1] rfl)
        · have c_67 : ¬ (8 ≤ k) := fun q9 => c_67 ((nI_leI (a := 8) (b := k) (by omega) (by omega)).mpr q9)
          refine lv_lload_n hx hb dX5_parse_70 rfl (lv_at hl 3 rfl) ?_
          refine lv_ldc2 hx hb hown k_4 dX5_parse_71 ?_
          refine lv_lmul hx hb dX5_parse_74 ?_
          refine lv_iload hx hb dX5_parse_75 (lv_at hl 0 rfl) ?_
          refine lv_i2l (v := r_41.toInt64) hx hb dX5_parse_77 rfl ?_
          refine lv_ladd hx hb dX5_parse_78 ?_
          refine lv_lstore_n (lv' := [(1, .long ((ac * 31) + r_41.toInt64)), (6, .int r_41), (5, .int (nI i)), (0, .ref h), (3, .int sm), (4, .int (nI k))]) hx hb dX5_parse_79 rfl hl (by decide) rfl (fun ls hl => ?_)
          refine lv_iload_n hx hb dX5_parse_80 rfl (lv_at hl 4 rfl) ?_
          refine lv_iload hx hb dX5_parse_81 (lv_at hl 1 rfl) ?_
          refine lv_iload hx hb dX5_parse_83 (lv_at hl 5 rfl) ?_
          refine zRo_i (va_runS (As := [.int r_41, .int (nI k)]) (rest := [.int sm]) ⟨hx, hb, hml, hown, hts⟩ (cc_X2_weighted l D z H.size r_41 (nI k) ) (va_cwS 2 hts gX5_parse_X2_weighted rfl rfl rfl (by decide +kernel) ⟨Nat.le_of_ble_eq_true rfl, Nat.le_of_ble_eq_true rfl⟩) ⟨zPre_blind, (zPre_mk (wc := []) (tc := []) hP hK hD hC hS [] (by decide) rfl rfl [] rfl (zro_free hS hA))⟩ rfl rfl hl.1 rfl (lv_room (Nat.le_of_ble_eq_true rfl)) dX5_parse_85 ⟨Nat.zero_le _, Nat.zero_le _⟩) hS hA hP (fun r_85 H locs hw hP hS => ?_)
          have hw_85 : r_85 = zWgt r_41 (nI k) := hw
          refine lv_iadd hx hb dX5_parse_88 ?_
          refine lv_istore_n (lv' := [(3, .int (sm + r_85)), (1, .long ((ac * 31) + r_41.toInt64)), (6, .int r_41), (5, .int (nI i)), (0, .ref h), (4, .int (nI k))]) hx hb dX5_parse_89 rfl hl (by decide) rfl (fun ls hl => ?_)
          refine lv_iinc (v := (nI (k + 1))) (lv' := [(4, .int (nI (k + 1))), (3, .int (sm + r_85)), (1, .long ((ac * 31) + r_41.toInt64)), (6, .int r_41), (5, .int (nI i)), (0, .ref h)]) hx hb dX5_parse_90 hl (k := 5) rfl (by first | exact nI_1 _ | rfl) (by decide) rfl (fun ls hl => ?_)
          refine lv_iinc (v := (nI (i + 1))) (lv' := [(5, .int (nI (i + 1))), (4, .int (nI (k + 1))), (3, .int (sm + r_85)), (1, .long ((ac * 31) + r_41.toInt64)), (6, .int r_41), (0, .ref h)]) hx hb dX5_parse_93 hl (k := 4) rfl (by first | exact nI_1 _ | rfl) (by decide) rfl (fun ls hl => ?_)
          refine lv_goto (tgt := 10) hx hb dX5_parse_96 (by decide) ?_
          exact ih (i + 1, k + 1, sm + r_85, (ac * 31) + r_41.toInt64) _ _ _ (show n - (i + 1) < n - i from (by omega)) ⟨by omega, by omega, (zPS_go hI.2.2 c_28 (zVal_eq hw_41) (zB_ne hw_51 c_54)).trans (by rw [hw_85, if_pos (by omega)])⟩ hP hD hS (lv_sub hl [0, 5, 3, 2, 1] rfl)
      · have i_54 : r_51.toInt = 0 := zi_eq.mp c_54
        refine lv_iconst (v := -1) hx hb dX5_parse_57 (by decide) ?_
        refine lv_iload hx hb dX5_parse_58 (lv_at hl 1 rfl) ?_
        refine lv_isub hx hb dX5_parse_60 ?_
        refine lv_i2l (v := ((-1) - (nI i)).toInt64) hx hb dX5_parse_61 rfl ?_
        exact W.lret (v := (((-1) - (nI i)).toInt64)) hx hb hr (fun t9 ht9 hW9 => ⟨⟨_, (), rfl, Or.inl ⟨i, by omega, by rw [hI.2.2]; exact fun q => (by cases q), zPS_stop hI.2.2 c_28 (zVal_eq hw_41) (zB_eq hw_51 c_54), rfl⟩, trivial⟩, hS.F ht9⟩) hS.2.2 dX5_parse_62
    · have i_28 : (ch i).toInt = 32 := zi_eq.mp c_28
      refine lv_goto (tgt := 93) hx hb dX5_parse_31 (by decide) ?_
      refine lv_iinc (v := (nI (i + 1))) (lv' := [(5, .int (nI (i + 1))), (0, .ref h), (1, .long ac), (3, .int sm), (4, .int (nI k))]) hx hb dX5_parse_93 hl (k := 0) rfl (by first | exact nI_1 _ | rfl) (by decide) rfl (fun ls hl => ?_)
      refine lv_goto (tgt := 10) hx hb dX5_parse_96 (by decide) ?_
      exact ih (i + 1, k, sm, ac) _ _ _ (show n - (i + 1) < n - i from (by omega)) ⟨by omega, by omega, zPS_blank hI.2.2 c_28⟩ hP hD hS (lv_sub hl [0, 1, 2, 3, 4] rfl)
