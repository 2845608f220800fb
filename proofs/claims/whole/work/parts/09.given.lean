/-! numbers that are given -/
theorem zcnt_upd {F : Int64 → Bool} {g : Nat → Int64} {k : Nat} {v : Int64} : ∀ {n : Nat}, k < n → zcnt (fun j => F (vp_updL g k v j)) n + (if F (g k) then 1 else 0) = zcnt (fun j => F (g j)) n + (if F v then 1 else 0)
  | 0, h => absurd h (Nat.not_lt_zero _)
  | n + 1, h => by
    show zcnt _ n + _ + _ = zcnt _ n + _ + _
    dsimp only
    by_cases hk : k = n
    · subst hk
      have e : zcnt (fun j => F (vp_updL g k v j)) k = zcnt (fun j => F (g j)) k := zcnt_congr (fun j hj => by show F (vp_updL g k v j) = F (g j); rw [pk_uLn (by omega)])
      have e2 : vp_updL g k v k = v := pk_uLs
      simp only [e, e2]; omega
    · have ih := zcnt_upd (F := F) (g := g) (v := v) (n := n) (k := k) (by omega)
      have e2 : vp_updL g k v n = g n := pk_uLn (by omega)
      simp only [e2]; omega
/-- place k goes: the last one fills it -/
theorem zcnt_drop {F : Int64 → Bool} {g : Nat → Int64} {k q : Nat} (hk : k < q) : zcnt (fun j => F (vp_updL g k (g (q - 1)) j)) (q - 1) + (if F (g k) then 1 else 0) = zcnt (fun j => F (g j)) q := by
  obtain ⟨q, rfl⟩ : ∃ y, q = y + 1 := ⟨q - 1, by omega⟩
  show zcnt _ q + _ = zcnt _ q + _
  dsimp only
  by_cases h : k = q
  · subst h
    have e : zcnt (fun j => F (vp_updL g k (g (k + 1 - 1)) j)) k = zcnt (fun j => F (g j)) k := zcnt_congr (fun j hj => by show F (vp_updL g k _ j) = F (g j); rw [pk_uLn (by omega)])
    rw [e]
  · exact zcnt_upd (by omega)
def zIn (p0 p1 : Int64) (x : Int64) : Bool := decide (p0 ≤ zser x) && decide (zser x ≤ p1)
/-- how many of the first n have F -/
def zN (F : Int64 → Bool) (g : Nat → Int64) (n : Nat) : Nat := zcnt (fun j => F (g j)) n
def zRow (p0 p1 : Int64) (n : Nat) (gn : Nat → Int64) (q : Nat) (g : Nat → Int64) : Prop := q ≤ n ∧ (n - q = zN (zIn p0 p1) gn n) ∧ ∀ F : Int64 → Bool, zN F g q = zN (fun x => F x && !zIn p0 p1 x) gn n
def zRmI (p0 p1 : Int64) (n : Nat) (gn : Nat → Int64) (t q : Nat) (g : Nat → Int64) : Prop :=
  t ≤ q ∧ q ≤ n ∧ (∀ j, t ≤ j → j < q → zIn p0 p1 (g j) = false) ∧ zN (zIn p0 p1) g q + (n - q) = zN (zIn p0 p1) gn n ∧ ∀ F : Int64 → Bool, zN (fun x => F x && !zIn p0 p1 x) g q = zN (fun x => F x && !zIn p0 p1 x) gn n
theorem zRmI_0 {p0 p1 : Int64} {n : Nat} {gn : Nat → Int64} : zRmI p0 p1 n gn n n gn := ⟨Nat.le_refl _, Nat.le_refl _, fun j h1 h2 => by omega, by omega, fun _ => rfl⟩
theorem zRmI_stay {p0 p1 : Int64} {n t q : Nat} {gn g : Nat → Int64} (h : zRmI p0 p1 n gn (t + 1) q g) (hn : zIn p0 p1 (g t) = false) : zRmI p0 p1 n gn t q g := by
  obtain ⟨h1, h2, h3, h4, h5⟩ := h
  refine ⟨by omega, h2, fun j q1 q2 => ?_, h4, h5⟩
  by_cases e : j = t
  · rw [e]; exact hn
  · exact h3 j (by omega) q2
theorem zRmI_go {p0 p1 : Int64} {n t q : Nat} {gn g : Nat → Int64} (h : zRmI p0 p1 n gn (t + 1) q g) (hn : zIn p0 p1 (g t) = true) : zRmI p0 p1 n gn t (q - 1) (vp_updL g t (g (q - 1))) := by
  obtain ⟨h1, h2, h3, h4, h5⟩ := h
  have d1 := zcnt_drop (F := zIn p0 p1) (g := g) (k := t) (q := q) (by omega)
  rw [if_pos hn] at d1
  refine ⟨by omega, by omega, fun j q1 q2 => ?_, ?_, fun F => ?_⟩
  · by_cases e : j = t
    · subst e; rw [pk_uLs]; exact h3 (q - 1) (by omega) (by omega)
    · rw [pk_uLn e]; exact h3 j (by omega) (by omega)
  · unfold zN at h4 ⊢; omega
  · have d2 := zcnt_drop (F := fun x => F x && !zIn p0 p1 x) (g := g) (k := t) (q := q) (by omega)
    rw [if_neg (by simp [hn])] at d2
    have := h5 F
    dsimp only [zN] at this d2 ⊢; omega
theorem zRmI_end {p0 p1 : Int64} {n q : Nat} {gn g : Nat → Int64} (h : zRmI p0 p1 n gn 0 q g) : zRow p0 p1 n gn q g := by
  obtain ⟨h1, h2, h3, h4, h5⟩ := h
  have z0 : zN (zIn p0 p1) g q = 0 := by
    rcases Nat.eq_zero_or_pos (zN (zIn p0 p1) g q) with e | e
    · exact e
    · obtain ⟨j, q1, q2⟩ := zcnt_pos.mp e
      rw [h3 j (Nat.zero_le _) q1] at q2; cases q2
  refine ⟨h2, by omega, fun F => ?_⟩
  rw [← h5 F]
  exact zcnt_congr (fun j hj => by show F (g j) = (F (g j) && !zIn p0 p1 (g j)); rw [h3 j (Nat.zero_le _) hj]; simp)
theorem zIn_t {p0 p1 x y : Int64} (e : y = zser x) (h1 : ¬ y < p0) (h2 : ¬ p1 < y) : zIn p0 p1 x = true := by
  subst e; unfold zIn; rw [decide_eq_true (Int64.not_lt.mp h1), decide_eq_true (Int64.not_lt.mp h2)]; rfl
theorem zIn_f1 {p0 p1 x y : Int64} (e : y = zser x) (h1 : y < p0) : zIn p0 p1 x = false := by
  subst e; unfold zIn; rw [decide_eq_false (Int64.not_le.mpr h1)]; rfl
theorem zIn_f2 {p0 p1 x y : Int64} (e : y = zser x) (h1 : p1 < y) : zIn p0 p1 x = false := by
  subst e; unfold zIn; rw [decide_eq_false (Int64.not_le.mpr h1), Bool.and_false]
theorem zdn {t : Nat} {x : Int32} (ht : t ≤ 4000) (e : x = nI t - 1) (h : ¬ x < 0) : ∃ k, t = k + 1 ∧ x = nI k := by
  cases t with
  | zero => exact absurd (by rw [e]; decide) h
  | succ k => exact ⟨k, rfl, by rw [e, nI_pred]⟩
theorem zdn0 {t : Nat} {x : Int32} (ht : t ≤ 4000) (e : x = nI t - 1) (h : x < 0) : t = 0 := by
  cases t with
  | zero => rfl
  | succ k => rw [e, nI_pred] at h; exact absurd h (nI_pos (by omega))

set_option maxHeartbeats 4000000 in
set_option maxRecDepth 100000 in
theorem cc_X3_isFull (l : Launch) (D : va_G) (z : zG) (sz : Nat) (h : Nat) (a1 : Nat) (k1 : ClassId) (n : Nat) (gn : Nat → Int64) (hn : n ≤ 512) : Met l yX3_isFull wsX3_isFull ({ frames := 0, cells := 0, slots := 0, locals := 0 }) (zPre D z [.ref h] sz [(h, .inr (3, [.ref a1, .int (nI n)])), (a1, .inl (k1, 512, .inr (.inl gn)))] [(k1, .long)] (va_A [] sz)) (va_Qi (fun (r : Int32) (u : Unit) => zB r (512 ≤ n)) zT (va_A [] sz)) 0 0 (va_A [] sz) := by
  refine Met.ofW (cc := cX3_isFull) (maxL := 1) (ret := (some .boolean)) (by decide) rfl ?_
  intro p e s m args below meth c s₁ B hml hv
  obtain ⟨rfl, hsz, hP, hK, hD, hC⟩ := hv
  have hx := B.exec
  have hb := B.bytes
  have hr := B.returns
  have hts := atoms_spec (ws := wsX3_isFull) B.pre
  have hown : s.vm.findClass RX3 = some m.cls := findClass_of_methodNamed B.named
  have hlocks := B.notSynchronized
  subst hsz
  generalize hAe : va_A [] s.heap.size = A at hC ⊢
  have hA : ∀ q : Nat, s.heap.size ≤ q → A q := fun q h => by rw [← hAe]; exact Or.inr h
  have hS : va_S A s.heap s.heap [] := va_S.rf
  have hP : va_P D vwCl [(h, .inr (3, [.ref a1, .int (nI n)])), (a1, .inl (k1, 512, .inr (.inl gn)))] s.heap := hP
  have hl := lv_entry ([.ref h]) (n := 1) (Nat.le_of_ble_eq_true rfl)
  rw [lg_entry_eq]
  generalize (lg_sl ([.ref h]) ++ List.replicate (1 - (lg_sl ([.ref h])).length) Slot.unset).toArray = ls at hl ⊢
  have hl : lv_has ls 1 [(0, .ref h)] := hl
  refine zNameH (D := D) (A := A) (ws := [(h, .inr (3, [.ref a1, .int (nI n)])), (a1, .inl (k1, 512, .inr (.inl gn)))]) (fun H locs hP hS => ?_) hP hS
  have k_0 := hts (.fieldLink RX3 15 "NumberRows2$GivenNumbers" "count" "I") (by decide +kernel)
  have k_1 : ∀ w ∈ wsX30, w ∈ wsX3_isFull := by decide +kernel
  refine lv_aload_n hx hb dX3_isFull_0 rfl (lv_at hl 0 rfl) ?_
  refine va_get (D := D) (ci := 3) (v := .int (nI n)) (C := RX3) (T := TX3) (N := 2) hx hb hts k_1 hown hK hP 0 rfl rfl 1 (by decide) k_0 (fun _ h9 => h9) rfl dX3_isFull_1 ?_
  refine lv_sipush (v := 512) hx hb dX3_isFull_4 (by decide) ?_
  refine lv_icmp_lt (tgt := 14) hx hb dX3_isFull_7 (by decide) (fun c_7 => ?_) (fun c_7 => ?_)
  · have c_7 : n < 512 := (nI_ltI (a := n) (b := 512) (by omega) (by omega)).mp c_7
    refine lv_iconst (v := 0) hx hb dX3_isFull_14 (by decide) ?_
    exact W.zret (v := 0) hx hb hr rfl (fun t9 ht9 hW9 => ⟨⟨_, (), rfl, zB_f (by omega), trivial⟩, hS.F ht9⟩) hS.2.2 dX3_isFull_15
  · have c_7 : ¬ (n < 512) := fun q9 => c_7 ((nI_ltI (a := n) (b := 512) (by omega) (by omega)).mpr q9)
    refine lv_iconst (v := 1) hx hb dX3_isFull_10 (by decide) ?_
    refine lv_goto (tgt := 15) hx hb dX3_isFull_11 (by decide) ?_
    exact W.zret (v := 1) hx hb hr rfl (fun t9 ht9 hW9 => ⟨⟨_, (), rfl, zB_t (by omega), trivial⟩, hS.F ht9⟩) hS.2.2 dX3_isFull_15

set_option maxHeartbeats 4000000 in
set_option maxRecDepth 100000 in
theorem cc_X3_add (l : Launch) (D : va_G) (z : zG) (sz : Nat) (h : Nat) (a1 : Nat) (k1 : ClassId) (n : Nat) (gn : Nat → Int64) (p0 : Int64) (hn : n < 512) : Met l yX3_add wsX3_add ({ frames := 0, cells := 0, slots := 0, locals := 0 }) (zPre D z [.ref h, .long p0] sz [(h, .inr (3, [.ref a1, .int (nI n)])), (a1, .inl (k1, 512, .inr (.inl gn)))] [(k1, .long)] (va_A [(h, .inr (3, [.ref a1, .int (nI n)])), (a1, .inl (k1, 512, .inr (.inl gn)))] sz)) (va_Qv (fun u : Nat × (Nat → Int64) => u.1 = n + 1 ∧ u.2 = vp_updL gn n p0) (zAt D [(k1, .long)] (va_A [(h, .inr (3, [.ref a1, .int (nI n)])), (a1, .inl (k1, 512, .inr (.inl gn)))] sz) (fun u : Nat × (Nat → Int64) => [(h, .inr (3, [.ref a1, .int (nI u.1)])), (a1, .inl (k1, 512, .inr (.inl u.2)))])) (va_A [(h, .inr (3, [.ref a1, .int (nI n)])), (a1, .inl (k1, 512, .inr (.inl gn)))] sz)) 0 0 (va_A [(h, .inr (3, [.ref a1, .int (nI n)])), (a1, .inl (k1, 512, .inr (.inl gn)))] sz) := by
  refine Met.ofW (cc := cX3_add) (maxL := 3) (ret := none) (by decide) rfl ?_
  intro p e s m args below meth c s₁ B hml hv
  obtain ⟨rfl, hsz, hP, hK, hD, hC⟩ := hv
  have hx := B.exec
  have hb := B.bytes
  have hr := B.returns
  have hts := atoms_spec (ws := wsX3_add) B.pre
  have hown : s.vm.findClass RX3 = some m.cls := findClass_of_methodNamed B.named
  have hlocks := B.notSynchronized
  subst hsz
  have hD := hD.self (sz := s.heap.size)
  generalize hAe : va_A [(h, .inr (3, [.ref a1, .int (nI n)])), (a1, .inl (k1, 512, .inr (.inl gn)))] s.heap.size = A at hC hD ⊢
  have hA : ∀ q : Nat, s.heap.size ≤ q → A q := fun q h => by rw [← hAe]; exact Or.inr h
  have hS : va_S A s.heap s.heap [] := va_S.rf
  have hP : va_P D vwCl [(h, .inr (3, [.ref a1, .int (nI n)])), (a1, .inl (k1, 512, .inr (.inl gn)))] s.heap := hP
  have hl := lv_entry ([.ref h, .long p0]) (n := 3) (Nat.le_of_ble_eq_true rfl)
  rw [lg_entry_eq]
  generalize (lg_sl ([.ref h, .long p0]) ++ List.replicate (3 - (lg_sl ([.ref h, .long p0])).length) Slot.unset).toArray = ls at hl ⊢
  have hl : lv_has ls 3 [(0, .ref h), (1, .long p0)] := hl
  refine zNameH (D := D) (A := A) (ws := [(h, .inr (3, [.ref a1, .int (nI n)])), (a1, .inl (k1, 512, .inr (.inl gn)))]) (fun H locs hP hS => ?_) hP hS
  have k_0 := hts (.fieldLink RX3 15 "NumberRows2$GivenNumbers" "count" "I") (by decide +kernel)
  have k_1 : ∀ w ∈ wsX30, w ∈ wsX3_add := by decide +kernel
  have k_2 := hts (.fieldLink RX3 9 "NumberRows2$GivenNumbers" "numbers" "[J") (by decide +kernel)
  refine lv_aload_n hx hb dX3_add_0 rfl (lv_at hl 0 rfl) ?_
  refine va_get (D := D) (ci := 3) (v := .int (nI n)) (C := RX3) (T := TX3) (N := 2) hx hb hts k_1 hown hK hP 0 rfl rfl 1 (by decide) k_0 (fun _ h9 => h9) rfl dX3_add_1 ?_
  refine lv_sipush (v := 512) hx hb dX3_add_4 (by decide) ?_
  refine lv_icmp_ge (tgt := 30) hx hb dX3_add_7 (by decide) (fun c_7 => ?_) (fun c_7 => ?_)
  · have c_7 : 512 ≤ n := (nI_leI (a := 512) (b := n) (by omega) (by omega)).mp c_7
    exact absurd c_7 (by omega)
  · have c_7 : ¬ (512 ≤ n) := fun q9 => c_7 ((nI_leI (a := 512) (b := n) (by omega) (by omega)).mpr q9)
    refine lv_aload_n hx hb dX3_add_10 rfl (lv_at hl 0 rfl) ?_
    refine va_get (D := D) (ci := 3) (v := .ref a1) (C := RX3) (T := TX3) (N := 2) hx hb hts k_1 hown hK hP 0 rfl rfl 0 (by decide) k_2 (fun _ h9 => h9) rfl dX3_add_11 ?_
    refine lv_aload_n hx hb dX3_add_14 rfl (lv_at hl 0 rfl) ?_
    refine va_get (D := D) (ci := 3) (v := .int (nI n)) (C := RX3) (T := TX3) (N := 2) hx hb hts k_1 hown hK hP 0 rfl rfl 1 (by decide) k_0 (fun _ h9 => h9) rfl dX3_add_15 ?_
    refine lv_lload_n hx hb dX3_add_18 rfl (lv_at hl 1 rfl) ?_
    refine z_last (k := n) hx hb hK hP hD hS 1 0 rfl rfl (by omega) (by decide) dX3_add_19 (fun H locs hP hD hS => ?_)
    have hP : va_P D vwCl [(h, .inr (3, [.ref a1, .int (nI n)])), (a1, .inl (k1, 512, .inr (.inl (vp_updL gn n p0))))] H := hP
    have hD : va_D A [(h, .inr (3, [.ref a1, .int (nI n)])), (a1, .inl (k1, 512, .inr (.inl (vp_updL gn n p0))))] := hD
    refine lv_aload_n hx hb dX3_add_20 rfl (lv_at hl 0 rfl) ?_
    refine lv_dup hx hb dX3_add_21 rfl ?_
    refine va_get (D := D) (ci := 3) (v := .int (nI n)) (C := RX3) (T := TX3) (N := 2) hx hb hts k_1 hown hK hP 0 rfl rfl 1 (by decide) k_0 (fun _ h9 => h9) rfl dX3_add_22 ?_
    refine lv_iconst (v := 1) hx hb dX3_add_25 (by decide) ?_
    refine lv_iadd hx hb dX3_add_26 ?_
    refine lv_topi (fun y_1 e_1 => ?_)
    obtain rfl : y_1 = nI (n + 1) := e_1.trans (by first | exact nI_1 _ | exact nI_add _ 1)
    refine va_put (D := D) (ci := 3) (v := .int (nI (n + 1))) (ty := .int) (C := RX3) (T := TX3) (N := 2) hx hb hts k_1 tyX3 tyX3_ok nmX3 hown hK hP hD hS 0 rfl rfl 1 (by decide) k_0 (fun _ h9 => h9) rfl (by decide +kernel) rfl rfl (Nat.le_of_ble_eq_true rfl) dX3_add_27 (fun H locs hP hD hS => ?_)
    have hP : va_P D vwCl [(h, .inr (3, [.ref a1, .int (nI (n + 1))])), (a1, .inl (k1, 512, .inr (.inl (vp_updL gn n p0))))] H := hP
    have hD : va_D A [(h, .inr (3, [.ref a1, .int (nI (n + 1))])), (a1, .inl (k1, 512, .inr (.inl (vp_updL gn n p0))))] := hD
    exact W.vret hx hb hr (fun t9 ht9 hW9 => ⟨⟨((n + 1), (vp_updL gn n p0)), rfl, ⟨rfl, rfl⟩, by rw [ht9]; exact hP, va_K.moved hW9.alike hK, hD⟩, hS.F ht9⟩) hS.2.2 dX3_add_30

set_option maxHeartbeats 4000000 in
set_option maxRecDepth 100000 in
theorem cc_X3_contains (l : Launch) (D : va_G) (z : zG) (sz : Nat) (h : Nat) (a1 : Nat) (k1 : ClassId) (n : Nat) (gn : Nat → Int64) (p0 : Int64) (hn : n ≤ 512) : Met l yX3_contains wsX3_contains ({ frames := 0, cells := 0, slots := 0, locals := 0 }) (zPre D z [.ref h, .long p0] sz [(h, .inr (3, [.ref a1, .int (nI n)])), (a1, .inl (k1, 512, .inr (.inl gn)))] [(k1, .long)] (va_A [] sz)) (va_Qi (fun (r : Int32) (u : Unit) => zB r (∃ j, j < n ∧ gn j = p0)) zT (va_A [] sz)) 0 0 (va_A [] sz) := by
  refine Met.ofW (cc := cX3_contains) (maxL := 4) (ret := (some .boolean)) (by decide) rfl ?_
  intro p e s m args below meth c s₁ B hml hv
  obtain ⟨rfl, hsz, hP, hK, hD, hC⟩ := hv
  have hx := B.exec
  have hb := B.bytes
  have hr := B.returns
  have hts := atoms_spec (ws := wsX3_contains) B.pre
  have hown : s.vm.findClass RX3 = some m.cls := findClass_of_methodNamed B.named
  have hlocks := B.notSynchronized
  subst hsz
  generalize hAe : va_A [] s.heap.size = A at hC ⊢
  have hA : ∀ q : Nat, s.heap.size ≤ q → A q := fun q h => by rw [← hAe]; exact Or.inr h
  have hS : va_S A s.heap s.heap [] := va_S.rf
  have hP : va_P D vwCl [(h, .inr (3, [.ref a1, .int (nI n)])), (a1, .inl (k1, 512, .inr (.inl gn)))] s.heap := hP
  have hl := lv_entry ([.ref h, .long p0]) (n := 4) (Nat.le_of_ble_eq_true rfl)
  rw [lg_entry_eq]
  generalize (lg_sl ([.ref h, .long p0]) ++ List.replicate (4 - (lg_sl ([.ref h, .long p0])).length) Slot.unset).toArray = ls at hl ⊢
  have hl : lv_has ls 4 [(0, .ref h), (1, .long p0)] := hl
  refine zNameH (D := D) (A := A) (ws := [(h, .inr (3, [.ref a1, .int (nI n)])), (a1, .inl (k1, 512, .inr (.inl gn)))]) (fun H locs hP hS => ?_) hP hS
  have k_0 := hts (.fieldLink RX3 15 "NumberRows2$GivenNumbers" "count" "I") (by decide +kernel)
  have k_1 : ∀ w ∈ wsX30, w ∈ wsX3_contains := by decide +kernel
  have k_2 := hts (.fieldLink RX3 9 "NumberRows2$GivenNumbers" "numbers" "[J") (by decide +kernel)
  refine lv_iconst (v := 0) hx hb dX3_contains_0 (by decide) ?_
  refine lv_istore_n (lv' := [(3, .int 0), (0, .ref h), (1, .long p0)]) hx hb dX3_contains_1 rfl hl (by decide) rfl (fun ls hl => ?_)
  refine zLoop (σ := Nat) (nL := 4) (μ := fun (i : Nat) => n - i) (lv := fun (i : Nat) => [(3, .int (nI i)), (0, .ref h), (1, .long p0)]) (wf := fun (i : Nat) => [(h, .inr (3, [.ref a1, .int (nI n)])), (a1, .inl (k1, 512, .inr (.inl gn)))]) (I := fun (i : Nat) => i ≤ n ∧ ∀ j, j < i → ¬ gn j = p0) (fun x H locs ls hI hP hD hS hl ih => ?_) 0 ⟨Nat.zero_le _, fun j hj => absurd hj (Nat.not_lt_zero j)⟩ hP hD hS (lv_sub hl [0, 1, 2] rfl)
  obtain ⟨i, rfl⟩ : ∃ y9, y9 = x := ⟨_, rfl⟩
  have hI : i ≤ n ∧ ∀ j, j < i → ¬ gn j = p0 := hI
  have hl : lv_has ls 4 [(3, .int (nI i)), (0, .ref h), (1, .long p0)] := hl
  have hP : va_P D vwCl [(h, .inr (3, [.ref a1, .int (nI n)])), (a1, .inl (k1, 512, .inr (.inl gn)))] H := hP
  have hD : va_D (fun _ => True) [(h, .inr (3, [.ref a1, .int (nI n)])), (a1, .inl (k1, 512, .inr (.inl gn)))] := hD
  refine lv_iload_n hx hb dX3_contains_2 rfl (lv_at hl 0 rfl) ?_
  refine lv_aload_n hx hb dX3_contains_3 rfl (lv_at hl 1 rfl) ?_
  refine va_get (D := D) (ci := 3) (v := .int (nI n)) (C := RX3) (T := TX3) (N := 2) hx hb hts k_1 hown hK hP 0 rfl rfl 1 (by decide) k_0 (fun _ h9 => h9) rfl dX3_contains_4 ?_
  refine lv_icmp_ge (tgt := 29) hx hb dX3_contains_7 (by decide) (fun c_7 => ?_) (fun c_7 => ?_)
  · have c_7 : n ≤ i := (nI_leI (a := n) (b := i) (by omega) (by omega)).mp c_7
    refine lv_iconst (v := 0) hx hb dX3_contains_29 (by decide) ?_
    exact W.zret (v := 0) hx hb hr rfl (fun t9 ht9 hW9 => ⟨⟨_, (), rfl, zB_f (fun ⟨j, q1, q2⟩ => hI.2 j (by omega) q2), trivial⟩, hS.F ht9⟩) hS.2.2 dX3_contains_30
  · have c_7 : ¬ (n ≤ i) := fun q9 => c_7 ((nI_leI (a := n) (b := i) (by omega) (by omega)).mpr q9)
    refine lv_aload_n hx hb dX3_contains_10 rfl (lv_at hl 1 rfl) ?_
    refine va_get (D := D) (ci := 3) (v := .ref a1) (C := RX3) (T := TX3) (N := 2) hx hb hts k_1 hown hK hP 0 rfl rfl 0 (by decide) k_2 (fun _ h9 => h9) rfl dX3_contains_11 ?_
    refine lv_iload_n hx hb dX3_contains_14 rfl (lv_at hl 0 rfl) ?_
    refine z_lald (k := i) hx hb hK hP 1 0 rfl rfl (by omega) (by decide) dX3_contains_15 ?_
    refine lv_lload_n hx hb dX3_contains_16 rfl (lv_at hl 2 rfl) ?_
    refine W.lcmp hx hb dX3_contains_17 ?_
    refine lv_if_ne (tgt := 23) hx hb dX3_contains_18 (by decide) (fun c_18 => ?_) (fun c_18 => ?_)
    · have c_18 : ¬ ((gn i) = p0) := fun q9 => c_18 ((lg_cmp_eq _ _).mpr q9)
      have i_18 : ¬ ((gn i).toInt = p0.toInt) := fun q9 => c_18 (zl_eq.mpr q9)
      refine lv_iinc (v := (nI (i + 1))) (lv' := [(3, .int (nI (i + 1))), (0, .ref h), (1, .long p0)]) hx hb dX3_contains_23 hl (k := 0) rfl (by first | exact nI_1 _ | rfl) (by decide) rfl (fun ls hl => ?_)
      refine lv_goto (tgt := 2) hx hb dX3_contains_26 (by decide) ?_
      exact ih (i + 1) _ _ _ (show n - (i + 1) < n - i from (by omega)) ⟨by omega, lt_s hI.2 c_18⟩ hP hD hS (lv_sub hl [0, 1, 2] rfl)
    · have c_18 : (gn i) = p0 := (lg_cmp_eq _ _).mp c_18
      have i_18 : (gn i).toInt = p0.toInt := zl_eq.mp c_18
      refine lv_iconst (v := 1) hx hb dX3_contains_21 (by decide) ?_
      exact W.zret (v := 1) hx hb hr rfl (fun t9 ht9 hW9 => ⟨⟨_, (), rfl, zB_t ⟨i, by omega, c_18⟩, trivial⟩, hS.F ht9⟩) hS.2.2 dX3_contains_22

set_option maxHeartbeats 4000000 in
set_option maxRecDepth 100000 in
theorem cc_X3_removeRow (l : Launch) (D : va_G) (z : zG) (sz : Nat) (h : Nat) (a1 : Nat) (k1 : ClassId) (n : Nat) (gn : Nat → Int64) (p0 : Int64) (p1 : Int64) (hn : n ≤ 512) : Met l yX3_removeRow wsX3_removeRow ({ frames := 1, cells := 0, slots := 0, locals := 21 }) (zPre D z [.ref h, .long p0, .long p1] sz [(h, .inr (3, [.ref a1, .int (nI n)])), (a1, .inl (k1, 512, .inr (.inl gn)))] [(k1, .long)] (va_A [(h, .inr (3, [.ref a1, .int (nI n)])), (a1, .inl (k1, 512, .inr (.inl gn)))] sz)) (va_Qi (fun (r : Int32) (u : Nat × (Nat → Int64)) => zRow p0 p1 n gn u.1 u.2 ∧ r = nI (n - u.1)) (zAt D [(k1, .long)] (va_A [(h, .inr (3, [.ref a1, .int (nI n)])), (a1, .inl (k1, 512, .inr (.inl gn)))] sz) (fun u : Nat × (Nat → Int64) => [(h, .inr (3, [.ref a1, .int (nI u.1)])), (a1, .inl (k1, 512, .inr (.inl u.2)))])) (va_A [(h, .inr (3, [.ref a1, .int (nI n)])), (a1, .inl (k1, 512, .inr (.inl gn)))] sz)) 0 0 (va_A [(h, .inr (3, [.ref a1, .int (nI n)])), (a1, .inl (k1, 512, .inr (.inl gn)))] sz) := by
  refine Met.ofW (cc := cX3_removeRow) (maxL := 9) (ret := (some .int)) (by decide) rfl ?_
  intro p e s m args below meth c s₁ B hml hv
  obtain ⟨rfl, hsz, hP, hK, hD, hC⟩ := hv
  have hx := B.exec
  have hb := B.bytes
  have hr := B.returns
  have hts := atoms_spec (ws := wsX3_removeRow) B.pre
  have hown : s.vm.findClass RX3 = some m.cls := findClass_of_methodNamed B.named
  have hlocks := B.notSynchronized
  subst hsz
  have hD := hD.self (sz := s.heap.size)
  generalize hAe : va_A [(h, .inr (3, [.ref a1, .int (nI n)])), (a1, .inl (k1, 512, .inr (.inl gn)))] s.heap.size = A at hC hD ⊢
  have hA : ∀ q : Nat, s.heap.size ≤ q → A q := fun q h => by rw [← hAe]; exact Or.inr h
  have hS : va_S A s.heap s.heap [] := va_S.rf
  have hP : va_P D vwCl [(h, .inr (3, [.ref a1, .int (nI n)])), (a1, .inl (k1, 512, .inr (.inl gn)))] s.heap := hP
  have hl := lv_entry ([.ref h, .long p0, .long p1]) (n := 9) (Nat.le_of_ble_eq_true rfl)
  rw [lg_entry_eq]
  generalize (lg_sl ([.ref h, .long p0, .long p1]) ++ List.replicate (9 - (lg_sl ([.ref h, .long p0, .long p1])).length) Slot.unset).toArray = ls at hl ⊢
  have hl : lv_has ls 9 [(0, .ref h), (1, .long p0), (3, .long p1)] := hl
  refine zNameH (D := D) (A := A) (ws := [(h, .inr (3, [.ref a1, .int (nI n)])), (a1, .inl (k1, 512, .inr (.inl gn)))]) (fun H locs hP hS => ?_) hP hS
  have k_0 := hts (.fieldLink RX3 15 "NumberRows2$GivenNumbers" "count" "I") (by decide +kernel)
  have k_1 : ∀ w ∈ wsX30, w ∈ wsX3_removeRow := by decide +kernel
  have k_2 := hts (.fieldLink RX3 9 "NumberRows2$GivenNumbers" "numbers" "[J") (by decide +kernel)
  have k_3 : va_Nw (.methodLinkNest RX3 19 yX6_serialOf RX6) s := hC.1 _ (by decide +kernel)
  have k_4 := hts (.initialized RX6) (by decide +kernel)
  have k_5 := hts (.static yX6_serialOf) (by decide +kernel)
  refine lv_aload_n hx hb dX3_removeRow_0 rfl (lv_at hl 0 rfl) ?_
  refine va_get (D := D) (ci := 3) (v := .int (nI n)) (C := RX3) (T := TX3) (N := 2) hx hb hts k_1 hown hK hP 0 rfl rfl 1 (by decide) k_0 (fun _ h9 => h9) rfl dX3_removeRow_1 ?_
  refine lv_istore (lv' := [(5, .int (nI n)), (0, .ref h), (1, .long p0), (3, .long p1)]) hx hb dX3_removeRow_4 hl (by decide) rfl (fun ls hl => ?_)
  refine lv_iload hx hb dX3_removeRow_6 (lv_at hl 0 rfl) ?_
  refine lv_iconst (v := 1) hx hb dX3_removeRow_8 (by decide) ?_
  refine lv_isub hx hb dX3_removeRow_9 ?_
  refine lv_istore (lv' := [(6, .int ((nI n) - 1)), (5, .int (nI n)), (0, .ref h), (1, .long p0), (3, .long p1)]) hx hb dX3_removeRow_10 hl (by decide) rfl (fun ls hl => ?_)
  refine zLoop (σ := Nat × Int32 × Nat × (Nat → Int64)) (nL := 9) (μ := fun (x : Nat × Int32 × Nat × (Nat → Int64)) => match x with | (t, x6, q, g) => t) (lv := fun (x : Nat × Int32 × Nat × (Nat → Int64)) => match x with | (t, x6, q, g) => [(6, .int x6), (0, .ref h), (1, .long p0), (3, .long p1), (5, .int (nI n))]) (wf := fun (x : Nat × Int32 × Nat × (Nat → Int64)) => match x with | (t, x6, q, g) => [(h, .inr (3, [.ref a1, .int (nI q)])), (a1, .inl (k1, 512, .inr (.inl g)))]) (I := fun (x : Nat × Int32 × Nat × (Nat → Int64)) => match x with | (t, x6, q, g) => zRmI p0 p1 n gn t q g ∧ x6 = nI t - 1) (fun x H locs ls hI hP hD hS hl ih => ?_) (n, (nI n - 1), n, gn) ⟨zRmI_0, rfl⟩ hP hD hS (lv_sub hl [0, 2, 3, 4, 1] rfl)
  obtain ⟨t, x6, q, g⟩ := x
  have hI : zRmI p0 p1 n gn t q g ∧ x6 = nI t - 1 := hI
  have hl : lv_has ls 9 [(6, .int x6), (0, .ref h), (1, .long p0), (3, .long p1), (5, .int (nI n))] := hl
  have hP : va_P D vwCl [(h, .inr (3, [.ref a1, .int (nI q)])), (a1, .inl (k1, 512, .inr (.inl g)))] H := hP
  have hD : va_D A [(h, .inr (3, [.ref a1, .int (nI q)])), (a1, .inl (k1, 512, .inr (.inl g)))] := hD
  have hi := hI.1.1
  have hi2 := hI.1.2.1
  refine lv_iload hx hb dX3_removeRow_12 (lv_at hl 0 rfl) ?_
  refine lv_if_lt (tgt := 75) hx hb dX3_removeRow_14 (by decide) (fun c_14 => ?_) (fun c_14 => ?_)
  · have i_14 : x6.toInt < 0 := zi_lt.mp c_14
    refine lv_iload hx hb dX3_removeRow_75 (lv_at hl 4 rfl) ?_
    refine lv_aload_n hx hb dX3_removeRow_77 rfl (lv_at hl 1 rfl) ?_
    refine va_get (D := D) (ci := 3) (v := .int (nI q)) (C := RX3) (T := TX3) (N := 2) hx hb hts k_1 hown hK hP 0 rfl rfl 1 (by decide) k_0 (fun _ h9 => h9) rfl dX3_removeRow_78 ?_
    refine lv_isub hx hb dX3_removeRow_81 ?_
    exact W.iret (v := ((nI n) - (nI q))) hx hb hr (fun t9 ht9 hW9 => ⟨⟨_, (q, g), rfl, ⟨by obtain rfl := zdn0 (by omega) hI.2 c_14; exact zRmI_end hI.1, pk_sub (by omega)⟩, by rw [ht9]; exact hP, va_K.moved hW9.alike hK, hD⟩, hS.F ht9⟩) hS.2.2 dX3_removeRow_82
  · have i_14 : ¬ (x6.toInt < 0) := fun q9 => c_14 (zi_lt.mpr q9)
    obtain ⟨t1, rfl, rfl⟩ := zdn (by omega) hI.2 c_14
    replace hI := hI.1
    have hi := hI.1
    have hl : lv_has ls 9 [(6, .int (nI t1)), (0, .ref h), (1, .long p0), (3, .long p1), (5, .int (nI n))] := hl
    refine lv_aload_n hx hb dX3_removeRow_17 rfl (lv_at hl 1 rfl) ?_
    refine va_get (D := D) (ci := 3) (v := .ref a1) (C := RX3) (T := TX3) (N := 2) hx hb hts k_1 hown hK hP 0 rfl rfl 0 (by decide) k_2 (fun _ h9 => h9) rfl dX3_removeRow_18 ?_
    refine lv_iload hx hb dX3_removeRow_21 (lv_at hl 0 rfl) ?_
    refine z_lald (k := t1) hx hb hK hP 1 0 rfl rfl (by omega) (by decide) dX3_removeRow_23 ?_
    refine zRo_l (va_runSN (As := [.long (g t1)]) (rest := []) ⟨hx, hb, hml, hown, hts⟩ (cc_X6_serialOf l D z H.size (g t1) ) ⟨va_cnB 1 hts gX3_removeRow_X6_serialOf_n19 rfl rfl rfl k_3 k_4 (by decide +kernel) ⟨Nat.le_of_ble_eq_true rfl, Nat.le_of_ble_eq_true rfl⟩, k_5, trivial⟩ ⟨zPre_blind, (zPre_mk (wc := []) (tc := []) hP hK hD hC hS [] (by decide) rfl rfl [] rfl (zro_free hS hA))⟩ rfl rfl hl.1 rfl (lv_room (Nat.le_of_ble_eq_true rfl)) dX3_removeRow_24 ⟨Nat.zero_le _, Nat.zero_le _⟩) hS hA hP (fun r_24 H locs hw hP hS => ?_)
    have hw_24 : r_24 = zser (g t1) := hw
    refine lv_lstore (lv' := [(7, .long r_24), (6, .int (nI t1)), (0, .ref h), (1, .long p0), (3, .long p1), (5, .int (nI n))]) hx hb dX3_removeRow_27 hl (by decide) rfl (fun ls hl => ?_)
    refine lv_lload_n hx hb dX3_removeRow_29 rfl (lv_at hl 3 rfl) ?_
    refine lv_lload hx hb dX3_removeRow_30 (lv_at hl 0 rfl) ?_
    refine W.lcmp hx hb dX3_removeRow_32 ?_
    refine lv_if_gt (tgt := 69) hx hb dX3_removeRow_33 (by decide) (fun c_33 => ?_) (fun c_33 => ?_)
    · have c_33 : r_24 < p0 := (lg_cmp_gt _ _).mp c_33
      have i_33 : r_24.toInt < p0.toInt := zl_lt.mp c_33
      refine lv_iinc (v := (nI t1 - 1)) (lv' := [(6, .int (nI t1 - 1)), (7, .long r_24), (0, .ref h), (1, .long p0), (3, .long p1), (5, .int (nI n))]) hx hb dX3_removeRow_69 hl (k := 1) rfl (by rw [Int32.sub_eq_add_neg]; rfl) (by decide) rfl (fun ls hl => ?_)
      refine lv_goto (tgt := 12) hx hb dX3_removeRow_72 (by decide) ?_
      exact ih (t1, nI t1 - 1, q, g) _ _ _ (show t1 < t1 + 1 from by omega) ⟨zRmI_stay hI (zIn_f1 hw_24 c_33), rfl⟩ hP hD hS (lv_sub hl [0, 2, 3, 4, 5] rfl)
    · have c_33 : ¬ (r_24 < p0) := fun q9 => c_33 ((lg_cmp_gt _ _).mpr q9)
      have i_33 : ¬ (r_24.toInt < p0.toInt) := fun q9 => c_33 (zl_lt.mpr q9)
      refine lv_lload hx hb dX3_removeRow_36 (lv_at hl 0 rfl) ?_
      refine lv_lload_n hx hb dX3_removeRow_38 rfl (lv_at hl 4 rfl) ?_
      refine W.lcmp hx hb dX3_removeRow_39 ?_
      refine lv_if_gt (tgt := 69) hx hb dX3_removeRow_40 (by decide) (fun c_40 => ?_) (fun c_40 => ?_)
      · have c_40 : p1 < r_24 := (lg_cmp_gt _ _).mp c_40
        have i_40 : p1.toInt < r_24.toInt := zl_lt.mp c_40
        refine lv_iinc (v := (nI t1 - 1)) (lv' := [(6, .int (nI t1 - 1)), (7, .long r_24), (0, .ref h), (1, .long p0), (3, .long p1), (5, .int (nI n))]) hx hb dX3_removeRow_69 hl (k := 1) rfl (by rw [Int32.sub_eq_add_neg]; rfl) (by decide) rfl (fun ls hl => ?_)
        refine lv_goto (tgt := 12) hx hb dX3_removeRow_72 (by decide) ?_
        exact ih (t1, nI t1 - 1, q, g) _ _ _ (show t1 < t1 + 1 from by omega) ⟨zRmI_stay hI (zIn_f2 hw_24 c_40), rfl⟩ hP hD hS (lv_sub hl [0, 2, 3, 4, 5] rfl)
      · have c_40 : ¬ (p1 < r_24) := fun q9 => c_40 ((lg_cmp_gt _ _).mpr q9)
        have i_40 : ¬ (p1.toInt < r_24.toInt) := fun q9 => c_40 (zl_lt.mpr q9)
        refine lv_aload_n hx hb dX3_removeRow_43 rfl (lv_at hl 2 rfl) ?_
        refine lv_dup hx hb dX3_removeRow_44 rfl ?_
        refine va_get (D := D) (ci := 3) (v := .int (nI q)) (C := RX3) (T := TX3) (N := 2) hx hb hts k_1 hown hK hP 0 rfl rfl 1 (by decide) k_0 (fun _ h9 => h9) rfl dX3_removeRow_45 ?_
        refine lv_iconst (v := 1) hx hb dX3_removeRow_48 (by decide) ?_
        refine lv_isub hx hb dX3_removeRow_49 ?_
        refine lv_topi (fun t_49 et_49 => ?_)
        obtain rfl : t_49 = nI (q - 1) := et_49.trans (pk_sub (b := 1) (by omega))
        refine va_put (D := D) (ci := 3) (v := .int (nI (q - 1))) (ty := .int) (C := RX3) (T := TX3) (N := 2) hx hb hts k_1 tyX3 tyX3_ok nmX3 hown hK hP hD hS 0 rfl rfl 1 (by decide) k_0 (fun _ h9 => h9) rfl (by decide +kernel) rfl rfl (Nat.le_of_ble_eq_true rfl) dX3_removeRow_50 (fun H locs hP hD hS => ?_)
        have hP : va_P D vwCl [(h, .inr (3, [.ref a1, .int (nI (q - 1))])), (a1, .inl (k1, 512, .inr (.inl g)))] H := hP
        have hD : va_D A [(h, .inr (3, [.ref a1, .int (nI (q - 1))])), (a1, .inl (k1, 512, .inr (.inl g)))] := hD
        refine lv_aload_n hx hb dX3_removeRow_53 rfl (lv_at hl 2 rfl) ?_
        refine va_get (D := D) (ci := 3) (v := .ref a1) (C := RX3) (T := TX3) (N := 2) hx hb hts k_1 hown hK hP 0 rfl rfl 0 (by decide) k_2 (fun _ h9 => h9) rfl dX3_removeRow_54 ?_
        refine lv_iload hx hb dX3_removeRow_57 (lv_at hl 1 rfl) ?_
        refine lv_aload_n hx hb dX3_removeRow_59 rfl (lv_at hl 2 rfl) ?_
        refine va_get (D := D) (ci := 3) (v := .ref a1) (C := RX3) (T := TX3) (N := 2) hx hb hts k_1 hown hK hP 0 rfl rfl 0 (by decide) k_2 (fun _ h9 => h9) rfl dX3_removeRow_60 ?_
        refine lv_aload_n hx hb dX3_removeRow_63 rfl (lv_at hl 2 rfl) ?_
        refine va_get (D := D) (ci := 3) (v := .int (nI (q - 1))) (C := RX3) (T := TX3) (N := 2) hx hb hts k_1 hown hK hP 0 rfl rfl 1 (by decide) k_0 (fun _ h9 => h9) rfl dX3_removeRow_64 ?_
        refine z_lald (k := q - 1) hx hb hK hP 1 0 rfl rfl (by omega) (by decide) dX3_removeRow_67 ?_
        refine z_last (k := t1) hx hb hK hP hD hS 1 0 rfl rfl (by omega) (by decide) dX3_removeRow_68 (fun H locs hP hD hS => ?_)
        have hP : va_P D vwCl [(h, .inr (3, [.ref a1, .int (nI (q - 1))])), (a1, .inl (k1, 512, .inr (.inl (vp_updL g t1 (g (q - 1))))))] H := hP
        have hD : va_D A [(h, .inr (3, [.ref a1, .int (nI (q - 1))])), (a1, .inl (k1, 512, .inr (.inl (vp_updL g t1 (g (q - 1))))))] := hD
        refine lv_iinc (v := (nI t1 - 1)) (lv' := [(6, .int (nI t1 - 1)), (7, .long r_24), (0, .ref h), (1, .long p0), (3, .long p1), (5, .int (nI n))]) hx hb dX3_removeRow_69 hl (k := 1) rfl (by rw [Int32.sub_eq_add_neg]; rfl) (by decide) rfl (fun ls hl => ?_)
        refine lv_goto (tgt := 12) hx hb dX3_removeRow_72 (by decide) ?_
        exact ih (t1, nI t1 - 1, q - 1, vp_updL g t1 (g (q - 1))) _ _ _ (show t1 < t1 + 1 from by omega) ⟨zRmI_go hI (zIn_t hw_24 c_33 c_40), rfl⟩ hP hD hS (lv_sub hl [0, 2, 3, 4, 5] rfl)
