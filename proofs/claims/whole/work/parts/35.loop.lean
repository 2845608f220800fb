set_option maxHeartbeats 8000000 in
set_option maxRecDepth 100000 in
/-- the head of the law's loop -/
theorem law_head {p : Program} {l : Launch} {e : Env} {s : State} {m : MethodId} {below : List Frame} {meth : Method} {c : Code} {b L : Nat} {xs : Nat → Int32} {D : va_G} {z : zG} {A : Nat → Prop} {ad : Nat → Nat} {kd : Nat → ClassId} {wt : Nat → Int32} (hfl : l.stackTraces = false) (C0 : lw_At p s m meth c b L xs) (hAe : A = fun q : Nat => s.heap.size ≤ q) (hC : zC z A s) (hTA : zTA s) (hw9 : ∀ j, j < 9 → wt j = zWt j) (hK : va_K D vwCl [((kd 0), .int), ((kd 1), .long), ((kd 2), .long), ((kd 3), .long), ((kd 4), .long), ((kd 5), .long), ((kd 6), .long), ((kd 7), .int), ((kd 8), .long), ((kd 9), .long), ((kd 10), .int), ((kd 11), .int), ((kd 12), .long), ((kd 13), .long), ((kd 14), .long), ((kd 15), .long), ((kd 16), .long), ((kd 17), .boolean), ((kd 18), .int), ((kd 19), .int), ((kd 20), .long), ((kd 21), .long), ((kd 22), .int), ((kd 23), .int), ((kd 24), .long)] s) (hL : L ≤ 3072) {k : Nat} (h6 : 6 * k ≤ L) (ih : 6 * k + 6 ≤ L → zGo p l e s m below meth c b D A ad kd wt (k + 1) (6 * k + 6) 23 (33 + k) (11447 + 6 * k)) : zGo p l e s m below meth c b D A ad kd wt k (6 * k) 23 (32 + k) (11441 + 6 * k) := by
  intro nb nq nv ng nt nn bo bf bl br qf ql gv gn gg sd rf nm ch th xl f hI H locs ls hP hD hS hl
  have hC0 := C0
  obtain ⟨hx, hb, hr, hml, hown, hts0, hX, hbl, hlocks, hgv⟩ := hC0
  have hbA : ¬ A b := by rw [hAe]; exact Nat.not_le.mpr hbl
  refine lv_iload hx hb dL_law_23 (lv_at hl 4 rfl) ?_
  refine lv_aload_n hx hb dL_law_25 rfl (lv_at hl 0 rfl) ?_
  refine va_slen hx hb hX hbl hbA hS dL_law_26 ?_
  refine lv_bipush (v := 6) hx hb dL_law_27 (by decide) ?_
  refine lv_isub hx hb dL_law_29 ?_
  have hLi : (Int32.ofNat L).toInt = (L : Int) := nI_toInt (by omega)
  have h6i : (6 : Int32).toInt = 6 := by decide
  have hsub : (Int32.ofNat L - 6).toInt = (L : Int) - 6 := by
    rw [zi_sub (by omega) (by omega), hLi, h6i]
  have hki : (nI (6 * k)).toInt = ((6 * k : Nat) : Int) := nI_toInt (by omega)
  refine lv_icmp_gt (tgt := 789) hx hb dL_law_30 (by decide) (fun q => ?_) (fun q => ?_)
  · refine lv_iconst (v := 1) hx hb dL_law_789 (by decide) ?_
    refine va_forget (fun q hq => by have h9 := hS.2.2 q hq; rw [hAe] at h9; exact h9) ?_
    refine W.widen (k := 1057) (n := 19639) (by omega) (by omega) ?_
    exact lw_ret hx hb hr hlocks dL_law_790
  · have hk : 6 * k + 6 ≤ L := by
      rw [zi_lt, hsub, hki] at q
      omega
    have hgo : zGo p l e s m below meth c b D A ad kd wt (k + 1) (6 * k) 783 (33 + k) (11447 + 6 * k) := by
      intro nb nq nv ng nt nn bo bf bl br qf ql gv gn gg sd rf nm ch th xl f hI H locs ls hP hD hS hl
      refine lv_iinc (v := nI (6 * k + 6)) (lv' := [(4, .int (nI (6 * k + 6))), (0, .ref b), (1, .ref (ad 0)), (2, .ref (ad 17)), (3, .ref (ad 31))]) hx hb dL_law_783 hl (k := 4) rfl (nI_add _ 6) (by decide) rfl (fun ls hl => ?_)
      refine lv_goto (tgt := 23) hx hb dL_law_786 (by decide) ?_
      exact ih hk nb nq nv ng nt nn bo bf bl br qf ql gv gn gg sd rf nm ch th xl f hI H locs ls hP hD hS (lv_sub hl [1, 2, 3, 4, 0] rfl)
    refine lv_aload_n hx hb dL_law_33 rfl (lv_at hl 0 rfl) ?_
    refine lv_iload hx hb dL_law_34 (lv_at hl 4 rfl) ?_
    refine z_sld (j := 6 * k) hx hb hX hbl hbA hS (by omega) (by omega) dL_law_36 ?_
    refine lv_bipush (v := 15) hx hb dL_law_37 (by decide) ?_
    refine lv_iand hx hb dL_law_39 ?_
    obtain ⟨j, hj, ej⟩ := pk_andE (xs (6 * k)) (m := 15) 4 (by decide)
    rw [ej]
    have hj : j = 0 ∨ j = 1 ∨ j = 2 ∨ j = 3 ∨ j = 4 ∨ j = 5 ∨ j = 6 ∨ j = 7 ∨ j = 8 ∨ j = 9 ∨ j = 10 ∨ j = 11 ∨ j = 12 ∨ j = 13 ∨ j = 14 ∨ j = 15 := by
      have : j < 16 := hj
      omega
    rcases hj with rfl | rfl | rfl | rfl | rfl | rfl | rfl | rfl | rfl | rfl | rfl | rfl | rfl | rfl | rfl | rfl
    · refine lv_tableIn (tgt := 96) (off := 56) hx hb dL_law_40 (by decide) (by decide) (by decide) (by decide) ?_
      exact law_block hfl C0 hAe hC hTA hw9 hK hk hL hgo nb nq nv ng nt nn bo bf bl br qf ql gv gn gg sd rf nm ch th xl f hI H locs ls hP hD hS hl
    · refine lv_tableIn (tgt := 209) (off := 169) hx hb dL_law_40 (by decide) (by decide) (by decide) (by decide) ?_
      exact law_next hfl C0 hAe hC hTA hw9 hK hk hL hgo nb nq nv ng nt nn bo bf bl br qf ql gv gn gg sd rf nm ch th xl f hI H locs ls hP hD hS hl
    · refine lv_tableIn (tgt := 247) (off := 207) hx hb dL_law_40 (by decide) (by decide) (by decide) (by decide) ?_
      exact law_letter hfl C0 hAe hC hTA hw9 hK hk hL hgo nb nq nv ng nt nn bo bf bl br qf ql gv gn gg sd rf nm ch th xl f hI H locs ls hP hD hS hl
    · refine lv_tableIn (tgt := 347) (off := 307) hx hb dL_law_40 (by decide) (by decide) (by decide) (by decide) ?_
      exact law_type hfl C0 hAe hC hTA hw9 hK hk hL hgo nb nq nv ng nt nn bo bf bl br qf ql gv gn gg sd rf nm ch th xl f hI H locs ls hP hD hS hl
    · refine lv_tableIn (tgt := 370) (off := 330) hx hb dL_law_40 (by decide) (by decide) (by decide) (by decide) ?_
      exact law_read hfl C0 hAe hC hTA hw9 hK hk hL hgo nb nq nv ng nt nn bo bf bl br qf ql gv gn gg sd rf nm ch th xl f hI H locs ls hP hD hS hl
    · refine lv_tableIn (tgt := 384) (off := 344) hx hb dL_law_40 (by decide) (by decide) (by decide) (by decide) ?_
      exact law_bar hfl C0 hAe hC hTA hw9 hK hk hL hgo nb nq nv ng nt nn bo bf bl br qf ql gv gn gg sd rf nm ch th xl f hI H locs ls hP hD hS hl
    · refine lv_tableIn (tgt := 485) (off := 445) hx hb dL_law_40 (by decide) (by decide) (by decide) (by decide) ?_
      exact law_given hfl C0 hAe hC hTA hw9 hK hk hL hgo nb nq nv ng nt nn bo bf bl br qf ql gv gn gg sd rf nm ch th xl f hI H locs ls hP hD hS hl
    · refine lv_tableIn (tgt := 542) (off := 502) hx hb dL_law_40 (by decide) (by decide) (by decide) (by decide) ?_
      exact law_old hfl C0 hAe hC hTA hw9 hK hk hL hgo nb nq nv ng nt nn bo bf bl br qf ql gv gn gg sd rf nm ch th xl f hI H locs ls hP hD hS hl
    · refine lv_tableIn (tgt := 600) (off := 560) hx hb dL_law_40 (by decide) (by decide) (by decide) (by decide) ?_
      exact law_map hfl C0 hAe hC hTA hw9 hK hk hL hgo nb nq nv ng nt nn bo bf bl br qf ql gv gn gg sd rf nm ch th xl f hI H locs ls hP hD hS hl
    · refine lv_tableIn (tgt := 713) (off := 673) hx hb dL_law_40 (by decide) (by decide) (by decide) (by decide) ?_
      exact law_named hfl C0 hAe hC hTA hw9 hK hk hL hgo nb nq nv ng nt nn bo bf bl br qf ql gv gn gg sd rf nm ch th xl f hI H locs ls hP hD hS hl
    · refine lv_tableOut (tgt := 783) hx hb dL_law_40 (Or.inr (by decide)) (by decide) ?_
      exact W.widen (k := 33 + k) (n := 11447 + 6 * k) (by omega) (by omega) (hgo nb nq nv ng nt nn bo bf bl br qf ql gv gn gg sd rf nm ch th xl f hI.up H locs ls hP hD hS hl)
    · refine lv_tableOut (tgt := 783) hx hb dL_law_40 (Or.inr (by decide)) (by decide) ?_
      exact W.widen (k := 33 + k) (n := 11447 + 6 * k) (by omega) (by omega) (hgo nb nq nv ng nt nn bo bf bl br qf ql gv gn gg sd rf nm ch th xl f hI.up H locs ls hP hD hS hl)
    · refine lv_tableOut (tgt := 783) hx hb dL_law_40 (Or.inr (by decide)) (by decide) ?_
      exact W.widen (k := 33 + k) (n := 11447 + 6 * k) (by omega) (by omega) (hgo nb nq nv ng nt nn bo bf bl br qf ql gv gn gg sd rf nm ch th xl f hI.up H locs ls hP hD hS hl)
    · refine lv_tableOut (tgt := 783) hx hb dL_law_40 (Or.inr (by decide)) (by decide) ?_
      exact W.widen (k := 33 + k) (n := 11447 + 6 * k) (by omega) (by omega) (hgo nb nq nv ng nt nn bo bf bl br qf ql gv gn gg sd rf nm ch th xl f hI.up H locs ls hP hD hS hl)
    · refine lv_tableOut (tgt := 783) hx hb dL_law_40 (Or.inr (by decide)) (by decide) ?_
      exact W.widen (k := 33 + k) (n := 11447 + 6 * k) (by omega) (by omega) (hgo nb nq nv ng nt nn bo bf bl br qf ql gv gn gg sd rf nm ch th xl f hI.up H locs ls hP hD hS hl)
    · refine lv_tableOut (tgt := 783) hx hb dL_law_40 (Or.inr (by decide)) (by decide) ?_
      exact W.widen (k := 33 + k) (n := 11447 + 6 * k) (by omega) (by omega) (hgo nb nq nv ng nt nn bo bf bl br qf ql gv gn gg sd rf nm ch th xl f hI.up H locs ls hP hD hS hl)
/-- the law's loop -/
theorem law_loop {p : Program} {l : Launch} {e : Env} {s : State} {m : MethodId} {below : List Frame} {meth : Method} {c : Code} {b L : Nat} {xs : Nat → Int32} {D : va_G} {z : zG} {A : Nat → Prop} {ad : Nat → Nat} {kd : Nat → ClassId} {wt : Nat → Int32} (hfl : l.stackTraces = false) (C0 : lw_At p s m meth c b L xs) (hAe : A = fun q : Nat => s.heap.size ≤ q) (hC : zC z A s) (hTA : zTA s) (hw9 : ∀ j, j < 9 → wt j = zWt j) (hK : va_K D vwCl [((kd 0), .int), ((kd 1), .long), ((kd 2), .long), ((kd 3), .long), ((kd 4), .long), ((kd 5), .long), ((kd 6), .long), ((kd 7), .int), ((kd 8), .long), ((kd 9), .long), ((kd 10), .int), ((kd 11), .int), ((kd 12), .long), ((kd 13), .long), ((kd 14), .long), ((kd 15), .long), ((kd 16), .long), ((kd 17), .boolean), ((kd 18), .int), ((kd 19), .int), ((kd 20), .long), ((kd 21), .long), ((kd 22), .int), ((kd 23), .int), ((kd 24), .long)] s) (hL : L ≤ 3072) : ∀ (n k : Nat), L ≤ 6 * (k + n) → 6 * k ≤ L → zGo p l e s m below meth c b D A ad kd wt k (6 * k) 23 (32 + k) (11441 + 6 * k) := by
  intro n
  induction n with
  | zero =>
    intro k h1 h2
    exact law_head hfl C0 hAe hC hTA hw9 hK hL h2 (fun h => by omega)
  | succ n ihn =>
    intro k h1 h2
    refine law_head hfl C0 hAe hC hTA hw9 hK hL h2 (fun h => ?_)
    have h9 := ihn (k + 1) (by omega) (by omega)
    have e1 : 6 * (k + 1) = 6 * k + 6 := by omega
    have e2 : 32 + (k + 1) = 33 + k := by omega
    have e3 : 11441 + 6 * (k + 1) = 11447 + 6 * k := by omega
    rw [e3, e2, e1] at h9
    exact h9
