/-! next -/
theorem znum_eq {p1 : Int32} {x : Int64} (h : 0 ≤ p1.toInt ∧ p1.toInt < 10) : znum p1 x = znumM p1 x := by
  have e1 : (1 : Int32).toInt = 1 := by decide
  have e2 : (1 : Int64).toInt = 1 := by decide
  have h1 : (p1 + 1).toInt64 = p1.toInt64 + 1 := by
    refine zl_eq.mpr ?_
    rw [zi_l, zi_add (by rw [e1]; omega) (by rw [e1]; omega), zl_add (by rw [zi_l, e2]; omega) (by rw [zi_l, e2]; omega), zi_l, e1, e2]
  unfold znum znumM
  rw [h1]
theorem znumM_int {p1 : Int32} {x : Int64} (h : 0 ≤ p1.toInt ∧ p1.toInt < 10) (hx : 0 ≤ x.toInt ∧ x.toInt < 27512614111) : (znumM p1 x).toInt = (p1.toInt + 1) * 27512614111 + x.toInt := by
  have e2 : (1 : Int64).toInt = 1 := by decide
  have eM : (27512614111 : Int64).toInt = 27512614111 := by decide
  have h1 : (p1.toInt64 + 1).toInt = p1.toInt + 1 := by rw [zl_add (by rw [zi_l, e2]; omega) (by rw [zi_l, e2]; omega), zi_l, e2]
  have h2 : ((p1.toInt64 + 1) * 27512614111).toInt = (p1.toInt + 1) * 27512614111 := by rw [zl_mul (by rw [h1, eM]; omega) (by rw [h1, eM]; omega), h1, eM]
  unfold znumM
  rw [zl_add (by rw [h2]; omega) (by rw [h2]; omega), h2]
theorem zser_num {p1 : Int32} {x : Int64} (h : 0 ≤ p1.toInt ∧ p1.toInt < 10) (hx : 0 ≤ x.toInt ∧ x.toInt < 27512614111) : zser (znumM p1 x) = x := by
  have hi := znumM_int h hx
  refine zl_eq.mpr ?_
  rw [zser_int (by omega), hi]; omega
theorem zskip_ful {k nb nq nv ng nt nn : Nat} {bo : Nat → Int32} {bf bl br qf ql gv gn : Nat → Int64} {gg sd : Nat → Int32} {rf nm : Nat → Int64} {o : Int32} {g : Nat → Int64} {j : Nat} (h : zInv k nb nq nv ng nt nn bo bf bl br qf ql gv gn gg sd rf nm) (hj : j < nb) (hs : zSkip nq qf ql bo bl o br g j) (ho : bo j = o) : zFul nq qf ql ng gn (bf j) (bl j) := by
  obtain ⟨q1, q2, q3⟩ := h.2.2.1.2.1 j hj
  intro x h1 h2
  rcases hs with ⟨e, w⟩ | ⟨-, w1, w2, w3⟩
  · have w := w.resolve_left (fun q => q ho)
    exact q3 x h1 (zl_lt.mpr (by rw [zl_le] at h2; rw [zl_lt] at w; omega))
  · by_cases hx : x < br j
    · exact q3 x h1 hx
    · exact Or.inl (w2.2.2.1 x (zl_le.mpr (by rw [zl_lt] at hx; omega)) (zl_lt.mpr (by rw [zl_le] at h2; rw [zl_lt] at w3; omega)))
theorem zskip_frs {k nb nq nv ng nt nn : Nat} {bo : Nat → Int32} {bf bl br qf ql gv gn : Nat → Int64} {gg sd : Nat → Int32} {rf nm : Nat → Int64} {o : Int32} {g : Nat → Int64} {j : Nat} (h : zInv k nb nq nv ng nt nn bo bf bl br qf ql gv gn gg sd rf nm) (hj : j < nb) (hs : zSkip nq qf ql bo bl o br g j) :
    (br j).toInt ≤ (g j).toInt ∧ (g j).toInt ≤ 27512614111 ∧ ∀ x : Int64, bf j ≤ x → x < g j → zBar nq qf ql x ∨ zG9 ng gn x := by
  obtain ⟨q1, q2, q3⟩ := h.2.2.1.2.1 j hj
  rcases hs with ⟨e, w⟩ | ⟨-, w1, w2, w3⟩
  · rw [e]; exact ⟨Int.le_refl _, q2, q3⟩
  · have h1 := zl_le.mp w2.1
    refine ⟨h1, ?_, fun x a1 a2 => ?_⟩
    · rcases w2.2.2.2 with e | e
      · rw [e]; exact q2
      · exact e
    · by_cases hx : x < br j
      · exact q3 x a1 hx
      · exact Or.inl (w2.2.2.1 x (zl_le.mpr (by rw [zl_lt] at hx; omega)) a2)
/-- a given serial of a block lies below the block's fresh one -/
theorem zhome_lt {k nb nq nv ng nt nn : Nat} {bo : Nat → Int32} {bf bl br qf ql gv gn : Nat → Int64} {gg sd : Nat → Int32} {rf nm : Nat → Int64} (h : zInv k nb nq nv ng nt nn bo bf bl br qf ql gv gn gg sd rf nm) {i : Nat} (hi : i < nb) {x : Int64} (h1 : (bf i).toInt ≤ x.toInt) (h2 : x.toInt ≤ (bl i).toInt) (hg : zG9 ng gn x) : x.toInt < (br i).toInt := by
  obtain ⟨q, hq, rfl⟩ := hg
  obtain ⟨j, w1, w2, w3, w4⟩ := h.2.2.1.2.2.1 q hq
  by_cases e : i = j
  · rw [e]; exact w4
  · have := h.2.1.2.2 i j hi w1 e; omega
theorem zfre_ful {nq : Nat} {qf ql : Nat → Int64} {ng : Nat} {gn : Nat → Int64} {a b x : Int64} (h : zFre nq qf ql ng gn a b x) (h' : zFul nq qf ql ng gn a b) : False := by
  rcases h' x h.1 h.2.1 with q | q
  · exact h.2.2.1 q
  · exact h.2.2.2.1 q
theorem zfre_fun {nq : Nat} {qf ql : Nat → Int64} {ng : Nat} {gn : Nat → Int64} {a b x y : Int64} (h : zFre nq qf ql ng gn a b x) (h' : zFre nq qf ql ng gn a b y) : x = y := by
  refine zl_eq.mpr ?_
  rcases Int.lt_trichotomy x.toInt y.toInt with q | q | q
  · exfalso
    rcases h'.2.2.2.2 x h.1 (zl_lt.mpr q) with w | w
    · exact h.2.2.1 w
    · exact h.2.2.2.1 w
  · exact q
  · exfalso
    rcases h.2.2.2.2 y h'.1 (zl_lt.mpr q) with w | w
    · exact h'.2.2.1 w
    · exact h'.2.2.2.1 w
theorem ztake_fre {k nb nq nv ng nt nn : Nat} {bo : Nat → Int32} {bf bl br qf ql gv gn : Nat → Int64} {gg sd : Nat → Int32} {rf nm : Nat → Int64} (h : zInv k nb nq nv ng nt nn bo bf bl br qf ql gv gn gg sd rf nm) {i : Nat} (hi : i < nb) {x : Int64} (hf : zFF nq qf ql (br i) x) (hx : x ≤ bl i) : zFre nq qf ql ng gn (bf i) (bl i) x := by
  obtain ⟨q1, q2, q3⟩ := h.2.2.1.2.1 i hi
  have h1 := zl_le.mp hf.1
  refine ⟨zl_le.mpr (by omega), hx, hf.2.1, fun q => ?_, fun y w1 w2 => ?_⟩
  · have := zhome_lt h hi (x := x) (by omega) (zl_le.mp hx) q; omega
  · by_cases hy : y < br i
    · exact q3 y w1 hy
    · exact Or.inl (hf.2.2.1 y (zl_le.mpr (by rw [zl_lt] at hy; omega)) w2)
theorem zsim_next {k nb nq nv ng nt nn : Nat} {bo : Nat → Int32} {bf bl br qf ql gv gn : Nat → Int64} {gg sd : Nat → Int32} {rf nm : Nat → Int64} {p0 p1 : Int32} {r r' : Int64} {ur : Nat → Int64} {un : Nat} {ug : Nat → Int64} {un' : Nat} {ug' : Nat → Int64} {uh : Nat → Int32}
    (h : zInv k nb nq nv ng nt nn bo bf bl br qf ql gv gn gg sd rf nm)
    (hc : (¬ zOkN p0 p1 ∧ r = -102 ∧ ur = br ∧ un = nv ∧ ug = gv) ∨ (zOkN p0 p1 ∧ ∃ x, zTake nq qf ql nb bo bl p0 br ur x ∧ ((x.toInt < 0 ∧ r = 0 ∧ un = nv ∧ ug = gv) ∨ (0 ≤ x.toInt ∧ r = znum p1 x ∧ un = nv + 1 ∧ ug = vp_updL gv nv (znum p1 x)))))
    (hm : (¬ zOkN p0 p1 ∧ r' = -102 ∧ un' = ng ∧ ug' = gn ∧ uh = gg) ∨ (zOkN p0 p1 ∧ ((zNon nq qf ql ng gn nb bo bf bl p0 ∧ r' = 0 ∧ un' = ng ∧ ug' = gn ∧ uh = gg) ∨ ∃ x, zNxt nq qf ql ng gn nb bo bf bl p0 x ∧ r' = znumM p1 x ∧ un' = ng + 1 ∧ ug' = vp_updL gn ng (znumM p1 x) ∧ uh = upd gg ng 0))) :
    r = r' ∧ zInv (k + 1) nb nq un un' nt nn bo bf bl ur qf ql ug ug' uh sd rf nm := by
  have hup := h.up
  rcases hc with ⟨c1, rfl, rfl, rfl, rfl⟩ | ⟨c1, x, c2, c3⟩
  · rcases hm with ⟨d1, rfl, rfl, rfl, rfl⟩ | ⟨d1, d2⟩
    · exact ⟨rfl, hup⟩
    · exact absurd d1 c1
  rcases hm with ⟨d1, -⟩ | ⟨-, d2⟩
  · exact absurd c1 d1
  rcases c2 with ⟨i, i1, i2, i3, i4, i5, i6, i7, i8⟩ | ⟨i1, i2⟩
  · have hfre := ztake_fre h i1 i5 i6
    have hb := h.2.1.1 i i1
    have hx0 : 0 ≤ x.toInt := by have := zl_le.mp hfre.1; omega
    have hx1 := zl_le.mp i6
    have c3 := c3.resolve_left (fun q => by have := q.1; omega)
    obtain ⟨-, rfl, rfl, rfl⟩ := c3
    rcases d2 with ⟨d3, -⟩ | ⟨y, ⟨j, j1, j2, j3, j4⟩, rfl, rfl, rfl, rfl⟩
    · exact absurd (d3 i i1 i3) (zfre_ful hfre)
    have hij : i = j := by
      rcases Nat.lt_trichotomy i j with q | q | q
      · exact absurd (j2 i q i3) (zfre_ful hfre)
      · exact q
      · exact absurd (zskip_ful h j1 (i2 j q) j3) (zfre_ful j4)
    subst hij
    obtain rfl := zfre_fun hfre j4
    have hok : 0 ≤ p1.toInt ∧ p1.toInt < 10 := c1.2
    rw [znum_eq hok]
    refine ⟨rfl, ?_⟩
    have hse := zser_num (p1 := p1) (x := x) hok ⟨hx0, by omega⟩
    have hni := znumM_int (p1 := p1) (x := x) hok ⟨hx0, by omega⟩
    obtain ⟨⟨a1, a2, a3, a4, a5⟩, b0, ⟨e1, e2, e3, e4⟩, e5⟩ := hup
    have hbr := h.2.2.1.2.1 i i1
    have hge : ∀ j, j < nb → (br j).toInt ≤ (ur j).toInt ∧ (ur j).toInt ≤ 27512614111 ∧ ∀ y : Int64, bf j ≤ y → y < ur j → zBar nq qf ql y ∨ zG9 (ng + 1) (vp_updL gn ng (znumM p1 x)) y := by
      intro j hj
      rcases Nat.lt_trichotomy j i with q | q | q
      · obtain ⟨w1, w2, w3⟩ := zskip_frs h hj (i2 j q)
        exact ⟨w1, w2, fun y v1 v2 => (w3 y v1 v2).imp id zG9_up⟩
      · subst q
        have hx2 := zl_le.mp i5.1
        have e9 : (x + 1).toInt = x.toInt + 1 := zl_add (by have : (1 : Int64).toInt = 1 := (by decide); omega) (by have : (1 : Int64).toInt = 1 := (by decide); omega)
        rw [i7, e9]
        refine ⟨by omega, by omega, fun y v1 v2 => ?_⟩
        by_cases hy : y < x
        · exact (hfre.2.2.2.2 y v1 hy).imp id zG9_up
        · have : y = x := zl_eq.mpr (by rw [zl_lt] at hy v2; rw [e9] at v2; omega)
          subst this
          exact Or.inr ⟨ng, by omega, by rw [pk_uLs]; exact hse⟩
      · rw [i8 j q]
        obtain ⟨w1, w2, w3⟩ := h.2.2.1.2.1 j hj
        exact ⟨Int.le_refl _, w2, fun y v1 v2 => (w3 y v1 v2).imp id zG9_up⟩
    have a6 := h.1.2.2.2.2
    refine ⟨⟨a1, a2, a3, a4, by omega⟩, b0, ⟨?_, ?_, ?_, ?_⟩, e5⟩
    · intro F
      have h1 := e1 F
      show zcnt _ nv + _ = zcnt _ ng + _
      have h2 : zcnt (fun j => F (vp_updL gv nv (znumM p1 x) j)) nv = zN F gv nv := zcnt_congr (fun j hj => by show F (vp_updL gv nv (znumM p1 x) j) = F (gv j); rw [pk_uLn (by omega)])
      have h3 : zcnt (fun j => decide (upd gg ng 0 j = 0) && F (vp_updL gn ng (znumM p1 x) j)) ng = zcnt (fun j => decide (gg j = 0) && F (gn j)) ng := zcnt_congr (fun j hj => by show (decide (upd gg ng 0 j = 0) && F (vp_updL gn ng (znumM p1 x) j)) = _; rw [pk_uLn (by omega), pk_un (by omega)])
      have h4 : vp_updL gv nv (znumM p1 x) nv = znumM p1 x := pk_uLs
      have h5 : vp_updL gn ng (znumM p1 x) ng = znumM p1 x := pk_uLs
      have h6 : upd gg ng 0 ng = 0 := pk_us
      simp only [h2, h3, h4, h5, h6, h1, decide_true, Bool.true_and]
    · intro j hj
      obtain ⟨w1, w2, w3⟩ := hge j hj
      exact ⟨Int.le_trans (h.2.2.1.2.1 j hj).1 w1, w2, w3⟩
    · intro q hq
      by_cases e : q = ng
      · subst e
        rw [pk_uLs, hse]
        have e9 : (x + 1).toInt = x.toInt + 1 := zl_add (by have : (1 : Int64).toInt = 1 := (by decide); omega) (by have : (1 : Int64).toInt = 1 := (by decide); omega)
        have := zl_le.mp hfre.1
        exact ⟨i, i1, by omega, by omega, by rw [i7, e9]; omega⟩
      · rw [pk_uLn e]
        obtain ⟨j, w1, w2, w3, w4⟩ := e3 q (by omega)
        exact ⟨j, w1, w2, w3, Int.lt_of_lt_of_le w4 (hge j w1).1⟩
    · intro q hq
      by_cases e : q = ng
      · subst e; rw [pk_uLs, hni]; omega
      · rw [pk_uLn e]; exact e4 q (by omega)
  · have hneg : x.toInt < 0 := by rw [i2]; decide
    have c3 := c3.resolve_right (fun q => by have := q.1; omega)
    obtain ⟨-, rfl, rfl, rfl⟩ := c3
    rcases d2 with ⟨d3, rfl, rfl, rfl, rfl⟩ | ⟨y, ⟨j, j1, j2, j3, j4⟩, -⟩
    · refine ⟨rfl, ?_⟩
      obtain ⟨a0, b0, ⟨e1, e2, e3, e4⟩, e5⟩ := hup
      refine ⟨a0, b0, ⟨e1, fun j hj => ?_, fun q hq => ?_, e4⟩, e5⟩
      · obtain ⟨w1, w2, w3⟩ := zskip_frs h hj (i1 j hj)
        exact ⟨Int.le_trans (h.2.2.1.2.1 j hj).1 w1, w2, w3⟩
      · obtain ⟨j, w1, w2, w3, w4⟩ := e3 q hq
        exact ⟨j, w1, w2, w3, Int.lt_of_lt_of_le w4 (zskip_frs h w1 (i1 j w1)).1⟩
    · exact absurd (zskip_ful h j1 (i1 j j1) j3) (zfre_ful j4)
