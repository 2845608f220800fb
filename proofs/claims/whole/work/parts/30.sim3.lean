/-! map, named, old, letter -/
theorem zFnd_fun {n : Nat} {sd : Nat → Int32} {rf nm : Nat → Int64} {p0 : Int32} {p1 r r' : Int64} (hu : zNmU n sd rf) (h : zFnd n sd rf nm p0 p1 r) (h' : zFnd n sd rf nm p0 p1 r') : r = r' := by
  rcases h with ⟨j, a1, a2, a3, a4⟩ | ⟨a1, a2⟩ <;> rcases h' with ⟨i, b1, b2, b3, b4⟩ | ⟨b1, b2⟩
  · have := hu i j b1 a1 (b2.trans a2.symm) (b3.trans a3.symm)
    rw [a4, b4, this]
  · exact absurd ⟨a2, a3⟩ (b1 j a1)
  · exact absurd ⟨b2, b3⟩ (a1 i b1)
  · rw [a2, b2]
theorem zNmU_upd {n j : Nat} {sd : Nat → Int32} {rf : Nat → Int64} {p1 : Int64} (h : zNmU n sd rf) (hn : ∀ i, i < n → ¬ (sd i = sd j ∧ rf i = p1)) : zNmU n sd (vp_updL rf j p1) := by
  intro a b ha hb e1 e2
  by_cases qa : a = j
  · by_cases qb : b = j
    · rw [qa, qb]
    · rw [qa, pk_uLs, pk_uLn qb] at e2
      exact absurd ⟨by rw [← e1, qa], e2.symm⟩ (hn b hb)
  · by_cases qb : b = j
    · rw [qb, pk_uLs, pk_uLn qa] at e2
      exact absurd ⟨by rw [e1, qb], e2⟩ (hn a ha)
    · rw [pk_uLn qa, pk_uLn qb] at e2
      exact h a b ha hb e1 e2
theorem zNmU_add {n : Nat} {sd : Nat → Int32} {rf : Nat → Int64} {p0 : Int32} {p1 : Int64} (h : zNmU n sd rf) (hn : ∀ i, i < n → ¬ (sd i = p0 ∧ rf i = p1)) : zNmU (n + 1) (upd sd n p0) (vp_updL rf n p1) := by
  intro a b ha hb e1 e2
  by_cases qa : a = n
  · by_cases qb : b = n
    · rw [qa, qb]
    · rw [qa, pk_uLs, pk_uLn qb] at e2
      rw [qa, pk_us, pk_un qb] at e1
      exact absurd ⟨e1.symm, e2.symm⟩ (hn b (by omega))
  · by_cases qb : b = n
    · rw [qb, pk_uLs, pk_uLn qa] at e2
      rw [qb, pk_us, pk_un qa] at e1
      exact absurd ⟨e1, e2⟩ (hn a (by omega))
    · rw [pk_uLn qa, pk_uLn qb] at e2
      rw [pk_un qa, pk_un qb] at e1
      exact h a b (by omega) (by omega) e1 e2
theorem zsim_map {k nb nq nv ng nt nn : Nat} {bo : Nat → Int32} {bf bl br qf ql gv gn : Nat → Int64} {gg sd : Nat → Int32} {rf nm : Nat → Int64} {p0 : Int32} {p1 p2 : Int64} {r r' : Int32} {un : Nat} {us : Nat → Int32} {ur um : Nat → Int64} {un' : Nat} {us' : Nat → Int32} {ur' um' : Nat → Int64}
    (h : zInv k nb nq nv ng nt nn bo bf bl br qf ql gv gn gg sd rf nm)
    (hc : (¬ (∃ j, j < nv ∧ gv j = p2) ∧ r = -101 ∧ un = nn ∧ us = sd ∧ ur = rf ∧ um = nm) ∨ ((∃ j, j < nv ∧ gv j = p2) ∧ ((¬ (0 ≤ p0.toInt ∧ p0.toInt < 100 ∧ 0 ≤ p1.toInt) ∧ r = -102 ∧ un = nn ∧ us = sd ∧ ur = rf ∧ um = nm) ∨ ((0 ≤ p0.toInt ∧ p0.toInt < 100 ∧ 0 ≤ p1.toInt) ∧ ∃ x, zFnd nn sd rf nm p0 p1 x ∧ ((x = p2 ∧ r = 0 ∧ un = nn ∧ us = sd ∧ ur = rf ∧ um = nm) ∨ (¬ x = p2 ∧ ¬ x = -101 ∧ r = -103 ∧ un = nn ∧ us = sd ∧ ur = rf ∧ um = nm) ∨ (¬ x = p2 ∧ x = -101 ∧ (∃ j, j < nn ∧ sd j = p0 ∧ nm j = p2 ∧ ur = vp_updL rf j p1) ∧ r = 2 ∧ un = nn ∧ us = sd ∧ um = nm) ∨ (¬ x = p2 ∧ x = -101 ∧ (∀ j, j < nn → ¬ (sd j = p0 ∧ nm j = p2)) ∧ ((300 ≤ nn ∧ r = -104 ∧ un = nn ∧ us = sd ∧ ur = rf ∧ um = nm) ∨ (nn < 300 ∧ r = 1 ∧ un = nn + 1 ∧ us = upd sd nn p0 ∧ ur = vp_updL rf nn p1 ∧ um = vp_updL nm nn p2))))))))
    (hm : (¬ zGiv ng gn gg p2 ∧ r' = -101 ∧ un' = nn ∧ us' = sd ∧ ur' = rf ∧ um' = nm) ∨ (zGiv ng gn gg p2 ∧ ((¬ (0 ≤ p0.toInt ∧ p0.toInt < 100 ∧ 0 ≤ p1.toInt) ∧ r' = -102 ∧ un' = nn ∧ us' = sd ∧ ur' = rf ∧ um' = nm) ∨ ((0 ≤ p0.toInt ∧ p0.toInt < 100 ∧ 0 ≤ p1.toInt) ∧ ((∃ j, j < nn ∧ (sd j = p0 ∧ rf j = p1) ∧ ((nm j = p2 ∧ r' = 0) ∨ (¬ nm j = p2 ∧ r' = -103)) ∧ un' = nn ∧ us' = sd ∧ ur' = rf ∧ um' = nm) ∨ ((∀ j, j < nn → ¬ (sd j = p0 ∧ rf j = p1)) ∧ ((∃ j, j < nn ∧ (sd j = p0 ∧ nm j = p2) ∧ r' = 2 ∧ un' = nn ∧ us' = sd ∧ ur' = vp_updL rf j p1 ∧ um' = nm) ∨ ((∀ j, j < nn → ¬ (sd j = p0 ∧ nm j = p2)) ∧ ((nn = 300 ∧ r' = -104 ∧ un' = nn ∧ us' = sd ∧ ur' = rf ∧ um' = nm) ∨ (¬ nn = 300 ∧ r' = 1 ∧ un' = nn + 1 ∧ us' = upd sd nn p0 ∧ ur' = vp_updL rf nn p1 ∧ um' = vp_updL nm nn p2)))))))))) :
    r = r' ∧ un = un' ∧ us = us' ∧ ur = ur' ∧ um = um' ∧ zInv (k + 1) nb nq nv ng nt un bo bf bl br qf ql gv gn gg us ur um := by
  have hup := h.up
  have hg := h.2.2.1.1.iff p2
  have hn := h.1.2.2.2.1
  obtain ⟨u1, u2, u3⟩ := h.2.2.2
  have hneg : (-101 : Int64).toInt = -101 := by decide
  rcases hc with ⟨c1, rfl, rfl, rfl, rfl, rfl⟩ | ⟨c1, c2⟩
  · rcases hm with ⟨d1, rfl, rfl, rfl, rfl, rfl⟩ | ⟨d1, -⟩
    · exact ⟨rfl, rfl, rfl, rfl, rfl, hup⟩
    · exact absurd (hg.mpr d1) c1
  rcases hm with ⟨d1, -⟩ | ⟨d1, d2⟩
  · exact absurd (hg.mp c1) d1
  have hp2 : 0 < p2.toInt := by
    obtain ⟨q, q1, q2, -⟩ := d1
    rw [← q2]; exact h.2.2.1.2.2.2 q q1
  rcases c2 with ⟨c2, rfl, rfl, rfl, rfl, rfl⟩ | ⟨c2, x, c3, c4⟩
  · rcases d2 with ⟨d2, rfl, rfl, rfl, rfl, rfl⟩ | ⟨d2, -⟩
    · exact ⟨rfl, rfl, rfl, rfl, rfl, hup⟩
    · exact absurd d2 c2
  rcases d2 with ⟨d2, -⟩ | ⟨-, d3⟩
  · exact absurd c2 d2
  rcases d3 with ⟨j, j1, j2, j3, rfl, rfl, rfl, rfl⟩ | ⟨j1, j2⟩
  · -- the reference is a name already
    have hx := zFnd_fun u1 c3 (Or.inl ⟨j, j1, j2.1, j2.2, rfl⟩)
    have hpos := u3 j j1
    have hx1 : ¬ x = -101 := fun q => by rw [hx, zl_eq, hneg] at q; omega
    rcases c4 with ⟨w1, rfl, rfl, rfl, rfl, rfl⟩ | ⟨w1, w2, rfl, rfl, rfl, rfl, rfl⟩ | ⟨-, w2, -⟩ | ⟨-, w2, -⟩
    · rcases j3 with ⟨v, rfl⟩ | ⟨v, -⟩
      · exact ⟨rfl, rfl, rfl, rfl, rfl, hup⟩
      · exact absurd (hx.symm.trans w1) v
    · rcases j3 with ⟨v, -⟩ | ⟨v, rfl⟩
      · exact absurd (hx.trans v) w1
      · exact ⟨rfl, rfl, rfl, rfl, rfl, hup⟩
    · exact absurd w2 hx1
    · exact absurd w2 hx1
  · have hx : x = -101 := by
      rcases c3 with ⟨j, q1, q2, q3, -⟩ | ⟨-, q⟩
      · exact absurd ⟨q2, q3⟩ (j1 j q1)
      · exact q
    have hx2 : ¬ x = p2 := fun q => by rw [← q, hx, hneg] at hp2; omega
    rcases c4 with ⟨w1, -⟩ | ⟨-, w2, -⟩ | ⟨-, -, ⟨i, i1, i2, i3, rfl⟩, rfl, rfl, rfl, rfl⟩ | ⟨-, -, w3, w4⟩
    · exact absurd w1 hx2
    · exact absurd hx w2
    · rcases j2 with ⟨j, q1, q2, rfl, rfl, rfl, rfl, rfl⟩ | ⟨q1, -⟩
      · have : i = j := u2 i j i1 q1 (i2.trans q2.1.symm) (i3.trans q2.2.symm)
        subst this
        refine ⟨rfl, rfl, rfl, rfl, rfl, hup.1, hup.2.1, hup.2.2.1, zNmU_upd u1 (fun q hq v => j1 q hq ⟨v.1.trans i2, v.2⟩), u2, u3⟩
      · exact absurd ⟨i2, i3⟩ (q1 i i1)
    · rcases j2 with ⟨j, q1, q2, -⟩ | ⟨q1, q2⟩
      · exact absurd q2 (w3 j q1)
      · rcases w4 with ⟨v1, rfl, rfl, rfl, rfl, rfl⟩ | ⟨v1, rfl, rfl, rfl, rfl, rfl⟩ <;> rcases q2 with ⟨t1, rfl, rfl, rfl, rfl, rfl⟩ | ⟨t1, rfl, rfl, rfl, rfl, rfl⟩
        · exact ⟨rfl, rfl, rfl, rfl, rfl, hup⟩
        · omega
        · omega
        · obtain ⟨⟨a1, a2, a3, a4, a5⟩, b0, b1, -⟩ := hup
          refine ⟨rfl, rfl, rfl, rfl, rfl, ⟨a1, a2, a3, by omega, a5⟩, b0, b1, zNmU_add u1 j1, zNmU_add u2 w3, fun q hq => ?_⟩
          by_cases e : q = nn
          · subst e; rw [pk_uLs]; exact hp2
          · rw [pk_uLn e]; exact u3 q (by omega)
theorem zsim_old {p0 r r' : Int64} (h : zOld p0 r) (h' : zOldM p0 r') : r = r' := by
  rcases h with ⟨a, rfl⟩ | ⟨a, b, rfl⟩ | ⟨a, b, rfl⟩ <;> rcases h' with ⟨c, rfl⟩ | ⟨c, d, rfl⟩ | ⟨c, d, rfl⟩
  · have eO : (1000000000 : Int64).toInt = 1000000000 := by decide
    have hd : (p0 / 1000000000).toInt = p0.toInt / 1000000000 := by
      rw [zl_div (by decide)]
      show p0.toInt.tdiv 1000000000 = _
      exact z_tdiv_pos a.1
    have hq : 0 ≤ ((p0 / 1000000000).toInt32).toInt ∧ ((p0 / 1000000000).toInt32).toInt < 10 := by
      rw [zl2i (by omega) (by omega)]; omega
    rw [znum_eq hq]
    unfold znumM
    have h3 : (p0 / 1000000000).toInt32.toInt64 = p0 / 1000000000 := by
      refine zl_eq.mpr ?_
      rw [zi_l, zl2i (by omega) (by omega)]
    rw [h3, Int64.add_assoc]
  · exact absurd a c
  · exact absurd a c
  · exact absurd c a
  · rfl
  · exact absurd d b
  · exact absurd c a
  · exact absurd b d
  · rfl
theorem zsim_type {n : Nat} {ch : Nat → Int32} {p0 : Int32} {un : Nat} {uc : Nat → Int32} {un' : Nat} {uc' : Nat → Int32} (h : (n < 60 → un = n + 1 ∧ uc = upd ch n p0) ∧ (¬ n < 60 → un = n ∧ uc = ch)) (h' : (n < 60 → un' = n + 1 ∧ uc' = upd ch n p0) ∧ (¬ n < 60 → un' = n ∧ uc' = ch)) (hn : n ≤ 60) : un = un' ∧ uc = uc' ∧ un ≤ 60 := by
  by_cases q : n < 60
  · obtain ⟨a, b⟩ := h.1 q
    obtain ⟨c, d⟩ := h'.1 q
    exact ⟨by omega, by rw [b, d], by omega⟩
  · obtain ⟨a, b⟩ := h.2 q
    obtain ⟨c, d⟩ := h'.2 q
    exact ⟨by omega, by rw [b, d], by omega⟩
theorem zInv.typed {k nb nq nv ng nt nn un : Nat} {bo : Nat → Int32} {bf bl br qf ql gv gn : Nat → Int64} {gg sd : Nat → Int32} {rf nm : Nat → Int64} (h : zInv k nb nq nv ng nt nn bo bf bl br qf ql gv gn gg sd rf nm) (hu : un ≤ 60) : zInv (k + 1) nb nq nv ng un nn bo bf bl br qf ql gv gn gg sd rf nm :=
  ⟨⟨h.1.1, h.1.2.1, hu, h.1.2.2.2.1, by have := h.1.2.2.2.2; omega⟩, h.2⟩
