/-! class and reference side by side -/
def zGivEq (nv : Nat) (gv : Nat → Int64) (ng : Nat) (gn : Nat → Int64) (gg : Nat → Int32) : Prop := ∀ F : Int64 → Bool, zN F gv nv = zcnt (fun j => decide (gg j = 0) && F (gn j)) ng
def zApart (n : Nat) (bf bl : Nat → Int64) : Prop := ∀ i j, i < n → j < n → i ≠ j → (bl i).toInt < (bf j).toInt ∨ (bl j).toInt < (bf i).toInt
def zFrs (nb : Nat) (bf bl br : Nat → Int64) (nq : Nat) (qf ql : Nat → Int64) (ng : Nat) (gn : Nat → Int64) : Prop := ∀ j, j < nb → (bf j).toInt ≤ (br j).toInt ∧ (br j).toInt ≤ 27512614111 ∧ ∀ x : Int64, bf j ≤ x → x < br j → zBar nq qf ql x ∨ zG9 ng gn x
def zHome (nb : Nat) (bf bl br : Nat → Int64) (ng : Nat) (gn : Nat → Int64) : Prop := ∀ k, k < ng → ∃ j, j < nb ∧ (bf j).toInt ≤ (zser (gn k)).toInt ∧ (zser (gn k)).toInt ≤ (bl j).toInt ∧ (zser (gn k)).toInt < (br j).toInt
def zPos (n : Nat) (f : Nat → Int64) : Prop := ∀ k, k < n → 0 < (f k).toInt
def zNmU (n : Nat) (sd : Nat → Int32) (rf : Nat → Int64) : Prop := ∀ i j, i < n → j < n → sd i = sd j → rf i = rf j → i = j
def zInv (k nb nq nv ng nt nn : Nat) (bo : Nat → Int32) (bf bl br qf ql gv gn : Nat → Int64) (gg : Nat → Int32) (sd : Nat → Int32) (rf nm : Nat → Int64) : Prop :=
  (nb ≤ 50 ∧ nq ≤ 50 ∧ nt ≤ 60 ∧ nn ≤ 300 ∧ ng ≤ k) ∧ (zBwf nb bf bl ∧ zTop nq ql ∧ zApart nb bf bl) ∧ (zGivEq nv gv ng gn gg ∧ zFrs nb bf bl br nq qf ql ng gn ∧ zHome nb bf bl br ng gn ∧ zPos ng gn) ∧ (zNmU nn sd rf ∧ zNmU nn sd nm ∧ zPos nn nm)
theorem zInv_0 : zInv 0 0 0 0 0 0 0 (fun _ => 0) (fun _ => 0) (fun _ => 0) (fun _ => 0) (fun _ => 0) (fun _ => 0) (fun _ => 0) (fun _ => 0) (fun _ => 0) (fun _ => 0) (fun _ => 0) (fun _ => 0) :=
  ⟨⟨by omega, by omega, by omega, by omega, by omega⟩, ⟨fun j h => by omega, fun j h => by omega, fun i j h => by omega⟩, ⟨fun _ => rfl, fun j h => by omega, fun j h => by omega, fun j h => by omega⟩, fun i j h => by omega, fun i j h => by omega, fun j h => by omega⟩
theorem zInv.up {k nb nq nv ng nt nn : Nat} {bo : Nat → Int32} {bf bl br qf ql gv gn : Nat → Int64} {gg sd : Nat → Int32} {rf nm : Nat → Int64} (h : zInv k nb nq nv ng nt nn bo bf bl br qf ql gv gn gg sd rf nm) : zInv (k + 1) nb nq nv ng nt nn bo bf bl br qf ql gv gn gg sd rf nm :=
  ⟨⟨h.1.1, h.1.2.1, h.1.2.2.1, h.1.2.2.2.1, by have := h.1.2.2.2.2; omega⟩, h.2⟩
theorem zGivEq.le {nv : Nat} {gv : Nat → Int64} {ng : Nat} {gn : Nat → Int64} {gg : Nat → Int32} (h : zGivEq nv gv ng gn gg) : nv ≤ ng := by
  have h1 := h (fun _ => true)
  have h2 : zN (fun _ => true) gv nv = nv := by
    have : ∀ n, zcnt (fun _ => true) n = n := by
      intro n
      induction n with
      | zero => rfl
      | succ n ih => show zcnt _ n + _ = _; rw [ih]; rfl
    exact this nv
  rw [← h2, h1]; exact zcnt_le _ _
theorem zGivEq.iff {nv : Nat} {gv : Nat → Int64} {ng : Nat} {gn : Nat → Int64} {gg : Nat → Int32} (h : zGivEq nv gv ng gn gg) (x : Int64) : (∃ j, j < nv ∧ gv j = x) ↔ zGiv ng gn gg x := by
  have h1 := h (fun y => decide (y = x))
  have a : 0 < zN (fun y => decide (y = x)) gv nv ↔ ∃ j, j < nv ∧ gv j = x := by
    unfold zN; rw [zcnt_pos]; simp
  have b : 0 < zcnt (fun j => decide (gg j = 0) && decide (gn j = x)) ng ↔ zGiv ng gn gg x := by
    rw [zcnt_pos]
    constructor
    · rintro ⟨j, q1, q2⟩
      simp at q2
      exact ⟨j, q1, q2.2, q2.1⟩
    · rintro ⟨j, q1, q2, q3⟩
      exact ⟨j, q1, by simp [q2, q3]⟩
  rw [← a, ← b, h1]
theorem zB_fun {r r' : Int32} {P Q : Prop} (h : zB r P) (h' : zB r' Q) (e : P ↔ Q) : r = r' := by
  rcases h with ⟨h, g⟩ | ⟨h, g⟩ <;> rcases h' with ⟨h', g'⟩ | ⟨h', g'⟩
  · rw [h, h']
  · exact absurd (e.mp g) g'
  · exact absurd (e.mpr g') g
  · rw [h, h']
theorem zG9_up {ng : Nat} {gn : Nat → Int64} {v x : Int64} (h : zG9 ng gn x) : zG9 (ng + 1) (vp_updL gn ng v) x := by
  obtain ⟨k, h1, h2⟩ := h
  exact ⟨k, by omega, by rw [pk_uLn (by omega)]; exact h2⟩
theorem zBar_up {nq : Nat} {qf ql : Nat → Int64} {a b x : Int64} (h : zBar nq qf ql x) : zBar (nq + 1) (vp_updL qf nq a) (vp_updL ql nq b) x := by
  obtain ⟨k, h1, h2, h3⟩ := h
  exact ⟨k, by omega, by rw [pk_uLn (by omega)]; exact h2, by rw [pk_uLn (by omega)]; exact h3⟩
/-- block -/
theorem zsim_block {k nb nq nv ng nt nn : Nat} {bo : Nat → Int32} {bf bl br qf ql gv gn : Nat → Int64} {gg sd : Nat → Int32} {rf nm : Nat → Int64} {p0 : Int32} {p1 p2 : Int64} {r r' : Int32} {un : Nat} {uo : Nat → Int32} {uf ul ur : Nat → Int64} {un' : Nat} {uo' : Nat → Int32} {uf' ul' : Nat → Int64}
    (h : zInv k nb nq nv ng nt nn bo bf bl br qf ql gv gn gg sd rf nm)
    (hc : (¬ zOkB p0 p1 p2 ∧ r = -102 ∧ un = nb ∧ uo = bo ∧ uf = bf ∧ ul = bl ∧ ur = br) ∨ (zOkB p0 p1 p2 ∧ zTch nb bf bl p1 p2 ∧ r = -103 ∧ un = nb ∧ uo = bo ∧ uf = bf ∧ ul = bl ∧ ur = br) ∨ (zOkB p0 p1 p2 ∧ ¬ zTch nb bf bl p1 p2 ∧ 50 ≤ nb ∧ r = -104 ∧ un = nb ∧ uo = bo ∧ uf = bf ∧ ul = bl ∧ ur = br) ∨ (zOkB p0 p1 p2 ∧ ¬ zTch nb bf bl p1 p2 ∧ nb < 50 ∧ r = nI (nb + 1) ∧ un = nb + 1 ∧ uo = upd bo nb p0 ∧ uf = vp_updL bf nb p1 ∧ ul = vp_updL bl nb p2 ∧ ur = vp_updL br nb p1))
    (hm : (¬ zOkB p0 p1 p2 ∧ r' = -102 ∧ un' = nb ∧ uo' = bo ∧ uf' = bf ∧ ul' = bl) ∨ (zOkB p0 p1 p2 ∧ zTch nb bf bl p1 p2 ∧ r' = -103 ∧ un' = nb ∧ uo' = bo ∧ uf' = bf ∧ ul' = bl) ∨ (zOkB p0 p1 p2 ∧ ¬ zTch nb bf bl p1 p2 ∧ nb = 50 ∧ r' = -104 ∧ un' = nb ∧ uo' = bo ∧ uf' = bf ∧ ul' = bl) ∨ (zOkB p0 p1 p2 ∧ ¬ zTch nb bf bl p1 p2 ∧ ¬ nb = 50 ∧ r' = nI (nb + 1) ∧ un' = nb + 1 ∧ uo' = upd bo nb p0 ∧ uf' = vp_updL bf nb p1 ∧ ul' = vp_updL bl nb p2)) :
    r = r' ∧ un = un' ∧ uo = uo' ∧ uf = uf' ∧ ul = ul' ∧ zInv (k + 1) un nq nv ng nt nn uo uf ul ur qf ql gv gn gg sd rf nm := by
  have hn := h.1.1
  have hup := h.up
  rcases hc with ⟨c1, rfl, rfl, rfl, rfl, rfl, rfl⟩ | ⟨c1, c2, rfl, rfl, rfl, rfl, rfl, rfl⟩ | ⟨c1, c2, c3, rfl, rfl, rfl, rfl, rfl, rfl⟩ | ⟨c1, c2, c3, rfl, rfl, rfl, rfl, rfl, rfl⟩ <;>
  rcases hm with ⟨d1, rfl, rfl, rfl, rfl, rfl⟩ | ⟨d1, d2, rfl, rfl, rfl, rfl, rfl⟩ | ⟨d1, d2, d3, rfl, rfl, rfl, rfl, rfl⟩ | ⟨d1, d2, d3, rfl, rfl, rfl, rfl, rfl⟩ <;>
  first
  | exact ⟨rfl, rfl, rfl, rfl, rfl, hup⟩
  | exact absurd c1 d1
  | exact absurd d1 c1
  | exact absurd c2 d2
  | exact absurd d2 c2
  | (exfalso; omega)
  | skip
  refine ⟨rfl, rfl, rfl, rfl, rfl, ?_⟩
  obtain ⟨⟨a1, a2, a3, a4, a5⟩, ⟨b1, b2, b3⟩, ⟨e1, e2, e3, e4⟩, e5⟩ := hup
  have hsep : ∀ j, j < nb → (bl j).toInt < p1.toInt ∨ p2.toInt < (bf j).toInt := by
    intro j hj
    by_cases q : p1 ≤ bl j
    · right
      have : ¬ bf j ≤ p2 := fun q2 => c2 ⟨j, hj, q, q2⟩
      rw [zl_le] at this; omega
    · left; rw [zl_le] at q; omega
  unfold zOkB at c1
  refine ⟨⟨by omega, a2, a3, a4, a5⟩, ⟨?_, b2, ?_⟩, ⟨e1, ?_, ?_, e4⟩, e5⟩
  · intro j hj
    by_cases q : j = nb
    · subst q; rw [pk_uLs, pk_uLs]; omega
    · rw [pk_uLn q, pk_uLn q]; exact b1 j (by omega)
  · intro i j hi hj hij
    by_cases q : i = nb
    · subst q
      rw [pk_uLs, pk_uLs, pk_uLn (by omega), pk_uLn (by omega)]
      have := hsep j (by omega); omega
    · by_cases w : j = nb
      · subst w
        rw [pk_uLs, pk_uLs, pk_uLn q, pk_uLn q]
        have := hsep i (by omega); omega
      · rw [pk_uLn q, pk_uLn q, pk_uLn w, pk_uLn w]; exact b3 i j (by omega) (by omega) hij
  · intro j hj
    by_cases q : j = nb
    · subst q
      rw [pk_uLs, pk_uLs]
      exact ⟨by omega, by omega, fun x q1 q2 => by rw [zl_le] at q1; rw [zl_lt] at q2; omega⟩
    · rw [pk_uLn q, pk_uLn q]; exact e2 j (by omega)
  · intro i hi
    obtain ⟨j, q1, q2⟩ := e3 i hi
    exact ⟨j, by omega, by rw [pk_uLn (by omega), pk_uLn (by omega), pk_uLn (by omega)]; exact q2⟩
/-- bar -/
theorem zsim_bar {k nb nq nv ng nt nn : Nat} {bo : Nat → Int32} {bf bl br qf ql gv gn : Nat → Int64} {gg sd : Nat → Int32} {rf nm : Nat → Int64} {p0 p1 : Int64} {r r' : Int32} {uq : Nat} {uf ul : Nat → Int64} {un : Nat} {ug : Nat → Int64} {uq' : Nat} {uf' ul' : Nat → Int64} {uh : Nat → Int32}
    (h : zInv k nb nq nv ng nt nn bo bf bl br qf ql gv gn gg sd rf nm)
    (hc : (¬ zOkR p0 p1 ∧ r = -102 ∧ uq = nq ∧ uf = qf ∧ ul = ql ∧ un = nv ∧ ug = gv) ∨ (zOkR p0 p1 ∧ 50 ≤ nq ∧ r = -104 ∧ uq = nq ∧ uf = qf ∧ ul = ql ∧ un = nv ∧ ug = gv) ∨ (zOkR p0 p1 ∧ nq < 50 ∧ (uq = nq + 1 ∧ uf = vp_updL qf nq p0 ∧ ul = vp_updL ql nq p1) ∧ zRow p0 p1 nv gv un ug ∧ r = nI (nv - un)))
    (hm : (¬ zOkR p0 p1 ∧ r' = -102 ∧ uq' = nq ∧ uf' = qf ∧ ul' = ql ∧ uh = gg) ∨ (zOkR p0 p1 ∧ nq = 50 ∧ r' = -104 ∧ uq' = nq ∧ uf' = qf ∧ ul' = ql ∧ uh = gg) ∨ (zOkR p0 p1 ∧ ¬ nq = 50 ∧ uq' = nq + 1 ∧ uf' = vp_updL qf nq p0 ∧ ul' = vp_updL ql nq p1 ∧ ∃ c9, zMR p0 p1 ng gn gg uh ng c9 ∧ r' = nI c9)) :
    r = r' ∧ uq = uq' ∧ uf = uf' ∧ ul = ul' ∧ zInv (k + 1) nb uq un ng nt nn bo bf bl br uf ul ug gn uh sd rf nm := by
  have hn := h.1.2.1
  have hup := h.up
  rcases hc with ⟨c1, rfl, rfl, rfl, rfl, rfl, rfl⟩ | ⟨c1, c2, rfl, rfl, rfl, rfl, rfl, rfl⟩ | ⟨c1, c2, ⟨rfl, rfl, rfl⟩, c3, rfl⟩ <;>
  rcases hm with ⟨d1, rfl, rfl, rfl, rfl, rfl⟩ | ⟨d1, d2, rfl, rfl, rfl, rfl, rfl⟩ | ⟨d1, d2, rfl, rfl, rfl, c9, d3, rfl⟩ <;>
  first
  | exact ⟨rfl, rfl, rfl, rfl, hup⟩
  | exact absurd c1 d1
  | exact absurd d1 c1
  | (exfalso; omega)
  | skip
  obtain ⟨⟨a1, a2, a3, a4, a5⟩, ⟨b1, b2, b3⟩, ⟨e1, e2, e3, e4⟩, e5⟩ := hup
  obtain ⟨f1, f2, f3⟩ := c3
  obtain ⟨g1, g2, g3, g4⟩ := d3
  have hcnt : nv - un = c9 := by rw [f2, e1 (zIn p0 p1), g2]
  refine ⟨by rw [hcnt], rfl, rfl, rfl, ⟨a1, by omega, a3, a4, a5⟩, ⟨b1, ?_, b3⟩, ⟨?_, ?_, e3, e4⟩, e5⟩
  · intro j hj
    by_cases q : j = nq
    · subst q; rw [pk_uLs]; unfold zOkR at c1; omega
    · rw [pk_uLn q]; exact b2 j (by omega)
  · intro F
    rw [f3 F, e1 (fun x => F x && !zIn p0 p1 x)]
    refine zcnt_congr (fun j hj => ?_)
    have := g3 j hj
    by_cases q : gg j = 0
    · cases w : zIn p0 p1 (gn j)
      · rw [decide_eq_true (this.mpr ⟨q, w⟩), decide_eq_true q]; simp
      · have hu : ¬ uh j = 0 := fun v => by have := (this.mp v).2; rw [w] at this; cases this
        rw [decide_eq_false hu]; simp
    · have hu : ¬ uh j = 0 := fun v => q (this.mp v).1
      rw [decide_eq_false hu, decide_eq_false q]; simp
  · intro j hj
    obtain ⟨q1, q2, q3⟩ := e2 j hj
    exact ⟨q1, q2, fun x w1 w2 => (q3 x w1 w2).imp zBar_up id⟩
