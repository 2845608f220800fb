/-! my own rows: preconditions of one form for every method, calls that only read, calls that write, loops -/
def zB (r : Int32) (P : Prop) : Prop := (r = 1 ∧ P) ∨ (r = 0 ∧ ¬ P)
theorem zB_ne {r : Int32} {P : Prop} (h : zB r P) (h0 : ¬ r = 0) : P := by
  rcases h with ⟨-, h⟩ | ⟨h, -⟩
  · exact h
  · exact absurd h h0
theorem zB_eq {r : Int32} {P : Prop} (h : zB r P) (h0 : r = 0) : ¬ P := by
  rcases h with ⟨h, -⟩ | ⟨-, h⟩
  · rw [h] at h0; exact absurd h0 (by decide)
  · exact h
theorem zB_t {P : Prop} (h : P) : zB 1 P := Or.inl ⟨rfl, h⟩
theorem zB_f {P : Prop} (h : ¬ P) : zB 0 P := Or.inr ⟨rfl, h⟩
theorem zB_iff {r : Int32} {P Q : Prop} (h : zB r P) (e : P ↔ Q) : zB r Q := by
  rcases h with ⟨h, g⟩ | ⟨h, g⟩
  · exact Or.inl ⟨h, e.mp g⟩
  · exact Or.inr ⟨h, fun q => g (e.mpr q)⟩
/-- the links inside the nest -/
def zNest : List Cond := [.methodLinkNest RX6 9 yX1_init RX6, .methodLinkNest RX6 18 yX0_init RX6, .methodLinkNest RX6 25 yX3_init RX6, .methodLinkNest RX6 32 yX4_init RX6, .methodLinkNest RX6 39 yX5_init RX6, .methodLinkNest RX2 44 yX6_isService RX6, .methodLinkNest RX3 19 yX6_serialOf RX6, .methodLinkNest RX2 31 yX6_serviceOf RX6, .methodLinkNest RX2 35 yX6_serialOf RX6]
def zNw (U : State) : Prop := ∀ w ∈ zNest, va_Nw w U
theorem zNw_warm {s U : State} (hW : s.WarmedH U.vm) (h : zNw s) : zNw U := by
  intro w hw
  have h0 := h w hw
  simp only [zNest, List.mem_cons, List.not_mem_nil, or_false] at hw
  rcases hw with rfl | rfl | rfl | rfl | rfl | rfl | rfl | rfl | rfl <;> exact va_Nw.warmM hW h0
theorem zNw_same {u U : State} (hv : u.vm = U.vm) (h : zNw u) : zNw U := by
  intro w hw
  have h0 := h w hw
  simp only [zNest, List.mem_cons, List.not_mem_nil, or_false] at hw
  rcases hw with rfl | rfl | rfl | rfl | rfl | rfl | rfl | rfl | rfl <;> exact va_Nw.same rfl hv h0
/-- the weights, the letters -/
def zWt (j : Nat) : Int32 := ([3, 8, 5, 12, 7, 20, 11, 25, 1] : List Int32).getD j 0
def zLt (j : Nat) : Int32 := ([48, 49, 50, 51, 52, 53, 54, 55, 56, 57, 65, 66, 67, 68, 69, 70, 71, 72, 74, 75, 76, 77, 78, 80, 81, 82, 83, 84, 85, 86, 87] : List Int32).getD j 0
/-- addresses that the start gives: the weights, the letters' String, its bytes, the message -/
abbrev zG : Type := Nat × Nat × Nat × Nat
def zS (z : zG) (A : Nat → Prop) (U : State) (H : Heap) : Prop :=
  va_Z "NumberRows2$Form" "WEIGHTS" "[I" (.ref z.1) A U H ∧ va_T .int z.1 9 (fun j => .int (zWt j)) A U H ∧
  va_Z "java/lang/String" "COMPACT_STRINGS" "Z" (.int 1) A U H ∧ va_Zq "jdk/internal/util/Preconditions" "SIOOBE_FORMATTER" "Ljava/util/function/BiFunction;" A U H ∧
  va_O "java/lang/String" z.2.1 A U H ∧ va_OF "java/lang/String" "coder" "B" (.int 0) z.2.1 A U H ∧ va_OF "java/lang/String" "value" "[B" (.ref z.2.2.1) z.2.1 A U H ∧ va_T .byte z.2.2.1 31 (fun j => .int (zLt j)) A U H ∧
  va_Zq "java/lang/Throwable" "UNASSIGNED_STACK" "[Ljava/lang/StackTraceElement;" A U H ∧ va_Zq "java/lang/Throwable" "SUPPRESSED_SENTINEL" "Ljava/util/List;" A U H
theorem zS.moved {z : zG} {A : Nat → Prop} {u U : State} {H : Heap} (hvm : u.vm.Alike U.vm) (h : zS z A u H) : zS z A U H := by
  obtain ⟨h1, h2, h3, h4, h5, h6, h7, h8, h9, h10⟩ := h
  exact ⟨h1.moved hvm, h2.moved hvm, h3.moved hvm, h4.moved hvm, h5.moved hvm, h6.moved hvm, h7.moved hvm, h8.moved hvm, h9.moved hvm, h10.moved hvm⟩
theorem zS.kept {z : zG} {A : Nat → Prop} {U : State} {H H1 : Heap} (h : zS z A U H) (hq : ∀ a : Nat, a < H.size → ¬ A a → H1[a]? = H[a]?) : zS z A U H1 := by
  obtain ⟨h1, h2, h3, h4, h5, h6, h7, h8, h9, h10⟩ := h
  exact ⟨h1.kept hq, h2.kept hq, h3.kept hq, h4.kept hq, h5.kept hq, h6.kept hq, h7.kept hq, h8.kept hq, h9.kept hq, h10.kept hq⟩
theorem zS.narrow {z : zG} {A B : Nat → Prop} {U : State} {H : Heap} (h : zS z A U H) (hAB : ∀ q, B q → A q) : zS z B U H := by
  obtain ⟨h1, h2, h3, h4, h5, h6, h7, h8, h9, h10⟩ := h
  exact ⟨h1.narrow hAB, h2.narrow hAB, h3.narrow hAB, h4.narrow hAB, h5.narrow hAB, h6.narrow hAB, h7.narrow hAB, h8.narrow hAB, h9.narrow hAB, h10.narrow hAB⟩
def zTx : String := "0123456789ABCDEFGHJKLMNPQRSTUVW"
def zMs : String := "a form has the letters 0 to 8"
def zC (z : zG) (A : Nat → Prop) (U : State) : Prop := zNw U ∧ vk_R "NumberRows2$Form" 11 zTx z.2.1 U ∧ vk_R "NumberRows2" 93 zMs z.2.2.2 U ∧ zS z A U U.heap
theorem zC.calling {z : zG} {A : Nat → Prop} {U : State} {g : JFrame} {mk : MethodId} {a : Array Value} (h : zC z A U) : zC z A (U.calling g mk a) := by
  obtain ⟨h1, h2, h3, h4⟩ := h
  exact ⟨zNw_same (u := U) rfl h1, vk_R.same (u := U) rfl h2, vk_R.same (u := U) rfl h3, zS.moved (u := U) (Vm.Alike.refl U.vm) h4⟩
theorem zC.call {z : zG} {A A1 : Nat → Prop} {s U : State} {H : Heap} {locs : List Loc} (h : zC z A s) (hS : va_S A s.heap H locs) (hW : s.WarmedH U.vm) (hU : U.heap = H) (hn : ∀ q, A1 q → A q) : zC z A1 U := by
  obtain ⟨h1, h2, h3, h4⟩ := h
  refine ⟨zNw_warm hW h1, vk_R.warm hW h2, vk_R.warm hW h3, ?_⟩
  rw [hU]
  exact ((h4.kept hS.2.1).moved hW.alike).narrow hn
def zPre (D : va_G) (z : zG) (av : List Value) (sz : Nat) (ws : va_W) (tys : List (ClassId × FieldType)) (A : Nat → Prop) : Array Value → State → Prop :=
  va_Pc av (fun U => U.heap.size = sz ∧ va_P D vwCl ws U.heap ∧ va_K D vwCl tys U ∧ va_D (fun _ => True) ws ∧ zC z A U)
theorem zPre_blind {D : va_G} {z : zG} {av : List Value} {sz : Nat} {ws : va_W} {tys : List (ClassId × FieldType)} {A : Nat → Prop} : FrameBlind (zPre D z av sz ws tys A) := by
  intro a U g mk q
  obtain ⟨q0, q1, qP, qK, qD, qC⟩ := q
  exact ⟨q0, q1, qP, va_K.moved (u := U) (U := U.calling g mk a) (Vm.Alike.refl U.vm) qK, qD, qC.calling⟩
/-- what a call must give: the callee's cells and array classes among the caller's -/
theorem zPre_mk {D : va_G} {z : zG} {av : List Value} {ws wc : va_W} {tys tc : List (ClassId × FieldType)} {A A1 A0 : Nat → Prop} {s : State} {H : Heap} {locs : List Loc} (hP : va_P D vwCl ws H) (hK : va_K D vwCl tys s) (hD : va_D A0 ws) (hC : zC z A s) (hS : va_S A s.heap H locs)
    (is : List Nat) (hn : va_nd is = true) (hi : is.map (fun i => ws[i]?) = wc.map some) (hf : is.filterMap (fun i => ws[i]?) = wc) (js : List Nat) (hj : js.filterMap (fun i => tys[i]?) = tc) (hA : ∀ q, A1 q → A q) :
    ∀ U : State, U.heap = H → s.WarmedH U.vm → zPre D z av H.size wc tc A1 av.toArray U :=
  fun U hU hW => ⟨rfl, by rw [hU], by rw [hU]; exact hP.sub is hf, va_K.moved hW.alike (hK.sub js hj), (hD.sub is hn hi).weaken (fun _ _ _ _ => trivial), hC.call hS hW hU hA⟩
theorem zro_free {A0 : Nat → Prop} {H0 H : Heap} {locs : List Loc} (hS : va_S A0 H0 H locs) (hA : ∀ q, H0.size ≤ q → A0 q) : ∀ q, va_A [] H.size q → A0 q := by
  intro q h
  rcases h with ⟨k, e, h⟩ | h
  · simp at h
  · exact hA q (Nat.le_trans hS.1 h)
theorem zro_keep {D : va_G} {cl : List vw_C} {ws : va_W} {H H1 : Heap} (hP : va_P D cl ws H) (hk : ∀ q : Nat, q < H.size → ¬ va_A [] H.size q → H1[q]? = H[q]?) : va_P D cl ws H1 :=
  hP.kept fun k q h => hk q.1 (hP k q h).lt fun z => by
    rcases z with ⟨k, e, z⟩ | z
    · simp at z
    · exact Nat.not_le.mpr ((hP _ q h).lt) z
section ZC
variable {p : Program} {l : Launch} {e : Env} {R : Room} {s : State} {m : MethodId} {args : Array Value} {below : List Frame} {meth : Method} {c : Code} {H : Heap} {locs : List Loc} {cells slots : Nat} {Q : State → Prop}
variable {pc : Nat} {ls : Array Slot} {rest st0 : List Value} {a : Array Value} {A0 : Nat → Prop} {H0 : Heap} {D : va_G} {ws : va_W}
abbrev zT : Unit → State → Prop := fun _ _ => True
theorem zRo_i {post : Int32 → Unit → Prop} (hr : va_Run p l e R s m args below meth c H locs cells slots 0 0 (F0 m pc ls st0) rest (va_Qi post zT (va_A [] H.size) a) (va_A [] H.size)) (hS : va_S A0 H0 H locs) (hA : ∀ q, H0.size ≤ q → A0 q) (hP : va_P D vwCl ws H)
    (kk : ∀ (r : Int32) (H1 : Heap) (locs1 : List Loc), post r () → va_P D vwCl ws H1 → va_S A0 H0 H1 locs1 → W p l e R s m args below meth c H1 locs1 cells slots Q (F0 m (pc + 3) ls (.int r :: rest))) : W p l e R s m args below meth c H locs cells slots Q (F0 m pc ls st0) :=
  va_calli hr hS (fun q _ h => zro_free hS hA q h) (zro_free hS hA) (fun r u t H1 locs1 ht hvm hw hB hz hk hS1 => kk r H1 locs1 hw (zro_keep hP hk) hS1)
theorem zRo_l {post : Int64 → Unit → Prop} (hr : va_Run p l e R s m args below meth c H locs cells slots 0 0 (F0 m pc ls st0) rest (va_Ql post zT (va_A [] H.size) a) (va_A [] H.size)) (hS : va_S A0 H0 H locs) (hA : ∀ q, H0.size ≤ q → A0 q) (hP : va_P D vwCl ws H)
    (kk : ∀ (r : Int64) (H1 : Heap) (locs1 : List Loc), post r () → va_P D vwCl ws H1 → va_S A0 H0 H1 locs1 → W p l e R s m args below meth c H1 locs1 cells slots Q (F0 m (pc + 3) ls (.long r :: rest))) : W p l e R s m args below meth c H locs cells slots Q (F0 m pc ls st0) :=
  va_calll hr hS (fun q _ h => zro_free hS hA q h) (zro_free hS hA) (fun r u t H1 locs1 ht hvm hw hB hz hk hS1 => kk r H1 locs1 hw (zro_keep hP hk) hS1)
theorem zRo_v {post : Unit → Prop} (hr : va_Run p l e R s m args below meth c H locs cells slots 0 0 (F0 m pc ls st0) rest (va_Qv post zT (va_A [] H.size) a) (va_A [] H.size)) (hS : va_S A0 H0 H locs) (hA : ∀ q, H0.size ≤ q → A0 q) (hP : va_P D vwCl ws H)
    (kk : ∀ (H1 : Heap) (locs1 : List Loc), post () → va_P D vwCl ws H1 → va_S A0 H0 H1 locs1 → W p l e R s m args below meth c H1 locs1 cells slots Q (F0 m (pc + 3) ls rest)) : W p l e R s m args below meth c H locs cells slots Q (F0 m pc ls st0) :=
  va_callv hr hS (fun q _ h => zro_free hS hA q h) (zro_free hS hA) (fun u t H1 locs1 ht hvm hw hB hz hk hS1 => kk H1 locs1 hw (zro_keep hP hk) hS1)
/-- what a writing method leaves -/
def zAt {S : Type} (D : va_G) (tys : List (ClassId × FieldType)) (A : Nat → Prop) (wf : S → va_W) (u : S) (t : State) : Prop := va_P D vwCl (wf u) t.heap ∧ va_K D vwCl tys t ∧ va_D A (wf u)
variable {S : Type} {wf : S → va_W} {wc wr : va_W} {tc : List (ClassId × FieldType)}
theorem zMu_i {post : Int32 → S → Prop} (hr : va_Run p l e R s m args below meth c H locs cells slots 0 0 (F0 m pc ls st0) rest (va_Qi post (zAt D tc (va_A wc H.size) wf) (va_A wc H.size) a) (va_A wc H.size)) (hS : va_S A0 H0 H locs) (hA : ∀ q, H0.size ≤ q → A0 q) (hP : va_P D vwCl ws H) (hD : va_D A0 ws)
    (isC isR : List Nat) (hC : isC.map (fun i => ws[i]?) = wc.map some) (hR : isR.map (fun i => ws[i]?) = wr.map some) (hn : va_nd isR = true) (hdis : ∀ i ∈ isR, i ∉ isC)
    (kk : ∀ (r : Int32) (u : S) (H1 : Heap) (locs1 : List Loc), post r u → va_P D vwCl (wr ++ wf u) H1 → va_D A0 (wr ++ wf u) → va_S A0 H0 H1 locs1 → W p l e R s m args below meth c H1 locs1 cells slots Q (F0 m (pc + 3) ls (.int r :: rest))) : W p l e R s m args below meth c H locs cells slots Q (F0 m pc ls st0) := by
  have hFc := va_free (wc := wc) hD hS hA isC hC
  refine va_calli hr hS (fun q _ h => hFc q h) hFc (fun r u t H1 locs1 ht hvm hw hB hz hk hS1 => ?_)
  obtain ⟨hP1, hK1, hD1⟩ := hB
  rw [ht] at hP1
  obtain ⟨hP, hD⟩ := va_join hP hD isC isR hC hR hn hdis hk hFc hP1 hD1
  exact kk r u H1 locs1 hw hP hD hS1
theorem zMu_l {post : Int64 → S → Prop} (hr : va_Run p l e R s m args below meth c H locs cells slots 0 0 (F0 m pc ls st0) rest (va_Ql post (zAt D tc (va_A wc H.size) wf) (va_A wc H.size) a) (va_A wc H.size)) (hS : va_S A0 H0 H locs) (hA : ∀ q, H0.size ≤ q → A0 q) (hP : va_P D vwCl ws H) (hD : va_D A0 ws)
    (isC isR : List Nat) (hC : isC.map (fun i => ws[i]?) = wc.map some) (hR : isR.map (fun i => ws[i]?) = wr.map some) (hn : va_nd isR = true) (hdis : ∀ i ∈ isR, i ∉ isC)
    (kk : ∀ (r : Int64) (u : S) (H1 : Heap) (locs1 : List Loc), post r u → va_P D vwCl (wr ++ wf u) H1 → va_D A0 (wr ++ wf u) → va_S A0 H0 H1 locs1 → W p l e R s m args below meth c H1 locs1 cells slots Q (F0 m (pc + 3) ls (.long r :: rest))) : W p l e R s m args below meth c H locs cells slots Q (F0 m pc ls st0) := by
  have hFc := va_free (wc := wc) hD hS hA isC hC
  refine va_calll hr hS (fun q _ h => hFc q h) hFc (fun r u t H1 locs1 ht hvm hw hB hz hk hS1 => ?_)
  obtain ⟨hP1, hK1, hD1⟩ := hB
  rw [ht] at hP1
  obtain ⟨hP, hD⟩ := va_join hP hD isC isR hC hR hn hdis hk hFc hP1 hD1
  exact kk r u H1 locs1 hw hP hD hS1
theorem zMu_v {post : S → Prop} (hr : va_Run p l e R s m args below meth c H locs cells slots 0 0 (F0 m pc ls st0) rest (va_Qv post (zAt D tc (va_A wc H.size) wf) (va_A wc H.size) a) (va_A wc H.size)) (hS : va_S A0 H0 H locs) (hA : ∀ q, H0.size ≤ q → A0 q) (hP : va_P D vwCl ws H) (hD : va_D A0 ws)
    (isC isR : List Nat) (hC : isC.map (fun i => ws[i]?) = wc.map some) (hR : isR.map (fun i => ws[i]?) = wr.map some) (hn : va_nd isR = true) (hdis : ∀ i ∈ isR, i ∉ isC)
    (kk : ∀ (u : S) (H1 : Heap) (locs1 : List Loc), post u → va_P D vwCl (wr ++ wf u) H1 → va_D A0 (wr ++ wf u) → va_S A0 H0 H1 locs1 → W p l e R s m args below meth c H1 locs1 cells slots Q (F0 m (pc + 3) ls rest)) : W p l e R s m args below meth c H locs cells slots Q (F0 m pc ls st0) := by
  have hFc := va_free (wc := wc) hD hS hA isC hC
  refine va_callv hr hS (fun q _ h => hFc q h) hFc (fun u t H1 locs1 ht hvm hw hB hz hk hS1 => ?_)
  obtain ⟨hP1, hK1, hD1⟩ := hB
  rw [ht] at hP1
  obtain ⟨hP, hD⟩ := va_join hP hD isC isR hC hR hn hdis hk hFc hP1 hD1
  exact kk u H1 locs1 hw hP hD hS1
/-- loops: a state x of the loop, a measure that falls; the world and the locals are functions of x -/
theorem zLoop {σ : Type} {nL head : Nat} {A1 : Nat → Prop} (μ : σ → Nat) (lv : σ → List (Nat × Value)) (wf : σ → va_W) (I : σ → Prop)
    (hstep : ∀ (x : σ) (H : Heap) (locs : List Loc) (ls : Array Slot), I x → va_P D vwCl (wf x) H → va_D A1 (wf x) → va_S A0 H0 H locs → lv_has ls nL (lv x) →
      (∀ (x' : σ) (H' : Heap) (locs' : List Loc) (ls' : Array Slot), μ x' < μ x → I x' → va_P D vwCl (wf x') H' → va_D A1 (wf x') → va_S A0 H0 H' locs' → lv_has ls' nL (lv x') → W p l e R s m args below meth c H' locs' cells slots Q (F0 m head ls' [])) →
      W p l e R s m args below meth c H locs cells slots Q (F0 m head ls []))
    (x : σ) (h : I x) (hP : va_P D vwCl (wf x) H) (hD : va_D A1 (wf x)) (hS : va_S A0 H0 H locs) (hl : lv_has ls nL (lv x)) : W p l e R s m args below meth c H locs cells slots Q (F0 m head ls []) := by
  have key : ∀ (n : Nat) (x : σ) (H : Heap) (locs : List Loc) (ls : Array Slot), μ x < n → I x → va_P D vwCl (wf x) H → va_D A1 (wf x) → va_S A0 H0 H locs → lv_has ls nL (lv x) → W p l e R s m args below meth c H locs cells slots Q (F0 m head ls []) := by
    intro n
    induction n with
    | zero => intro x H locs ls hn; exact absurd hn (Nat.not_lt_zero _)
    | succ n ih =>
      intro x H locs ls hn hI hP hD hS hl
      exact hstep x H locs ls hI hP hD hS hl (fun x' H' locs' ls' hm hI' hP' hD' hS' hl' => ih x' H' locs' ls' (by omega) hI' hP' hD' hS' hl')
  exact key _ x H locs ls (Nat.lt_succ_self _) h hP hD hS hl
end ZC
section ZA
variable {p : Program} {l : Launch} {e : Env} {R : Room} {s : State} {m : MethodId} {args : Array Value} {below : List Frame} {meth : Method} {c : Code} {H : Heap} {locs : List Loc} {cells slots : Nat} {Q : State → Prop}
variable {cc : ByteArray} {pc : Nat} {ls : Array Slot} {rest : List Value} {D : va_G} {cl : List vw_C} {A : Nat → Prop} {a : Nat} {tys : List (ClassId × FieldType)} {ws : va_W} {H0 : Heap}
theorem z_iald (hexec : p.tables.exec = Jvm.exec) (hb : c.code = cc) (hK : va_K D cl tys s) (hP : va_P D cl ws H) (q0 t0 : Nat) {cA : ClassId} {n : Nat} {f : Nat → Int32} (ha : ws[q0]? = some (a, .inl (cA, n, .inl f))) (ht : tys[t0]? = some (cA, .int)) {k : Nat} (hk : k < n) (hn : n < 2 ^ 31) (hdg : decode cc pc = .ok (.iaload, 1))
    (kk : W p l e R s m args below meth c H locs cells slots Q (F0 m (pc + 1) ls (.int (f k) :: rest))) : W p l e R s m args below meth c H locs cells slots Q (F0 m pc ls (.int (nI k) :: .ref a :: rest)) :=
  va_iald hexec hb hK hP q0 t0 ha ht (vp_in_nI hk hn) hdg (by rw [nI_clamp (Nat.lt_trans hk hn)]; exact kk)
theorem z_zald (hexec : p.tables.exec = Jvm.exec) (hb : c.code = cc) (hK : va_K D cl tys s) (hP : va_P D cl ws H) (q0 t0 : Nat) {cA : ClassId} {n : Nat} {f : Nat → Int32} (ha : ws[q0]? = some (a, .inl (cA, n, .inl f))) (ht : tys[t0]? = some (cA, .boolean)) {k : Nat} (hk : k < n) (hn : n < 2 ^ 31) (hdg : decode cc pc = .ok (.baload, 1))
    (kk : W p l e R s m args below meth c H locs cells slots Q (F0 m (pc + 1) ls (.int (f k) :: rest))) : W p l e R s m args below meth c H locs cells slots Q (F0 m pc ls (.int (nI k) :: .ref a :: rest)) :=
  va_zald hexec hb hK hP q0 t0 ha ht (vp_in_nI hk hn) hdg (by rw [nI_clamp (Nat.lt_trans hk hn)]; exact kk)
theorem z_lald (hexec : p.tables.exec = Jvm.exec) (hb : c.code = cc) (hK : va_K D cl tys s) (hP : va_P D cl ws H) (q0 t0 : Nat) {cA : ClassId} {n : Nat} {f : Nat → Int64} (ha : ws[q0]? = some (a, .inl (cA, n, .inr (.inl f)))) (ht : tys[t0]? = some (cA, .long)) {k : Nat} (hk : k < n) (hn : n < 2 ^ 31) (hdg : decode cc pc = .ok (.laload, 1))
    (kk : W p l e R s m args below meth c H locs cells slots Q (F0 m (pc + 1) ls (.long (f k) :: rest))) : W p l e R s m args below meth c H locs cells slots Q (F0 m pc ls (.int (nI k) :: .ref a :: rest)) :=
  va_lald hexec hb hK hP q0 t0 ha ht (vp_in_nI hk hn) hdg (by rw [nI_clamp (Nat.lt_trans hk hn)]; exact kk)
theorem z_iast (hexec : p.tables.exec = Jvm.exec) (hb : c.code = cc) (hK : va_K D cl tys s) (hP : va_P D cl ws H) (hD : va_D A ws) (hS : va_S A H0 H locs) (q0 t0 : Nat) {cA : ClassId} {n : Nat} {f : Nat → Int32} (ha : ws[q0]? = some (a, .inl (cA, n, .inl f))) (ht : tys[t0]? = some (cA, .int)) {k : Nat} {x : Int32} (hk : k < n) (hn : n < 2 ^ 31) (hdg : decode cc pc = .ok (.iastore, 1))
    (kk : ∀ (H1 : Heap) (locs1 : List Loc), va_P D cl (ws.set q0 (a, .inl (cA, n, .inl (upd f k x)))) H1 → va_D A (ws.set q0 (a, .inl (cA, n, .inl (upd f k x)))) → va_S A H0 H1 locs1 → W p l e R s m args below meth c H1 locs1 cells slots Q (F0 m (pc + 1) ls rest)) : W p l e R s m args below meth c H locs cells slots Q (F0 m pc ls (.int x :: .int (nI k) :: .ref a :: rest)) :=
  va_iast hexec hb hK hP hD hS q0 t0 ha ht (vp_in_nI hk hn) hdg (by rw [nI_clamp (Nat.lt_trans hk hn)]; exact kk)
theorem z_last (hexec : p.tables.exec = Jvm.exec) (hb : c.code = cc) (hK : va_K D cl tys s) (hP : va_P D cl ws H) (hD : va_D A ws) (hS : va_S A H0 H locs) (q0 t0 : Nat) {cA : ClassId} {n : Nat} {f : Nat → Int64} (ha : ws[q0]? = some (a, .inl (cA, n, .inr (.inl f)))) (ht : tys[t0]? = some (cA, .long)) {k : Nat} {x : Int64} (hk : k < n) (hn : n < 2 ^ 31) (hdg : decode cc pc = .ok (.lastore, 1))
    (kk : ∀ (H1 : Heap) (locs1 : List Loc), va_P D cl (ws.set q0 (a, .inl (cA, n, .inr (.inl (vp_updL f k x))))) H1 → va_D A (ws.set q0 (a, .inl (cA, n, .inr (.inl (vp_updL f k x))))) → va_S A H0 H1 locs1 → W p l e R s m args below meth c H1 locs1 cells slots Q (F0 m (pc + 1) ls rest)) : W p l e R s m args below meth c H locs cells slots Q (F0 m pc ls (.long x :: .int (nI k) :: .ref a :: rest)) :=
  va_last hexec hb hK hP hD hS q0 t0 ha ht (vp_in_nI hk hn) hdg (by rw [nI_clamp (Nat.lt_trans hk hn)]; exact kk)
theorem z_zast (hexec : p.tables.exec = Jvm.exec) (hb : c.code = cc) (hK : va_K D cl tys s) (hP : va_P D cl ws H) (hD : va_D A ws) (hS : va_S A H0 H locs) (q0 t0 : Nat) {cA : ClassId} {n : Nat} {f : Nat → Int32} (ha : ws[q0]? = some (a, .inl (cA, n, .inl f))) (ht : tys[t0]? = some (cA, .boolean)) {k : Nat} {x : Int32} (hk : k < n) (hn : n < 2 ^ 31) (hdg : decode cc pc = .ok (.bastore, 1))
    (kk : ∀ (H1 : Heap) (locs1 : List Loc), va_P D cl (ws.set q0 (a, .inl (cA, n, .inl (upd f k (vp_nar .boolean x))))) H1 → va_D A (ws.set q0 (a, .inl (cA, n, .inl (upd f k (vp_nar .boolean x))))) → va_S A H0 H1 locs1 → W p l e R s m args below meth c H1 locs1 cells slots Q (F0 m (pc + 1) ls rest)) : W p l e R s m args below meth c H locs cells slots Q (F0 m pc ls (.int x :: .int (nI k) :: .ref a :: rest)) :=
  va_zast hexec hb hK hP hD hS q0 t0 ha ht (vp_in_nI hk hn) hdg (by rw [nI_clamp (Nat.lt_trans hk hn)]; exact kk)
end ZA
