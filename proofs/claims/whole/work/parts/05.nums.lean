/-! my own rows on numbers -/
theorem zl_lo (x : Int64) : -9223372036854775808 ≤ x.toInt := by have := Int64.le_toInt x; omega
theorem zl_hi (x : Int64) : x.toInt < 9223372036854775808 := by have := Int64.toInt_lt x; omega
theorem zi_lo (x : Int32) : -2147483648 ≤ x.toInt := by have := Int32.le_toInt x; omega
theorem zi_hi (x : Int32) : x.toInt < 2147483648 := by have := Int32.toInt_lt x; omega
theorem z_bm {v : Int} (h1 : -9223372036854775808 ≤ v) (h2 : v < 9223372036854775808) : v.bmod (2 ^ 64) = v := by
  rw [Int.bmod_def]; omega
theorem z_bm32 {v : Int} (h1 : -2147483648 ≤ v) (h2 : v < 2147483648) : v.bmod (2 ^ 32) = v := by
  rw [Int.bmod_def]; omega
theorem zl_add {x y : Int64} (h1 : -9223372036854775808 ≤ x.toInt + y.toInt) (h2 : x.toInt + y.toInt < 9223372036854775808) : (x + y).toInt = x.toInt + y.toInt := by
  rw [Int64.toInt_add]; exact z_bm h1 h2
theorem zl_sub {x y : Int64} (h1 : -9223372036854775808 ≤ x.toInt - y.toInt) (h2 : x.toInt - y.toInt < 9223372036854775808) : (x - y).toInt = x.toInt - y.toInt := by
  rw [Int64.toInt_sub]; exact z_bm h1 h2
theorem zl_mul {x y : Int64} (h1 : -9223372036854775808 ≤ x.toInt * y.toInt) (h2 : x.toInt * y.toInt < 9223372036854775808) : (x * y).toInt = x.toInt * y.toInt := by
  rw [Int64.toInt_mul]; exact z_bm h1 h2
theorem zl_le {x y : Int64} : x ≤ y ↔ x.toInt ≤ y.toInt := Int64.le_iff_toInt_le
theorem zl_lt {x y : Int64} : x < y ↔ x.toInt < y.toInt := Int64.lt_iff_toInt_lt
theorem zl_eq {x y : Int64} : x = y ↔ x.toInt = y.toInt := Int64.toInt_inj.symm
theorem zi_le {x y : Int32} : x ≤ y ↔ x.toInt ≤ y.toInt := Int32.le_iff_toInt_le
theorem zi_lt {x y : Int32} : x < y ↔ x.toInt < y.toInt := Int32.lt_iff_toInt_lt
theorem zi_eq {x y : Int32} : x = y ↔ x.toInt = y.toInt := Int32.toInt_inj.symm
theorem zi_add {x y : Int32} (h1 : -2147483648 ≤ x.toInt + y.toInt) (h2 : x.toInt + y.toInt < 2147483648) : (x + y).toInt = x.toInt + y.toInt := by
  rw [Int32.toInt_add]; exact z_bm32 h1 h2
theorem zi_sub {x y : Int32} (h1 : -2147483648 ≤ x.toInt - y.toInt) (h2 : x.toInt - y.toInt < 2147483648) : (x - y).toInt = x.toInt - y.toInt := by
  rw [Int32.toInt_sub]; exact z_bm32 h1 h2
theorem zi_mul {x y : Int32} (h1 : -2147483648 ≤ x.toInt * y.toInt) (h2 : x.toInt * y.toInt < 2147483648) : (x * y).toInt = x.toInt * y.toInt := by
  rw [Int32.toInt_mul]; exact z_bm32 h1 h2
theorem zl_div {x y : Int64} (h : 0 < y.toInt) : (x / y).toInt = x.toInt.tdiv y.toInt := by
  rw [Int64.toInt_div]
  have h3 := zl_lo x
  have h4 := zl_hi x
  have hn : (x.toInt.tdiv y.toInt).natAbs ≤ x.toInt.natAbs := by
    rw [Int.natAbs_tdiv]; exact Nat.div_le_self _ _
  by_cases hx : x.toInt = -9223372036854775808
  · by_cases hy : y.toInt = 1
    · rw [hy, Int.tdiv_one]; exact z_bm h3 h4
    · have h5 : (x.toInt.tdiv y.toInt).natAbs < x.toInt.natAbs := by
        rw [Int.natAbs_tdiv]
        exact Nat.div_lt_self (by omega) (by omega)
      exact z_bm (by omega) (by omega)
  · exact z_bm (by omega) (by omega)
/-- java's remainder -/
theorem zl_rem {x y : Int64} (h : 0 < y.toInt) : (x - x / y * y).toInt = x.toInt.tmod y.toInt := by
  have hd := zl_div (x := x) (y := y) h
  have hm := Int.mul_tdiv_add_tmod x.toInt y.toInt
  have h3 := zl_lo x
  have h4 := zl_hi x
  have h5 : (x.toInt.tmod y.toInt).natAbs ≤ x.toInt.natAbs := by
    rw [Int.natAbs_tmod]; exact Nat.mod_le _ _
  have hs : 0 ≤ x.toInt → 0 ≤ x.toInt.tmod y.toInt := fun q => Int.tmod_nonneg _ q
  have hs2 : x.toInt ≤ 0 → x.toInt.tmod y.toInt ≤ 0 := fun q => by
    have := Int.tmod_nonneg (a := -x.toInt) y.toInt (by omega)
    rw [Int.neg_tmod] at this; omega
  generalize hq : y.toInt * x.toInt.tdiv y.toInt = q at hm
  have e0 : (x / y).toInt * y.toInt = q := by rw [hd, Int.mul_comm]; exact hq
  have e1 : (x / y * y).toInt = q := by
    rw [zl_mul (by rw [e0]; omega) (by rw [e0]; omega)]; exact e0
  rw [zl_sub (by rw [e1]; omega) (by rw [e1]; omega), e1]; omega
theorem z_tmod_pos {a b : Int} (h : 0 ≤ a) : a.tmod b = a % b := by
  rw [Int.tmod_eq_emod_of_nonneg h]
theorem z_tdiv_pos {a b : Int} (h : 0 ≤ a) : a.tdiv b = a / b := by
  rw [Int.tdiv_eq_ediv_of_nonneg h]
theorem zi_l (x : Int32) : x.toInt64.toInt = x.toInt := Int32.toInt_toInt64 x
/-- how many places below n hold P -/
def zcnt (P : Nat → Bool) : Nat → Nat
  | 0 => 0
  | n + 1 => zcnt P n + (if P n then 1 else 0)
theorem zcnt_le (P : Nat → Bool) : ∀ n, zcnt P n ≤ n
  | 0 => Nat.le_refl 0
  | n + 1 => by have := zcnt_le P n; unfold zcnt; split <;> omega
theorem zcnt_mono {P Q : Nat → Bool} : ∀ {n : Nat}, (∀ j, j < n → P j = true → Q j = true) → zcnt P n ≤ zcnt Q n
  | 0, _ => Nat.le_refl 0
  | n + 1, h => by
    have h1 := zcnt_mono (n := n) (fun j hj => h j (by omega))
    have h2 := h n (by omega)
    unfold zcnt
    cases hp : P n
    · simp; omega
    · simp [h2 hp]; exact h1
theorem zcnt_lt {P Q : Nat → Bool} : ∀ {n j : Nat}, (∀ j, j < n → P j = true → Q j = true) → j < n → P j = false → Q j = true → zcnt P n < zcnt Q n
  | 0, _, _, hj, _, _ => absurd hj (Nat.not_lt_zero _)
  | n + 1, j, h, hj, hp, hq => by
    have h2 := h n (by omega)
    unfold zcnt
    by_cases hjn : j = n
    · subst hjn
      have h1 := zcnt_mono (n := j) (fun i hi => h i (by omega))
      simp [hp, hq]; omega
    · have h1 := zcnt_lt (n := n) (j := j) (fun i hi => h i (by omega)) (by omega) hp hq
      cases hpn : P n
      · simp; omega
      · simp [h2 hpn]; omega
theorem zcnt_all {P : Nat → Bool} : ∀ {n : Nat}, n ≤ zcnt P n → ∀ j, j < n → P j = true
  | 0, _, j, hj => absurd hj (Nat.not_lt_zero _)
  | n + 1, h, j, hj => by
    have h1 := zcnt_le P n
    unfold zcnt at h
    cases hpn : P n
    · simp [hpn] at h; omega
    · simp [hpn] at h
      by_cases hjn : j = n
      · rw [hjn]; exact hpn
      · exact zcnt_all (n := n) (by omega) j (by omega)
theorem zcnt_congr {P Q : Nat → Bool} : ∀ {n : Nat}, (∀ j, j < n → P j = Q j) → zcnt P n = zcnt Q n
  | 0, _ => rfl
  | n + 1, h => by unfold zcnt; rw [zcnt_congr (n := n) (fun j hj => h j (by omega)), h n (by omega)]
theorem zcnt_pos {P : Nat → Bool} : ∀ {n : Nat}, 0 < zcnt P n ↔ ∃ j, j < n ∧ P j = true
  | 0 => by simp [zcnt]
  | n + 1 => by
    have h := zcnt_pos (P := P) (n := n)
    unfold zcnt
    cases hp : P n
    · simp only [Bool.false_eq_true, if_false, Nat.add_zero, h]
      refine ⟨fun ⟨j, h1, h2⟩ => ⟨j, by omega, h2⟩, fun ⟨j, h1, h2⟩ => ⟨j, ?_, h2⟩⟩
      rcases Nat.lt_or_ge j n with q | q
      · exact q
      · rw [show j = n by omega, hp] at h2; cases h2
    · simp only [if_true]
      exact ⟨fun _ => ⟨n, by omega, hp⟩, fun _ => by omega⟩
section ZH
variable {p : Program} {l : Launch} {e : Env} {R : Room} {s : State} {m : MethodId} {args : Array Value} {below : List Frame} {meth : Method} {c : Code} {H : Heap} {cells slots : Nat} {Q : State → Prop}
theorem zNameH {D : va_G} {A : Nat → Prop} {ws : va_W} {g : JFrame} (k : ∀ (H : Heap) (locs : List Loc), va_P D vwCl ws H → va_S A s.heap H locs → W p l e R s m args below meth c H locs cells slots Q g) (hP : va_P D vwCl ws s.heap) (hS : va_S A s.heap s.heap []) : W p l e R s m args below meth c s.heap [] cells slots Q g := k _ _ hP hS
end ZH
