/-! letters and the one that checks -/
def zSign (v : Int32) : Int32 := if v.toInt < 10 then 48 + v else if v.toInt < 18 then 65 + v - 10 else if v.toInt < 23 then 74 + v - 18 else 80 + v - 23
theorem zSign_nI : ∀ i, i < 31 → zSign (nI i) = zLt i := by decide +kernel
def zWs (f w : Nat → Int32) : Nat → Int32
  | 0 => 0
  | n + 1 => zWs f w n + f n * w n
theorem zWt_rng : ∀ i, i < 9 → 1 ≤ (zWt i).toInt ∧ (zWt i).toInt ≤ 25 := by decide +kernel
theorem zMul_rng {x y : Int32} (hx : 0 ≤ x.toInt ∧ x.toInt ≤ 30) (hy : 1 ≤ y.toInt ∧ y.toInt ≤ 25) : 0 ≤ (x * y).toInt ∧ (x * y).toInt ≤ 750 := by
  have h1 : 0 ≤ x.toInt * y.toInt := Int.mul_nonneg hx.1 (by omega)
  have h2 : x.toInt * y.toInt ≤ 30 * 25 := Int.mul_le_mul hx.2 hy.2 (by omega) (by omega)
  rw [zi_mul (by omega) (by omega)]; omega
theorem zWs_rng {f w : Nat → Int32} (hw : ∀ j, j < 9 → w j = zWt j) : ∀ (n : Nat), n ≤ 9 → (∀ j, j < n → 0 ≤ (f j).toInt ∧ (f j).toInt ≤ 30) → 0 ≤ (zWs f w n).toInt ∧ (zWs f w n).toInt ≤ 750 * n
  | 0, _, _ => by show 0 ≤ Int32.toInt 0 ∧ Int32.toInt 0 ≤ _; decide
  | n + 1, h, hf => by
    have ih := zWs_rng hw n (by omega) (fun j hj => hf j (by omega))
    have hm := zMul_rng (y := w n) (hf n (by omega)) (by rw [hw n (by omega)]; exact zWt_rng n (by omega))
    show 0 ≤ (zWs f w n + f n * w n).toInt ∧ (zWs f w n + f n * w n).toInt ≤ _
    rw [zi_add (by omega) (by omega)]; omega
theorem zWs_congr {f g w v : Nat → Int32} : ∀ (n : Nat), (∀ j, j < n → f j = g j ∧ w j = v j) → zWs f w n = zWs g v n
  | 0, _ => rfl
  | n + 1, h => by
    show zWs f w n + f n * w n = zWs g v n + g n * v n
    rw [zWs_congr n (fun j hj => h j (by omega)), (h n (by omega)).1, (h n (by omega)).2]
theorem zrem31_int {s : Int32} (h : 0 ≤ s.toInt) (h2 : s.toInt < 1000000) : (zrem31 s).toInt = s.toInt % 31 := by
  have hd : (s / 31).toInt = s.toInt / 31 := by
    rw [Int32.toInt_div]
    show (s.toInt.tdiv 31).bmod _ = _
    rw [z_tdiv_pos h]; exact z_bm32 (by omega) (by omega)
  have hm : (s / 31 * 31).toInt = s.toInt / 31 * 31 := by
    have : (s / 31).toInt * (31 : Int32).toInt = s.toInt / 31 * 31 := by rw [hd]; rfl
    rw [zi_mul (by rw [this]; omega) (by rw [this]; omega)]; exact this
  unfold zrem31
  rw [zi_sub (by rw [hm]; omega) (by rw [hm]; omega), hm]; omega
theorem zWgt_nI {v : Int32} {k : Nat} (hk : k < 9) : zWgt v (nI k) = v * zWt k := by
  unfold zWgt
  rw [nI_toInt (by omega), if_pos (by omega)]; rfl
theorem zser_int {x : Int64} (h : 0 ≤ x.toInt) : (zser x).toInt = x.toInt % 27512614111 := by
  unfold zser
  rw [zl_rem (by decide)]
  show x.toInt.tmod 27512614111 = _
  exact z_tmod_pos h
theorem zdv_int {x : Int64} (h : 0 ≤ x.toInt) : ∀ t, 0 ≤ (zdv t x).toInt ∧ (zdv t x).toInt ≤ x.toInt
  | 0 => ⟨h, Int.le_refl _⟩
  | t + 1 => by
    have ih := zdv_int h t
    show 0 ≤ (zdv t x / 31).toInt ∧ (zdv t x / 31).toInt ≤ _
    rw [zl_div (by decide)]
    show 0 ≤ (zdv t x).toInt.tdiv 31 ∧ (zdv t x).toInt.tdiv 31 ≤ _
    rw [z_tdiv_pos ih.1]; omega
theorem zl2i {x : Int64} (h1 : -2147483648 ≤ x.toInt) (h2 : x.toInt < 2147483648) : x.toInt32.toInt = x.toInt := by
  rw [Int64.toInt_toInt32]; exact z_bm32 h1 h2
theorem zsvc_int {x : Int64} (h : zIsN x) : 0 ≤ (zsvc x).toInt ∧ (zsvc x).toInt ≤ 9 ∧ (zsvc x).toInt = x.toInt / 27512614111 - 1 := by
  unfold zIsN at h
  have hd : (x / 27512614111).toInt = x.toInt / 27512614111 := by
    rw [zl_div (by decide)]
    show x.toInt.tdiv 27512614111 = _
    exact z_tdiv_pos (by omega)
  have h1 : (1 : Int64).toInt = 1 := by decide
  unfold zsvc
  rw [zl_sub (by rw [hd, h1]; omega) (by rw [hd, h1]; omega), hd, h1]; omega
theorem zPl_rng {x : Int64} (h : zIsN x) (i : Nat) : 0 ≤ (zPl x i).toInt ∧ (zPl x i).toInt ≤ 30 := by
  unfold zPl
  split
  · have := zsvc_int h
    rw [zl2i (by omega) (by omega)]; omega
  · have h0 : 0 ≤ (zser x).toInt := by unfold zIsN at h; rw [zser_int (by omega)]; omega
    have hd := zdv_int h0 (7 - i)
    have hr : (zdv (7 - i) (zser x) - zdv (7 - i) (zser x) / 31 * 31).toInt = (zdv (7 - i) (zser x)).toInt % 31 := by
      rw [zl_rem (by decide)]
      show Int.tmod _ 31 = _
      exact z_tmod_pos hd.1
    rw [zl2i (by omega) (by omega), hr]; omega
theorem zSm_eq {x : Int64} {f w : Nat → Int32} (hw : ∀ j, j < 9 → w j = zWt j) : ∀ (n : Nat), n ≤ 9 → (∀ j, j < n → f j = zPl x j) → zWs f w n = zSm x n
  | 0, _, _ => rfl
  | n + 1, h, hf => by
    show zWs f w n + f n * w n = zSm x n + zWgt (zPl x n) (nI n)
    rw [zSm_eq hw n (by omega) (fun j hj => hf j (by omega)), zWgt_nI (by omega), hf n (by omega), hw n (by omega)]
theorem zSm_rng {x : Int64} (h : zIsN x) : 0 ≤ (zSm x 8).toInt ∧ (zSm x 8).toInt ≤ 6000 := by
  have := zWs_rng (f := fun j => zPl x j) (w := zWt) (fun _ _ => rfl) 8 (by omega) (fun j _ => zPl_rng h j)
  rw [zSm_eq (x := x) (fun _ _ => rfl) 8 (by omega) (fun _ _ => rfl)] at this
  omega
theorem zChk_int {x : Int64} (h : zIsN x) : (zChk x).toInt = (31 - (zSm x 8).toInt % 31) % 31 := by
  have hs := zSm_rng h
  have h1 := zrem31_int (s := zSm x 8) hs.1 (by omega)
  have h31 : (31 : Int32).toInt = 31 := by decide
  have h2 : (31 - zrem31 (zSm x 8)).toInt = 31 - (zSm x 8).toInt % 31 := by
    rw [zi_sub (by rw [h1, h31]; omega) (by rw [h1, h31]; omega), h1, h31]
  unfold zChk
  rw [zrem31_int (by omega) (by omega), h2]
theorem zVA_rng {x : Int64} (h : zIsN x) (i : Nat) : 0 ≤ (zVA x i).toInt ∧ (zVA x i).toInt ≤ 30 := by
  unfold zVA
  split
  · rw [zChk_int h]; omega
  · exact zPl_rng h i
theorem zSign_eq {v : Int32} (h : 0 ≤ v.toInt ∧ v.toInt ≤ 30) : zLetter v = zSign v := by
  obtain ⟨i, hi, rfl⟩ := znat (x := v) (n := 31) (by omega) (by omega) (by decide)
  rw [zSign_nI i hi]
  unfold zLetter
  rw [nI_toInt (by omega), if_pos (by omega)]; rfl
theorem zfirst {x : Int64} (h : zIsN x) : (x / 27512614111).toInt32 - 1 = zPl x 0 := by
  have hz := zsvc_int h
  unfold zIsN at h
  have hd : (x / 27512614111).toInt = x.toInt / 27512614111 := by
    rw [zl_div (by decide)]
    show x.toInt.tdiv 27512614111 = _
    exact z_tdiv_pos (by omega)
  have h1 : (1 : Int32).toInt = 1 := by decide
  have hc : (x / 27512614111).toInt32.toInt = x.toInt / 27512614111 := by rw [zl2i (by omega) (by omega), hd]
  show _ = (if 0 = 0 then (zsvc x).toInt32 else _)
  rw [if_pos rfl]
  refine zi_eq.mpr ?_
  rw [zi_sub (by rw [hc, h1]; omega) (by rw [hc, h1]; omega), hc, h1, zl2i (by omega) (by omega), hz.2.2]
theorem zck_step {S v : Int} (h0 : 0 ≤ S) (hv : 0 ≤ v) (h : v ≤ (31 - S % 31) % 31) (hn : ¬ (S + v) % 31 = 0) : v + 1 ≤ (31 - S % 31) % 31 := by omega
theorem zck_done {S v : Int} (h0 : 0 ≤ S) (hv : 0 ≤ v) (h : v ≤ (31 - S % 31) % 31) (hn : (S + v) % 31 = 0) : v = (31 - S % 31) % 31 := by omega
/-- the check of a typed ninth letter, both ways -/
theorem zck_iff {S v c : Int32} (hS : 0 ≤ S.toInt ∧ S.toInt ≤ 100000) (hv : 0 ≤ v.toInt ∧ v.toInt ≤ 30) (hc : c.toInt = (31 - S.toInt % 31) % 31) : v = c ↔ zrem31 (S + zWgt v (nI 8)) = 0 := by
  have hw : zWgt v (nI 8) = v := by
    rw [zWgt_nI (by omega)]
    refine zi_eq.mpr ?_
    have : (zWt 8).toInt = 1 := by decide
    rw [zi_mul (by rw [this]; omega) (by rw [this]; omega), this]; omega
  have ha : (S + v).toInt = S.toInt + v.toInt := zi_add (by omega) (by omega)
  have hr := zrem31_int (s := S + v) (by omega) (by omega)
  rw [hw, zi_eq, zi_eq, hr, ha, hc]
  show _ ↔ _ = (0 : Int)
  omega
def zAcc (f : Nat → Int32) : Nat → Int64
  | 0 => 0
  | n + 1 => zAcc f n * 31 + (f n).toInt64
def zAccI (f : Nat → Int32) : Nat → Int
  | 0 => 0
  | n + 1 => zAccI f n * 31 + (f n).toInt
def zSr (f : Nat → Int32) : Nat → Int64
  | 0 => 0
  | n + 1 => 31 * zSr f n + (f (n + 1)).toInt64
def zSrI (f : Nat → Int32) : Nat → Int
  | 0 => 0
  | n + 1 => 31 * zSrI f n + (f (n + 1)).toInt
def zPw : Nat → Int
  | 0 => 1
  | n + 1 => 31 * zPw n
theorem zPw_le : ∀ n, n ≤ 8 → zPw n ≤ 852891037441 := by decide +kernel
theorem zAcc_int {f : Nat → Int32} (hf : ∀ j, j < 8 → 0 ≤ (f j).toInt ∧ (f j).toInt ≤ 30) : ∀ n, n ≤ 8 → (zAcc f n).toInt = zAccI f n ∧ 0 ≤ zAccI f n ∧ zAccI f n < zPw n
  | 0, _ => ⟨by show Int64.toInt 0 = 0; decide, by show (0 : Int) ≤ 0; decide, by show (0 : Int) < 1; decide⟩
  | n + 1, h => by
    obtain ⟨h1, h2, h3⟩ := zAcc_int hf n (by omega)
    have hp := zPw_le n (by omega)
    have hb := hf n (by omega)
    have h31 : (31 : Int64).toInt = 31 := by decide
    have hm : (zAcc f n * 31).toInt = zAccI f n * 31 := by rw [zl_mul (by rw [h1, h31]; omega) (by rw [h1, h31]; omega), h1, h31]
    show (zAcc f n * 31 + (f n).toInt64).toInt = zAccI f n * 31 + (f n).toInt ∧ 0 ≤ zAccI f n * 31 + (f n).toInt ∧ zAccI f n * 31 + (f n).toInt < 31 * zPw n
    rw [zl_add (by rw [hm, zi_l]; omega) (by rw [hm, zi_l]; omega), hm, zi_l]
    omega
theorem zSr_int {f : Nat → Int32} (hf : ∀ j, j < 8 → 0 ≤ (f j).toInt ∧ (f j).toInt ≤ 30) : ∀ n, n ≤ 7 → (zSr f n).toInt = zSrI f n ∧ 0 ≤ zSrI f n ∧ zSrI f n < zPw n
  | 0, _ => ⟨by show Int64.toInt 0 = 0; decide, by show (0 : Int) ≤ 0; decide, by show (0 : Int) < 1; decide⟩
  | n + 1, h => by
    obtain ⟨h1, h2, h3⟩ := zSr_int hf n (by omega)
    have hp := zPw_le n (by omega)
    have hb := hf (n + 1) (by omega)
    have h31 : (31 : Int64).toInt = 31 := by decide
    have hm : (31 * zSr f n).toInt = 31 * zSrI f n := by rw [zl_mul (by rw [h1, h31]; omega) (by rw [h1, h31]; omega), h1, h31]
    show (31 * zSr f n + (f (n + 1)).toInt64).toInt = 31 * zSrI f n + (f (n + 1)).toInt ∧ 0 ≤ 31 * zSrI f n + (f (n + 1)).toInt ∧ 31 * zSrI f n + (f (n + 1)).toInt < 31 * zPw n
    rw [zl_add (by rw [hm, zi_l]; omega) (by rw [hm, zi_l]; omega), hm, zi_l]
    omega
theorem zread_eq {f : Nat → Int32} (hf : ∀ j, j < 8 → 0 ≤ (f j).toInt ∧ (f j).toInt ≤ 30) : ((f 0).toInt64 + 1) * 27512614111 + zSr f 7 = 27512614111 + zAcc f 8 := by
  obtain ⟨a1, a2, a3⟩ := zAcc_int hf 8 (by omega)
  obtain ⟨s1, s2, s3⟩ := zSr_int hf 7 (by omega)
  have hb := hf 0 (by omega)
  have e1 : (1 : Int64).toInt = 1 := by decide
  have eM : (27512614111 : Int64).toInt = 27512614111 := by decide
  have p7 : zPw 7 = 27512614111 := by decide
  have p8 : zPw 8 = 852891037441 := by decide
  have h1 : ((f 0).toInt64 + 1).toInt = (f 0).toInt + 1 := by rw [zl_add (by rw [zi_l, e1]; omega) (by rw [zi_l, e1]; omega), zi_l, e1]
  have h2 : (((f 0).toInt64 + 1) * 27512614111).toInt = ((f 0).toInt + 1) * 27512614111 := by rw [zl_mul (by rw [h1, eM]; omega) (by rw [h1, eM]; omega), h1, eM]
  refine zl_eq.mpr ?_
  rw [zl_add (by rw [h2, s1]; omega) (by rw [h2, s1]; omega), zl_add (by rw [a1, eM]; omega) (by rw [a1, eM]; omega), h2, s1, a1, eM]
  simp only [zAccI, zSrI, Nat.reduceAdd]
  omega
/-- the letters that were read -/
def zLet (f : Nat → Int32) (k : Nat) (s : Int32) (a : Int64) : Prop := (∀ j, j < k → 0 ≤ (f j).toInt ∧ (f j).toInt ≤ 30) ∧ s = zWs f zWt k ∧ a = (if k ≤ 8 then zAcc f k else zAcc f 8)
theorem zAcc_congr {f g : Nat → Int32} : ∀ (n : Nat), (∀ j, j < n → f j = g j) → zAcc f n = zAcc g n
  | 0, _ => rfl
  | n + 1, h => by
    show zAcc f n * 31 + (f n).toInt64 = zAcc g n * 31 + (g n).toInt64
    rw [zAcc_congr n (fun j hj => h j (by omega)), h n (by omega)]
theorem zLet_0 {f : Nat → Int32} : zLet f 0 0 0 := ⟨fun j h => absurd h (Nat.not_lt_zero _), rfl, rfl⟩
theorem zLet_go {f : Nat → Int32} {k : Nat} {s v : Int32} {a : Int64} (h : zLet f k s a) (hk : k < 9) (hv : 0 ≤ v.toInt ∧ v.toInt ≤ 30) : zLet (upd f k v) (k + 1) (s + zWgt v (nI k)) (if k < 8 then a * 31 + v.toInt64 else a) := by
  obtain ⟨h1, h2, h3⟩ := h
  refine ⟨lt_s (fun j hj => by rw [pk_un (by omega)]; exact h1 j hj) (by rw [pk_us]; exact hv), ?_, ?_⟩
  · show _ = zWs (upd f k v) zWt k + upd f k v k * zWt k
    rw [pk_us, zWs_congr k (f := upd f k v) (g := f) (w := zWt) (v := zWt) (fun j hj => ⟨pk_un (by omega), rfl⟩), h2, zWgt_nI hk]
  · by_cases h8 : k < 8
    · rw [if_pos h8, if_pos (by omega), h3, if_pos (by omega)]
      show _ = zAcc (upd f k v) k * 31 + (upd f k v k).toInt64
      rw [pk_us, zAcc_congr k (f := upd f k v) (g := f) (fun j hj => pk_un (by omega))]
    · rw [if_neg h8, if_neg (by omega), h3, if_pos (by omega)]
      obtain rfl : k = 8 := (by omega)
      exact (zAcc_congr 8 (f := upd f 8 v) (g := f) (fun j hj => pk_un (by omega))).symm
theorem zvf_rng {g v : Int32} (hv : v = zvf g) (h : 0 ≤ v.toInt) : 0 ≤ v.toInt ∧ v.toInt ≤ 30 := by
  rcases zvf_or g with ⟨u, h1, h2⟩ | h1
  · rw [hv, h2, nI_toInt (by omega)]; omega
  · rw [hv, h1] at h; exact absurd h (by decide)
theorem zneg {i : Nat} (h : i ≤ 4200) : (-1 : Int64) - (nI i).toInt64 = (-1 - nI i).toInt64 := by
  refine zl_eq.mpr ?_
  have e1 : (-1 : Int64).toInt = -1 := by decide
  have e2 : (-1 : Int32).toInt = -1 := by decide
  have e3 := nI_toInt (n := i) (by omega)
  rw [zl_sub (by rw [zi_l, e1, e3]; omega) (by rw [zi_l, e1, e3]; omega), zi_l, zi_l, zi_sub (by rw [e2, e3]; omega) (by rw [e2, e3]; omega), e1, e2]
