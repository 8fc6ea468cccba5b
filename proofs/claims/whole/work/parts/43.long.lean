/-! ===== longs as integers; runs whose end is told by a property; the common divisor ===== -/
def zL (z : Int) : Int64 := Int64.ofInt z
theorem zL_add (x y : Int) : zL x + zL y = zL (x + y) := (Int64.ofInt_add x y).symm
theorem zL_sub (x y : Int) : zL x - zL y = zL (x - y) := (Int64.ofInt_sub x y).symm
theorem zL_mul (x y : Int) : zL x * zL y = zL (x * y) := (Int64.ofInt_mul x y).symm
theorem zL_neg (x : Int) : - zL x = zL (-x) := (Int64.ofInt_neg x).symm
theorem zL_toInt {z : Int} (h : -9223372036854775808 ≤ z ∧ z < 9223372036854775808) : (zL z).toInt = z := Int64.toInt_ofInt_of_le (by omega) (by omega)
theorem zL_of (x : Int64) : zL x.toInt = x := by unfold zL; simp
theorem zL_i2lI (x : Int32) : x.toInt64 = zL x.toInt := by
  rw [← Int64.toInt_inj, Int32.toInt_toInt64, zL_toInt]
  have h1 := Int32.le_toInt x
  have h2 := Int32.toInt_lt x
  omega
theorem zL_i2l {a : Nat} (h : a < 2 ^ 31) : (nI a).toInt64 = zL a := by rw [zL_i2lI, nI_toInt h]
theorem zL_tdiv {x y : Int} (hx : -9223372036854775808 < x ∧ x < 9223372036854775808) (hy : 0 < y ∧ y < 9223372036854775808) : zL x / zL y = zL (x.tdiv y) := by
  have hb : (x.tdiv y).natAbs ≤ x.natAbs := by rw [Int.natAbs_tdiv]; exact Nat.div_le_self _ _
  rw [← Int64.toInt_inj, Int64.toInt_div, zL_toInt (by omega), zL_toInt (by omega), zL_toInt (by omega)]
  exact Int.bmod_eq_of_le (by omega) (by omega)
theorem zL_div {x y : Int} (h0 : 0 ≤ x) (hx : x < 9223372036854775808) (hy0 : 0 < y) (hy : y < 9223372036854775808) : zL x / zL y = zL (x / y) := by
  rw [zL_tdiv ⟨by omega, hx⟩ ⟨hy0, hy⟩, Int.tdiv_eq_ediv_of_nonneg h0]
theorem zL_rem {x y : Int} (h0 : 0 ≤ x) (hx : x < 9223372036854775808) (hy0 : 0 < y) (hy : y < 9223372036854775808) : zL x - zL x / zL y * zL y = zL (x % y) := by
  rw [zL_div h0 hx hy0 hy, zL_mul, zL_sub]
  congr 1
  have := Int.mul_ediv_add_emod x y
  rw [Int.mul_comm] at this
  omega
theorem zL_inj {x y : Int} (hx : -9223372036854775808 ≤ x ∧ x < 9223372036854775808) (hy : -9223372036854775808 ≤ y ∧ y < 9223372036854775808) : zL x = zL y ↔ x = y := by rw [← Int64.toInt_inj, zL_toInt hx, zL_toInt hy]
theorem zL_ne0 {y : Int} (hy0 : 0 < y) (hy : y < 9223372036854775808) : ¬ zL y = 0 := by
  intro h
  have := (zL_inj (x := y) (y := 0) (by omega) (by omega)).mp (h.trans rfl)
  omega
theorem lgc_eq (x y : Int64) : (lg_cmp x y = 0) ↔ x = y := by
  unfold lg_cmp
  simp only [gt_iff_lt, Int64.lt_iff_toInt_lt, ← Int64.toInt_inj]
  repeat' split
  all_goals (constructor <;> intro hh <;> first | omega | decide | exact absurd hh (by decide))
section GZ
variable {S : am_S} {d : Nat} {t : am_T} {M : am_M} {pc nx nx2 a b h a2 b2 h2 : Nat} {la st : List Value} {Q : Option Value × am_M → Prop} {x y : Int}
theorem gz_ladd (hl : At t pc (.ladd, nx, a, b, h)) (k : Go S d t (M, nx, la, .long (zL (x + y)) :: st) Q) : Go S d t (M, pc, la, .long (zL y) :: .long (zL x) :: st) Q := go_ladd hl (by rw [zL_add]; exact k)
theorem gz_lsub (hl : At t pc (.lsub, nx, a, b, h)) (k : Go S d t (M, nx, la, .long (zL (x - y)) :: st) Q) : Go S d t (M, pc, la, .long (zL y) :: .long (zL x) :: st) Q := go_lsub hl (by rw [zL_sub]; exact k)
theorem gz_lmul (hl : At t pc (.lmul, nx, a, b, h)) (k : Go S d t (M, nx, la, .long (zL (x * y)) :: st) Q) : Go S d t (M, pc, la, .long (zL y) :: .long (zL x) :: st) Q := go_lmul hl (by rw [zL_mul]; exact k)
theorem gz_lneg (hl : At t pc (.lneg, nx, a, b, h)) (k : Go S d t (M, nx, la, .long (zL (-x)) :: st) Q) : Go S d t (M, pc, la, .long (zL x) :: st) Q := go_lneg hl (by rw [zL_neg]; exact k)
theorem gz_i2l {n : Nat} (hl : At t pc (.i2l, nx, a, b, h)) (hn : n < 2 ^ 31) (k : Go S d t (M, nx, la, .long (zL n) :: st) Q) : Go S d t (M, pc, la, .int (nI n) :: st) Q := go_i2l hl (by rw [zL_i2l hn]; exact k)
theorem gz_i2lI {n : Int32} (hl : At t pc (.i2l, nx, a, b, h)) (k : Go S d t (M, nx, la, .long (zL n.toInt) :: st) Q) : Go S d t (M, pc, la, .int n :: st) Q := go_i2l hl (by rw [zL_i2lI]; exact k)
theorem gz_ldiv (hl : At t pc (.ldiv, nx, a, b, h)) (h0 : 0 ≤ x) (hx : x < 9223372036854775808) (hy0 : 0 < y) (hy : y < 9223372036854775808) (k : Go S d t (M, nx, la, .long (zL (x / y)) :: st) Q) : Go S d t (M, pc, la, .long (zL y) :: .long (zL x) :: st) Q := go_ldiv hl (zL_ne0 hy0 hy) (by rw [zL_div h0 hx hy0 hy]; exact k)
theorem gz_tdiv (hl : At t pc (.ldiv, nx, a, b, h)) (hx : -9223372036854775808 < x ∧ x < 9223372036854775808) (hy : 0 < y ∧ y < 9223372036854775808) (k : Go S d t (M, nx, la, .long (zL (x.tdiv y)) :: st) Q) : Go S d t (M, pc, la, .long (zL y) :: .long (zL x) :: st) Q := go_ldiv hl (zL_ne0 hy.1 hy.2) (by rw [zL_tdiv hx hy]; exact k)
theorem gz_lrem (hl : At t pc (.lrem, nx, a, b, h)) (h0 : 0 ≤ x) (hx : x < 9223372036854775808) (hy0 : 0 < y) (hy : y < 9223372036854775808) (k : Go S d t (M, nx, la, .long (zL (x % y)) :: st) Q) : Go S d t (M, pc, la, .long (zL y) :: .long (zL x) :: st) Q := go_lrem hl (zL_ne0 hy0 hy) (by rw [zL_rem h0 hx hy0 hy]; exact k)
theorem gz_lc_eq {z : Int} (hl : At t pc (.lcmp, nx, a, b, h)) (hl2 : At t nx (.ifCond .eq z, nx2, a2, b2, h2)) (hx : -9223372036854775808 ≤ x ∧ x < 9223372036854775808) (hy : -9223372036854775808 ≤ y ∧ y < 9223372036854775808) (kt : x = y → Go S d t (M, a2, la, st) Q) (kf : ¬ x = y → Go S d t (M, nx2, la, st) Q) : Go S d t (M, pc, la, .long (zL y) :: .long (zL x) :: st) Q := by
  have e := (lgc_eq (zL x) (zL y)).trans (zL_inj hx hy)
  exact go_lcmp hl (go_if_eq hl2 (fun c => kt (e.mp c)) (fun c => kf (fun q => c (e.mpr q))))
theorem gz_lc_ne {z : Int} (hl : At t pc (.lcmp, nx, a, b, h)) (hl2 : At t nx (.ifCond .ne z, nx2, a2, b2, h2)) (hx : -9223372036854775808 ≤ x ∧ x < 9223372036854775808) (hy : -9223372036854775808 ≤ y ∧ y < 9223372036854775808) (kt : ¬ x = y → Go S d t (M, a2, la, st) Q) (kf : x = y → Go S d t (M, nx2, la, st) Q) : Go S d t (M, pc, la, .long (zL y) :: .long (zL x) :: st) Q := by
  have e := (lgc_eq (zL x) (zL y)).trans (zL_inj hx hy)
  exact go_lcmp hl (go_if_ne hl2 (fun c => kt (fun q => c (e.mpr q))) (fun c => kf (e.mp (Decidable.of_not_not c))))
theorem gz_lc_lt {z : Int} (hl : At t pc (.lcmp, nx, a, b, h)) (hl2 : At t nx (.ifCond .lt z, nx2, a2, b2, h2)) (hx : -9223372036854775808 ≤ x ∧ x < 9223372036854775808) (hy : -9223372036854775808 ≤ y ∧ y < 9223372036854775808) (kt : x < y → Go S d t (M, a2, la, st) Q) (kf : y ≤ x → Go S d t (M, nx2, la, st) Q) : Go S d t (M, pc, la, .long (zL y) :: .long (zL x) :: st) Q := by
  have e := lg_cmp_lt (zL x) (zL y)
  rw [Int64.lt_iff_toInt_lt, zL_toInt hx, zL_toInt hy] at e
  exact go_lcmp hl (go_if_lt hl2 (fun c => kt (e.mp c)) (fun c => kf (by rw [e] at c; omega)))
theorem gz_lc_ge {z : Int} (hl : At t pc (.lcmp, nx, a, b, h)) (hl2 : At t nx (.ifCond .ge z, nx2, a2, b2, h2)) (hx : -9223372036854775808 ≤ x ∧ x < 9223372036854775808) (hy : -9223372036854775808 ≤ y ∧ y < 9223372036854775808) (kt : y ≤ x → Go S d t (M, a2, la, st) Q) (kf : x < y → Go S d t (M, nx2, la, st) Q) : Go S d t (M, pc, la, .long (zL y) :: .long (zL x) :: st) Q := by
  have e := lg_cmp_ge (zL x) (zL y)
  rw [Int64.le_iff_toInt_le, zL_toInt hx, zL_toInt hy] at e
  exact go_lcmp hl (go_if_ge hl2 (fun c => kt (e.mp c)) (fun c => kf (by rw [e] at c; omega)))
theorem gz_lc_gt {z : Int} (hl : At t pc (.lcmp, nx, a, b, h)) (hl2 : At t nx (.ifCond .gt z, nx2, a2, b2, h2)) (hx : -9223372036854775808 ≤ x ∧ x < 9223372036854775808) (hy : -9223372036854775808 ≤ y ∧ y < 9223372036854775808) (kt : y < x → Go S d t (M, a2, la, st) Q) (kf : x ≤ y → Go S d t (M, nx2, la, st) Q) : Go S d t (M, pc, la, .long (zL y) :: .long (zL x) :: st) Q := by
  have e := lg_cmp_gt (zL x) (zL y)
  rw [Int64.lt_iff_toInt_lt, zL_toInt hx, zL_toInt hy] at e
  exact go_lcmp hl (go_if_gt hl2 (fun c => kt (e.mp c)) (fun c => kf (by rw [e] at c; omega)))
theorem gz_lc_le {z : Int} (hl : At t pc (.lcmp, nx, a, b, h)) (hl2 : At t nx (.ifCond .le z, nx2, a2, b2, h2)) (hx : -9223372036854775808 ≤ x ∧ x < 9223372036854775808) (hy : -9223372036854775808 ≤ y ∧ y < 9223372036854775808) (kt : x ≤ y → Go S d t (M, a2, la, st) Q) (kf : y < x → Go S d t (M, nx2, la, st) Q) : Go S d t (M, pc, la, .long (zL y) :: .long (zL x) :: st) Q := by
  have e := lg_cmp_le (zL x) (zL y)
  rw [Int64.le_iff_toInt_le, zL_toInt hx, zL_toInt hy] at e
  exact go_lcmp hl (go_if_le hl2 (fun c => kt (e.mp c)) (fun c => kf (by rw [e] at c; omega)))
end GZ
/-- a run that ends with this value, in a memory of this property -/
def Ex (S : am_S) (h : Nat) (t : am_T) (n : Nat) (mI : Nat → Nat → Int32) (mL : Nat → Nat → Int64) (as : List Value) (v : Option Value) (P : (Nat → Nat → Int32) → (Nat → Nat → Int64) → Prop) : Prop := Sp S h t (am_sh n, mI, mL, am_mR n) as (fun q => ∃ mI' mL', q = (v, (am_sh n, mI', mL', am_mR n)) ∧ P mI' mL')
/-- the last step of such a run -/
theorem ex_i {n : Nat} {v : Option Value} {mI : Nat → Nat → Int32} {mL : Nat → Nat → Int64} {P : (Nat → Nat → Int32) → (Nat → Nat → Int64) → Prop} (h : P mI mL) : ∃ mI' mL', ((v, (am_sh n, mI, mL, am_mR n)) : Option Value × am_M) = (v, (am_sh n, mI', mL', am_mR n)) ∧ P mI' mL' := ⟨mI, mL, rfl, h⟩
section GX
variable {S : am_S} {d : Nat} {t : am_T} {n : Nat} {mI : Nat → Nat → Int32} {mL : Nat → Nat → Int64} {pc nx a b h : Nat} {la st : List Value} {Q : Option Value × am_M → Prop} {P : (Nat → Nat → Int32) → (Nat → Nat → Int64) → Prop}
theorem Ex.get {tt : am_T} {hh : Nat} {as : List Value} {v : Option Value} (hc : Ex S hh tt n mI mL as v P) : ∃ mI' mL', P mI' mL' ∧ Sp S hh tt (am_sh n, mI, mL, am_mR n) as (fun q => q = (v, (am_sh n, mI', mL', am_mR n))) := by
  obtain ⟨f, r, h1, mI', mL', h2, h3⟩ := hc
  exact ⟨mI', mL', h3, f, r, h1, h2⟩
theorem gx_S1 {t' : am_T} {ix hh : Nat} {as r : List Value} {v : Value} (hl : At t pc (.invokestatic ix, nx, a, b, h)) (hb : b ≠ 300) (ha : am_mt[a]? = some t') (ht : am_take b st [] = some (as, r)) (hr : (r.map fun v => v.category).sum ≤ 8) (hy : (am_lay as).length ≤ t'.2.2.1) (hd : hh + 1 ≤ d) (hc : Ex S hh t' n mI mL as (some v) P) (k : ∀ mI' mL', P mI' mL' → Go S d t ((am_sh n, mI', mL', am_mR n), nx, la, v :: r) Q) : Go S d t ((am_sh n, mI, mL, am_mR n), pc, la, st) Q := by
  obtain ⟨mI', mL', hp, hs⟩ := hc.get
  exact gc_S1 hl hb ha ht hr hy hd hs (k mI' mL' hp)
theorem gx_V1 {t' : am_T} {ix hh i : Nat} {as r : List Value} {v : Value} (hl : At t pc (.invokevirtual ix, nx, a, b, h)) (ha : am_mt[a]? = some t') (hk : 10 ≤ t'.2.2.2.2.1) (hs : ((am_sh n)[i]?).map (fun q => q.1) = some t'.2.2.2.2.1) (ht : am_take b st [] = some (as, .ref i :: r)) (hr : (r.map fun v => v.category).sum ≤ 8) (hy : (am_lay (.ref i :: as)).length ≤ t'.2.2.1) (hd : hh + 1 ≤ d) (hc : Ex S hh t' n mI mL (.ref i :: as) (some v) P) (k : ∀ mI' mL', P mI' mL' → Go S d t ((am_sh n, mI', mL', am_mR n), nx, la, v :: r) Q) : Go S d t ((am_sh n, mI, mL, am_mR n), pc, la, st) Q := by
  obtain ⟨mI', mL', hp, hs'⟩ := hc.get
  exact gc_V1 hl ha hk hs ht hr hy hd hs' (k mI' mL' hp)
theorem gx_V0 {t' : am_T} {ix hh i : Nat} {as r : List Value} (hl : At t pc (.invokevirtual ix, nx, a, b, h)) (ha : am_mt[a]? = some t') (hk : 10 ≤ t'.2.2.2.2.1) (hs : ((am_sh n)[i]?).map (fun q => q.1) = some t'.2.2.2.2.1) (ht : am_take b st [] = some (as, .ref i :: r)) (hr : (r.map fun v => v.category).sum ≤ 8) (hy : (am_lay (.ref i :: as)).length ≤ t'.2.2.1) (hd : hh + 1 ≤ d) (hc : Ex S hh t' n mI mL (.ref i :: as) none P) (k : ∀ mI' mL', P mI' mL' → Go S d t ((am_sh n, mI', mL', am_mR n), nx, la, r) Q) : Go S d t ((am_sh n, mI, mL, am_mR n), pc, la, st) Q := by
  obtain ⟨mI', mL', hp, hs'⟩ := hc.get
  exact gc_V0 hl ha hk hs ht hr hy hd hs' (k mI' mL' hp)
end GX
theorem gcd_step (a b : Nat) : Nat.gcd b (a % b) = Nat.gcd a b := by rw [Nat.gcd_comm b, ← Nat.gcd_rec, Nat.gcd_comm]
section GCD
variable {S : am_S} {M : am_M} {mI : Nat → Nat → Int32} {mL : Nat → Nat → Int64} {n : Nat} {x0 y0 : Int64}
theorem it_F_cd {a b i : Nat} {z z' : Value} {Q : Option Value × am_M → Prop} (hb : b ≠ 0) (ha2 : a < 2 ^ 62) (hb2 : b < 2 ^ 62) (hi : i < 100) (k : ∀ z z', Go S 0 tF_commonDivisor (M, 9, [.long x0, am_U, .long y0, am_U, .long (zL b), am_U, .long (zL (a % b : Nat)), am_U, .int (nI (i + 1)), z, z'], []) Q) : Go S 0 tF_commonDivisor (M, 9, [.long x0, am_U, .long y0, am_U, .long (zL a), am_U, .long (zL b), am_U, .int (nI i), z, z'], []) Q := by
  refine go_iload_8 iF_commonDivisor_9 ?_
  refine go_bipush (v := nI 100) iF_commonDivisor_11 (by decide) ?_
  first | refine gn_ic_ge iF_commonDivisor_13 (by omega) (by omega) (fun c_13 => ?_) (fun c_13 => ?_) | refine go_ic_ge iF_commonDivisor_13 (fun c_13 => ?_) (fun c_13 => ?_)
  · (first | omega | exact absurd c_13 (by decide) | (exfalso; simp (disch := omega) only [Int32.lt_iff_toInt_lt, Int32.le_iff_toInt_le, ← Int32.toInt_inj, nI_toInt, i32_m1, i32_0, i32_m20, i32_m40, i32_m30, i32_m9] at *; omega))
  refine go_lload_6 iF_commonDivisor_16 ?_
  refine go_lconst (v := zL 0) iF_commonDivisor_18 rfl ?_
  refine gz_lc_eq iF_commonDivisor_19 iF_commonDivisor_20 (by omega) (by omega) (fun c_19 => ?_) (fun c_19 => ?_)
  · (first | omega | exact absurd c_19 (by decide) | (exfalso; simp (disch := omega) only [Int32.lt_iff_toInt_lt, Int32.le_iff_toInt_le, ← Int32.toInt_inj, nI_toInt, i32_m1, i32_0, i32_m20, i32_m40, i32_m30, i32_m9] at *; omega))
  refine go_lload_4 iF_commonDivisor_23 ?_
  refine go_lload_6 iF_commonDivisor_25 ?_
  refine gz_lrem iF_commonDivisor_27 (by omega) (by omega) (by omega) (by omega) ?_
  refine go_lstore_9 iF_commonDivisor_28 (by simp [Value.category, am_U]) ?_
  refine go_lload_6 iF_commonDivisor_30 ?_
  refine go_lstore_4 iF_commonDivisor_32 (by simp [Value.category, am_U]) ?_
  refine go_lload_9 iF_commonDivisor_34 ?_
  refine go_lstore_6 iF_commonDivisor_36 (by simp [Value.category, am_U]) ?_
  first | refine go_iinc_8 iF_commonDivisor_38 (ni_inc _ 1) (by simp [Value.category, am_U]) ?_ | refine go_iinc_8 iF_commonDivisor_38 rfl (by simp [Value.category, am_U]) ?_
  refine go_goto iF_commonDivisor_41 ?_
  rw [← Int.natCast_emod]
  exact k _ _
theorem en_F_cd {a i : Nat} {z z' : Value} (hi : i ≤ 100) : Go S 0 tF_commonDivisor (M, 9, [.long x0, am_U, .long y0, am_U, .long (zL a), am_U, .long (zL (0 : Nat)), am_U, .int (nI i), z, z'], []) (fun q => q = (some (.long (zL (Nat.gcd a 0))), M)) := by
  refine go_iload_8 iF_commonDivisor_9 ?_
  refine go_bipush (v := nI 100) iF_commonDivisor_11 (by decide) ?_
  first | refine gn_ic_ge iF_commonDivisor_13 (by omega) (by omega) (fun c_13 => ?_) (fun c_13 => ?_) | refine go_ic_ge iF_commonDivisor_13 (fun c_13 => ?_) (fun c_13 => ?_)
  · refine go_lload_4 iF_commonDivisor_44 ?_
    refine go_lret iF_commonDivisor_46 rfl ?_
    rw [Nat.gcd_zero_right]
  · refine go_lload_6 iF_commonDivisor_16 ?_
    refine go_lconst (v := zL 0) iF_commonDivisor_18 rfl ?_
    refine gz_lc_eq iF_commonDivisor_19 iF_commonDivisor_20 (by omega) (by omega) (fun c_19 => ?_) (fun c_19 => ?_)
    rotate_left
    · (first | omega | exact absurd c_19 (by decide) | (exfalso; simp (disch := omega) only [Int32.lt_iff_toInt_lt, Int32.le_iff_toInt_le, ← Int32.toInt_inj, nI_toInt, i32_m1, i32_0, i32_m20, i32_m40, i32_m30, i32_m9] at *; omega))
    refine go_lload_4 iF_commonDivisor_44 ?_
    refine go_lret iF_commonDivisor_46 rfl ?_
    rw [Nat.gcd_zero_right]
theorem lo_F_cd : ∀ k a b i (z z' : Value), b < 2 ^ k → a < 2 ^ 62 → b < 2 ^ 62 → i + 2 * k ≤ 100 → Go S 0 tF_commonDivisor (M, 9, [.long x0, am_U, .long y0, am_U, .long (zL (a : Nat)), am_U, .long (zL (b : Nat)), am_U, .int (nI i), z, z'], []) (fun q => q = (some (.long (zL (Nat.gcd a b))), M))
  | 0, a, b, i, z, z', hb, ha2, hb2, hi => by
    obtain rfl : b = 0 := by omega
    exact en_F_cd (by omega)
  | k + 1, a, b, i, z, z', hb, ha2, hb2, hi => by
    by_cases h0 : b = 0
    · subst h0; exact en_F_cd (by omega)
    · refine it_F_cd h0 ha2 hb2 (by omega) (fun z z' => ?_)
      have hr := Nat.mod_lt a (Nat.pos_of_ne_zero h0)
      rw [← gcd_step a b]
      by_cases h1 : a % b = 0
      · rw [h1]; exact en_F_cd (by omega)
      · refine it_F_cd h1 hb2 (by omega) (by omega) (fun z z' => ?_)
        rw [← gcd_step b (a % b)]
        have hr2 := Nat.mod_lt b (Nat.pos_of_ne_zero h1)
        have hr3 : b % (a % b) ≤ b - a % b := by
          rw [Nat.mod_eq_sub_mod (by omega)]
          exact Nat.mod_le _ _
        exact lo_F_cd k _ _ _ _ _ (by rw [Nat.pow_succ] at hb; omega) (by omega) (by omega) (by omega)
theorem sp_F_cd {a b : Nat} (ha : a < 2 ^ 62) (hb : b < 2 ^ 49) : Sp S 0 tF_commonDivisor M [.long (zL a), .long (zL b)] (fun q => q = (some (.long (zL (Nat.gcd a b))), M)) := by
  show Go _ _ tF_commonDivisor (_, 0, [.long (zL a), am_U, .long (zL b), am_U, am_U, am_U, am_U, am_U, am_U, am_U, am_U], []) _
  refine go_lloadn_0 iF_commonDivisor_0 ?_
  refine go_lstore_4 iF_commonDivisor_1 (by simp [Value.category, am_U]) ?_
  refine go_lloadn_2 iF_commonDivisor_3 ?_
  refine go_lstore_6 iF_commonDivisor_4 (by simp [Value.category, am_U]) ?_
  refine go_iconst (v := nI 0) iF_commonDivisor_6 rfl ?_
  refine go_istore_8 iF_commonDivisor_7 (by simp [Value.category, am_U]) ?_
  exact lo_F_cd 49 a b 0 _ _ hb ha (by omega) (by omega)
def fU (u : Int) (l : Nat) : Int := u.tdiv (Nat.gcd u.natAbs l : Nat)
def fL (u : Int) (l : Nat) : Int := ((l / Nat.gcd u.natAbs l : Nat) : Int)
theorem sp_F_tell {u : Int} {l : Nat} (hu : u.natAbs < 2 ^ 62) (hl0 : 0 < l) (hl : l < 2 ^ 49) : Sp S 1 tF_tell (am_sh n, mI, mL, am_mR n) [.ref 4, .long (zL u), .long (zL l)] (fun q => q = (none, (am_sh n, mI, am_u (am_u mL 4 0 (zL (fU u l))) 4 1 (zL (fL u l)), am_mR n))) := by
  have hg0 : 0 < Nat.gcd u.natAbs l := Nat.gcd_pos_of_pos_right _ hl0
  have hgl : Nat.gcd u.natAbs l ≤ l := Nat.gcd_le_right _ hl0
  have hab : (if 0 ≤ zL u then zL u else - zL u) = zL (u.natAbs : Nat) := by
    have e : (0 ≤ zL u) ↔ 0 ≤ u := by rw [Int64.le_iff_toInt_le, zL_toInt (by omega)]; rfl
    by_cases h : 0 ≤ u
    · rw [if_pos (e.mpr h)]; congr 1; omega
    · rw [if_neg (fun q => h (e.mp q)), zL_neg]; congr 1; omega
  have hb := sp_J_abs (S := S) (M := (am_sh n, mI, mL, am_mR n)) (x := zL u)
  rw [hab] at hb
  have h4 := sk_4 n
  show Go _ _ tF_tell (_, 0, [.ref 4, .long (zL u), am_U, .long (zL l), am_U, am_U, am_U], []) _
  refine go_lloadn_1 iF_tell_0 ?_
  refine gc_S1 iF_tell_1 (by decide) rfl rfl (Nat.le_of_ble_eq_true rfl) (Nat.le_of_ble_eq_true rfl) (by decide) hb ?_
  refine go_lloadn_3 iF_tell_4 ?_
  refine gc_S1 iF_tell_5 (by decide) rfl rfl (Nat.le_of_ble_eq_true rfl) (Nat.le_of_ble_eq_true rfl) (by decide) (sp_F_cd hu hl) ?_
  refine go_lstore_5 iF_tell_8 (by simp [Value.category, am_U]) ?_
  refine go_lload_5 iF_tell_10 ?_
  refine go_lconst (v := zL 0) iF_tell_12 rfl ?_
  refine gz_lc_le iF_tell_13 iF_tell_14 (by omega) (by omega) (fun c_13 => ?_) (fun c_13 => ?_)
  · (first | omega | exact absurd c_13 (by decide) | (exfalso; simp (disch := omega) only [Int32.lt_iff_toInt_lt, Int32.le_iff_toInt_le, ← Int32.toInt_inj, nI_toInt, i32_m1, i32_0, i32_m20, i32_m40, i32_m30, i32_m9] at *; omega))
  refine go_aloadn_0 iF_tell_17 rfl ?_
  refine go_lloadn_1 iF_tell_18 ?_
  refine go_lload_5 iF_tell_19 ?_
  refine gz_tdiv iF_tell_21 (by omega) (by omega) ?_
  refine go_putL iF_tell_22 rfl (by assumption) ?_
  refine go_aloadn_0 iF_tell_25 rfl ?_
  refine go_lloadn_3 iF_tell_26 ?_
  refine go_lload_5 iF_tell_27 ?_
  refine gz_ldiv iF_tell_29 (by omega) (by omega) (by omega) (by omega) ?_
  rw [← Int.natCast_ediv]
  refine go_putL iF_tell_30 rfl (by assumption) ?_
  refine go_vret iF_tell_33 rfl ?_
  rfl
theorem lo_M_tell {u : Int} {l : Nat} {w : Int32} (hu : u.natAbs < 2 ^ 62) (hl0 : 0 < l) (hl : l < 2 ^ 62) : ∀ b a (z z' : Value), a < 2 ^ 62 → b < 2 ^ 62 → Nat.gcd a b = Nat.gcd u.natAbs l → Go S 0 tM_tell ((am_sh n, mI, mL, am_mR n), 17, [.ref 43, .long (zL u), am_U, .long (zL l), am_U, .int w, .long (zL (a : Nat)), am_U, .long (zL (b : Nat)), am_U, z, z'], []) (fun q => q = (some (.int w), (am_sh n, mI, am_u (am_u mL 43 2 (zL (fU u l))) 43 3 (zL (fL u l)), am_mR n))) := by
  intro b
  induction b using Nat.strongRecOn with
  | ind b ih =>
    intro a z z' ha hb hg
    have hg0 : 0 < Nat.gcd u.natAbs l := Nat.gcd_pos_of_pos_right _ hl0
    have hgl : Nat.gcd u.natAbs l ≤ l := Nat.gcd_le_right _ hl0
    by_cases h0 : b = 0
    · subst h0
      rw [Nat.gcd_zero_right] at hg
      subst hg
      refine go_lload_8 iM_tell_17 ?_
      refine go_lconst (v := zL 0) iM_tell_19 rfl ?_
      refine gz_lc_eq iM_tell_20 iM_tell_21 (by omega) (by omega) (fun c_20 => ?_) (fun c_20 => ?_)
      rotate_left
      · (first | omega | exact absurd c_20 (by decide) | (exfalso; simp (disch := omega) only [Int32.lt_iff_toInt_lt, Int32.le_iff_toInt_le, ← Int32.toInt_inj, nI_toInt, i32_m1, i32_0, i32_m20, i32_m40, i32_m30, i32_m9] at *; omega))
      refine go_aloadn_0 iM_tell_42 rfl ?_
      refine go_lloadn_1 iM_tell_43 ?_
      refine go_lload_6 iM_tell_44 ?_
      refine gz_tdiv iM_tell_46 (by omega) (by omega) ?_
      refine go_putL iM_tell_47 rfl (sk_43 _) ?_
      refine go_aloadn_0 iM_tell_50 rfl ?_
      refine go_lloadn_3 iM_tell_51 ?_
      refine go_lload_6 iM_tell_52 ?_
      refine gz_ldiv iM_tell_54 (by omega) (by omega) (by omega) (by omega) ?_
      rw [← Int.natCast_ediv]
      refine go_putL iM_tell_55 rfl (sk_43 _) ?_
      refine go_iload_5 iM_tell_58 ?_
      refine go_iret iM_tell_60 rfl ?_
      rfl
    · have hr := Nat.mod_lt a (Nat.pos_of_ne_zero h0)
      refine go_lload_8 iM_tell_17 ?_
      refine go_lconst (v := zL 0) iM_tell_19 rfl ?_
      refine gz_lc_eq iM_tell_20 iM_tell_21 (by omega) (by omega) (fun c_20 => ?_) (fun c_20 => ?_)
      · (first | omega | exact absurd c_20 (by decide) | (exfalso; simp (disch := omega) only [Int32.lt_iff_toInt_lt, Int32.le_iff_toInt_le, ← Int32.toInt_inj, nI_toInt, i32_m1, i32_0, i32_m20, i32_m40, i32_m30, i32_m9] at *; omega))
      refine go_lload_6 iM_tell_24 ?_
      refine go_lload_8 iM_tell_26 ?_
      refine gz_lrem iM_tell_28 (by omega) (by omega) (by omega) (by omega) ?_
      refine go_lstore_10 iM_tell_29 (by simp [Value.category, am_U]) ?_
      refine go_lload_8 iM_tell_31 ?_
      refine go_lstore_6 iM_tell_33 (by simp [Value.category, am_U]) ?_
      refine go_lload_10 iM_tell_35 ?_
      refine go_lstore_8 iM_tell_37 (by simp [Value.category, am_U]) ?_
      refine go_goto iM_tell_39 ?_
      rw [← Int.natCast_emod]
      exact ih _ hr _ _ _ hb (by omega) (by rw [gcd_step]; exact hg)
theorem sp_M_tell {u : Int} {l : Nat} {w : Int32} (hu : u.natAbs < 2 ^ 62) (hl0 : 0 < l) (hl : l < 2 ^ 62) : Sp S 0 tM_tell (am_sh n, mI, mL, am_mR n) [.ref 43, .long (zL u), .long (zL l), .int w] (fun q => q = (some (.int w), (am_sh n, mI, am_u (am_u mL 43 2 (zL (fU u l))) 43 3 (zL (fL u l)), am_mR n))) := by
  have kk : ∀ v : Int64, v = zL (u.natAbs : Nat) → Go S 0 tM_tell ((am_sh n, mI, mL, am_mR n), 12, [.ref 43, .long (zL u), am_U, .long (zL l), am_U, .int w, am_U, am_U, am_U, am_U, am_U, am_U], [.long v]) (fun q => q = (some (.int w), (am_sh n, mI, am_u (am_u mL 43 2 (zL (fU u l))) 43 3 (zL (fL u l)), am_mR n))) := by
    intro v hv
    subst hv
    refine go_lstore_6 iM_tell_12 (by simp [Value.category, am_U]) ?_
    refine go_lloadn_3 iM_tell_14 ?_
    refine go_lstore_8 iM_tell_15 (by simp [Value.category, am_U]) ?_
    exact lo_M_tell hu hl0 hl l _ _ _ hu hl rfl
  show Go _ _ tM_tell (_, 0, [.ref 43, .long (zL u), am_U, .long (zL l), am_U, .int w, am_U, am_U, am_U, am_U, am_U, am_U], []) _
  refine go_lloadn_1 iM_tell_0 ?_
  refine go_lconst (v := zL 0) iM_tell_1 rfl ?_
  refine gz_lc_ge iM_tell_2 iM_tell_3 (by omega) (by omega) (fun c_2 => ?_) (fun c_2 => ?_)
  · refine go_lloadn_1 iM_tell_11 ?_
    exact kk _ (by congr 1; omega)
  · refine go_lloadn_1 iM_tell_6 ?_
    refine gz_lneg iM_tell_7 ?_
    refine go_goto iM_tell_8 ?_
    exact kk _ (by congr 1; omega)
end GCD
