/-! ===== the JDK's own methods ===== -/
theorem i32_m1 : (-1 : Int32).toInt = -1 := by decide
theorem i32_0 : (0 : Int32).toInt = 0 := by decide
theorem i32_m20 : (-20 : Int32).toInt = -20 := by decide
theorem i32_m40 : (-40 : Int32).toInt = -40 := by decide
theorem i32_m30 : (-30 : Int32).toInt = -30 := by decide
theorem i32_m9 : (-9 : Int32).toInt = -9 := by decide
theorem va_up_id {α : Type} (f : Nat → α) (a : Nat) : va_up f a (f a) = f := by
  funext j
  unfold va_up
  split
  · next e => rw [e]
  · rfl
theorem va_up_up {α : Type} (f : Nat → α) (a : Nat) (x y : α) : va_up (va_up f a x) a y = va_up f a y := bx_uu f a x y
theorem am_u_up {α : Type} (f : Nat → Nat → α) (a k : Nat) (g : Nat → α) (v : α) : am_u (va_up f a g) a k v = va_up f a (va_up g k v) := by
  unfold am_u
  rw [va_up_self, va_up_up]
/-- the first z places are v -/
def fl {α : Type} (f : Nat → α) (z : Nat) (v : α) : Nat → α := fun j => if j < z then v else f j
theorem fl_0 {α : Type} (f : Nat → α) (v : α) : fl f 0 v = f := by
  funext j
  simp [fl]
theorem fl_s {α : Type} (f : Nat → α) (z : Nat) (v : α) : va_up (fl f z v) z v = fl f (z + 1) v := by
  funext j
  unfold va_up fl
  by_cases h : j = z
  · subst h; simp
  · by_cases h2 : j < z
    · rw [if_neg h, if_pos h2, if_pos (by omega)]
    · rw [if_neg h, if_neg h2, if_neg (by omega)]
section JDK
variable {S : am_S} {M : am_M} {sh : List (Nat × Nat)} {mI : Nat → Nat → Int32} {mL : Nat → Nat → Int64} {mR : Nat → Nat → Option Nat}
theorem sp_J_min {x y : Int32} : Sp S 0 tJ_min M [.int x, .int y] (fun q => q = (some (.int (if x ≤ y then x else y)), M)) := by
  show Go _ _ tJ_min (_, 0, [.int x, .int y], []) _
  refine go_iloadn_0 iJ_min_0 ?_
  refine go_iloadn_1 iJ_min_1 ?_
  first | refine gn_ic_gt iJ_min_2 (by omega) (by omega) (fun c_2 => ?_) (fun c_2 => ?_) | refine go_ic_gt iJ_min_2 (fun c_2 => ?_) (fun c_2 => ?_)
  · refine go_iloadn_1 iJ_min_9 ?_
    refine go_iret iJ_min_10 rfl ?_
    first | rw [if_neg (Int32.not_le.mpr c_2)] | rw [if_pos (Int32.not_lt.mp c_2)]
  · refine go_iloadn_0 iJ_min_5 ?_
    refine go_goto iJ_min_6 ?_
    refine go_iret iJ_min_10 rfl ?_
    first | rw [if_neg (Int32.not_le.mpr c_2)] | rw [if_pos (Int32.not_lt.mp c_2)]
theorem sp_J_max {x y : Int32} : Sp S 0 tJ_max M [.int x, .int y] (fun q => q = (some (.int (if y ≤ x then x else y)), M)) := by
  show Go _ _ tJ_max (_, 0, [.int x, .int y], []) _
  refine go_iloadn_0 iJ_max_0 ?_
  refine go_iloadn_1 iJ_max_1 ?_
  first | refine gn_ic_lt iJ_max_2 (by omega) (by omega) (fun c_2 => ?_) (fun c_2 => ?_) | refine go_ic_lt iJ_max_2 (fun c_2 => ?_) (fun c_2 => ?_)
  · refine go_iloadn_1 iJ_max_9 ?_
    refine go_iret iJ_max_10 rfl ?_
    first | rw [if_neg (Int32.not_le.mpr c_2)] | rw [if_pos (Int32.not_lt.mp c_2)]
  · refine go_iloadn_0 iJ_max_5 ?_
    refine go_goto iJ_max_6 ?_
    refine go_iret iJ_max_10 rfl ?_
    first | rw [if_neg (Int32.not_le.mpr c_2)] | rw [if_pos (Int32.not_lt.mp c_2)]
theorem sp_J_abs {x : Int64} : Sp S 0 tJ_abs M [.long x] (fun q => q = (some (.long (if 0 ≤ x then x else -x)), M)) := by
  show Go _ _ tJ_abs (_, 0, [.long x, am_U], []) _
  refine go_lloadn_0 iJ_abs_0 ?_
  refine go_lconst (v := 0) iJ_abs_1 rfl ?_
  refine go_lcmp iJ_abs_2 ?_
  refine go_if_ge iJ_abs_3 (fun c_3 => ?_) (fun c_3 => ?_)
  · refine go_lloadn_0 iJ_abs_11 ?_
    refine go_lret iJ_abs_12 rfl ?_
    first | rw [if_pos ((lg_cmp_ge _ _).mp c_3)] | rw [if_neg (fun q => c_3 ((lg_cmp_ge _ _).mpr q))]
  · refine go_lloadn_0 iJ_abs_6 ?_
    refine go_lneg iJ_abs_7 ?_
    refine go_goto iJ_abs_8 ?_
    refine go_lret iJ_abs_12 rfl ?_
    first | rw [if_pos ((lg_cmp_ge _ _).mp c_3)] | rw [if_neg (fun q => c_3 ((lg_cmp_ge _ _).mpr q))]
theorem lo_J_fillI {a n : Nat} {v : Int32} (hs : sh[a]? = some (0, n)) (hn : n ≤ 10000) : ∀ k z, z + k = n → Go S 0 tJ_fillI ((sh, va_up mI a (fl (mI a) z v), mL, mR), 5, [.ref a, .int v, .int (nI z), .int (nI n)], []) (fun q => q = (none, (sh, va_up mI a (fl (mI a) n v), mL, mR)))
  | 0, z, hz => by
    obtain rfl : z = n := by omega
    refine go_iloadn_2 iJ_fillI_5 ?_
    refine go_iloadn_3 iJ_fillI_6 ?_
    first | refine gn_ic_ge iJ_fillI_7 (by omega) (by omega) (fun c_7 => ?_) (fun c_7 => ?_) | refine go_ic_ge iJ_fillI_7 (fun c_7 => ?_) (fun c_7 => ?_)
    rotate_left
    · (first | omega | exact absurd c_7 (by decide) | (exfalso; simp (disch := omega) only [Int32.lt_iff_toInt_lt, Int32.le_iff_toInt_le, ← Int32.toInt_inj, nI_toInt, i32_m1, i32_0, i32_m20, i32_m40, i32_m30, i32_m9] at *; omega))
    refine go_vret iJ_fillI_20 rfl ?_
    rfl
  | k + 1, z, hz => by
    refine go_iloadn_2 iJ_fillI_5 ?_
    refine go_iloadn_3 iJ_fillI_6 ?_
    first | refine gn_ic_ge iJ_fillI_7 (by omega) (by omega) (fun c_7 => ?_) (fun c_7 => ?_) | refine go_ic_ge iJ_fillI_7 (fun c_7 => ?_) (fun c_7 => ?_)
    · (first | omega | exact absurd c_7 (by decide) | (exfalso; simp (disch := omega) only [Int32.lt_iff_toInt_lt, Int32.le_iff_toInt_le, ← Int32.toInt_inj, nI_toInt, i32_m1, i32_0, i32_m20, i32_m40, i32_m30, i32_m9] at *; omega))
    refine go_aloadn_0 iJ_fillI_10 rfl ?_
    refine go_iloadn_2 iJ_fillI_11 ?_
    refine go_iloadn_1 iJ_fillI_12 ?_
    refine go_iast iJ_fillI_13 (by assumption) rfl (by omega) (by omega) ?_
    first | refine go_iinc_2 iJ_fillI_14 (ni_inc _ 1) (by simp [Value.category, am_U]) ?_ | refine go_iinc_2 iJ_fillI_14 rfl (by simp [Value.category, am_U]) ?_
    refine go_goto iJ_fillI_17 ?_
    rw [am_u_up, fl_s]
    exact lo_J_fillI hs hn k (z + 1) (by omega)
theorem sp_J_fillI {a n : Nat} {v : Int32} (hs : sh[a]? = some (0, n)) (hn : n ≤ 10000) : Sp S 0 tJ_fillI (sh, mI, mL, mR) [.ref a, .int v] (fun q => q = (none, (sh, va_up mI a (fl (mI a) n v), mL, mR))) := by
  show Go _ _ tJ_fillI (_, 0, [.ref a, .int v, am_U, am_U], []) _
  refine go_iconst (v := nI 0) iJ_fillI_0 rfl ?_
  refine go_istoren_2 iJ_fillI_1 (by simp [Value.category, am_U]) ?_
  refine go_aloadn_0 iJ_fillI_2 rfl ?_
  refine go_alen iJ_fillI_3 (by assumption) (by decide) ?_
  refine go_istoren_3 iJ_fillI_4 (by simp [Value.category, am_U]) ?_
  have h := lo_J_fillI (S := S) (mI := mI) (mL := mL) (mR := mR) (v := v) hs hn n 0 (by omega)
  rw [fl_0, va_up_id] at h
  exact h
theorem lo_J_fillJ {a n : Nat} {v : Int64} (hs : sh[a]? = some (1, n)) (hn : n ≤ 10000) : ∀ k z, z + k = n → Go S 0 tJ_fillJ ((sh, mI, va_up mL a (fl (mL a) z v), mR), 6, [.ref a, .long v, am_U, .int (nI z), .int (nI n)], []) (fun q => q = (none, (sh, mI, va_up mL a (fl (mL a) n v), mR)))
  | 0, z, hz => by
    obtain rfl : z = n := by omega
    refine go_iloadn_3 iJ_fillJ_6 ?_
    refine go_iload_4 iJ_fillJ_7 ?_
    first | refine gn_ic_ge iJ_fillJ_9 (by omega) (by omega) (fun c_9 => ?_) (fun c_9 => ?_) | refine go_ic_ge iJ_fillJ_9 (fun c_9 => ?_) (fun c_9 => ?_)
    rotate_left
    · (first | omega | exact absurd c_9 (by decide) | (exfalso; simp (disch := omega) only [Int32.lt_iff_toInt_lt, Int32.le_iff_toInt_le, ← Int32.toInt_inj, nI_toInt, i32_m1, i32_0, i32_m20, i32_m40, i32_m30, i32_m9] at *; omega))
    refine go_vret iJ_fillJ_22 rfl ?_
    rfl
  | k + 1, z, hz => by
    refine go_iloadn_3 iJ_fillJ_6 ?_
    refine go_iload_4 iJ_fillJ_7 ?_
    first | refine gn_ic_ge iJ_fillJ_9 (by omega) (by omega) (fun c_9 => ?_) (fun c_9 => ?_) | refine go_ic_ge iJ_fillJ_9 (fun c_9 => ?_) (fun c_9 => ?_)
    · (first | omega | exact absurd c_9 (by decide) | (exfalso; simp (disch := omega) only [Int32.lt_iff_toInt_lt, Int32.le_iff_toInt_le, ← Int32.toInt_inj, nI_toInt, i32_m1, i32_0, i32_m20, i32_m40, i32_m30, i32_m9] at *; omega))
    refine go_aloadn_0 iJ_fillJ_12 rfl ?_
    refine go_iloadn_3 iJ_fillJ_13 ?_
    refine go_lloadn_1 iJ_fillJ_14 ?_
    refine go_last iJ_fillJ_15 (by assumption) rfl (by omega) (by omega) ?_
    first | refine go_iinc_3 iJ_fillJ_16 (ni_inc _ 1) (by simp [Value.category, am_U]) ?_ | refine go_iinc_3 iJ_fillJ_16 rfl (by simp [Value.category, am_U]) ?_
    refine go_goto iJ_fillJ_19 ?_
    rw [am_u_up, fl_s]
    exact lo_J_fillJ hs hn k (z + 1) (by omega)
theorem sp_J_fillJ {a n : Nat} {v : Int64} (hs : sh[a]? = some (1, n)) (hn : n ≤ 10000) : Sp S 0 tJ_fillJ (sh, mI, mL, mR) [.ref a, .long v] (fun q => q = (none, (sh, mI, va_up mL a (fl (mL a) n v), mR))) := by
  show Go _ _ tJ_fillJ (_, 0, [.ref a, .long v, am_U, am_U, am_U], []) _
  refine go_iconst (v := nI 0) iJ_fillJ_0 rfl ?_
  refine go_istoren_3 iJ_fillJ_1 (by simp [Value.category, am_U]) ?_
  refine go_aloadn_0 iJ_fillJ_2 rfl ?_
  refine go_alen iJ_fillJ_3 (by assumption) (by decide) ?_
  refine go_istore_4 iJ_fillJ_4 (by simp [Value.category, am_U]) ?_
  have h := lo_J_fillJ (S := S) (mI := mI) (mL := mL) (mR := mR) (v := v) hs hn n 0 (by omega)
  rw [fl_0, va_up_id] at h
  exact h
end JDK
