/-! ===== told, mark, odds, mean ===== -/
def minF (f : Nat → Int32) : Nat → Int32
  | 0 => f 0
  | i + 1 => if minF f i ≤ f (i + 1) then minF f i else f (i + 1)
def maxF (f : Nat → Int32) : Nat → Int32
  | 0 => f 0
  | i + 1 => if f (i + 1) ≤ maxF f i then maxF f i else f (i + 1)
def sumF (f : Nat → Int32) : Nat → Int32
  | 0 => nI 0
  | i + 1 => sumF f i + f i
/-- told 2, 3: of s odds -/
def leK (f : Nat → Int32) (s : Nat) : Int32 := if s = 0 then -9 else minF f (s - 1)
def grK (f : Nat → Int32) (s : Nat) : Int32 := if s = 0 then -9 else maxF f (s - 1)
theorem minF_congr {f g : Nat → Int32} : ∀ i, (∀ j, j ≤ i → f j = g j) → minF f i = minF g i
  | 0, h => h 0 (Nat.le_refl _)
  | i + 1, h => by
    have ih := minF_congr i (fun j hj => h j (by omega))
    simp only [minF, ih, h (i + 1) (Nat.le_refl _)]
theorem maxF_congr {f g : Nat → Int32} : ∀ i, (∀ j, j ≤ i → f j = g j) → maxF f i = maxF g i
  | 0, h => h 0 (Nat.le_refl _)
  | i + 1, h => by
    have ih := maxF_congr i (fun j hj => h j (by omega))
    simp only [maxF, ih, h (i + 1) (Nat.le_refl _)]
theorem sumF_congr {f g : Nat → Int32} : ∀ i, (∀ j, j < i → f j = g j) → sumF f i = sumF g i
  | 0, _ => rfl
  | i + 1, h => by
    have ih := sumF_congr i (fun j hj => h j (by omega))
    simp only [sumF, ih, h i (by omega)]
theorem szK_le (kd : Nat) : szK kd ≤ 4 := by
  unfold szK
  (repeat' split) <;> omega
section TLD
variable {S : am_S} {mI : Nat → Nat → Int32} {mL : Nat → Nat → Int64} {n : Nat} {p : Nat} {s : Nat}
theorem lo_P_least (hp : p < n) (hs : mI (60 + 2 * p) 1 = nI s) (h4 : s ≤ 4) : ∀ k i, i + 1 + k = s → Go S 1 tP_least ((am_sh n, mI, mL, am_mR n), 19, [.ref (60 + 2 * p), .int (minF (mI (61 + 2 * p)) i), .int (nI (i + 1))], []) (fun q => q = (some (.int (minF (mI (61 + 2 * p)) (s - 1))), (am_sh n, mI, mL, am_mR n)))
  | 0, i, hi => by
    have hk := sk_play hp
    have hr := mR_wins n hp
    have hv := sh_wins hp
    obtain rfl : i = s - 1 := by omega
    refine go_iloadn_2 iP_least_19 ?_
    refine go_aloadn_0 iP_least_20 rfl ?_
    refine go_getI iP_least_21 (Or.inl rfl) (by assumption) ?_
    try simp (disch := omega) only [am_u_n, am_u_s, am_u_k, hs]
    first | refine gn_ic_ge iP_least_24 (by omega) (by omega) (fun c_24 => ?_) (fun c_24 => ?_) | refine go_ic_ge iP_least_24 (fun c_24 => ?_) (fun c_24 => ?_)
    rotate_left
    · (first | omega | exact absurd c_24 (by decide) | (exfalso; simp (disch := omega) only [Int32.lt_iff_toInt_lt, Int32.le_iff_toInt_le, ← Int32.toInt_inj, nI_toInt, i32_m1, i32_0, i32_m20, i32_m40, i32_m30, i32_m9] at *; omega))
    refine go_iloadn_1 iP_least_44 ?_
    refine go_iret iP_least_45 rfl ?_
    rfl
  | k + 1, i, hi => by
    have hk := sk_play hp
    have hr := mR_wins n hp
    have hv := sh_wins hp
    refine go_iloadn_2 iP_least_19 ?_
    refine go_aloadn_0 iP_least_20 rfl ?_
    refine go_getI iP_least_21 (Or.inl rfl) (by assumption) ?_
    try simp (disch := omega) only [am_u_n, am_u_s, am_u_k, hs]
    first | refine gn_ic_ge iP_least_24 (by omega) (by omega) (fun c_24 => ?_) (fun c_24 => ?_) | refine go_ic_ge iP_least_24 (fun c_24 => ?_) (fun c_24 => ?_)
    · (first | omega | exact absurd c_24 (by decide) | (exfalso; simp (disch := omega) only [Int32.lt_iff_toInt_lt, Int32.le_iff_toInt_le, ← Int32.toInt_inj, nI_toInt, i32_m1, i32_0, i32_m20, i32_m40, i32_m30, i32_m9] at *; omega))
    refine go_iloadn_1 iP_least_27 ?_
    refine go_aloadn_0 iP_least_28 rfl ?_
    refine go_getR iP_least_29 rfl (by assumption) (by assumption) ?_
    refine go_iloadn_2 iP_least_32 ?_
    refine go_iald iP_least_33 (by assumption) rfl (by omega) (by omega) ?_
    try simp (disch := omega) only [am_u_n, am_u_s, am_u_k, hs]
    refine gc_S1 iP_least_34 (by decide) rfl rfl (Nat.le_of_ble_eq_true rfl) (Nat.le_of_ble_eq_true rfl) (by decide) sp_J_min ?_
    refine go_istoren_1 iP_least_37 (by simp [Value.category, am_U]) ?_
    first | refine go_iinc_2 iP_least_38 (ni_inc _ 1) (by simp [Value.category, am_U]) ?_ | refine go_iinc_2 iP_least_38 rfl (by simp [Value.category, am_U]) ?_
    refine go_goto iP_least_41 ?_
    exact lo_P_least hp hs h4 k (i + 1) (by omega)
theorem sp_P_least (hp : p < n) (hs : mI (60 + 2 * p) 1 = nI s) (h4 : s ≤ 4) : Sp S 1 tP_least (am_sh n, mI, mL, am_mR n) [.ref (60 + 2 * p)] (fun q => q = (some (.int (leK (mI (61 + 2 * p)) s)), (am_sh n, mI, mL, am_mR n))) := by
  have hk := sk_play hp
  have hr := mR_wins n hp
  have hv := sh_wins hp
  show Go _ _ tP_least (_, 0, [.ref (60 + 2 * p), am_U, am_U], []) _
  by_cases h0 : s = 0
  · subst h0
    refine go_aloadn_0 iP_least_0 rfl ?_
    refine go_getI iP_least_1 (Or.inl rfl) (by assumption) ?_
    try simp (disch := omega) only [am_u_n, am_u_s, am_u_k, hs]
    refine go_if_ne iP_least_4 (fun c_4 => ?_) (fun c_4 => ?_)
    · (first | omega | exact absurd c_4 (by decide) | (exfalso; simp (disch := omega) only [Int32.lt_iff_toInt_lt, Int32.le_iff_toInt_le, ← Int32.toInt_inj, nI_toInt, i32_m1, i32_0, i32_m20, i32_m40, i32_m30, i32_m9] at *; omega))
    refine go_bipush (v := (-9)) iP_least_7 (by decide) ?_
    refine go_iret iP_least_9 rfl ?_
    rfl
  · have e : leK (mI (61 + 2 * p)) s = minF (mI (61 + 2 * p)) (s - 1) := by unfold leK; rw [if_neg h0]
    rw [e]
    refine go_aloadn_0 iP_least_0 rfl ?_
    refine go_getI iP_least_1 (Or.inl rfl) (by assumption) ?_
    try simp (disch := omega) only [am_u_n, am_u_s, am_u_k, hs]
    refine go_if_ne iP_least_4 (fun c_4 => ?_) (fun c_4 => ?_)
    rotate_left
    · (first | omega | exact absurd c_4 (by decide) | (exfalso; simp (disch := omega) only [Int32.lt_iff_toInt_lt, Int32.le_iff_toInt_le, ← Int32.toInt_inj, nI_toInt, i32_m1, i32_0, i32_m20, i32_m40, i32_m30, i32_m9] at *; omega))
    refine go_aloadn_0 iP_least_10 rfl ?_
    refine go_getR iP_least_11 rfl (by assumption) (by assumption) ?_
    refine go_iconst (v := nI 0) iP_least_14 rfl ?_
    refine go_iald iP_least_15 (by assumption) rfl (by omega) (by omega) ?_
    try simp (disch := omega) only [am_u_n, am_u_s, am_u_k, hs]
    refine go_istoren_1 iP_least_16 (by simp [Value.category, am_U]) ?_
    refine go_iconst (v := nI 1) iP_least_17 rfl ?_
    refine go_istoren_2 iP_least_18 (by simp [Value.category, am_U]) ?_
    exact lo_P_least hp hs h4 (s - 1) 0 (by omega)
theorem lo_P_greatest (hp : p < n) (hs : mI (60 + 2 * p) 1 = nI s) (h4 : s ≤ 4) : ∀ k i, i + 1 + k = s → Go S 1 tP_greatest ((am_sh n, mI, mL, am_mR n), 19, [.ref (60 + 2 * p), .int (maxF (mI (61 + 2 * p)) i), .int (nI (i + 1))], []) (fun q => q = (some (.int (maxF (mI (61 + 2 * p)) (s - 1))), (am_sh n, mI, mL, am_mR n)))
  | 0, i, hi => by
    have hk := sk_play hp
    have hr := mR_wins n hp
    have hv := sh_wins hp
    obtain rfl : i = s - 1 := by omega
    refine go_iloadn_2 iP_greatest_19 ?_
    refine go_aloadn_0 iP_greatest_20 rfl ?_
    refine go_getI iP_greatest_21 (Or.inl rfl) (by assumption) ?_
    try simp (disch := omega) only [am_u_n, am_u_s, am_u_k, hs]
    first | refine gn_ic_ge iP_greatest_24 (by omega) (by omega) (fun c_24 => ?_) (fun c_24 => ?_) | refine go_ic_ge iP_greatest_24 (fun c_24 => ?_) (fun c_24 => ?_)
    rotate_left
    · (first | omega | exact absurd c_24 (by decide) | (exfalso; simp (disch := omega) only [Int32.lt_iff_toInt_lt, Int32.le_iff_toInt_le, ← Int32.toInt_inj, nI_toInt, i32_m1, i32_0, i32_m20, i32_m40, i32_m30, i32_m9] at *; omega))
    refine go_iloadn_1 iP_greatest_44 ?_
    refine go_iret iP_greatest_45 rfl ?_
    rfl
  | k + 1, i, hi => by
    have hk := sk_play hp
    have hr := mR_wins n hp
    have hv := sh_wins hp
    refine go_iloadn_2 iP_greatest_19 ?_
    refine go_aloadn_0 iP_greatest_20 rfl ?_
    refine go_getI iP_greatest_21 (Or.inl rfl) (by assumption) ?_
    try simp (disch := omega) only [am_u_n, am_u_s, am_u_k, hs]
    first | refine gn_ic_ge iP_greatest_24 (by omega) (by omega) (fun c_24 => ?_) (fun c_24 => ?_) | refine go_ic_ge iP_greatest_24 (fun c_24 => ?_) (fun c_24 => ?_)
    · (first | omega | exact absurd c_24 (by decide) | (exfalso; simp (disch := omega) only [Int32.lt_iff_toInt_lt, Int32.le_iff_toInt_le, ← Int32.toInt_inj, nI_toInt, i32_m1, i32_0, i32_m20, i32_m40, i32_m30, i32_m9] at *; omega))
    refine go_iloadn_1 iP_greatest_27 ?_
    refine go_aloadn_0 iP_greatest_28 rfl ?_
    refine go_getR iP_greatest_29 rfl (by assumption) (by assumption) ?_
    refine go_iloadn_2 iP_greatest_32 ?_
    refine go_iald iP_greatest_33 (by assumption) rfl (by omega) (by omega) ?_
    try simp (disch := omega) only [am_u_n, am_u_s, am_u_k, hs]
    refine gc_S1 iP_greatest_34 (by decide) rfl rfl (Nat.le_of_ble_eq_true rfl) (Nat.le_of_ble_eq_true rfl) (by decide) sp_J_max ?_
    refine go_istoren_1 iP_greatest_37 (by simp [Value.category, am_U]) ?_
    first | refine go_iinc_2 iP_greatest_38 (ni_inc _ 1) (by simp [Value.category, am_U]) ?_ | refine go_iinc_2 iP_greatest_38 rfl (by simp [Value.category, am_U]) ?_
    refine go_goto iP_greatest_41 ?_
    exact lo_P_greatest hp hs h4 k (i + 1) (by omega)
theorem sp_P_greatest (hp : p < n) (hs : mI (60 + 2 * p) 1 = nI s) (h4 : s ≤ 4) : Sp S 1 tP_greatest (am_sh n, mI, mL, am_mR n) [.ref (60 + 2 * p)] (fun q => q = (some (.int (grK (mI (61 + 2 * p)) s)), (am_sh n, mI, mL, am_mR n))) := by
  have hk := sk_play hp
  have hr := mR_wins n hp
  have hv := sh_wins hp
  show Go _ _ tP_greatest (_, 0, [.ref (60 + 2 * p), am_U, am_U], []) _
  by_cases h0 : s = 0
  · subst h0
    refine go_aloadn_0 iP_greatest_0 rfl ?_
    refine go_getI iP_greatest_1 (Or.inl rfl) (by assumption) ?_
    try simp (disch := omega) only [am_u_n, am_u_s, am_u_k, hs]
    refine go_if_ne iP_greatest_4 (fun c_4 => ?_) (fun c_4 => ?_)
    · (first | omega | exact absurd c_4 (by decide) | (exfalso; simp (disch := omega) only [Int32.lt_iff_toInt_lt, Int32.le_iff_toInt_le, ← Int32.toInt_inj, nI_toInt, i32_m1, i32_0, i32_m20, i32_m40, i32_m30, i32_m9] at *; omega))
    refine go_bipush (v := (-9)) iP_greatest_7 (by decide) ?_
    refine go_iret iP_greatest_9 rfl ?_
    rfl
  · have e : grK (mI (61 + 2 * p)) s = maxF (mI (61 + 2 * p)) (s - 1) := by unfold grK; rw [if_neg h0]
    rw [e]
    refine go_aloadn_0 iP_greatest_0 rfl ?_
    refine go_getI iP_greatest_1 (Or.inl rfl) (by assumption) ?_
    try simp (disch := omega) only [am_u_n, am_u_s, am_u_k, hs]
    refine go_if_ne iP_greatest_4 (fun c_4 => ?_) (fun c_4 => ?_)
    rotate_left
    · (first | omega | exact absurd c_4 (by decide) | (exfalso; simp (disch := omega) only [Int32.lt_iff_toInt_lt, Int32.le_iff_toInt_le, ← Int32.toInt_inj, nI_toInt, i32_m1, i32_0, i32_m20, i32_m40, i32_m30, i32_m9] at *; omega))
    refine go_aloadn_0 iP_greatest_10 rfl ?_
    refine go_getR iP_greatest_11 rfl (by assumption) (by assumption) ?_
    refine go_iconst (v := nI 0) iP_greatest_14 rfl ?_
    refine go_iald iP_greatest_15 (by assumption) rfl (by omega) (by omega) ?_
    try simp (disch := omega) only [am_u_n, am_u_s, am_u_k, hs]
    refine go_istoren_1 iP_greatest_16 (by simp [Value.category, am_U]) ?_
    refine go_iconst (v := nI 1) iP_greatest_17 rfl ?_
    refine go_istoren_2 iP_greatest_18 (by simp [Value.category, am_U]) ?_
    exact lo_P_greatest hp hs h4 (s - 1) 0 (by omega)
theorem lo_P_sum (hp : p < n) (hs : mI (60 + 2 * p) 1 = nI s) (h4 : s ≤ 4) : ∀ k i, i + k = s → Go S 0 tP_sum ((am_sh n, mI, mL, am_mR n), 4, [.ref (60 + 2 * p), .int (sumF (mI (61 + 2 * p)) i), .int (nI i)], []) (fun q => q = (some (.int (sumF (mI (61 + 2 * p)) s)), (am_sh n, mI, mL, am_mR n)))
  | 0, i, hi => by
    have hk := sk_play hp
    have hr := mR_wins n hp
    have hv := sh_wins hp
    obtain rfl : i = s := by omega
    refine go_iloadn_2 iP_sum_4 ?_
    refine go_aloadn_0 iP_sum_5 rfl ?_
    refine go_getI iP_sum_6 (Or.inl rfl) (by assumption) ?_
    try simp (disch := omega) only [am_u_n, am_u_s, am_u_k, hs]
    first | refine gn_ic_ge iP_sum_9 (by omega) (by omega) (fun c_9 => ?_) (fun c_9 => ?_) | refine go_ic_ge iP_sum_9 (fun c_9 => ?_) (fun c_9 => ?_)
    rotate_left
    · (first | omega | exact absurd c_9 (by decide) | (exfalso; simp (disch := omega) only [Int32.lt_iff_toInt_lt, Int32.le_iff_toInt_le, ← Int32.toInt_inj, nI_toInt, i32_m1, i32_0, i32_m20, i32_m40, i32_m30, i32_m9] at *; omega))
    refine go_iloadn_1 iP_sum_27 ?_
    refine go_iret iP_sum_28 rfl ?_
    rfl
  | k + 1, i, hi => by
    have hk := sk_play hp
    have hr := mR_wins n hp
    have hv := sh_wins hp
    refine go_iloadn_2 iP_sum_4 ?_
    refine go_aloadn_0 iP_sum_5 rfl ?_
    refine go_getI iP_sum_6 (Or.inl rfl) (by assumption) ?_
    try simp (disch := omega) only [am_u_n, am_u_s, am_u_k, hs]
    first | refine gn_ic_ge iP_sum_9 (by omega) (by omega) (fun c_9 => ?_) (fun c_9 => ?_) | refine go_ic_ge iP_sum_9 (fun c_9 => ?_) (fun c_9 => ?_)
    · (first | omega | exact absurd c_9 (by decide) | (exfalso; simp (disch := omega) only [Int32.lt_iff_toInt_lt, Int32.le_iff_toInt_le, ← Int32.toInt_inj, nI_toInt, i32_m1, i32_0, i32_m20, i32_m40, i32_m30, i32_m9] at *; omega))
    refine go_iloadn_1 iP_sum_12 ?_
    refine go_aloadn_0 iP_sum_13 rfl ?_
    refine go_getR iP_sum_14 rfl (by assumption) (by assumption) ?_
    refine go_iloadn_2 iP_sum_17 ?_
    refine go_iald iP_sum_18 (by assumption) rfl (by omega) (by omega) ?_
    try simp (disch := omega) only [am_u_n, am_u_s, am_u_k, hs]
    first | refine gn_iadd iP_sum_19 ?_ | refine go_iadd iP_sum_19 ?_
    refine go_istoren_1 iP_sum_20 (by simp [Value.category, am_U]) ?_
    first | refine go_iinc_2 iP_sum_21 (ni_inc _ 1) (by simp [Value.category, am_U]) ?_ | refine go_iinc_2 iP_sum_21 rfl (by simp [Value.category, am_U]) ?_
    refine go_goto iP_sum_24 ?_
    exact lo_P_sum hp hs h4 k (i + 1) (by omega)
theorem sp_P_sum (hp : p < n) (hs : mI (60 + 2 * p) 1 = nI s) (h4 : s ≤ 4) : Sp S 0 tP_sum (am_sh n, mI, mL, am_mR n) [.ref (60 + 2 * p)] (fun q => q = (some (.int (sumF (mI (61 + 2 * p)) s)), (am_sh n, mI, mL, am_mR n))) := by
  show Go _ _ tP_sum (_, 0, [.ref (60 + 2 * p), am_U, am_U], []) _
  refine go_iconst (v := nI 0) iP_sum_0 rfl ?_
  refine go_istoren_1 iP_sum_1 (by simp [Value.category, am_U]) ?_
  refine go_iconst (v := nI 0) iP_sum_2 rfl ?_
  refine go_istoren_2 iP_sum_3 (by simp [Value.category, am_U]) ?_
  exact lo_P_sum hp hs h4 s 0 (by omega)
theorem sp_M_many {kd : Nat} (hp : p < 8) (hk : mI 45 p = nI kd) (h4 : kd < 4) : Sp S 0 tM_many (am_sh n, mI, mL, am_mR n) [.ref 43, .int (nI p)] (fun q => q = (some (.int (nI (szK kd))), (am_sh n, mI, mL, am_mR n))) := by
  show Go _ _ tM_many (_, 0, [.ref 43, .int (nI p)], []) _
  rcases (by omega : kd = 0 ∨ kd = 1 ∨ kd = 2 ∨ kd = 3) with rfl | rfl | rfl | rfl
  · refine go_aloadn_0 iM_many_0 rfl ?_
    refine go_getR iM_many_1 rfl (sk_43 _) (mR_43_6 _) ?_
    refine go_iloadn_1 iM_many_4 ?_
    refine go_iald iM_many_5 (sh_45 _) rfl (by omega) (by omega) ?_
    try simp (disch := omega) only [am_u_n, am_u_s, am_u_k, hk]
    refine go_if_ne iM_many_6 (fun c_6 => ?_) (fun c_6 => ?_)
    · (first | omega | exact absurd c_6 (by decide) | (exfalso; simp (disch := omega) only [Int32.lt_iff_toInt_lt, Int32.le_iff_toInt_le, ← Int32.toInt_inj, nI_toInt, i32_m1, i32_0, i32_m20, i32_m40, i32_m30, i32_m9] at *; omega))
    refine go_iconst (v := nI 0) iM_many_9 rfl ?_
    refine go_goto iM_many_10 ?_
    refine go_iret iM_many_42 rfl ?_
    rfl
  · refine go_aloadn_0 iM_many_0 rfl ?_
    refine go_getR iM_many_1 rfl (sk_43 _) (mR_43_6 _) ?_
    refine go_iloadn_1 iM_many_4 ?_
    refine go_iald iM_many_5 (sh_45 _) rfl (by omega) (by omega) ?_
    try simp (disch := omega) only [am_u_n, am_u_s, am_u_k, hk]
    refine go_if_ne iM_many_6 (fun c_6 => ?_) (fun c_6 => ?_)
    rotate_left
    · (first | omega | exact absurd c_6 (by decide) | (exfalso; simp (disch := omega) only [Int32.lt_iff_toInt_lt, Int32.le_iff_toInt_le, ← Int32.toInt_inj, nI_toInt, i32_m1, i32_0, i32_m20, i32_m40, i32_m30, i32_m9] at *; omega))
    refine go_aloadn_0 iM_many_13 rfl ?_
    refine go_getR iM_many_14 rfl (sk_43 _) (mR_43_6 _) ?_
    refine go_iloadn_1 iM_many_17 ?_
    refine go_iald iM_many_18 (sh_45 _) rfl (by omega) (by omega) ?_
    try simp (disch := omega) only [am_u_n, am_u_s, am_u_k, hk]
    refine go_iconst (v := nI 1) iM_many_19 rfl ?_
    first | refine gn_ic_ne iM_many_20 (by omega) (by omega) (fun c_20 => ?_) (fun c_20 => ?_) | refine go_ic_ne iM_many_20 (fun c_20 => ?_) (fun c_20 => ?_)
    · (first | omega | exact absurd c_20 (by decide) | (exfalso; simp (disch := omega) only [Int32.lt_iff_toInt_lt, Int32.le_iff_toInt_le, ← Int32.toInt_inj, nI_toInt, i32_m1, i32_0, i32_m20, i32_m40, i32_m30, i32_m9] at *; omega))
    refine go_iconst (v := nI 3) iM_many_23 rfl ?_
    refine go_goto iM_many_24 ?_
    refine go_iret iM_many_42 rfl ?_
    rfl
  · refine go_aloadn_0 iM_many_0 rfl ?_
    refine go_getR iM_many_1 rfl (sk_43 _) (mR_43_6 _) ?_
    refine go_iloadn_1 iM_many_4 ?_
    refine go_iald iM_many_5 (sh_45 _) rfl (by omega) (by omega) ?_
    try simp (disch := omega) only [am_u_n, am_u_s, am_u_k, hk]
    refine go_if_ne iM_many_6 (fun c_6 => ?_) (fun c_6 => ?_)
    rotate_left
    · (first | omega | exact absurd c_6 (by decide) | (exfalso; simp (disch := omega) only [Int32.lt_iff_toInt_lt, Int32.le_iff_toInt_le, ← Int32.toInt_inj, nI_toInt, i32_m1, i32_0, i32_m20, i32_m40, i32_m30, i32_m9] at *; omega))
    refine go_aloadn_0 iM_many_13 rfl ?_
    refine go_getR iM_many_14 rfl (sk_43 _) (mR_43_6 _) ?_
    refine go_iloadn_1 iM_many_17 ?_
    refine go_iald iM_many_18 (sh_45 _) rfl (by omega) (by omega) ?_
    try simp (disch := omega) only [am_u_n, am_u_s, am_u_k, hk]
    refine go_iconst (v := nI 1) iM_many_19 rfl ?_
    first | refine gn_ic_ne iM_many_20 (by omega) (by omega) (fun c_20 => ?_) (fun c_20 => ?_) | refine go_ic_ne iM_many_20 (fun c_20 => ?_) (fun c_20 => ?_)
    rotate_left
    · (first | omega | exact absurd c_20 (by decide) | (exfalso; simp (disch := omega) only [Int32.lt_iff_toInt_lt, Int32.le_iff_toInt_le, ← Int32.toInt_inj, nI_toInt, i32_m1, i32_0, i32_m20, i32_m40, i32_m30, i32_m9] at *; omega))
    refine go_aloadn_0 iM_many_27 rfl ?_
    refine go_getR iM_many_28 rfl (sk_43 _) (mR_43_6 _) ?_
    refine go_iloadn_1 iM_many_31 ?_
    refine go_iald iM_many_32 (sh_45 _) rfl (by omega) (by omega) ?_
    try simp (disch := omega) only [am_u_n, am_u_s, am_u_k, hk]
    refine go_iconst (v := nI 2) iM_many_33 rfl ?_
    first | refine gn_ic_ne iM_many_34 (by omega) (by omega) (fun c_34 => ?_) (fun c_34 => ?_) | refine go_ic_ne iM_many_34 (fun c_34 => ?_) (fun c_34 => ?_)
    · (first | omega | exact absurd c_34 (by decide) | (exfalso; simp (disch := omega) only [Int32.lt_iff_toInt_lt, Int32.le_iff_toInt_le, ← Int32.toInt_inj, nI_toInt, i32_m1, i32_0, i32_m20, i32_m40, i32_m30, i32_m9] at *; omega))
    refine go_iconst (v := nI 4) iM_many_37 rfl ?_
    refine go_goto iM_many_38 ?_
    refine go_iret iM_many_42 rfl ?_
    rfl
  · refine go_aloadn_0 iM_many_0 rfl ?_
    refine go_getR iM_many_1 rfl (sk_43 _) (mR_43_6 _) ?_
    refine go_iloadn_1 iM_many_4 ?_
    refine go_iald iM_many_5 (sh_45 _) rfl (by omega) (by omega) ?_
    try simp (disch := omega) only [am_u_n, am_u_s, am_u_k, hk]
    refine go_if_ne iM_many_6 (fun c_6 => ?_) (fun c_6 => ?_)
    rotate_left
    · (first | omega | exact absurd c_6 (by decide) | (exfalso; simp (disch := omega) only [Int32.lt_iff_toInt_lt, Int32.le_iff_toInt_le, ← Int32.toInt_inj, nI_toInt, i32_m1, i32_0, i32_m20, i32_m40, i32_m30, i32_m9] at *; omega))
    refine go_aloadn_0 iM_many_13 rfl ?_
    refine go_getR iM_many_14 rfl (sk_43 _) (mR_43_6 _) ?_
    refine go_iloadn_1 iM_many_17 ?_
    refine go_iald iM_many_18 (sh_45 _) rfl (by omega) (by omega) ?_
    try simp (disch := omega) only [am_u_n, am_u_s, am_u_k, hk]
    refine go_iconst (v := nI 1) iM_many_19 rfl ?_
    first | refine gn_ic_ne iM_many_20 (by omega) (by omega) (fun c_20 => ?_) (fun c_20 => ?_) | refine go_ic_ne iM_many_20 (fun c_20 => ?_) (fun c_20 => ?_)
    rotate_left
    · (first | omega | exact absurd c_20 (by decide) | (exfalso; simp (disch := omega) only [Int32.lt_iff_toInt_lt, Int32.le_iff_toInt_le, ← Int32.toInt_inj, nI_toInt, i32_m1, i32_0, i32_m20, i32_m40, i32_m30, i32_m9] at *; omega))
    refine go_aloadn_0 iM_many_27 rfl ?_
    refine go_getR iM_many_28 rfl (sk_43 _) (mR_43_6 _) ?_
    refine go_iloadn_1 iM_many_31 ?_
    refine go_iald iM_many_32 (sh_45 _) rfl (by omega) (by omega) ?_
    try simp (disch := omega) only [am_u_n, am_u_s, am_u_k, hk]
    refine go_iconst (v := nI 2) iM_many_33 rfl ?_
    first | refine gn_ic_ne iM_many_34 (by omega) (by omega) (fun c_34 => ?_) (fun c_34 => ?_) | refine go_ic_ne iM_many_34 (fun c_34 => ?_) (fun c_34 => ?_)
    rotate_left
    · (first | omega | exact absurd c_34 (by decide) | (exfalso; simp (disch := omega) only [Int32.lt_iff_toInt_lt, Int32.le_iff_toInt_le, ← Int32.toInt_inj, nI_toInt, i32_m1, i32_0, i32_m20, i32_m40, i32_m30, i32_m9] at *; omega))
    refine go_iconst (v := nI 1) iM_many_41 rfl ?_
    refine go_iret iM_many_42 rfl ?_
    rfl
/-- best of the first i odds, as the reference goes: what = 2 the least, else the greatest -/
def tlF (w : Nat) (f : Nat → Int32) (i : Nat) : Int32 := if i = 0 then -9 else if w = 2 then minF f (i - 1) else maxF f (i - 1)
theorem tl_0 {w i : Nat} {f : Nat → Int32} (h : i = 0) : tlF w f (i + 1) = f i := by
  subst h
  simp [tlF, minF, maxF]
theorem tl_a {i : Nat} {f : Nat → Int32} (c : tlF 2 f i ≤ f i) (h : i ≠ 0) : tlF 2 f (i + 1) = tlF 2 f i := by
  obtain ⟨j, rfl⟩ : ∃ j, i = j + 1 := ⟨i - 1, by omega⟩
  simp only [tlF, Nat.add_sub_cancel, if_neg (Nat.succ_ne_zero _), if_true] at c ⊢
  simp only [minF, if_pos c]
theorem tl_b {i : Nat} {f : Nat → Int32} (c : ¬ tlF 2 f i ≤ f i) (h : i ≠ 0) : tlF 2 f (i + 1) = f i := by
  obtain ⟨j, rfl⟩ : ∃ j, i = j + 1 := ⟨i - 1, by omega⟩
  simp only [tlF, Nat.add_sub_cancel, if_neg (Nat.succ_ne_zero _), if_true] at c ⊢
  simp only [minF, if_neg c]
theorem tl_c {i : Nat} {f : Nat → Int32} (c : f i ≤ tlF 3 f i) (h : i ≠ 0) : tlF 3 f (i + 1) = tlF 3 f i := by
  obtain ⟨j, rfl⟩ : ∃ j, i = j + 1 := ⟨i - 1, by omega⟩
  simp only [tlF, Nat.add_sub_cancel, if_neg (Nat.succ_ne_zero _), if_neg (show ¬ (3 = 2) by decide)] at c ⊢
  simp only [maxF, if_pos c]
theorem tl_d {i : Nat} {f : Nat → Int32} (c : ¬ f i ≤ tlF 3 f i) (h : i ≠ 0) : tlF 3 f (i + 1) = f i := by
  obtain ⟨j, rfl⟩ : ∃ j, i = j + 1 := ⟨i - 1, by omega⟩
  simp only [tlF, Nat.add_sub_cancel, if_neg (Nat.succ_ne_zero _), if_neg (show ¬ (3 = 2) by decide)] at c ⊢
  simp only [maxF, if_neg c]
theorem lo_M_tells {kd w : Nat} (hp : p < 8) (hk : mI 45 p = nI kd) (h4 : kd < 4) (hw : w = 2 ∨ w = 3) : ∀ k i (z : Value), i + k = szK kd → (z.category ≠ 2) → Go S 1 tM_tells ((am_sh n, mI, mL, am_mR n), 30, [.ref 43, .int (nI p), .int (nI w), .int (tlF w (fun j => mI 46 (4 * p + j)) i), .int (nI i), z], []) (fun q => q = (some (.int (tlF w (fun j => mI 46 (4 * p + j)) (szK kd))), (am_sh n, mI, mL, am_mR n)))
  | 0, i, z, hi, hz => by
    have hs := szK_le kd
    obtain rfl : i = szK kd := by omega
    refine go_iload_4 iM_tells_30 ?_
    refine go_aloadn_0 iM_tells_32 rfl ?_
    refine go_iloadn_1 iM_tells_33 ?_
    refine gc_V1 iM_tells_34 rfl (by decide) (sk_43 _) rfl (Nat.le_of_ble_eq_true rfl) (Nat.le_of_ble_eq_true rfl) (by decide) (sp_M_many hp hk h4) ?_
    first | refine gn_ic_ge iM_tells_37 (by omega) (by omega) (fun c_37 => ?_) (fun c_37 => ?_) | refine go_ic_ge iM_tells_37 (fun c_37 => ?_) (fun c_37 => ?_)
    rotate_left
    · (first | omega | exact absurd c_37 (by decide) | (exfalso; simp (disch := omega) only [Int32.lt_iff_toInt_lt, Int32.le_iff_toInt_le, ← Int32.toInt_inj, nI_toInt, i32_m1, i32_0, i32_m20, i32_m40, i32_m30, i32_m9] at *; omega))
    refine go_iloadn_3 iM_tells_91 ?_
    refine go_iret iM_tells_92 rfl ?_
    rfl
  | k + 1, i, z, hi, hz => by
    have hs := szK_le kd
    have fin : ∀ x, tlF w (fun j => mI 46 (4 * p + j)) (i + 1) = x → Go S 1 tM_tells ((am_sh n, mI, mL, am_mR n), 84, [.ref 43, .int (nI p), .int (nI w), .int (tlF w (fun j => mI 46 (4 * p + j)) i), .int (nI i), .int (mI 46 (4 * p + i))], [.int x]) (fun q => q = (some (.int (tlF w (fun j => mI 46 (4 * p + j)) (szK kd))), (am_sh n, mI, mL, am_mR n))) := by
      intro x hx
      subst hx
      refine go_istoren_3 iM_tells_84 (by simp [Value.category, am_U]) ?_
      first | refine go_iinc_4 iM_tells_85 (ni_inc _ 1) (by simp [Value.category, am_U]) ?_ | refine go_iinc_4 iM_tells_85 rfl (by simp [Value.category, am_U]) ?_
      refine go_goto iM_tells_88 ?_
      exact lo_M_tells hp hk h4 hw k (i + 1) _ (by omega) (by simp [Value.category])
    refine go_iload_4 iM_tells_30 ?_
    refine go_aloadn_0 iM_tells_32 rfl ?_
    refine go_iloadn_1 iM_tells_33 ?_
    refine gc_V1 iM_tells_34 rfl (by decide) (sk_43 _) rfl (Nat.le_of_ble_eq_true rfl) (Nat.le_of_ble_eq_true rfl) (by decide) (sp_M_many hp hk h4) ?_
    first | refine gn_ic_ge iM_tells_37 (by omega) (by omega) (fun c_37 => ?_) (fun c_37 => ?_) | refine go_ic_ge iM_tells_37 (fun c_37 => ?_) (fun c_37 => ?_)
    · (first | omega | exact absurd c_37 (by decide) | (exfalso; simp (disch := omega) only [Int32.lt_iff_toInt_lt, Int32.le_iff_toInt_le, ← Int32.toInt_inj, nI_toInt, i32_m1, i32_0, i32_m20, i32_m40, i32_m30, i32_m9] at *; omega))
    refine go_aloadn_0 iM_tells_40 rfl ?_
    refine go_getR iM_tells_41 rfl (sk_43 _) (mR_43_7 _) ?_
    refine go_iconst (v := nI 4) iM_tells_44 rfl ?_
    refine go_iloadn_1 iM_tells_45 ?_
    first | refine gn_imul iM_tells_46 ?_ | refine go_imul iM_tells_46 ?_
    refine go_iload_4 iM_tells_47 ?_
    first | refine gn_iadd iM_tells_49 ?_ | refine go_iadd iM_tells_49 ?_
    refine go_iald iM_tells_50 (sh_46 _) rfl (by omega) (by omega) ?_
    refine go_istore_5 iM_tells_51 (by simp [Value.category, am_U]) ?_
    refine go_iload_4 iM_tells_53 ?_
    refine go_if_eq iM_tells_55 (fun c_55 => ?_) (fun c_55 => ?_)
    · refine go_iload_5 iM_tells_78 ?_
      refine go_goto iM_tells_80 ?_
      refine fin _ ?_
      first | exact tl_0 (by first | omega | (rw [show (0 : Int32) = nI 0 from rfl, nI_eq (by omega) (by omega)] at c_55; exact c_55)) | (rcases hw with rfl | rfl <;> first | (exfalso; omega) | exact tl_a c_66 (fun q => c_55 (by rw [q]; rfl)) | exact tl_b c_66 (fun q => c_55 (by rw [q]; rfl)) | exact tl_c c_75 (fun q => c_55 (by rw [q]; rfl)) | exact tl_d c_75 (fun q => c_55 (by rw [q]; rfl)))
    · refine go_iloadn_2 iM_tells_58 ?_
      refine go_iconst (v := nI 2) iM_tells_59 rfl ?_
      first | refine gn_ic_ne iM_tells_60 (by omega) (by omega) (fun c_60 => ?_) (fun c_60 => ?_) | refine go_ic_ne iM_tells_60 (fun c_60 => ?_) (fun c_60 => ?_)
      · refine go_iload_5 iM_tells_72 ?_
        refine go_iloadn_3 iM_tells_74 ?_
        first | refine gn_ic_le iM_tells_75 (by omega) (by omega) (fun c_75 => ?_) (fun c_75 => ?_) | refine go_ic_le iM_tells_75 (fun c_75 => ?_) (fun c_75 => ?_)
        · refine go_iloadn_3 iM_tells_83 ?_
          refine fin _ ?_
          first | exact tl_0 (by first | omega | (rw [show (0 : Int32) = nI 0 from rfl, nI_eq (by omega) (by omega)] at c_55; exact c_55)) | (rcases hw with rfl | rfl <;> first | (exfalso; omega) | exact tl_a c_66 (fun q => c_55 (by rw [q]; rfl)) | exact tl_b c_66 (fun q => c_55 (by rw [q]; rfl)) | exact tl_c c_75 (fun q => c_55 (by rw [q]; rfl)) | exact tl_d c_75 (fun q => c_55 (by rw [q]; rfl)))
        · refine go_iload_5 iM_tells_78 ?_
          refine go_goto iM_tells_80 ?_
          refine fin _ ?_
          first | exact tl_0 (by first | omega | (rw [show (0 : Int32) = nI 0 from rfl, nI_eq (by omega) (by omega)] at c_55; exact c_55)) | (rcases hw with rfl | rfl <;> first | (exfalso; omega) | exact tl_a c_66 (fun q => c_55 (by rw [q]; rfl)) | exact tl_b c_66 (fun q => c_55 (by rw [q]; rfl)) | exact tl_c c_75 (fun q => c_55 (by rw [q]; rfl)) | exact tl_d c_75 (fun q => c_55 (by rw [q]; rfl)))
      · refine go_iload_5 iM_tells_63 ?_
        refine go_iloadn_3 iM_tells_65 ?_
        first | refine gn_ic_ge iM_tells_66 (by omega) (by omega) (fun c_66 => ?_) (fun c_66 => ?_) | refine go_ic_ge iM_tells_66 (fun c_66 => ?_) (fun c_66 => ?_)
        · refine go_iloadn_3 iM_tells_83 ?_
          refine fin _ ?_
          first | exact tl_0 (by first | omega | (rw [show (0 : Int32) = nI 0 from rfl, nI_eq (by omega) (by omega)] at c_55; exact c_55)) | (rcases hw with rfl | rfl <;> first | (exfalso; omega) | exact tl_a c_66 (fun q => c_55 (by rw [q]; rfl)) | exact tl_b c_66 (fun q => c_55 (by rw [q]; rfl)) | exact tl_c c_75 (fun q => c_55 (by rw [q]; rfl)) | exact tl_d c_75 (fun q => c_55 (by rw [q]; rfl)))
        · refine go_goto iM_tells_69 ?_
          refine go_iload_5 iM_tells_78 ?_
          refine go_goto iM_tells_80 ?_
          refine fin _ ?_
          first | exact tl_0 (by first | omega | (rw [show (0 : Int32) = nI 0 from rfl, nI_eq (by omega) (by omega)] at c_55; exact c_55)) | (rcases hw with rfl | rfl <;> first | (exfalso; omega) | exact tl_a c_66 (fun q => c_55 (by rw [q]; rfl)) | exact tl_b c_66 (fun q => c_55 (by rw [q]; rfl)) | exact tl_c c_75 (fun q => c_55 (by rw [q]; rfl)) | exact tl_d c_75 (fun q => c_55 (by rw [q]; rfl)))
theorem sp_M_tells {kd w : Nat} (hp : p < 8) (hk : mI 45 p = nI kd) (h4 : kd < 4) (hw : w < 4) : Sp S 1 tM_tells (am_sh n, mI, mL, am_mR n) [.ref 43, .int (nI p), .int (nI w)] (fun q => q = (some (.int (if w = 0 then nI kd else if w = 1 then nI (szK kd) else tlF w (fun j => mI 46 (4 * p + j)) (szK kd))), (am_sh n, mI, mL, am_mR n))) := by
  show Go _ _ tM_tells (_, 0, [.ref 43, .int (nI p), .int (nI w), am_U, am_U, am_U], []) _
  rcases (by omega : w = 0 ∨ w = 1 ∨ w = 2 ∨ w = 3) with rfl | rfl | rfl | rfl
  · refine go_iloadn_2 iM_tells_0 ?_
    refine go_iconst (v := nI 2) iM_tells_1 rfl ?_
    first | refine gn_ic_ge iM_tells_2 (by omega) (by omega) (fun c_2 => ?_) (fun c_2 => ?_) | refine go_ic_ge iM_tells_2 (fun c_2 => ?_) (fun c_2 => ?_)
    · (first | omega | exact absurd c_2 (by decide) | (exfalso; simp (disch := omega) only [Int32.lt_iff_toInt_lt, Int32.le_iff_toInt_le, ← Int32.toInt_inj, nI_toInt, i32_m1, i32_0, i32_m20, i32_m40, i32_m30, i32_m9] at *; omega))
    refine go_iloadn_2 iM_tells_5 ?_
    refine go_if_ne iM_tells_6 (fun c_6 => ?_) (fun c_6 => ?_)
    · (first | omega | exact absurd c_6 (by decide) | (exfalso; simp (disch := omega) only [Int32.lt_iff_toInt_lt, Int32.le_iff_toInt_le, ← Int32.toInt_inj, nI_toInt, i32_m1, i32_0, i32_m20, i32_m40, i32_m30, i32_m9] at *; omega))
    refine go_aloadn_0 iM_tells_9 rfl ?_
    refine go_getR iM_tells_10 rfl (sk_43 _) (mR_43_6 _) ?_
    refine go_iloadn_1 iM_tells_13 ?_
    refine go_iald iM_tells_14 (sh_45 _) rfl (by omega) (by omega) ?_
    try simp (disch := omega) only [am_u_n, am_u_s, am_u_k, hk]
    refine go_goto iM_tells_15 ?_
    refine go_iret iM_tells_23 rfl ?_
    rfl
  · refine go_iloadn_2 iM_tells_0 ?_
    refine go_iconst (v := nI 2) iM_tells_1 rfl ?_
    first | refine gn_ic_ge iM_tells_2 (by omega) (by omega) (fun c_2 => ?_) (fun c_2 => ?_) | refine go_ic_ge iM_tells_2 (fun c_2 => ?_) (fun c_2 => ?_)
    · (first | omega | exact absurd c_2 (by decide) | (exfalso; simp (disch := omega) only [Int32.lt_iff_toInt_lt, Int32.le_iff_toInt_le, ← Int32.toInt_inj, nI_toInt, i32_m1, i32_0, i32_m20, i32_m40, i32_m30, i32_m9] at *; omega))
    refine go_iloadn_2 iM_tells_5 ?_
    refine go_if_ne iM_tells_6 (fun c_6 => ?_) (fun c_6 => ?_)
    rotate_left
    · (first | omega | exact absurd c_6 (by decide) | (exfalso; simp (disch := omega) only [Int32.lt_iff_toInt_lt, Int32.le_iff_toInt_le, ← Int32.toInt_inj, nI_toInt, i32_m1, i32_0, i32_m20, i32_m40, i32_m30, i32_m9] at *; omega))
    refine go_aloadn_0 iM_tells_18 rfl ?_
    refine go_iloadn_1 iM_tells_19 ?_
    refine gc_V1 iM_tells_20 rfl (by decide) (sk_43 _) rfl (Nat.le_of_ble_eq_true rfl) (Nat.le_of_ble_eq_true rfl) (by decide) (sp_M_many hp hk h4) ?_
    refine go_iret iM_tells_23 rfl ?_
    rfl
  · refine go_iloadn_2 iM_tells_0 ?_
    refine go_iconst (v := nI 2) iM_tells_1 rfl ?_
    first | refine gn_ic_ge iM_tells_2 (by omega) (by omega) (fun c_2 => ?_) (fun c_2 => ?_) | refine go_ic_ge iM_tells_2 (fun c_2 => ?_) (fun c_2 => ?_)
    rotate_left
    · (first | omega | exact absurd c_2 (by decide) | (exfalso; simp (disch := omega) only [Int32.lt_iff_toInt_lt, Int32.le_iff_toInt_le, ← Int32.toInt_inj, nI_toInt, i32_m1, i32_0, i32_m20, i32_m40, i32_m30, i32_m9] at *; omega))
    refine go_bipush (v := (-9)) iM_tells_24 (by decide) ?_
    refine go_istoren_3 iM_tells_26 (by simp [Value.category, am_U]) ?_
    refine go_iconst (v := nI 0) iM_tells_27 rfl ?_
    refine go_istore_4 iM_tells_28 (by simp [Value.category, am_U]) ?_
    exact lo_M_tells hp hk h4 (Or.inl rfl) (szK kd) 0 _ (by omega) (by simp [Value.category, am_U])
  · refine go_iloadn_2 iM_tells_0 ?_
    refine go_iconst (v := nI 2) iM_tells_1 rfl ?_
    first | refine gn_ic_ge iM_tells_2 (by omega) (by omega) (fun c_2 => ?_) (fun c_2 => ?_) | refine go_ic_ge iM_tells_2 (fun c_2 => ?_) (fun c_2 => ?_)
    rotate_left
    · (first | omega | exact absurd c_2 (by decide) | (exfalso; simp (disch := omega) only [Int32.lt_iff_toInt_lt, Int32.le_iff_toInt_le, ← Int32.toInt_inj, nI_toInt, i32_m1, i32_0, i32_m20, i32_m40, i32_m30, i32_m9] at *; omega))
    refine go_bipush (v := (-9)) iM_tells_24 (by decide) ?_
    refine go_istoren_3 iM_tells_26 (by simp [Value.category, am_U]) ?_
    refine go_iconst (v := nI 0) iM_tells_27 rfl ?_
    refine go_istore_4 iM_tells_28 (by simp [Value.category, am_U]) ?_
    exact lo_M_tells hp hk h4 (Or.inr rfl) (szK kd) 0 _ (by omega) (by simp [Value.category, am_U])
end TLD
