/-! ===== count ===== -/
def ecN (mI : Nat → Nat → Int32) : Nat → Nat
  | 0 => 0
  | i + 1 => if kdN mI i = 2 then ecN mI i + 1 else ecN mI i
def rtN (mI : Nat → Nat → Int32) : Nat → Nat
  | 0 => 0
  | i + 1 => if mI 47 i = -9 then rtN mI i else rtN mI i + 1
section CNT
variable {S : am_S} {mI : Nat → Nat → Int32} {mL : Nat → Nat → Int64} {n : Nat} {p : Nat}
theorem kdN_of {kd : Nat} (h : mI 45 p = nI kd) (hk : kd < 4) : kdN mI p = kd := by unfold kdN; rw [h, nI_clamp (by omega)]
theorem sp_T_hangs_t {kd : Nat} (h8 : n ≤ 8) (hcT : mI 0 1 = nI n) (hp : p < n) (hkT : mI (60 + 2 * p) 0 = nI kd) (hkd : kd < 4) (h2 : kd ≠ 2) : Sp S 1 tT_hangsOnPurse (am_sh n, mI, mL, am_mR n) [.ref 0, .int (nI p)] (fun q => q = (some (.int (nI 1)), (am_sh n, mI, mL, am_mR n))) := by
  have hk := sk_play hp
  show Go _ _ tT_hangsOnPurse (_, 0, [.ref 0, .int (nI p), am_U], []) _
  refine go_aloadn_0 iT_hangsOnPurse_0 rfl ?_
  refine go_iloadn_1 iT_hangsOnPurse_1 ?_
  refine gc_V1 iT_hangsOnPurse_2 rfl (by decide) (sk_0 _) rfl (Nat.le_of_ble_eq_true rfl) (Nat.le_of_ble_eq_true rfl) (by decide) (sp_T_playAt_t h8 hcT hp) ?_
  refine go_astoren_2 iT_hangsOnPurse_5 rfl (by simp [Value.category, am_U]) ?_
  refine go_aloadn_2 iT_hangsOnPurse_6 rfl ?_
  refine go_nulR iT_hangsOnPurse_7 ?_
  refine go_aloadn_2 iT_hangsOnPurse_10 rfl ?_
  refine go_getI iT_hangsOnPurse_11 (Or.inl rfl) (by assumption) ?_
  try simp (disch := omega) only [am_u_n, am_u_s, am_u_k, hkT]
  refine go_iconst (v := nI 2) iT_hangsOnPurse_14 rfl ?_
  first | refine gn_ic_eq iT_hangsOnPurse_15 (by omega) (by omega) (fun c_15 => ?_) (fun c_15 => ?_) | refine go_ic_eq iT_hangsOnPurse_15 (fun c_15 => ?_) (fun c_15 => ?_)
  · (first | omega | exact absurd c_15 (by decide) | (exfalso; simp (disch := omega) only [Int32.lt_iff_toInt_lt, Int32.le_iff_toInt_le, ← Int32.toInt_inj, nI_toInt, i32_m1, i32_0, i32_m20, i32_m40, i32_m30, i32_m9] at *; omega))
  refine go_iconst (v := nI 1) iT_hangsOnPurse_18 rfl ?_
  refine go_goto iT_hangsOnPurse_19 ?_
  refine go_zret iT_hangsOnPurse_23 rfl (by first | exact Or.inl rfl | exact Or.inr rfl) ?_
  rfl
theorem sp_T_hangs_e {kd : Nat} (h8 : n ≤ 8) (hcT : mI 0 1 = nI n) (hp : p < n) (hkT : mI (60 + 2 * p) 0 = nI kd) (h2 : kd = 2) : Sp S 1 tT_hangsOnPurse (am_sh n, mI, mL, am_mR n) [.ref 0, .int (nI p)] (fun q => q = (some (.int (nI 0)), (am_sh n, mI, mL, am_mR n))) := by
  have hk := sk_play hp
  show Go _ _ tT_hangsOnPurse (_, 0, [.ref 0, .int (nI p), am_U], []) _
  refine go_aloadn_0 iT_hangsOnPurse_0 rfl ?_
  refine go_iloadn_1 iT_hangsOnPurse_1 ?_
  refine gc_V1 iT_hangsOnPurse_2 rfl (by decide) (sk_0 _) rfl (Nat.le_of_ble_eq_true rfl) (Nat.le_of_ble_eq_true rfl) (by decide) (sp_T_playAt_t h8 hcT hp) ?_
  refine go_astoren_2 iT_hangsOnPurse_5 rfl (by simp [Value.category, am_U]) ?_
  refine go_aloadn_2 iT_hangsOnPurse_6 rfl ?_
  refine go_nulR iT_hangsOnPurse_7 ?_
  refine go_aloadn_2 iT_hangsOnPurse_10 rfl ?_
  refine go_getI iT_hangsOnPurse_11 (Or.inl rfl) (by assumption) ?_
  try simp (disch := omega) only [am_u_n, am_u_s, am_u_k, hkT]
  refine go_iconst (v := nI 2) iT_hangsOnPurse_14 rfl ?_
  first | refine gn_ic_eq iT_hangsOnPurse_15 (by omega) (by omega) (fun c_15 => ?_) (fun c_15 => ?_) | refine go_ic_eq iT_hangsOnPurse_15 (fun c_15 => ?_) (fun c_15 => ?_)
  rotate_left
  · (first | omega | exact absurd c_15 (by decide) | (exfalso; simp (disch := omega) only [Int32.lt_iff_toInt_lt, Int32.le_iff_toInt_le, ← Int32.toInt_inj, nI_toInt, i32_m1, i32_0, i32_m20, i32_m40, i32_m30, i32_m9] at *; omega))
  refine go_iconst (v := nI 0) iT_hangsOnPurse_22 rfl ?_
  refine go_zret iT_hangsOnPurse_23 rfl (by first | exact Or.inl rfl | exact Or.inr rfl) ?_
  rfl
theorem sp_T_hangs_f {x : Int32} (h8 : n ≤ 8) (hcT : mI 0 1 = nI n) (hx : x.toInt < 0 ∨ (n : Int) ≤ x.toInt) : Sp S 1 tT_hangsOnPurse (am_sh n, mI, mL, am_mR n) [.ref 0, .int x] (fun q => q = (some (.int (nI 0)), (am_sh n, mI, mL, am_mR n))) := by
  show Go _ _ tT_hangsOnPurse (_, 0, [.ref 0, .int x, am_U], []) _
  refine go_aloadn_0 iT_hangsOnPurse_0 rfl ?_
  refine go_iloadn_1 iT_hangsOnPurse_1 ?_
  refine gc_V1 iT_hangsOnPurse_2 rfl (by decide) (sk_0 _) rfl (Nat.le_of_ble_eq_true rfl) (Nat.le_of_ble_eq_true rfl) (by decide) (sp_T_playAt_f h8 hcT hx) ?_
  refine go_astoren_2 iT_hangsOnPurse_5 rfl (by simp [Value.category, am_U]) ?_
  refine go_aloadn_2 iT_hangsOnPurse_6 rfl ?_
  refine go_nulN iT_hangsOnPurse_7 ?_
  refine go_iconst (v := nI 0) iT_hangsOnPurse_22 rfl ?_
  refine go_zret iT_hangsOnPurse_23 rfl (by first | exact Or.inl rfl | exact Or.inr rfl) ?_
  rfl
theorem lo_T_echo (h8 : n ≤ 8) (hcT : mI 0 1 = nI n) (hpl : ∀ p, p < n → PlR mI p) : ∀ k i, i + k = n → Go S 2 tT_echoCount ((am_sh n, mI, mL, am_mR n), 4, [.ref 0, .int (nI (ecN mI i)), .int (nI i)], []) (fun q => q = (some (.int (nI (ecN mI n))), (am_sh n, mI, mL, am_mR n)))
  | 0, i, hi => by
    obtain rfl : i = n := by omega
    refine go_iloadn_2 iT_echoCount_4 ?_
    refine go_aloadn_0 iT_echoCount_5 rfl ?_
    refine go_getI iT_echoCount_6 (Or.inl rfl) (sk_0 _) ?_
    try simp (disch := omega) only [am_u_n, am_u_s, am_u_k, hcT]
    first | refine gn_ic_ge iT_echoCount_9 (by omega) (by omega) (fun c_9 => ?_) (fun c_9 => ?_) | refine go_ic_ge iT_echoCount_9 (fun c_9 => ?_) (fun c_9 => ?_)
    rotate_left
    · (first | omega | exact absurd c_9 (by decide) | (exfalso; simp (disch := omega) only [Int32.lt_iff_toInt_lt, Int32.le_iff_toInt_le, ← Int32.toInt_inj, nI_toInt, i32_m1, i32_0, i32_m20, i32_m40, i32_m30, i32_m9] at *; omega))
    refine go_iloadn_1 iT_echoCount_29 ?_
    refine go_iret iT_echoCount_30 rfl ?_
    rfl
  | k + 1, i, hi => by
    have hp : i < n := by omega
    obtain ⟨kd, hkd, hkT, hkM, hsz, hw, ho, ho3⟩ := hpl i hp
    have hkk := kdN_of hkM hkd
    by_cases h2 : kd = 2
    · refine go_iloadn_2 iT_echoCount_4 ?_
      refine go_aloadn_0 iT_echoCount_5 rfl ?_
      refine go_getI iT_echoCount_6 (Or.inl rfl) (sk_0 _) ?_
      try simp (disch := omega) only [am_u_n, am_u_s, am_u_k, hcT]
      first | refine gn_ic_ge iT_echoCount_9 (by omega) (by omega) (fun c_9 => ?_) (fun c_9 => ?_) | refine go_ic_ge iT_echoCount_9 (fun c_9 => ?_) (fun c_9 => ?_)
      · (first | omega | exact absurd c_9 (by decide) | (exfalso; simp (disch := omega) only [Int32.lt_iff_toInt_lt, Int32.le_iff_toInt_le, ← Int32.toInt_inj, nI_toInt, i32_m1, i32_0, i32_m20, i32_m40, i32_m30, i32_m9] at *; omega))
      refine go_aloadn_0 iT_echoCount_12 rfl ?_
      refine go_iloadn_2 iT_echoCount_13 ?_
      refine gc_V1 iT_echoCount_14 rfl (by decide) (sk_0 _) rfl (Nat.le_of_ble_eq_true rfl) (Nat.le_of_ble_eq_true rfl) (by decide) (sp_T_hangs_e h8 hcT hp hkT h2) ?_
      refine go_if_ne iT_echoCount_17 (fun c_17 => ?_) (fun c_17 => ?_)
      · (first | omega | exact absurd c_17 (by decide) | (exfalso; simp (disch := omega) only [Int32.lt_iff_toInt_lt, Int32.le_iff_toInt_le, ← Int32.toInt_inj, nI_toInt, i32_m1, i32_0, i32_m20, i32_m40, i32_m30, i32_m9] at *; omega))
      first | refine go_iinc_1 iT_echoCount_20 (ni_inc _ 1) (by simp [Value.category, am_U]) ?_ | refine go_iinc_1 iT_echoCount_20 rfl (by simp [Value.category, am_U]) ?_
      first | refine go_iinc_2 iT_echoCount_23 (ni_inc _ 1) (by simp [Value.category, am_U]) ?_ | refine go_iinc_2 iT_echoCount_23 rfl (by simp [Value.category, am_U]) ?_
      refine go_goto iT_echoCount_26 ?_
      have ih := lo_T_echo h8 hcT hpl k (i + 1) (by omega)
      simp only [ecN, hkk, h2, if_true] at ih
      exact ih
    · refine go_iloadn_2 iT_echoCount_4 ?_
      refine go_aloadn_0 iT_echoCount_5 rfl ?_
      refine go_getI iT_echoCount_6 (Or.inl rfl) (sk_0 _) ?_
      try simp (disch := omega) only [am_u_n, am_u_s, am_u_k, hcT]
      first | refine gn_ic_ge iT_echoCount_9 (by omega) (by omega) (fun c_9 => ?_) (fun c_9 => ?_) | refine go_ic_ge iT_echoCount_9 (fun c_9 => ?_) (fun c_9 => ?_)
      · (first | omega | exact absurd c_9 (by decide) | (exfalso; simp (disch := omega) only [Int32.lt_iff_toInt_lt, Int32.le_iff_toInt_le, ← Int32.toInt_inj, nI_toInt, i32_m1, i32_0, i32_m20, i32_m40, i32_m30, i32_m9] at *; omega))
      refine go_aloadn_0 iT_echoCount_12 rfl ?_
      refine go_iloadn_2 iT_echoCount_13 ?_
      refine gc_V1 iT_echoCount_14 rfl (by decide) (sk_0 _) rfl (Nat.le_of_ble_eq_true rfl) (Nat.le_of_ble_eq_true rfl) (by decide) (sp_T_hangs_t h8 hcT hp hkT hkd h2) ?_
      refine go_if_ne iT_echoCount_17 (fun c_17 => ?_) (fun c_17 => ?_)
      rotate_left
      · (first | omega | exact absurd c_17 (by decide) | (exfalso; simp (disch := omega) only [Int32.lt_iff_toInt_lt, Int32.le_iff_toInt_le, ← Int32.toInt_inj, nI_toInt, i32_m1, i32_0, i32_m20, i32_m40, i32_m30, i32_m9] at *; omega))
      first | refine go_iinc_2 iT_echoCount_23 (ni_inc _ 1) (by simp [Value.category, am_U]) ?_ | refine go_iinc_2 iT_echoCount_23 rfl (by simp [Value.category, am_U]) ?_
      refine go_goto iT_echoCount_26 ?_
      have ih := lo_T_echo h8 hcT hpl k (i + 1) (by omega)
      simp only [ecN, hkk, h2, if_false] at ih
      exact ih
theorem sp_T_echo (h8 : n ≤ 8) (hcT : mI 0 1 = nI n) (hpl : ∀ p, p < n → PlR mI p) : Sp S 2 tT_echoCount (am_sh n, mI, mL, am_mR n) [.ref 0] (fun q => q = (some (.int (nI (ecN mI n))), (am_sh n, mI, mL, am_mR n))) := by
  show Go _ _ tT_echoCount (_, 0, [.ref 0, am_U, am_U], []) _
  refine go_iconst (v := nI 0) iT_echoCount_0 rfl ?_
  refine go_istoren_1 iT_echoCount_1 (by simp [Value.category, am_U]) ?_
  refine go_iconst (v := nI 0) iT_echoCount_2 rfl ?_
  refine go_istoren_2 iT_echoCount_3 (by simp [Value.category, am_U]) ?_
  exact lo_T_echo h8 hcT hpl n 0 (by omega)
theorem lo_T_rows (hro : ∀ r, r < 4 → RoR mI r) : ∀ k i, i + k = 4 → Go S 2 tT_rowsThere ((am_sh n, mI, mL, am_mR n), 4, [.ref 0, .int (nI (rtN mI i)), .int (nI i)], []) (fun q => q = (some (.int (nI (rtN mI 4))), (am_sh n, mI, mL, am_mR n)))
  | 0, i, hi => by
    obtain rfl : i = 4 := by omega
    refine go_iloadn_2 iT_rowsThere_4 ?_
    refine go_iconst (v := nI 4) iT_rowsThere_5 rfl ?_
    first | refine gn_ic_ge iT_rowsThere_6 (by omega) (by omega) (fun c_6 => ?_) (fun c_6 => ?_) | refine go_ic_ge iT_rowsThere_6 (fun c_6 => ?_) (fun c_6 => ?_)
    rotate_left
    · (first | omega | exact absurd c_6 (by decide) | (exfalso; simp (disch := omega) only [Int32.lt_iff_toInt_lt, Int32.le_iff_toInt_le, ← Int32.toInt_inj, nI_toInt, i32_m1, i32_0, i32_m20, i32_m40, i32_m30, i32_m9] at *; omega))
    refine go_iloadn_1 iT_rowsThere_30 ?_
    refine go_iret iT_rowsThere_31 rfl ?_
    rfl
  | k + 1, i, hi => by
    have hp : i < 4 := by omega
    have hk := sk_row n hp
    obtain ⟨⟨s1, s2⟩ | ⟨s, hs4, s1, s2⟩, hpc⟩ := hro i hp
    · refine go_iloadn_2 iT_rowsThere_4 ?_
      refine go_iconst (v := nI 4) iT_rowsThere_5 rfl ?_
      first | refine gn_ic_ge iT_rowsThere_6 (by omega) (by omega) (fun c_6 => ?_) (fun c_6 => ?_) | refine go_ic_ge iT_rowsThere_6 (fun c_6 => ?_) (fun c_6 => ?_)
      · (first | omega | exact absurd c_6 (by decide) | (exfalso; simp (disch := omega) only [Int32.lt_iff_toInt_lt, Int32.le_iff_toInt_le, ← Int32.toInt_inj, nI_toInt, i32_m1, i32_0, i32_m20, i32_m40, i32_m30, i32_m9] at *; omega))
      refine go_aloadn_0 iT_rowsThere_9 rfl ?_
      refine go_getR iT_rowsThere_10 rfl (sk_0 _) (mR_0_3 _) ?_
      refine go_iloadn_2 iT_rowsThere_13 ?_
      refine go_aald iT_rowsThere_14 (sh_2 _) (by decide) (by decide) rfl (by omega) (by omega) (sh_row n (show i < 4 by omega)).2.2.1 ?_
      refine gc_V1 iT_rowsThere_15 rfl (by decide) (by assumption) rfl (Nat.le_of_ble_eq_true rfl) (Nat.le_of_ble_eq_true rfl) (by decide) (sp_W_isMissing_t hp s1) ?_
      refine go_if_ne iT_rowsThere_18 (fun c_18 => ?_) (fun c_18 => ?_)
      rotate_left
      · (first | omega | exact absurd c_18 (by decide) | (exfalso; simp (disch := omega) only [Int32.lt_iff_toInt_lt, Int32.le_iff_toInt_le, ← Int32.toInt_inj, nI_toInt, i32_m1, i32_0, i32_m20, i32_m40, i32_m30, i32_m9] at *; omega))
      first | refine go_iinc_2 iT_rowsThere_24 (ni_inc _ 1) (by simp [Value.category, am_U]) ?_ | refine go_iinc_2 iT_rowsThere_24 rfl (by simp [Value.category, am_U]) ?_
      refine go_goto iT_rowsThere_27 ?_
      have ih := lo_T_rows hro k (i + 1) (by omega)
      simp only [rtN, s2, if_true] at ih
      exact ih
    · have e : ¬ mI 47 i = -9 := by rw [s2]; intro q; have q2 := congrArg Int32.toInt q; rw [nI_toInt (by omega), i32_m9] at q2; omega
      refine go_iloadn_2 iT_rowsThere_4 ?_
      refine go_iconst (v := nI 4) iT_rowsThere_5 rfl ?_
      first | refine gn_ic_ge iT_rowsThere_6 (by omega) (by omega) (fun c_6 => ?_) (fun c_6 => ?_) | refine go_ic_ge iT_rowsThere_6 (fun c_6 => ?_) (fun c_6 => ?_)
      · (first | omega | exact absurd c_6 (by decide) | (exfalso; simp (disch := omega) only [Int32.lt_iff_toInt_lt, Int32.le_iff_toInt_le, ← Int32.toInt_inj, nI_toInt, i32_m1, i32_0, i32_m20, i32_m40, i32_m30, i32_m9] at *; omega))
      refine go_aloadn_0 iT_rowsThere_9 rfl ?_
      refine go_getR iT_rowsThere_10 rfl (sk_0 _) (mR_0_3 _) ?_
      refine go_iloadn_2 iT_rowsThere_13 ?_
      refine go_aald iT_rowsThere_14 (sh_2 _) (by decide) (by decide) rfl (by omega) (by omega) (sh_row n (show i < 4 by omega)).2.2.1 ?_
      refine gc_V1 iT_rowsThere_15 rfl (by decide) (by assumption) rfl (Nat.le_of_ble_eq_true rfl) (Nat.le_of_ble_eq_true rfl) (by decide) (sp_W_isMissing_f hp s1 hs4) ?_
      refine go_if_ne iT_rowsThere_18 (fun c_18 => ?_) (fun c_18 => ?_)
      · (first | omega | exact absurd c_18 (by decide) | (exfalso; simp (disch := omega) only [Int32.lt_iff_toInt_lt, Int32.le_iff_toInt_le, ← Int32.toInt_inj, nI_toInt, i32_m1, i32_0, i32_m20, i32_m40, i32_m30, i32_m9] at *; omega))
      first | refine go_iinc_1 iT_rowsThere_21 (ni_inc _ 1) (by simp [Value.category, am_U]) ?_ | refine go_iinc_1 iT_rowsThere_21 rfl (by simp [Value.category, am_U]) ?_
      first | refine go_iinc_2 iT_rowsThere_24 (ni_inc _ 1) (by simp [Value.category, am_U]) ?_ | refine go_iinc_2 iT_rowsThere_24 rfl (by simp [Value.category, am_U]) ?_
      refine go_goto iT_rowsThere_27 ?_
      have ih := lo_T_rows hro k (i + 1) (by omega)
      simp only [rtN, e, if_false] at ih
      exact ih
theorem sp_T_rows (hro : ∀ r, r < 4 → RoR mI r) : Sp S 2 tT_rowsThere (am_sh n, mI, mL, am_mR n) [.ref 0] (fun q => q = (some (.int (nI (rtN mI 4))), (am_sh n, mI, mL, am_mR n))) := by
  show Go _ _ tT_rowsThere (_, 0, [.ref 0, am_U, am_U], []) _
  refine go_iconst (v := nI 0) iT_rowsThere_0 rfl ?_
  refine go_istoren_1 iT_rowsThere_1 (by simp [Value.category, am_U]) ?_
  refine go_iconst (v := nI 0) iT_rowsThere_2 rfl ?_
  refine go_istoren_2 iT_rowsThere_3 (by simp [Value.category, am_U]) ?_
  exact lo_T_rows hro 4 0 (by omega)
theorem lo_M_cnt1 (h8 : n ≤ 8) (hcM : mI 43 5 = nI n) (hpl : ∀ p, p < n → PlR mI p) : ∀ k i, i + k = n → Go S 2 tM_count ((am_sh n, mI, mL, am_mR n), 4, [.ref 43, .int (nI 1), .int (nI (ecN mI i)), .int (nI i)], []) (fun q => q = (some (.int (nI (ecN mI n))), (am_sh n, mI, mL, am_mR n)))
  | 0, i, hi => by
    obtain rfl : i = n := by omega
    refine go_iloadn_3 iM_count_4 ?_
    refine go_aloadn_0 iM_count_5 rfl ?_
    refine go_getI iM_count_6 (Or.inl rfl) (sk_43 _) ?_
    try simp (disch := omega) only [am_u_n, am_u_s, am_u_k, hcM]
    first | refine gn_ic_ge iM_count_9 (by omega) (by omega) (fun c_9 => ?_) (fun c_9 => ?_) | refine go_ic_ge iM_count_9 (fun c_9 => ?_) (fun c_9 => ?_)
    rotate_left
    · (first | omega | exact absurd c_9 (by decide) | (exfalso; simp (disch := omega) only [Int32.lt_iff_toInt_lt, Int32.le_iff_toInt_le, ← Int32.toInt_inj, nI_toInt, i32_m1, i32_0, i32_m20, i32_m40, i32_m30, i32_m9] at *; omega))
    refine go_iconst (v := nI 0) iM_count_41 rfl ?_
    refine go_istoren_3 iM_count_42 (by simp [Value.category, am_U]) ?_
    refine go_iloadn_3 iM_count_43 ?_
    refine go_iconst (v := nI 4) iM_count_44 rfl ?_
    first | refine gn_ic_ge iM_count_45 (by omega) (by omega) (fun c_45 => ?_) (fun c_45 => ?_) | refine go_ic_ge iM_count_45 (fun c_45 => ?_) (fun c_45 => ?_)
    · (first | omega | exact absurd c_45 (by decide) | (exfalso; simp (disch := omega) only [Int32.lt_iff_toInt_lt, Int32.le_iff_toInt_le, ← Int32.toInt_inj, nI_toInt, i32_m1, i32_0, i32_m20, i32_m40, i32_m30, i32_m9] at *; omega))
    refine go_iloadn_1 iM_count_48 ?_
    refine go_iconst (v := nI 2) iM_count_49 rfl ?_
    first | refine gn_ic_ne iM_count_50 (by omega) (by omega) (fun c_50 => ?_) (fun c_50 => ?_) | refine go_ic_ne iM_count_50 (fun c_50 => ?_) (fun c_50 => ?_)
    rotate_left
    · (first | omega | exact absurd c_50 (by decide) | (exfalso; simp (disch := omega) only [Int32.lt_iff_toInt_lt, Int32.le_iff_toInt_le, ← Int32.toInt_inj, nI_toInt, i32_m1, i32_0, i32_m20, i32_m40, i32_m30, i32_m9] at *; omega))
    refine go_iloadn_1 iM_count_76 ?_
    refine go_if_ne iM_count_77 (fun c_77 => ?_) (fun c_77 => ?_)
    rotate_left
    · (first | omega | exact absurd c_77 (by decide) | (exfalso; simp (disch := omega) only [Int32.lt_iff_toInt_lt, Int32.le_iff_toInt_le, ← Int32.toInt_inj, nI_toInt, i32_m1, i32_0, i32_m20, i32_m40, i32_m30, i32_m9] at *; omega))
    refine go_iloadn_1 iM_count_87 ?_
    refine go_iconst (v := nI 3) iM_count_88 rfl ?_
    first | refine gn_ic_ne iM_count_89 (by omega) (by omega) (fun c_89 => ?_) (fun c_89 => ?_) | refine go_ic_ne iM_count_89 (fun c_89 => ?_) (fun c_89 => ?_)
    rotate_left
    · (first | omega | exact absurd c_89 (by decide) | (exfalso; simp (disch := omega) only [Int32.lt_iff_toInt_lt, Int32.le_iff_toInt_le, ← Int32.toInt_inj, nI_toInt, i32_m1, i32_0, i32_m20, i32_m40, i32_m30, i32_m9] at *; omega))
    refine go_iloadn_1 iM_count_99 ?_
    refine go_iconst (v := nI 1) iM_count_100 rfl ?_
    refine go_iconst (v := nI 2) iM_count_101 rfl ?_
    refine gc_S1 iM_count_102 (by decide) rfl rfl (Nat.le_of_ble_eq_true rfl) (Nat.le_of_ble_eq_true rfl) (by decide) (sp_M_in_t (by simp (disch := omega) only [nI_toInt]; omega) (by simp (disch := omega) only [nI_toInt]; omega)) ?_
    refine go_if_eq iM_count_105 (fun c_105 => ?_) (fun c_105 => ?_)
    · (first | omega | exact absurd c_105 (by decide) | (exfalso; simp (disch := omega) only [Int32.lt_iff_toInt_lt, Int32.le_iff_toInt_le, ← Int32.toInt_inj, nI_toInt, i32_m1, i32_0, i32_m20, i32_m40, i32_m30, i32_m9] at *; omega))
    refine go_iloadn_2 iM_count_108 ?_
    refine go_goto iM_count_109 ?_
    refine go_iret iM_count_113 rfl ?_
    rfl
  | k + 1, i, hi => by
    have hp : i < n := by omega
    obtain ⟨kd, hkd, hkT, hkM, hsz, hw, ho, ho3⟩ := hpl i hp
    have hkk := kdN_of hkM hkd
    by_cases h2 : kd = 2
    · refine go_iloadn_3 iM_count_4 ?_
      refine go_aloadn_0 iM_count_5 rfl ?_
      refine go_getI iM_count_6 (Or.inl rfl) (sk_43 _) ?_
      try simp (disch := omega) only [am_u_n, am_u_s, am_u_k, hcM, hkM]
      first | refine gn_ic_ge iM_count_9 (by omega) (by omega) (fun c_9 => ?_) (fun c_9 => ?_) | refine go_ic_ge iM_count_9 (fun c_9 => ?_) (fun c_9 => ?_)
      · (first | omega | exact absurd c_9 (by decide) | (exfalso; simp (disch := omega) only [Int32.lt_iff_toInt_lt, Int32.le_iff_toInt_le, ← Int32.toInt_inj, nI_toInt, i32_m1, i32_0, i32_m20, i32_m40, i32_m30, i32_m9] at *; omega))
      refine go_iloadn_1 iM_count_12 ?_
      refine go_iconst (v := nI 1) iM_count_13 rfl ?_
      first | refine gn_ic_ne iM_count_14 (by omega) (by omega) (fun c_14 => ?_) (fun c_14 => ?_) | refine go_ic_ne iM_count_14 (fun c_14 => ?_) (fun c_14 => ?_)
      · (first | omega | exact absurd c_14 (by decide) | (exfalso; simp (disch := omega) only [Int32.lt_iff_toInt_lt, Int32.le_iff_toInt_le, ← Int32.toInt_inj, nI_toInt, i32_m1, i32_0, i32_m20, i32_m40, i32_m30, i32_m9] at *; omega))
      refine go_iloadn_2 iM_count_17 ?_
      refine go_aloadn_0 iM_count_18 rfl ?_
      refine go_getR iM_count_19 rfl (sk_43 _) (mR_43_6 _) ?_
      refine go_iloadn_3 iM_count_22 ?_
      refine go_iald iM_count_23 (sh_45 _) rfl (by omega) (by omega) ?_
      try simp (disch := omega) only [am_u_n, am_u_s, am_u_k, hcM, hkM]
      refine go_iconst (v := nI 2) iM_count_24 rfl ?_
      first | refine gn_ic_ne iM_count_25 (by omega) (by omega) (fun c_25 => ?_) (fun c_25 => ?_) | refine go_ic_ne iM_count_25 (fun c_25 => ?_) (fun c_25 => ?_)
      · (first | omega | exact absurd c_25 (by decide) | (exfalso; simp (disch := omega) only [Int32.lt_iff_toInt_lt, Int32.le_iff_toInt_le, ← Int32.toInt_inj, nI_toInt, i32_m1, i32_0, i32_m20, i32_m40, i32_m30, i32_m9] at *; omega))
      refine go_iconst (v := nI 1) iM_count_28 rfl ?_
      refine go_goto iM_count_29 ?_
      first | refine gn_iadd iM_count_33 ?_ | refine go_iadd iM_count_33 ?_
      refine go_istoren_2 iM_count_34 (by simp [Value.category, am_U]) ?_
      first | refine go_iinc_3 iM_count_35 (ni_inc _ 1) (by simp [Value.category, am_U]) ?_ | refine go_iinc_3 iM_count_35 rfl (by simp [Value.category, am_U]) ?_
      refine go_goto iM_count_38 ?_
      have ih := lo_M_cnt1 h8 hcM hpl k (i + 1) (by omega)
      simp only [ecN, hkk, h2, if_true] at ih
      exact ih
    · refine go_iloadn_3 iM_count_4 ?_
      refine go_aloadn_0 iM_count_5 rfl ?_
      refine go_getI iM_count_6 (Or.inl rfl) (sk_43 _) ?_
      try simp (disch := omega) only [am_u_n, am_u_s, am_u_k, hcM, hkM]
      first | refine gn_ic_ge iM_count_9 (by omega) (by omega) (fun c_9 => ?_) (fun c_9 => ?_) | refine go_ic_ge iM_count_9 (fun c_9 => ?_) (fun c_9 => ?_)
      · (first | omega | exact absurd c_9 (by decide) | (exfalso; simp (disch := omega) only [Int32.lt_iff_toInt_lt, Int32.le_iff_toInt_le, ← Int32.toInt_inj, nI_toInt, i32_m1, i32_0, i32_m20, i32_m40, i32_m30, i32_m9] at *; omega))
      refine go_iloadn_1 iM_count_12 ?_
      refine go_iconst (v := nI 1) iM_count_13 rfl ?_
      first | refine gn_ic_ne iM_count_14 (by omega) (by omega) (fun c_14 => ?_) (fun c_14 => ?_) | refine go_ic_ne iM_count_14 (fun c_14 => ?_) (fun c_14 => ?_)
      · (first | omega | exact absurd c_14 (by decide) | (exfalso; simp (disch := omega) only [Int32.lt_iff_toInt_lt, Int32.le_iff_toInt_le, ← Int32.toInt_inj, nI_toInt, i32_m1, i32_0, i32_m20, i32_m40, i32_m30, i32_m9] at *; omega))
      refine go_iloadn_2 iM_count_17 ?_
      refine go_aloadn_0 iM_count_18 rfl ?_
      refine go_getR iM_count_19 rfl (sk_43 _) (mR_43_6 _) ?_
      refine go_iloadn_3 iM_count_22 ?_
      refine go_iald iM_count_23 (sh_45 _) rfl (by omega) (by omega) ?_
      try simp (disch := omega) only [am_u_n, am_u_s, am_u_k, hcM, hkM]
      refine go_iconst (v := nI 2) iM_count_24 rfl ?_
      first | refine gn_ic_ne iM_count_25 (by omega) (by omega) (fun c_25 => ?_) (fun c_25 => ?_) | refine go_ic_ne iM_count_25 (fun c_25 => ?_) (fun c_25 => ?_)
      rotate_left
      · (first | omega | exact absurd c_25 (by decide) | (exfalso; simp (disch := omega) only [Int32.lt_iff_toInt_lt, Int32.le_iff_toInt_le, ← Int32.toInt_inj, nI_toInt, i32_m1, i32_0, i32_m20, i32_m40, i32_m30, i32_m9] at *; omega))
      refine go_iconst (v := nI 0) iM_count_32 rfl ?_
      first | refine gn_iadd iM_count_33 ?_ | refine go_iadd iM_count_33 ?_
      refine go_istoren_2 iM_count_34 (by simp [Value.category, am_U]) ?_
      first | refine go_iinc_3 iM_count_35 (ni_inc _ 1) (by simp [Value.category, am_U]) ?_ | refine go_iinc_3 iM_count_35 rfl (by simp [Value.category, am_U]) ?_
      refine go_goto iM_count_38 ?_
      have ih := lo_M_cnt1 h8 hcM hpl k (i + 1) (by omega)
      simp only [ecN, hkk, h2, if_false] at ih
      exact ih
theorem lo_M_cnt2 (hro : ∀ r, r < 4 → RoR mI r) : ∀ k i, i + k = 4 → Go S 2 tM_count ((am_sh n, mI, mL, am_mR n), 43, [.ref 43, .int (nI 2), .int (nI (rtN mI i)), .int (nI i)], []) (fun q => q = (some (.int (nI (rtN mI 4))), (am_sh n, mI, mL, am_mR n)))
  | 0, i, hi => by
    obtain rfl : i = 4 := by omega
    refine go_iloadn_3 iM_count_43 ?_
    refine go_iconst (v := nI 4) iM_count_44 rfl ?_
    first | refine gn_ic_ge iM_count_45 (by omega) (by omega) (fun c_45 => ?_) (fun c_45 => ?_) | refine go_ic_ge iM_count_45 (fun c_45 => ?_) (fun c_45 => ?_)
    rotate_left
    · (first | omega | exact absurd c_45 (by decide) | (exfalso; simp (disch := omega) only [Int32.lt_iff_toInt_lt, Int32.le_iff_toInt_le, ← Int32.toInt_inj, nI_toInt, i32_m1, i32_0, i32_m20, i32_m40, i32_m30, i32_m9] at *; omega))
    refine go_iloadn_1 iM_count_76 ?_
    refine go_if_ne iM_count_77 (fun c_77 => ?_) (fun c_77 => ?_)
    rotate_left
    · (first | omega | exact absurd c_77 (by decide) | (exfalso; simp (disch := omega) only [Int32.lt_iff_toInt_lt, Int32.le_iff_toInt_le, ← Int32.toInt_inj, nI_toInt, i32_m1, i32_0, i32_m20, i32_m40, i32_m30, i32_m9] at *; omega))
    refine go_iloadn_1 iM_count_87 ?_
    refine go_iconst (v := nI 3) iM_count_88 rfl ?_
    first | refine gn_ic_ne iM_count_89 (by omega) (by omega) (fun c_89 => ?_) (fun c_89 => ?_) | refine go_ic_ne iM_count_89 (fun c_89 => ?_) (fun c_89 => ?_)
    rotate_left
    · (first | omega | exact absurd c_89 (by decide) | (exfalso; simp (disch := omega) only [Int32.lt_iff_toInt_lt, Int32.le_iff_toInt_le, ← Int32.toInt_inj, nI_toInt, i32_m1, i32_0, i32_m20, i32_m40, i32_m30, i32_m9] at *; omega))
    refine go_iloadn_1 iM_count_99 ?_
    refine go_iconst (v := nI 1) iM_count_100 rfl ?_
    refine go_iconst (v := nI 2) iM_count_101 rfl ?_
    refine gc_S1 iM_count_102 (by decide) rfl rfl (Nat.le_of_ble_eq_true rfl) (Nat.le_of_ble_eq_true rfl) (by decide) (sp_M_in_t (by simp (disch := omega) only [nI_toInt]; omega) (by simp (disch := omega) only [nI_toInt]; omega)) ?_
    refine go_if_eq iM_count_105 (fun c_105 => ?_) (fun c_105 => ?_)
    · (first | omega | exact absurd c_105 (by decide) | (exfalso; simp (disch := omega) only [Int32.lt_iff_toInt_lt, Int32.le_iff_toInt_le, ← Int32.toInt_inj, nI_toInt, i32_m1, i32_0, i32_m20, i32_m40, i32_m30, i32_m9] at *; omega))
    refine go_iloadn_2 iM_count_108 ?_
    refine go_goto iM_count_109 ?_
    refine go_iret iM_count_113 rfl ?_
    rfl
  | k + 1, i, hi => by
    have hp : i < 4 := by omega
    obtain ⟨⟨s1, s2⟩ | ⟨s, hs4, s1, s2⟩, hpc⟩ := hro i hp
    · refine go_iloadn_3 iM_count_43 ?_
      refine go_iconst (v := nI 4) iM_count_44 rfl ?_
      first | refine gn_ic_ge iM_count_45 (by omega) (by omega) (fun c_45 => ?_) (fun c_45 => ?_) | refine go_ic_ge iM_count_45 (fun c_45 => ?_) (fun c_45 => ?_)
      · (first | omega | exact absurd c_45 (by decide) | (exfalso; simp (disch := omega) only [Int32.lt_iff_toInt_lt, Int32.le_iff_toInt_le, ← Int32.toInt_inj, nI_toInt, i32_m1, i32_0, i32_m20, i32_m40, i32_m30, i32_m9] at *; omega))
      refine go_iloadn_1 iM_count_48 ?_
      refine go_iconst (v := nI 2) iM_count_49 rfl ?_
      first | refine gn_ic_ne iM_count_50 (by omega) (by omega) (fun c_50 => ?_) (fun c_50 => ?_) | refine go_ic_ne iM_count_50 (fun c_50 => ?_) (fun c_50 => ?_)
      · (first | omega | exact absurd c_50 (by decide) | (exfalso; simp (disch := omega) only [Int32.lt_iff_toInt_lt, Int32.le_iff_toInt_le, ← Int32.toInt_inj, nI_toInt, i32_m1, i32_0, i32_m20, i32_m40, i32_m30, i32_m9] at *; omega))
      refine go_iloadn_2 iM_count_53 ?_
      refine go_aloadn_0 iM_count_54 rfl ?_
      refine go_getR iM_count_55 rfl (sk_43 _) (mR_43_8 _) ?_
      refine go_iloadn_3 iM_count_58 ?_
      refine go_iald iM_count_59 (sh_47 _) rfl (by omega) (by omega) ?_
      try simp (disch := omega) only [am_u_n, am_u_s, am_u_k, s2]
      refine go_if_lt iM_count_60 (fun c_60 => ?_) (fun c_60 => ?_)
      rotate_left
      · (first | omega | exact absurd c_60 (by decide) | (exfalso; simp (disch := omega) only [Int32.lt_iff_toInt_lt, Int32.le_iff_toInt_le, ← Int32.toInt_inj, nI_toInt, i32_m1, i32_0, i32_m20, i32_m40, i32_m30, i32_m9] at *; omega))
      refine go_iconst (v := nI 0) iM_count_67 rfl ?_
      first | refine gn_iadd iM_count_68 ?_ | refine go_iadd iM_count_68 ?_
      refine go_istoren_2 iM_count_69 (by simp [Value.category, am_U]) ?_
      first | refine go_iinc_3 iM_count_70 (ni_inc _ 1) (by simp [Value.category, am_U]) ?_ | refine go_iinc_3 iM_count_70 rfl (by simp [Value.category, am_U]) ?_
      refine go_goto iM_count_73 ?_
      have ih := lo_M_cnt2 hro k (i + 1) (by omega)
      simp only [rtN, s2, if_true] at ih
      exact ih
    · have e : ¬ mI 47 i = -9 := by rw [s2]; intro q; have q2 := congrArg Int32.toInt q; rw [nI_toInt (by omega), i32_m9] at q2; omega
      refine go_iloadn_3 iM_count_43 ?_
      refine go_iconst (v := nI 4) iM_count_44 rfl ?_
      first | refine gn_ic_ge iM_count_45 (by omega) (by omega) (fun c_45 => ?_) (fun c_45 => ?_) | refine go_ic_ge iM_count_45 (fun c_45 => ?_) (fun c_45 => ?_)
      · (first | omega | exact absurd c_45 (by decide) | (exfalso; simp (disch := omega) only [Int32.lt_iff_toInt_lt, Int32.le_iff_toInt_le, ← Int32.toInt_inj, nI_toInt, i32_m1, i32_0, i32_m20, i32_m40, i32_m30, i32_m9] at *; omega))
      refine go_iloadn_1 iM_count_48 ?_
      refine go_iconst (v := nI 2) iM_count_49 rfl ?_
      first | refine gn_ic_ne iM_count_50 (by omega) (by omega) (fun c_50 => ?_) (fun c_50 => ?_) | refine go_ic_ne iM_count_50 (fun c_50 => ?_) (fun c_50 => ?_)
      · (first | omega | exact absurd c_50 (by decide) | (exfalso; simp (disch := omega) only [Int32.lt_iff_toInt_lt, Int32.le_iff_toInt_le, ← Int32.toInt_inj, nI_toInt, i32_m1, i32_0, i32_m20, i32_m40, i32_m30, i32_m9] at *; omega))
      refine go_iloadn_2 iM_count_53 ?_
      refine go_aloadn_0 iM_count_54 rfl ?_
      refine go_getR iM_count_55 rfl (sk_43 _) (mR_43_8 _) ?_
      refine go_iloadn_3 iM_count_58 ?_
      refine go_iald iM_count_59 (sh_47 _) rfl (by omega) (by omega) ?_
      try simp (disch := omega) only [am_u_n, am_u_s, am_u_k, s2]
      refine go_if_lt iM_count_60 (fun c_60 => ?_) (fun c_60 => ?_)
      · (first | omega | exact absurd c_60 (by decide) | (exfalso; simp (disch := omega) only [Int32.lt_iff_toInt_lt, Int32.le_iff_toInt_le, ← Int32.toInt_inj, nI_toInt, i32_m1, i32_0, i32_m20, i32_m40, i32_m30, i32_m9] at *; omega))
      refine go_iconst (v := nI 1) iM_count_63 rfl ?_
      refine go_goto iM_count_64 ?_
      first | refine gn_iadd iM_count_68 ?_ | refine go_iadd iM_count_68 ?_
      refine go_istoren_2 iM_count_69 (by simp [Value.category, am_U]) ?_
      first | refine go_iinc_3 iM_count_70 (ni_inc _ 1) (by simp [Value.category, am_U]) ?_ | refine go_iinc_3 iM_count_70 rfl (by simp [Value.category, am_U]) ?_
      refine go_goto iM_count_73 ?_
      have ih := lo_M_cnt2 hro k (i + 1) (by omega)
      simp only [rtN, e, if_false] at ih
      exact ih
theorem pr_count (x : Int32) (hR : Rel n mI mL) : Pair S tT_count tM_count [.int x] n mI mL := by
  have hR' := hR
  obtain ⟨h8, ⟨m, hm1, hm3, hmT, hmM⟩, hcT, hcM, hpl, hro, hfi, hfs, hu, hl, hch⟩ := hR
  rcases int_cases x 3 (by decide) with ⟨a, ha, rfl⟩ | h
  · match a, ha with
    | 0, _ =>
      refine Pair.same (h1 := 0) (h2 := 1) (v := .int (nI n)) hR' ?_ ?_
      · show Go _ _ tT_count (_, 0, [.ref 0, .int (nI 0)], []) _
        refine go_iloadn_1 iT_count_0 ?_
        refine go_tswI (off := 31) (tgt := 32) iT_count_1 (by decide) (by decide) (by decide) (by decide) ?_
        refine go_aloadn_0 iT_count_32 rfl ?_
        refine go_getI iT_count_33 (Or.inl rfl) (sk_0 _) ?_
        try simp (disch := omega) only [am_u_n, am_u_s, am_u_k, hcT]
        refine go_iret iT_count_36 rfl ?_
        rfl
      · show Go _ _ tM_count (_, 0, [.ref 43, .int (nI 0), am_U, am_U], []) _
        refine go_iconst (v := nI 0) iM_count_0 rfl ?_
        refine go_istoren_2 iM_count_1 (by simp [Value.category, am_U]) ?_
        refine go_iconst (v := nI 0) iM_count_2 rfl ?_
        refine go_istoren_3 iM_count_3 (by simp [Value.category, am_U]) ?_
        refine go_iloadn_3 iM_count_4 ?_
        refine go_aloadn_0 iM_count_5 rfl ?_
        refine go_getI iM_count_6 (Or.inl rfl) (sk_43 _) ?_
        try simp (disch := omega) only [am_u_n, am_u_s, am_u_k, hcM]
        first | refine gn_ic_ge iM_count_9 (by omega) (by omega) (fun c_9 => ?_) (fun c_9 => ?_) | refine go_ic_ge iM_count_9 (fun c_9 => ?_) (fun c_9 => ?_)
        · refine go_iconst (v := nI 0) iM_count_41 rfl ?_
          refine go_istoren_3 iM_count_42 (by simp [Value.category, am_U]) ?_
          refine go_iloadn_3 iM_count_43 ?_
          refine go_iconst (v := nI 4) iM_count_44 rfl ?_
          first | refine gn_ic_ge iM_count_45 (by omega) (by omega) (fun c_45 => ?_) (fun c_45 => ?_) | refine go_ic_ge iM_count_45 (fun c_45 => ?_) (fun c_45 => ?_)
          · (first | omega | exact absurd c_45 (by decide) | (exfalso; simp (disch := omega) only [Int32.lt_iff_toInt_lt, Int32.le_iff_toInt_le, ← Int32.toInt_inj, nI_toInt, i32_m1, i32_0, i32_m20, i32_m40, i32_m30, i32_m9] at *; omega))
          refine go_iloadn_1 iM_count_48 ?_
          refine go_iconst (v := nI 2) iM_count_49 rfl ?_
          first | refine gn_ic_ne iM_count_50 (by omega) (by omega) (fun c_50 => ?_) (fun c_50 => ?_) | refine go_ic_ne iM_count_50 (fun c_50 => ?_) (fun c_50 => ?_)
          rotate_left
          · (first | omega | exact absurd c_50 (by decide) | (exfalso; simp (disch := omega) only [Int32.lt_iff_toInt_lt, Int32.le_iff_toInt_le, ← Int32.toInt_inj, nI_toInt, i32_m1, i32_0, i32_m20, i32_m40, i32_m30, i32_m9] at *; omega))
          refine go_iloadn_1 iM_count_76 ?_
          refine go_if_ne iM_count_77 (fun c_77 => ?_) (fun c_77 => ?_)
          · (first | omega | exact absurd c_77 (by decide) | (exfalso; simp (disch := omega) only [Int32.lt_iff_toInt_lt, Int32.le_iff_toInt_le, ← Int32.toInt_inj, nI_toInt, i32_m1, i32_0, i32_m20, i32_m40, i32_m30, i32_m9] at *; omega))
          refine go_aloadn_0 iM_count_80 rfl ?_
          refine go_getI iM_count_81 (Or.inl rfl) (sk_43 _) ?_
          try simp (disch := omega) only [am_u_n, am_u_s, am_u_k, hcM]
          refine go_goto iM_count_84 ?_
          refine go_iret iM_count_113 rfl ?_
          rfl
        · refine go_iloadn_1 iM_count_12 ?_
          refine go_iconst (v := nI 1) iM_count_13 rfl ?_
          first | refine gn_ic_ne iM_count_14 (by omega) (by omega) (fun c_14 => ?_) (fun c_14 => ?_) | refine go_ic_ne iM_count_14 (fun c_14 => ?_) (fun c_14 => ?_)
          rotate_left
          · (first | omega | exact absurd c_14 (by decide) | (exfalso; simp (disch := omega) only [Int32.lt_iff_toInt_lt, Int32.le_iff_toInt_le, ← Int32.toInt_inj, nI_toInt, i32_m1, i32_0, i32_m20, i32_m40, i32_m30, i32_m9] at *; omega))
          refine go_iconst (v := nI 0) iM_count_41 rfl ?_
          refine go_istoren_3 iM_count_42 (by simp [Value.category, am_U]) ?_
          refine go_iloadn_3 iM_count_43 ?_
          refine go_iconst (v := nI 4) iM_count_44 rfl ?_
          first | refine gn_ic_ge iM_count_45 (by omega) (by omega) (fun c_45 => ?_) (fun c_45 => ?_) | refine go_ic_ge iM_count_45 (fun c_45 => ?_) (fun c_45 => ?_)
          · (first | omega | exact absurd c_45 (by decide) | (exfalso; simp (disch := omega) only [Int32.lt_iff_toInt_lt, Int32.le_iff_toInt_le, ← Int32.toInt_inj, nI_toInt, i32_m1, i32_0, i32_m20, i32_m40, i32_m30, i32_m9] at *; omega))
          refine go_iloadn_1 iM_count_48 ?_
          refine go_iconst (v := nI 2) iM_count_49 rfl ?_
          first | refine gn_ic_ne iM_count_50 (by omega) (by omega) (fun c_50 => ?_) (fun c_50 => ?_) | refine go_ic_ne iM_count_50 (fun c_50 => ?_) (fun c_50 => ?_)
          rotate_left
          · (first | omega | exact absurd c_50 (by decide) | (exfalso; simp (disch := omega) only [Int32.lt_iff_toInt_lt, Int32.le_iff_toInt_le, ← Int32.toInt_inj, nI_toInt, i32_m1, i32_0, i32_m20, i32_m40, i32_m30, i32_m9] at *; omega))
          refine go_iloadn_1 iM_count_76 ?_
          refine go_if_ne iM_count_77 (fun c_77 => ?_) (fun c_77 => ?_)
          · (first | omega | exact absurd c_77 (by decide) | (exfalso; simp (disch := omega) only [Int32.lt_iff_toInt_lt, Int32.le_iff_toInt_le, ← Int32.toInt_inj, nI_toInt, i32_m1, i32_0, i32_m20, i32_m40, i32_m30, i32_m9] at *; omega))
          refine go_aloadn_0 iM_count_80 rfl ?_
          refine go_getI iM_count_81 (Or.inl rfl) (sk_43 _) ?_
          try simp (disch := omega) only [am_u_n, am_u_s, am_u_k, hcM]
          refine go_goto iM_count_84 ?_
          refine go_iret iM_count_113 rfl ?_
          rfl
    | 1, _ =>
      refine Pair.same (h1 := 3) (h2 := 2) (v := .int (nI (ecN mI n))) hR' ?_ ?_
      · show Go _ _ tT_count (_, 0, [.ref 0, .int (nI 1)], []) _
        refine go_iloadn_1 iT_count_0 ?_
        refine go_tswI (off := 36) (tgt := 37) iT_count_1 (by decide) (by decide) (by decide) (by decide) ?_
        refine go_aloadn_0 iT_count_37 rfl ?_
        refine gc_V1 iT_count_38 rfl (by decide) (sk_0 _) rfl (Nat.le_of_ble_eq_true rfl) (Nat.le_of_ble_eq_true rfl) (by decide) (sp_T_echo h8 hcT hpl) ?_
        refine go_iret iT_count_41 rfl ?_
        rfl
      · show Go _ _ tM_count (_, 0, [.ref 43, .int (nI 1), am_U, am_U], []) _
        refine go_iconst (v := nI 0) iM_count_0 rfl ?_
        refine go_istoren_2 iM_count_1 (by simp [Value.category, am_U]) ?_
        refine go_iconst (v := nI 0) iM_count_2 rfl ?_
        refine go_istoren_3 iM_count_3 (by simp [Value.category, am_U]) ?_
        exact lo_M_cnt1 h8 hcM hpl n 0 (by omega)
    | 2, _ =>
      refine Pair.same (h1 := 3) (h2 := 2) (v := .int (nI (rtN mI 4))) hR' ?_ ?_
      · show Go _ _ tT_count (_, 0, [.ref 0, .int (nI 2)], []) _
        refine go_iloadn_1 iT_count_0 ?_
        refine go_tswI (off := 41) (tgt := 42) iT_count_1 (by decide) (by decide) (by decide) (by decide) ?_
        refine go_aloadn_0 iT_count_42 rfl ?_
        refine gc_V1 iT_count_43 rfl (by decide) (sk_0 _) rfl (Nat.le_of_ble_eq_true rfl) (Nat.le_of_ble_eq_true rfl) (by decide) (sp_T_rows hro) ?_
        refine go_iret iT_count_46 rfl ?_
        rfl
      · show Go _ _ tM_count (_, 0, [.ref 43, .int (nI 2), am_U, am_U], []) _
        refine go_iconst (v := nI 0) iM_count_0 rfl ?_
        refine go_istoren_2 iM_count_1 (by simp [Value.category, am_U]) ?_
        refine go_iconst (v := nI 0) iM_count_2 rfl ?_
        refine go_istoren_3 iM_count_3 (by simp [Value.category, am_U]) ?_
        refine go_iloadn_3 iM_count_4 ?_
        refine go_aloadn_0 iM_count_5 rfl ?_
        refine go_getI iM_count_6 (Or.inl rfl) (sk_43 _) ?_
        try simp (disch := omega) only [am_u_n, am_u_s, am_u_k, hcM]
        first | refine gn_ic_ge iM_count_9 (by omega) (by omega) (fun c_9 => ?_) (fun c_9 => ?_) | refine go_ic_ge iM_count_9 (fun c_9 => ?_) (fun c_9 => ?_)
        · refine go_iconst (v := nI 0) iM_count_41 rfl ?_
          refine go_istoren_3 iM_count_42 (by simp [Value.category, am_U]) ?_
          exact lo_M_cnt2 hro 4 0 (by omega)
        · refine go_iloadn_1 iM_count_12 ?_
          refine go_iconst (v := nI 1) iM_count_13 rfl ?_
          first | refine gn_ic_ne iM_count_14 (by omega) (by omega) (fun c_14 => ?_) (fun c_14 => ?_) | refine go_ic_ne iM_count_14 (fun c_14 => ?_) (fun c_14 => ?_)
          rotate_left
          · (first | omega | exact absurd c_14 (by decide) | (exfalso; simp (disch := omega) only [Int32.lt_iff_toInt_lt, Int32.le_iff_toInt_le, ← Int32.toInt_inj, nI_toInt, i32_m1, i32_0, i32_m20, i32_m40, i32_m30, i32_m9] at *; omega))
          refine go_iconst (v := nI 0) iM_count_41 rfl ?_
          refine go_istoren_3 iM_count_42 (by simp [Value.category, am_U]) ?_
          exact lo_M_cnt2 hro 4 0 (by omega)
    | 3, _ =>
      refine Pair.same (h1 := 0) (h2 := 1) (v := .int (nI m)) hR' ?_ ?_
      · show Go _ _ tT_count (_, 0, [.ref 0, .int (nI 3)], []) _
        refine go_iloadn_1 iT_count_0 ?_
        refine go_tswI (off := 46) (tgt := 47) iT_count_1 (by decide) (by decide) (by decide) (by decide) ?_
        refine go_aloadn_0 iT_count_47 rfl ?_
        refine go_getI iT_count_48 (Or.inl rfl) (sk_0 _) ?_
        try simp (disch := omega) only [am_u_n, am_u_s, am_u_k, hmT]
        refine go_iret iT_count_51 rfl ?_
        rfl
      · show Go _ _ tM_count (_, 0, [.ref 43, .int (nI 3), am_U, am_U], []) _
        refine go_iconst (v := nI 0) iM_count_0 rfl ?_
        refine go_istoren_2 iM_count_1 (by simp [Value.category, am_U]) ?_
        refine go_iconst (v := nI 0) iM_count_2 rfl ?_
        refine go_istoren_3 iM_count_3 (by simp [Value.category, am_U]) ?_
        refine go_iloadn_3 iM_count_4 ?_
        refine go_aloadn_0 iM_count_5 rfl ?_
        refine go_getI iM_count_6 (Or.inl rfl) (sk_43 _) ?_
        try simp (disch := omega) only [am_u_n, am_u_s, am_u_k, hcM, hmM]
        first | refine gn_ic_ge iM_count_9 (by omega) (by omega) (fun c_9 => ?_) (fun c_9 => ?_) | refine go_ic_ge iM_count_9 (fun c_9 => ?_) (fun c_9 => ?_)
        · refine go_iconst (v := nI 0) iM_count_41 rfl ?_
          refine go_istoren_3 iM_count_42 (by simp [Value.category, am_U]) ?_
          refine go_iloadn_3 iM_count_43 ?_
          refine go_iconst (v := nI 4) iM_count_44 rfl ?_
          first | refine gn_ic_ge iM_count_45 (by omega) (by omega) (fun c_45 => ?_) (fun c_45 => ?_) | refine go_ic_ge iM_count_45 (fun c_45 => ?_) (fun c_45 => ?_)
          · (first | omega | exact absurd c_45 (by decide) | (exfalso; simp (disch := omega) only [Int32.lt_iff_toInt_lt, Int32.le_iff_toInt_le, ← Int32.toInt_inj, nI_toInt, i32_m1, i32_0, i32_m20, i32_m40, i32_m30, i32_m9] at *; omega))
          refine go_iloadn_1 iM_count_48 ?_
          refine go_iconst (v := nI 2) iM_count_49 rfl ?_
          first | refine gn_ic_ne iM_count_50 (by omega) (by omega) (fun c_50 => ?_) (fun c_50 => ?_) | refine go_ic_ne iM_count_50 (fun c_50 => ?_) (fun c_50 => ?_)
          rotate_left
          · (first | omega | exact absurd c_50 (by decide) | (exfalso; simp (disch := omega) only [Int32.lt_iff_toInt_lt, Int32.le_iff_toInt_le, ← Int32.toInt_inj, nI_toInt, i32_m1, i32_0, i32_m20, i32_m40, i32_m30, i32_m9] at *; omega))
          refine go_iloadn_1 iM_count_76 ?_
          refine go_if_ne iM_count_77 (fun c_77 => ?_) (fun c_77 => ?_)
          rotate_left
          · (first | omega | exact absurd c_77 (by decide) | (exfalso; simp (disch := omega) only [Int32.lt_iff_toInt_lt, Int32.le_iff_toInt_le, ← Int32.toInt_inj, nI_toInt, i32_m1, i32_0, i32_m20, i32_m40, i32_m30, i32_m9] at *; omega))
          refine go_iloadn_1 iM_count_87 ?_
          refine go_iconst (v := nI 3) iM_count_88 rfl ?_
          first | refine gn_ic_ne iM_count_89 (by omega) (by omega) (fun c_89 => ?_) (fun c_89 => ?_) | refine go_ic_ne iM_count_89 (fun c_89 => ?_) (fun c_89 => ?_)
          · (first | omega | exact absurd c_89 (by decide) | (exfalso; simp (disch := omega) only [Int32.lt_iff_toInt_lt, Int32.le_iff_toInt_le, ← Int32.toInt_inj, nI_toInt, i32_m1, i32_0, i32_m20, i32_m40, i32_m30, i32_m9] at *; omega))
          refine go_aloadn_0 iM_count_92 rfl ?_
          refine go_getI iM_count_93 (Or.inl rfl) (sk_43 _) ?_
          try simp (disch := omega) only [am_u_n, am_u_s, am_u_k, hcM, hmM]
          refine go_goto iM_count_96 ?_
          refine go_iret iM_count_113 rfl ?_
          rfl
        · refine go_iloadn_1 iM_count_12 ?_
          refine go_iconst (v := nI 1) iM_count_13 rfl ?_
          first | refine gn_ic_ne iM_count_14 (by omega) (by omega) (fun c_14 => ?_) (fun c_14 => ?_) | refine go_ic_ne iM_count_14 (fun c_14 => ?_) (fun c_14 => ?_)
          rotate_left
          · (first | omega | exact absurd c_14 (by decide) | (exfalso; simp (disch := omega) only [Int32.lt_iff_toInt_lt, Int32.le_iff_toInt_le, ← Int32.toInt_inj, nI_toInt, i32_m1, i32_0, i32_m20, i32_m40, i32_m30, i32_m9] at *; omega))
          refine go_iconst (v := nI 0) iM_count_41 rfl ?_
          refine go_istoren_3 iM_count_42 (by simp [Value.category, am_U]) ?_
          refine go_iloadn_3 iM_count_43 ?_
          refine go_iconst (v := nI 4) iM_count_44 rfl ?_
          first | refine gn_ic_ge iM_count_45 (by omega) (by omega) (fun c_45 => ?_) (fun c_45 => ?_) | refine go_ic_ge iM_count_45 (fun c_45 => ?_) (fun c_45 => ?_)
          · (first | omega | exact absurd c_45 (by decide) | (exfalso; simp (disch := omega) only [Int32.lt_iff_toInt_lt, Int32.le_iff_toInt_le, ← Int32.toInt_inj, nI_toInt, i32_m1, i32_0, i32_m20, i32_m40, i32_m30, i32_m9] at *; omega))
          refine go_iloadn_1 iM_count_48 ?_
          refine go_iconst (v := nI 2) iM_count_49 rfl ?_
          first | refine gn_ic_ne iM_count_50 (by omega) (by omega) (fun c_50 => ?_) (fun c_50 => ?_) | refine go_ic_ne iM_count_50 (fun c_50 => ?_) (fun c_50 => ?_)
          rotate_left
          · (first | omega | exact absurd c_50 (by decide) | (exfalso; simp (disch := omega) only [Int32.lt_iff_toInt_lt, Int32.le_iff_toInt_le, ← Int32.toInt_inj, nI_toInt, i32_m1, i32_0, i32_m20, i32_m40, i32_m30, i32_m9] at *; omega))
          refine go_iloadn_1 iM_count_76 ?_
          refine go_if_ne iM_count_77 (fun c_77 => ?_) (fun c_77 => ?_)
          rotate_left
          · (first | omega | exact absurd c_77 (by decide) | (exfalso; simp (disch := omega) only [Int32.lt_iff_toInt_lt, Int32.le_iff_toInt_le, ← Int32.toInt_inj, nI_toInt, i32_m1, i32_0, i32_m20, i32_m40, i32_m30, i32_m9] at *; omega))
          refine go_iloadn_1 iM_count_87 ?_
          refine go_iconst (v := nI 3) iM_count_88 rfl ?_
          first | refine gn_ic_ne iM_count_89 (by omega) (by omega) (fun c_89 => ?_) (fun c_89 => ?_) | refine go_ic_ne iM_count_89 (fun c_89 => ?_) (fun c_89 => ?_)
          · (first | omega | exact absurd c_89 (by decide) | (exfalso; simp (disch := omega) only [Int32.lt_iff_toInt_lt, Int32.le_iff_toInt_le, ← Int32.toInt_inj, nI_toInt, i32_m1, i32_0, i32_m20, i32_m40, i32_m30, i32_m9] at *; omega))
          refine go_aloadn_0 iM_count_92 rfl ?_
          refine go_getI iM_count_93 (Or.inl rfl) (sk_43 _) ?_
          try simp (disch := omega) only [am_u_n, am_u_s, am_u_k, hcM, hmM]
          refine go_goto iM_count_96 ?_
          refine go_iret iM_count_113 rfl ?_
          rfl
    | a + 4, ha => omega
  · have e1 : x.toInt ≠ 0 := by omega
    refine Pair.same (h1 := 0) (h2 := 1) (v := .int (-1)) hR' ?_ ?_
    · show Go _ _ tT_count (_, 0, [.ref 0, .int x], []) _
      refine go_iloadn_1 iT_count_0 ?_
      refine go_tswO (tgt := 52) iT_count_1 (by omega) (by decide) ?_
      refine go_iconst (v := (-1)) iT_count_52 rfl ?_
      refine go_iret iT_count_53 rfl ?_
      rfl
    · show Go _ _ tM_count (_, 0, [.ref 43, .int x, am_U, am_U], []) _
      refine go_iconst (v := nI 0) iM_count_0 rfl ?_
      refine go_istoren_2 iM_count_1 (by simp [Value.category, am_U]) ?_
      refine go_iconst (v := nI 0) iM_count_2 rfl ?_
      refine go_istoren_3 iM_count_3 (by simp [Value.category, am_U]) ?_
      refine go_iloadn_3 iM_count_4 ?_
      refine go_aloadn_0 iM_count_5 rfl ?_
      refine go_getI iM_count_6 (Or.inl rfl) (sk_43 _) ?_
      try simp (disch := omega) only [am_u_n, am_u_s, am_u_k, hcM]
      first | refine gn_ic_ge iM_count_9 (by omega) (by omega) (fun c_9 => ?_) (fun c_9 => ?_) | refine go_ic_ge iM_count_9 (fun c_9 => ?_) (fun c_9 => ?_)
      · refine go_iconst (v := nI 0) iM_count_41 rfl ?_
        refine go_istoren_3 iM_count_42 (by simp [Value.category, am_U]) ?_
        refine go_iloadn_3 iM_count_43 ?_
        refine go_iconst (v := nI 4) iM_count_44 rfl ?_
        first | refine gn_ic_ge iM_count_45 (by omega) (by omega) (fun c_45 => ?_) (fun c_45 => ?_) | refine go_ic_ge iM_count_45 (fun c_45 => ?_) (fun c_45 => ?_)
        · (first | omega | exact absurd c_45 (by decide) | (exfalso; simp (disch := omega) only [Int32.lt_iff_toInt_lt, Int32.le_iff_toInt_le, ← Int32.toInt_inj, nI_toInt, i32_m1, i32_0, i32_m20, i32_m40, i32_m30, i32_m9] at *; omega))
        refine go_iloadn_1 iM_count_48 ?_
        refine go_iconst (v := nI 2) iM_count_49 rfl ?_
        first | refine gn_ic_ne iM_count_50 (by omega) (by omega) (fun c_50 => ?_) (fun c_50 => ?_) | refine go_ic_ne iM_count_50 (fun c_50 => ?_) (fun c_50 => ?_)
        rotate_left
        · (first | omega | exact absurd c_50 (by decide) | (exfalso; simp (disch := omega) only [Int32.lt_iff_toInt_lt, Int32.le_iff_toInt_le, ← Int32.toInt_inj, nI_toInt, i32_m1, i32_0, i32_m20, i32_m40, i32_m30, i32_m9] at *; omega))
        refine go_iloadn_1 iM_count_76 ?_
        refine go_if_ne iM_count_77 (fun c_77 => ?_) (fun c_77 => ?_)
        rotate_left
        · (first | omega | exact absurd c_77 (by decide) | (exfalso; simp (disch := omega) only [Int32.lt_iff_toInt_lt, Int32.le_iff_toInt_le, ← Int32.toInt_inj, nI_toInt, i32_m1, i32_0, i32_m20, i32_m40, i32_m30, i32_m9] at *; omega))
        refine go_iloadn_1 iM_count_87 ?_
        refine go_iconst (v := nI 3) iM_count_88 rfl ?_
        first | refine gn_ic_ne iM_count_89 (by omega) (by omega) (fun c_89 => ?_) (fun c_89 => ?_) | refine go_ic_ne iM_count_89 (fun c_89 => ?_) (fun c_89 => ?_)
        rotate_left
        · (first | omega | exact absurd c_89 (by decide) | (exfalso; simp (disch := omega) only [Int32.lt_iff_toInt_lt, Int32.le_iff_toInt_le, ← Int32.toInt_inj, nI_toInt, i32_m1, i32_0, i32_m20, i32_m40, i32_m30, i32_m9] at *; omega))
        refine go_iloadn_1 iM_count_99 ?_
        refine go_iconst (v := nI 1) iM_count_100 rfl ?_
        refine go_iconst (v := nI 2) iM_count_101 rfl ?_
        refine gc_S1 iM_count_102 (by decide) rfl rfl (Nat.le_of_ble_eq_true rfl) (Nat.le_of_ble_eq_true rfl) (by decide) (sp_M_in_f (by simp (disch := omega) only [nI_toInt]; omega)) ?_
        refine go_if_eq iM_count_105 (fun c_105 => ?_) (fun c_105 => ?_)
        rotate_left
        · (first | omega | exact absurd c_105 (by decide) | (exfalso; simp (disch := omega) only [Int32.lt_iff_toInt_lt, Int32.le_iff_toInt_le, ← Int32.toInt_inj, nI_toInt, i32_m1, i32_0, i32_m20, i32_m40, i32_m30, i32_m9] at *; omega))
        refine go_iconst (v := (-1)) iM_count_112 rfl ?_
        refine go_iret iM_count_113 rfl ?_
        rfl
      · refine go_iloadn_1 iM_count_12 ?_
        refine go_iconst (v := nI 1) iM_count_13 rfl ?_
        first | refine gn_ic_ne iM_count_14 (by omega) (by omega) (fun c_14 => ?_) (fun c_14 => ?_) | refine go_ic_ne iM_count_14 (fun c_14 => ?_) (fun c_14 => ?_)
        rotate_left
        · (first | omega | exact absurd c_14 (by decide) | (exfalso; simp (disch := omega) only [Int32.lt_iff_toInt_lt, Int32.le_iff_toInt_le, ← Int32.toInt_inj, nI_toInt, i32_m1, i32_0, i32_m20, i32_m40, i32_m30, i32_m9] at *; omega))
        refine go_iconst (v := nI 0) iM_count_41 rfl ?_
        refine go_istoren_3 iM_count_42 (by simp [Value.category, am_U]) ?_
        refine go_iloadn_3 iM_count_43 ?_
        refine go_iconst (v := nI 4) iM_count_44 rfl ?_
        first | refine gn_ic_ge iM_count_45 (by omega) (by omega) (fun c_45 => ?_) (fun c_45 => ?_) | refine go_ic_ge iM_count_45 (fun c_45 => ?_) (fun c_45 => ?_)
        · (first | omega | exact absurd c_45 (by decide) | (exfalso; simp (disch := omega) only [Int32.lt_iff_toInt_lt, Int32.le_iff_toInt_le, ← Int32.toInt_inj, nI_toInt, i32_m1, i32_0, i32_m20, i32_m40, i32_m30, i32_m9] at *; omega))
        refine go_iloadn_1 iM_count_48 ?_
        refine go_iconst (v := nI 2) iM_count_49 rfl ?_
        first | refine gn_ic_ne iM_count_50 (by omega) (by omega) (fun c_50 => ?_) (fun c_50 => ?_) | refine go_ic_ne iM_count_50 (fun c_50 => ?_) (fun c_50 => ?_)
        rotate_left
        · (first | omega | exact absurd c_50 (by decide) | (exfalso; simp (disch := omega) only [Int32.lt_iff_toInt_lt, Int32.le_iff_toInt_le, ← Int32.toInt_inj, nI_toInt, i32_m1, i32_0, i32_m20, i32_m40, i32_m30, i32_m9] at *; omega))
        refine go_iloadn_1 iM_count_76 ?_
        refine go_if_ne iM_count_77 (fun c_77 => ?_) (fun c_77 => ?_)
        rotate_left
        · (first | omega | exact absurd c_77 (by decide) | (exfalso; simp (disch := omega) only [Int32.lt_iff_toInt_lt, Int32.le_iff_toInt_le, ← Int32.toInt_inj, nI_toInt, i32_m1, i32_0, i32_m20, i32_m40, i32_m30, i32_m9] at *; omega))
        refine go_iloadn_1 iM_count_87 ?_
        refine go_iconst (v := nI 3) iM_count_88 rfl ?_
        first | refine gn_ic_ne iM_count_89 (by omega) (by omega) (fun c_89 => ?_) (fun c_89 => ?_) | refine go_ic_ne iM_count_89 (fun c_89 => ?_) (fun c_89 => ?_)
        rotate_left
        · (first | omega | exact absurd c_89 (by decide) | (exfalso; simp (disch := omega) only [Int32.lt_iff_toInt_lt, Int32.le_iff_toInt_le, ← Int32.toInt_inj, nI_toInt, i32_m1, i32_0, i32_m20, i32_m40, i32_m30, i32_m9] at *; omega))
        refine go_iloadn_1 iM_count_99 ?_
        refine go_iconst (v := nI 1) iM_count_100 rfl ?_
        refine go_iconst (v := nI 2) iM_count_101 rfl ?_
        refine gc_S1 iM_count_102 (by decide) rfl rfl (Nat.le_of_ble_eq_true rfl) (Nat.le_of_ble_eq_true rfl) (by decide) (sp_M_in_f (by simp (disch := omega) only [nI_toInt]; omega)) ?_
        refine go_if_eq iM_count_105 (fun c_105 => ?_) (fun c_105 => ?_)
        rotate_left
        · (first | omega | exact absurd c_105 (by decide) | (exfalso; simp (disch := omega) only [Int32.lt_iff_toInt_lt, Int32.le_iff_toInt_le, ← Int32.toInt_inj, nI_toInt, i32_m1, i32_0, i32_m20, i32_m40, i32_m30, i32_m9] at *; omega))
        refine go_iconst (v := (-1)) iM_count_112 rfl ?_
        refine go_iret iM_count_113 rfl ?_
        rfl
end CNT
