/-! ===== digest, count ===== -/
def dS (h : Int64) (v : Int32) : Int64 := 31 * h + v.toInt64
def dF (h : Int64) (f : Nat → Int32) : Nat → Int64
  | 0 => h
  | i + 1 => dS (dF h f i) (f i)
theorem dF_congr {h : Int64} {f g : Nat → Int32} : ∀ i, (∀ j, j < i → f j = g j) → dF h f i = dF h g i
  | 0, _ => rfl
  | i + 1, e => by
    have ih := dF_congr (h := h) i (fun j hj => e j (by omega))
    simp only [dF, ih, e i (by omega)]
def dPl (mI : Nat → Nat → Int32) (p kd : Nat) (h : Int64) : Int64 := dF (dS (dS (dS (dS h (nI kd)) (nI (szK kd))) (tlF 2 (fun j => mI 46 (4 * p + j)) (szK kd))) (tlF 3 (fun j => mI 46 (4 * p + j)) (szK kd))) (fun j => mI 46 (4 * p + j)) (szK kd)
def kdN (mI : Nat → Nat → Int32) (p : Nat) : Nat := (mI 45 p).toNatClampNeg
def dA (mI : Nat → Nat → Int32) (h : Int64) : Nat → Int64
  | 0 => h
  | i + 1 => dPl mI i (kdN mI i) (dA mI h i)
def dR (mI : Nat → Nat → Int32) (r : Nat) (h : Int64) : Int64 := if mI 47 r = -9 then dS h (-1) else dF (dS h (mI 47 r)) (fun j => mI 48 (4 * r + j)) (mI 47 r).toNatClampNeg
def dB (mI : Nat → Nat → Int32) (h : Int64) : Nat → Int64
  | 0 => h
  | i + 1 => dR mI i (dB mI h i)
section DIG
variable {S : am_S} {mI : Nat → Nat → Int32} {mL : Nat → Nat → Int64} {n : Nat} {p : Nat}
theorem lo_P_dg {s : Nat} {h0 h : Int64} (hp : p < n) (hs : mI (60 + 2 * p) 1 = nI s) (h4 : s ≤ 4) : ∀ k i, i + k = s → Go S 2 tP_digestedInto ((am_sh n, mI, mL, am_mR n), 51, [.ref (60 + 2 * p), .long h0, am_U, .long (dF h (mI (61 + 2 * p)) i), am_U, .int (nI i)], []) (fun q => q = (some (.long (dF h (mI (61 + 2 * p)) s)), (am_sh n, mI, mL, am_mR n)))
  | 0, i, hi => by
    have hk := sk_play hp
    obtain rfl : i = s := by omega
    refine go_iload_5 iP_digestedInto_51 ?_
    refine go_aloadn_0 iP_digestedInto_53 rfl ?_
    refine go_getI iP_digestedInto_54 (Or.inl rfl) (by assumption) ?_
    try simp (disch := omega) only [am_u_n, am_u_s, am_u_k, hs]
    first | refine gn_ic_ge iP_digestedInto_57 (by omega) (by omega) (fun c_57 => ?_) (fun c_57 => ?_) | refine go_ic_ge iP_digestedInto_57 (fun c_57 => ?_) (fun c_57 => ?_)
    rotate_left
    · (first | omega | exact absurd c_57 (by decide) | (exfalso; simp (disch := omega) only [Int32.lt_iff_toInt_lt, Int32.le_iff_toInt_le, ← Int32.toInt_inj, nI_toInt, i32_m1, i32_0, i32_m20, i32_m40, i32_m30, i32_m9] at *; omega))
    refine go_lloadn_3 iP_digestedInto_81 ?_
    refine go_lret iP_digestedInto_82 rfl ?_
    rfl
  | k + 1, i, hi => by
    have hk := sk_play hp
    have hr := mR_wins n hp
    have hv := sh_wins hp
    refine go_iload_5 iP_digestedInto_51 ?_
    refine go_aloadn_0 iP_digestedInto_53 rfl ?_
    refine go_getI iP_digestedInto_54 (Or.inl rfl) (by assumption) ?_
    try simp (disch := omega) only [am_u_n, am_u_s, am_u_k, hs]
    first | refine gn_ic_ge iP_digestedInto_57 (by omega) (by omega) (fun c_57 => ?_) (fun c_57 => ?_) | refine go_ic_ge iP_digestedInto_57 (fun c_57 => ?_) (fun c_57 => ?_)
    · (first | omega | exact absurd c_57 (by decide) | (exfalso; simp (disch := omega) only [Int32.lt_iff_toInt_lt, Int32.le_iff_toInt_le, ← Int32.toInt_inj, nI_toInt, i32_m1, i32_0, i32_m20, i32_m40, i32_m30, i32_m9] at *; omega))
    refine go_ldc2 (v := 31) iP_digestedInto_60 rfl ?_
    refine go_lloadn_3 iP_digestedInto_63 ?_
    refine go_lmul iP_digestedInto_64 ?_
    refine go_aloadn_0 iP_digestedInto_65 rfl ?_
    refine go_getR iP_digestedInto_66 rfl (by assumption) (by assumption) ?_
    refine go_iload_5 iP_digestedInto_69 ?_
    refine go_iald iP_digestedInto_71 (by assumption) rfl (by omega) (by omega) ?_
    try simp (disch := omega) only [am_u_n, am_u_s, am_u_k, hs]
    refine go_i2l iP_digestedInto_72 ?_
    refine go_ladd iP_digestedInto_73 ?_
    refine go_lstoren_3 iP_digestedInto_74 (by simp [Value.category, am_U]) ?_
    first | refine go_iinc_5 iP_digestedInto_75 (ni_inc _ 1) (by simp [Value.category, am_U]) ?_ | refine go_iinc_5 iP_digestedInto_75 rfl (by simp [Value.category, am_U]) ?_
    refine go_goto iP_digestedInto_78 ?_
    exact lo_P_dg hp hs h4 k (i + 1) (by omega)
theorem sp_P_dg {kd : Nat} {h : Int64} (hp : p < n) (hkT : mI (60 + 2 * p) 0 = nI kd) (hs : mI (60 + 2 * p) 1 = nI (szK kd)) (hoe : ∀ j, j < szK kd → mI (61 + 2 * p) j = mI 46 (4 * p + j)) : Sp S 2 tP_digestedInto (am_sh n, mI, mL, am_mR n) [.ref (60 + 2 * p), .long h] (fun q => q = (some (.long (dPl mI p kd h)), (am_sh n, mI, mL, am_mR n))) := by
  have hk := sk_play hp
  have h4 := szK_le kd
  have e : dPl mI p kd h = dF (dS (dS (dS (dS h (nI kd)) (nI (szK kd))) (leK (mI (61 + 2 * p)) (szK kd))) (grK (mI (61 + 2 * p)) (szK kd))) (mI (61 + 2 * p)) (szK kd) := by
    unfold dPl
    rw [← le_tl hoe, ← gr_tl hoe]
    exact dF_congr _ (fun j hj => (hoe j hj).symm)
  rw [e]
  show Go _ _ tP_digestedInto (_, 0, [.ref (60 + 2 * p), .long h, am_U, am_U, am_U, am_U], []) _
  refine go_ldc2 (v := 31) iP_digestedInto_0 rfl ?_
  refine go_lloadn_1 iP_digestedInto_3 ?_
  refine go_lmul iP_digestedInto_4 ?_
  refine go_aloadn_0 iP_digestedInto_5 rfl ?_
  refine go_getI iP_digestedInto_6 (Or.inl rfl) (by assumption) ?_
  try simp (disch := omega) only [am_u_n, am_u_s, am_u_k, hkT, hs]
  refine go_i2l iP_digestedInto_9 ?_
  refine go_ladd iP_digestedInto_10 ?_
  refine go_lstoren_3 iP_digestedInto_11 (by simp [Value.category, am_U]) ?_
  refine go_ldc2 (v := 31) iP_digestedInto_12 rfl ?_
  refine go_lloadn_3 iP_digestedInto_15 ?_
  refine go_lmul iP_digestedInto_16 ?_
  refine go_aloadn_0 iP_digestedInto_17 rfl ?_
  refine go_getI iP_digestedInto_18 (Or.inl rfl) (by assumption) ?_
  try simp (disch := omega) only [am_u_n, am_u_s, am_u_k, hkT, hs]
  refine go_i2l iP_digestedInto_21 ?_
  refine go_ladd iP_digestedInto_22 ?_
  refine go_lstoren_3 iP_digestedInto_23 (by simp [Value.category, am_U]) ?_
  refine go_ldc2 (v := 31) iP_digestedInto_24 rfl ?_
  refine go_lloadn_3 iP_digestedInto_27 ?_
  refine go_lmul iP_digestedInto_28 ?_
  refine go_aloadn_0 iP_digestedInto_29 rfl ?_
  refine gc_V1 iP_digestedInto_30 rfl (by decide) (by assumption) rfl (Nat.le_of_ble_eq_true rfl) (Nat.le_of_ble_eq_true rfl) (by decide) (sp_P_least hp hs h4) ?_
  refine go_i2l iP_digestedInto_33 ?_
  refine go_ladd iP_digestedInto_34 ?_
  refine go_lstoren_3 iP_digestedInto_35 (by simp [Value.category, am_U]) ?_
  refine go_ldc2 (v := 31) iP_digestedInto_36 rfl ?_
  refine go_lloadn_3 iP_digestedInto_39 ?_
  refine go_lmul iP_digestedInto_40 ?_
  refine go_aloadn_0 iP_digestedInto_41 rfl ?_
  refine gc_V1 iP_digestedInto_42 rfl (by decide) (by assumption) rfl (Nat.le_of_ble_eq_true rfl) (Nat.le_of_ble_eq_true rfl) (by decide) (sp_P_greatest hp hs h4) ?_
  refine go_i2l iP_digestedInto_45 ?_
  refine go_ladd iP_digestedInto_46 ?_
  refine go_lstoren_3 iP_digestedInto_47 (by simp [Value.category, am_U]) ?_
  refine go_iconst (v := nI 0) iP_digestedInto_48 rfl ?_
  refine go_istore_5 iP_digestedInto_49 (by simp [Value.category, am_U]) ?_
  exact lo_P_dg hp hs h4 (szK kd) 0 (by omega)
theorem lo_W_dg {r s : Nat} {h0 h : Int64} (hr : r < 4) (hs : mI (15 + 2 * r) 0 = nI s) (h4 : s ≤ 4) : ∀ k i, i + k = s → Go S 2 tW_digestedInto ((am_sh n, mI, mL, am_mR n), 15, [.ref (15 + 2 * r), .long h0, am_U, .long (dF h (mI (16 + 2 * r)) i), am_U, .int (nI i)], []) (fun q => q = (some (.long (dF h (mI (16 + 2 * r)) s)), (am_sh n, mI, mL, am_mR n)))
  | 0, i, hi => by
    have hk := sk_row n hr
    obtain rfl : i = s := by omega
    refine go_iload_5 iW_digestedInto_15 ?_
    refine go_aloadn_0 iW_digestedInto_17 rfl ?_
    refine go_getI iW_digestedInto_18 (Or.inl rfl) (by assumption) ?_
    try simp (disch := omega) only [am_u_n, am_u_s, am_u_k, hs]
    first | refine gn_ic_ge iW_digestedInto_21 (by omega) (by omega) (fun c_21 => ?_) (fun c_21 => ?_) | refine go_ic_ge iW_digestedInto_21 (fun c_21 => ?_) (fun c_21 => ?_)
    rotate_left
    · (first | omega | exact absurd c_21 (by decide) | (exfalso; simp (disch := omega) only [Int32.lt_iff_toInt_lt, Int32.le_iff_toInt_le, ← Int32.toInt_inj, nI_toInt, i32_m1, i32_0, i32_m20, i32_m40, i32_m30, i32_m9] at *; omega))
    refine go_lloadn_3 iW_digestedInto_45 ?_
    refine go_lret iW_digestedInto_46 rfl ?_
    rfl
  | k + 1, i, hi => by
    have hk := sk_row n hr
    obtain ⟨g1, g2, g3, g4⟩ := sh_row n hr
    refine go_iload_5 iW_digestedInto_15 ?_
    refine go_aloadn_0 iW_digestedInto_17 rfl ?_
    refine go_getI iW_digestedInto_18 (Or.inl rfl) (by assumption) ?_
    try simp (disch := omega) only [am_u_n, am_u_s, am_u_k, hs]
    first | refine gn_ic_ge iW_digestedInto_21 (by omega) (by omega) (fun c_21 => ?_) (fun c_21 => ?_) | refine go_ic_ge iW_digestedInto_21 (fun c_21 => ?_) (fun c_21 => ?_)
    · (first | omega | exact absurd c_21 (by decide) | (exfalso; simp (disch := omega) only [Int32.lt_iff_toInt_lt, Int32.le_iff_toInt_le, ← Int32.toInt_inj, nI_toInt, i32_m1, i32_0, i32_m20, i32_m40, i32_m30, i32_m9] at *; omega))
    refine go_ldc2 (v := 31) iW_digestedInto_24 rfl ?_
    refine go_lloadn_3 iW_digestedInto_27 ?_
    refine go_lmul iW_digestedInto_28 ?_
    refine go_aloadn_0 iW_digestedInto_29 rfl ?_
    refine go_getR iW_digestedInto_30 rfl (by assumption) (by assumption) ?_
    refine go_iload_5 iW_digestedInto_33 ?_
    refine go_iald iW_digestedInto_35 (by assumption) rfl (by omega) (by omega) ?_
    try simp (disch := omega) only [am_u_n, am_u_s, am_u_k, hs]
    refine go_i2l iW_digestedInto_36 ?_
    refine go_ladd iW_digestedInto_37 ?_
    refine go_lstoren_3 iW_digestedInto_38 (by simp [Value.category, am_U]) ?_
    first | refine go_iinc_5 iW_digestedInto_39 (ni_inc _ 1) (by simp [Value.category, am_U]) ?_ | refine go_iinc_5 iW_digestedInto_39 rfl (by simp [Value.category, am_U]) ?_
    refine go_goto iW_digestedInto_42 ?_
    exact lo_W_dg hr hs h4 k (i + 1) (by omega)
theorem sp_W_dg {r : Nat} {h : Int64} (hr : r < 4) (hR : RoR mI r) : Sp S 2 tW_digestedInto (am_sh n, mI, mL, am_mR n) [.ref (15 + 2 * r), .long h] (fun q => q = (some (.long (dR mI r h)), (am_sh n, mI, mL, am_mR n))) := by
  have hk := sk_row n hr
  obtain ⟨⟨s1, s2⟩ | ⟨s, hs4, s1, s2⟩, hpc⟩ := hR
  · have e : dR mI r h = dS h (-1) := by unfold dR; rw [if_pos s2]
    rw [e]
    show Go _ _ tW_digestedInto (_, 0, [.ref (15 + 2 * r), .long h, am_U, am_U, am_U, am_U], []) _
    refine go_ldc2 (v := 31) iW_digestedInto_0 rfl ?_
    refine go_lloadn_1 iW_digestedInto_3 ?_
    refine go_lmul iW_digestedInto_4 ?_
    refine go_aloadn_0 iW_digestedInto_5 rfl ?_
    refine go_getI iW_digestedInto_6 (Or.inl rfl) (by assumption) ?_
    try simp (disch := omega) only [am_u_n, am_u_s, am_u_k, s1]
    refine go_i2l iW_digestedInto_9 ?_
    refine go_ladd iW_digestedInto_10 ?_
    refine go_lstoren_3 iW_digestedInto_11 (by simp [Value.category, am_U]) ?_
    refine go_iconst (v := nI 0) iW_digestedInto_12 rfl ?_
    refine go_istore_5 iW_digestedInto_13 (by simp [Value.category, am_U]) ?_
    refine go_iload_5 iW_digestedInto_15 ?_
    refine go_aloadn_0 iW_digestedInto_17 rfl ?_
    refine go_getI iW_digestedInto_18 (Or.inl rfl) (by assumption) ?_
    try simp (disch := omega) only [am_u_n, am_u_s, am_u_k, s1]
    first | refine gn_ic_ge iW_digestedInto_21 (by omega) (by omega) (fun c_21 => ?_) (fun c_21 => ?_) | refine go_ic_ge iW_digestedInto_21 (fun c_21 => ?_) (fun c_21 => ?_)
    rotate_left
    · (first | omega | exact absurd c_21 (by decide) | (exfalso; simp (disch := omega) only [Int32.lt_iff_toInt_lt, Int32.le_iff_toInt_le, ← Int32.toInt_inj, nI_toInt, i32_m1, i32_0, i32_m20, i32_m40, i32_m30, i32_m9] at *; omega))
    refine go_lloadn_3 iW_digestedInto_45 ?_
    refine go_lret iW_digestedInto_46 rfl ?_
    rfl
  · have e : dR mI r h = dF (dS h (nI s)) (mI (16 + 2 * r)) s := by
      unfold dR
      rw [s2, if_neg (by intro q; have q2 := congrArg Int32.toInt q; rw [nI_toInt (by omega), i32_m9] at q2; omega), nI_clamp (by omega)]
      exact dF_congr _ (fun j hj => (hpc j (by omega)).symm)
    rw [e]
    show Go _ _ tW_digestedInto (_, 0, [.ref (15 + 2 * r), .long h, am_U, am_U, am_U, am_U], []) _
    refine go_ldc2 (v := 31) iW_digestedInto_0 rfl ?_
    refine go_lloadn_1 iW_digestedInto_3 ?_
    refine go_lmul iW_digestedInto_4 ?_
    refine go_aloadn_0 iW_digestedInto_5 rfl ?_
    refine go_getI iW_digestedInto_6 (Or.inl rfl) (by assumption) ?_
    try simp (disch := omega) only [am_u_n, am_u_s, am_u_k, s1]
    refine go_i2l iW_digestedInto_9 ?_
    refine go_ladd iW_digestedInto_10 ?_
    refine go_lstoren_3 iW_digestedInto_11 (by simp [Value.category, am_U]) ?_
    refine go_iconst (v := nI 0) iW_digestedInto_12 rfl ?_
    refine go_istore_5 iW_digestedInto_13 (by simp [Value.category, am_U]) ?_
    exact lo_W_dg hr s1 hs4 s 0 (by omega)
theorem lo_T_dg2 {z : Value} {h : Int64} (hro : ∀ r, r < 4 → RoR mI r) : ∀ k i, i + k = 4 → Go S 3 tT_digest ((am_sh n, mI, mL, am_mR n), 47, [.ref 0, .long (dB mI h i), am_U, .int (nI i), z], []) (fun q => q = (some (.long (dB mI h 4)), (am_sh n, mI, mL, am_mR n)))
  | 0, i, hi => by
    obtain rfl : i = 4 := by omega
    refine go_iloadn_3 iT_digest_47 ?_
    refine go_iconst (v := nI 4) iT_digest_48 rfl ?_
    first | refine gn_ic_ge iT_digest_49 (by omega) (by omega) (fun c_49 => ?_) (fun c_49 => ?_) | refine go_ic_ge iT_digest_49 (fun c_49 => ?_) (fun c_49 => ?_)
    rotate_left
    · (first | omega | exact absurd c_49 (by decide) | (exfalso; simp (disch := omega) only [Int32.lt_iff_toInt_lt, Int32.le_iff_toInt_le, ← Int32.toInt_inj, nI_toInt, i32_m1, i32_0, i32_m20, i32_m40, i32_m30, i32_m9] at *; omega))
    refine go_lloadn_1 iT_digest_69 ?_
    refine go_lret iT_digest_70 rfl ?_
    rfl
  | k + 1, i, hi => by
    have hk := sk_row n (show i < 4 by omega)
    refine go_iloadn_3 iT_digest_47 ?_
    refine go_iconst (v := nI 4) iT_digest_48 rfl ?_
    first | refine gn_ic_ge iT_digest_49 (by omega) (by omega) (fun c_49 => ?_) (fun c_49 => ?_) | refine go_ic_ge iT_digest_49 (fun c_49 => ?_) (fun c_49 => ?_)
    · (first | omega | exact absurd c_49 (by decide) | (exfalso; simp (disch := omega) only [Int32.lt_iff_toInt_lt, Int32.le_iff_toInt_le, ← Int32.toInt_inj, nI_toInt, i32_m1, i32_0, i32_m20, i32_m40, i32_m30, i32_m9] at *; omega))
    refine go_aloadn_0 iT_digest_52 rfl ?_
    refine go_getR iT_digest_53 rfl (sk_0 _) (mR_0_3 _) ?_
    refine go_iloadn_3 iT_digest_56 ?_
    refine go_aald iT_digest_57 (sh_2 _) (by decide) (by decide) rfl (by omega) (by omega) (sh_row n (show i < 4 by omega)).2.2.1 ?_
    refine go_lloadn_1 iT_digest_58 ?_
    refine gc_V1 iT_digest_59 rfl (by decide) (by assumption) rfl (Nat.le_of_ble_eq_true rfl) (Nat.le_of_ble_eq_true rfl) (by decide) (sp_W_dg (show i < 4 by omega) (hro i (by omega))) ?_
    refine go_lstoren_1 iT_digest_62 (by simp [Value.category, am_U]) ?_
    first | refine go_iinc_3 iT_digest_63 (ni_inc _ 1) (by simp [Value.category, am_U]) ?_ | refine go_iinc_3 iT_digest_63 rfl (by simp [Value.category, am_U]) ?_
    refine go_goto iT_digest_66 ?_
    exact lo_T_dg2 hro k (i + 1) (by omega)
theorem lo_T_dg1 (h : Int64) (h8 : n ≤ 8) (hcT : mI 0 1 = nI n) (hpl : ∀ p, p < n → PlR mI p) (hro : ∀ r, r < 4 → RoR mI r) : ∀ k i (z : Value), i + k = n → Go S 3 tT_digest ((am_sh n, mI, mL, am_mR n), 12, [.ref 0, .long (dA mI h i), am_U, .int (nI i), z], []) (fun q => q = (some (.long (dB mI (dA mI h n) 4)), (am_sh n, mI, mL, am_mR n)))
  | 0, i, z, hi => by
    obtain rfl : i = n := by omega
    refine go_iloadn_3 iT_digest_12 ?_
    refine go_aloadn_0 iT_digest_13 rfl ?_
    refine go_getI iT_digest_14 (Or.inl rfl) (sk_0 _) ?_
    try simp (disch := omega) only [am_u_n, am_u_s, am_u_k, hcT]
    first | refine gn_ic_ge iT_digest_17 (by omega) (by omega) (fun c_17 => ?_) (fun c_17 => ?_) | refine go_ic_ge iT_digest_17 (fun c_17 => ?_) (fun c_17 => ?_)
    rotate_left
    · (first | omega | exact absurd c_17 (by decide) | (exfalso; simp (disch := omega) only [Int32.lt_iff_toInt_lt, Int32.le_iff_toInt_le, ← Int32.toInt_inj, nI_toInt, i32_m1, i32_0, i32_m20, i32_m40, i32_m30, i32_m9] at *; omega))
    refine go_iconst (v := nI 0) iT_digest_45 rfl ?_
    refine go_istoren_3 iT_digest_46 (by simp [Value.category, am_U]) ?_
    exact lo_T_dg2 hro 4 0 (by omega)
  | k + 1, i, z, hi => by
    have hp : i < n := by omega
    have hk := sk_play hp
    obtain ⟨kd, hkd, hkT, hkM, hsz, hw, ho, ho3⟩ := hpl i hp
    have hkk : kdN mI i = kd := by unfold kdN; rw [hkM, nI_clamp (by omega)]
    refine go_iloadn_3 iT_digest_12 ?_
    refine go_aloadn_0 iT_digest_13 rfl ?_
    refine go_getI iT_digest_14 (Or.inl rfl) (sk_0 _) ?_
    try simp (disch := omega) only [am_u_n, am_u_s, am_u_k, hcT]
    first | refine gn_ic_ge iT_digest_17 (by omega) (by omega) (fun c_17 => ?_) (fun c_17 => ?_) | refine go_ic_ge iT_digest_17 (fun c_17 => ?_) (fun c_17 => ?_)
    · (first | omega | exact absurd c_17 (by decide) | (exfalso; simp (disch := omega) only [Int32.lt_iff_toInt_lt, Int32.le_iff_toInt_le, ← Int32.toInt_inj, nI_toInt, i32_m1, i32_0, i32_m20, i32_m40, i32_m30, i32_m9] at *; omega))
    refine go_aloadn_0 iT_digest_20 rfl ?_
    refine go_iloadn_3 iT_digest_21 ?_
    refine gc_V1 iT_digest_22 rfl (by decide) (sk_0 _) rfl (Nat.le_of_ble_eq_true rfl) (Nat.le_of_ble_eq_true rfl) (by decide) (sp_T_playAt_t h8 hcT hp) ?_
    refine go_astore_4 iT_digest_25 rfl (by simp [Value.category, am_U]) ?_
    refine go_aload_4 iT_digest_27 rfl ?_
    refine go_nulR iT_digest_29 ?_
    refine go_aload_4 iT_digest_32 rfl ?_
    refine go_lloadn_1 iT_digest_34 ?_
    refine gc_V1 iT_digest_35 rfl (by decide) (by assumption) rfl (Nat.le_of_ble_eq_true rfl) (Nat.le_of_ble_eq_true rfl) (by decide) (sp_P_dg hp hkT hsz (odd_eq ho ho3)) ?_
    refine go_lstoren_1 iT_digest_38 (by simp [Value.category, am_U]) ?_
    first | refine go_iinc_3 iT_digest_39 (ni_inc _ 1) (by simp [Value.category, am_U]) ?_ | refine go_iinc_3 iT_digest_39 rfl (by simp [Value.category, am_U]) ?_
    refine go_goto iT_digest_42 ?_
    have ih := lo_T_dg1 h h8 hcT hpl hro k (i + 1) (.ref (60 + 2 * i)) (by omega)
    simp only [dA, hkk] at ih
    exact ih
theorem it_M_dg1 {h : Int64} {kd w : Nat} (hp : p < 8) (hkM : mI 45 p = nI kd) (hkd : kd < 4) (hw : w < 4) {Q : Option Value × am_M → Prop} (kq : Go S 3 tM_digest ((am_sh n, mI, mL, am_mR n), 23, [.ref 43, .long (dS h (if w = 0 then nI kd else if w = 1 then nI (szK kd) else tlF w (fun j => mI 46 (4 * p + j)) (szK kd))), am_U, .int (nI p), .int (nI (w + 1))], []) Q) : Go S 3 tM_digest ((am_sh n, mI, mL, am_mR n), 23, [.ref 43, .long h, am_U, .int (nI p), .int (nI w)], []) Q := by
  refine go_iload_4 iM_digest_23 ?_
  refine go_iconst (v := nI 3) iM_digest_25 rfl ?_
  first | refine gn_ic_gt iM_digest_26 (by omega) (by omega) (fun c_26 => ?_) (fun c_26 => ?_) | refine go_ic_gt iM_digest_26 (fun c_26 => ?_) (fun c_26 => ?_)
  · (first | omega | exact absurd c_26 (by decide) | (exfalso; simp (disch := omega) only [Int32.lt_iff_toInt_lt, Int32.le_iff_toInt_le, ← Int32.toInt_inj, nI_toInt, i32_m1, i32_0, i32_m20, i32_m40, i32_m30, i32_m9] at *; omega))
  refine go_ldc2 (v := 31) iM_digest_29 rfl ?_
  refine go_lloadn_1 iM_digest_32 ?_
  refine go_lmul iM_digest_33 ?_
  refine go_aloadn_0 iM_digest_34 rfl ?_
  refine go_iloadn_3 iM_digest_35 ?_
  refine go_iload_4 iM_digest_36 ?_
  refine gc_V1 iM_digest_38 rfl (by decide) (sk_43 _) rfl (Nat.le_of_ble_eq_true rfl) (Nat.le_of_ble_eq_true rfl) (by decide) (sp_M_tells hp hkM hkd hw) ?_
  refine go_i2l iM_digest_41 ?_
  refine go_ladd iM_digest_42 ?_
  refine go_lstoren_1 iM_digest_43 (by simp [Value.category, am_U]) ?_
  first | refine go_iinc_4 iM_digest_44 (ni_inc _ 1) (by simp [Value.category, am_U]) ?_ | refine go_iinc_4 iM_digest_44 rfl (by simp [Value.category, am_U]) ?_
  refine go_goto iM_digest_47 ?_
  exact kq
theorem lo_M_dg2 {kd : Nat} {h : Int64} (hp : p < 8) (hkM : mI 45 p = nI kd) (hkd : kd < 4) {Q : Option Value × am_M → Prop} (kq : Go S 3 tM_digest ((am_sh n, mI, mL, am_mR n), 88, [.ref 43, .long (dF h (fun j => mI 46 (4 * p + j)) (szK kd)), am_U, .int (nI p), .int (nI (szK kd))], []) Q) : ∀ k i, i + k = szK kd → Go S 3 tM_digest ((am_sh n, mI, mL, am_mR n), 53, [.ref 43, .long (dF h (fun j => mI 46 (4 * p + j)) i), am_U, .int (nI p), .int (nI i)], []) Q
  | 0, i, hi => by
    have h4 := szK_le kd
    obtain rfl : i = szK kd := by omega
    refine go_iload_4 iM_digest_53 ?_
    refine go_aloadn_0 iM_digest_55 rfl ?_
    refine go_iloadn_3 iM_digest_56 ?_
    refine gc_V1 iM_digest_57 rfl (by decide) (sk_43 _) rfl (Nat.le_of_ble_eq_true rfl) (Nat.le_of_ble_eq_true rfl) (by decide) (sp_M_many hp hkM hkd) ?_
    first | refine gn_ic_ge iM_digest_60 (by omega) (by omega) (fun c_60 => ?_) (fun c_60 => ?_) | refine go_ic_ge iM_digest_60 (fun c_60 => ?_) (fun c_60 => ?_)
    rotate_left
    · (first | omega | exact absurd c_60 (by decide) | (exfalso; simp (disch := omega) only [Int32.lt_iff_toInt_lt, Int32.le_iff_toInt_le, ← Int32.toInt_inj, nI_toInt, i32_m1, i32_0, i32_m20, i32_m40, i32_m30, i32_m9] at *; omega))
    exact kq
  | k + 1, i, hi => by
    have h4 := szK_le kd
    refine go_iload_4 iM_digest_53 ?_
    refine go_aloadn_0 iM_digest_55 rfl ?_
    refine go_iloadn_3 iM_digest_56 ?_
    refine gc_V1 iM_digest_57 rfl (by decide) (sk_43 _) rfl (Nat.le_of_ble_eq_true rfl) (Nat.le_of_ble_eq_true rfl) (by decide) (sp_M_many hp hkM hkd) ?_
    first | refine gn_ic_ge iM_digest_60 (by omega) (by omega) (fun c_60 => ?_) (fun c_60 => ?_) | refine go_ic_ge iM_digest_60 (fun c_60 => ?_) (fun c_60 => ?_)
    · (first | omega | exact absurd c_60 (by decide) | (exfalso; simp (disch := omega) only [Int32.lt_iff_toInt_lt, Int32.le_iff_toInt_le, ← Int32.toInt_inj, nI_toInt, i32_m1, i32_0, i32_m20, i32_m40, i32_m30, i32_m9] at *; omega))
    refine go_ldc2 (v := 31) iM_digest_63 rfl ?_
    refine go_lloadn_1 iM_digest_66 ?_
    refine go_lmul iM_digest_67 ?_
    refine go_aloadn_0 iM_digest_68 rfl ?_
    refine go_getR iM_digest_69 rfl (sk_43 _) (mR_43_7 _) ?_
    refine go_iconst (v := nI 4) iM_digest_72 rfl ?_
    refine go_iloadn_3 iM_digest_73 ?_
    first | refine gn_imul iM_digest_74 ?_ | refine go_imul iM_digest_74 ?_
    refine go_iload_4 iM_digest_75 ?_
    first | refine gn_iadd iM_digest_77 ?_ | refine go_iadd iM_digest_77 ?_
    refine go_iald iM_digest_78 (sh_46 _) rfl (by omega) (by omega) ?_
    refine go_i2l iM_digest_79 ?_
    refine go_ladd iM_digest_80 ?_
    refine go_lstoren_1 iM_digest_81 (by simp [Value.category, am_U]) ?_
    first | refine go_iinc_4 iM_digest_82 (ni_inc _ 1) (by simp [Value.category, am_U]) ?_ | refine go_iinc_4 iM_digest_82 rfl (by simp [Value.category, am_U]) ?_
    refine go_goto iM_digest_85 ?_
    exact lo_M_dg2 hp hkM hkd kq k (i + 1) (by omega)
theorem lo_M_dg4 {r s : Nat} {h : Int64} (hr : r < 4) (hs : mI 47 r = nI s) (h4 : s ≤ 4) {Q : Option Value × am_M → Prop} (kq : Go S 3 tM_digest ((am_sh n, mI, mL, am_mR n), 167, [.ref 43, .long (dF h (fun j => mI 48 (4 * r + j)) s), am_U, .int (nI r), .int (nI s)], []) Q) : ∀ k i, i + k = s → Go S 3 tM_digest ((am_sh n, mI, mL, am_mR n), 131, [.ref 43, .long (dF h (fun j => mI 48 (4 * r + j)) i), am_U, .int (nI r), .int (nI i)], []) Q
  | 0, i, hi => by
    obtain rfl : i = s := by omega
    refine go_iload_4 iM_digest_131 ?_
    refine go_aloadn_0 iM_digest_133 rfl ?_
    refine go_getR iM_digest_134 rfl (sk_43 _) (mR_43_8 _) ?_
    refine go_iloadn_3 iM_digest_137 ?_
    refine go_iald iM_digest_138 (sh_47 _) rfl (by omega) (by omega) ?_
    try simp (disch := omega) only [am_u_n, am_u_s, am_u_k, hs]
    first | refine gn_ic_ge iM_digest_139 (by omega) (by omega) (fun c_139 => ?_) (fun c_139 => ?_) | refine go_ic_ge iM_digest_139 (fun c_139 => ?_) (fun c_139 => ?_)
    rotate_left
    · (first | omega | exact absurd c_139 (by decide) | (exfalso; simp (disch := omega) only [Int32.lt_iff_toInt_lt, Int32.le_iff_toInt_le, ← Int32.toInt_inj, nI_toInt, i32_m1, i32_0, i32_m20, i32_m40, i32_m30, i32_m9] at *; omega))
    exact kq
  | k + 1, i, hi => by
    refine go_iload_4 iM_digest_131 ?_
    refine go_aloadn_0 iM_digest_133 rfl ?_
    refine go_getR iM_digest_134 rfl (sk_43 _) (mR_43_8 _) ?_
    refine go_iloadn_3 iM_digest_137 ?_
    refine go_iald iM_digest_138 (sh_47 _) rfl (by omega) (by omega) ?_
    try simp (disch := omega) only [am_u_n, am_u_s, am_u_k, hs]
    first | refine gn_ic_ge iM_digest_139 (by omega) (by omega) (fun c_139 => ?_) (fun c_139 => ?_) | refine go_ic_ge iM_digest_139 (fun c_139 => ?_) (fun c_139 => ?_)
    · (first | omega | exact absurd c_139 (by decide) | (exfalso; simp (disch := omega) only [Int32.lt_iff_toInt_lt, Int32.le_iff_toInt_le, ← Int32.toInt_inj, nI_toInt, i32_m1, i32_0, i32_m20, i32_m40, i32_m30, i32_m9] at *; omega))
    refine go_ldc2 (v := 31) iM_digest_142 rfl ?_
    refine go_lloadn_1 iM_digest_145 ?_
    refine go_lmul iM_digest_146 ?_
    refine go_aloadn_0 iM_digest_147 rfl ?_
    refine go_getR iM_digest_148 rfl (sk_43 _) (mR_43_9 _) ?_
    refine go_iconst (v := nI 4) iM_digest_151 rfl ?_
    refine go_iloadn_3 iM_digest_152 ?_
    first | refine gn_imul iM_digest_153 ?_ | refine go_imul iM_digest_153 ?_
    refine go_iload_4 iM_digest_154 ?_
    first | refine gn_iadd iM_digest_156 ?_ | refine go_iadd iM_digest_156 ?_
    refine go_iald iM_digest_157 (sh_48 _) rfl (by omega) (by omega) ?_
    try simp (disch := omega) only [am_u_n, am_u_s, am_u_k, hs]
    refine go_i2l iM_digest_158 ?_
    refine go_ladd iM_digest_159 ?_
    refine go_lstoren_1 iM_digest_160 (by simp [Value.category, am_U]) ?_
    first | refine go_iinc_4 iM_digest_161 (ni_inc _ 1) (by simp [Value.category, am_U]) ?_ | refine go_iinc_4 iM_digest_161 rfl (by simp [Value.category, am_U]) ?_
    refine go_goto iM_digest_164 ?_
    exact lo_M_dg4 hr hs h4 kq k (i + 1) (by omega)
theorem lo_M_dg3 (h : Int64) (hro : ∀ r, r < 4 → RoR mI r) : ∀ k i (z : Value), z.category ≠ 2 → i + k = 4 → Go S 3 tM_digest ((am_sh n, mI, mL, am_mR n), 96, [.ref 43, .long (dB mI h i), am_U, .int (nI i), z], []) (fun q => q = (some (.long (dB mI h 4)), (am_sh n, mI, mL, am_mR n)))
  | 0, i, z, hz, hi => by
    obtain rfl : i = 4 := by omega
    refine go_iloadn_3 iM_digest_96 ?_
    refine go_iconst (v := nI 4) iM_digest_97 rfl ?_
    first | refine gn_ic_ge iM_digest_98 (by omega) (by omega) (fun c_98 => ?_) (fun c_98 => ?_) | refine go_ic_ge iM_digest_98 (fun c_98 => ?_) (fun c_98 => ?_)
    rotate_left
    · (first | omega | exact absurd c_98 (by decide) | (exfalso; simp (disch := omega) only [Int32.lt_iff_toInt_lt, Int32.le_iff_toInt_le, ← Int32.toInt_inj, nI_toInt, i32_m1, i32_0, i32_m20, i32_m40, i32_m30, i32_m9] at *; omega))
    refine go_lloadn_1 iM_digest_173 ?_
    refine go_lret iM_digest_174 rfl ?_
    rfl
  | k + 1, i, z, hz, hi => by
    obtain ⟨⟨s1, s2⟩ | ⟨s, hs4, s1, s2⟩, hpc⟩ := hro i (by omega)
    · have e : dR mI i (dB mI h i) = dS (dB mI h i) (-1) := by unfold dR; rw [if_pos s2]
      refine go_iloadn_3 iM_digest_96 ?_
      refine go_iconst (v := nI 4) iM_digest_97 rfl ?_
      first | refine gn_ic_ge iM_digest_98 (by omega) (by omega) (fun c_98 => ?_) (fun c_98 => ?_) | refine go_ic_ge iM_digest_98 (fun c_98 => ?_) (fun c_98 => ?_)
      · (first | omega | exact absurd c_98 (by decide) | (exfalso; simp (disch := omega) only [Int32.lt_iff_toInt_lt, Int32.le_iff_toInt_le, ← Int32.toInt_inj, nI_toInt, i32_m1, i32_0, i32_m20, i32_m40, i32_m30, i32_m9] at *; omega))
      refine go_ldc2 (v := 31) iM_digest_101 rfl ?_
      refine go_lloadn_1 iM_digest_104 ?_
      refine go_lmul iM_digest_105 ?_
      refine go_aloadn_0 iM_digest_106 rfl ?_
      refine go_getR iM_digest_107 rfl (sk_43 _) (mR_43_8 _) ?_
      refine go_iloadn_3 iM_digest_110 ?_
      refine go_iald iM_digest_111 (sh_47 _) rfl (by omega) (by omega) ?_
      try simp (disch := omega) only [am_u_n, am_u_s, am_u_k, s2]
      refine go_if_ge iM_digest_112 (fun c_112 => ?_) (fun c_112 => ?_)
      · (first | omega | exact absurd c_112 (by decide) | (exfalso; simp (disch := omega) only [Int32.lt_iff_toInt_lt, Int32.le_iff_toInt_le, ← Int32.toInt_inj, nI_toInt, i32_m1, i32_0, i32_m20, i32_m40, i32_m30, i32_m9] at *; omega))
      refine go_iconst (v := (-1)) iM_digest_115 rfl ?_
      refine go_goto iM_digest_116 ?_
      refine go_i2l iM_digest_125 ?_
      refine go_ladd iM_digest_126 ?_
      refine go_lstoren_1 iM_digest_127 (by simp [Value.category, am_U]) ?_
      refine go_iconst (v := nI 0) iM_digest_128 rfl ?_
      refine go_istore_4 iM_digest_129 (by simp [Value.category, am_U]) ?_
      refine go_iload_4 iM_digest_131 ?_
      refine go_aloadn_0 iM_digest_133 rfl ?_
      refine go_getR iM_digest_134 rfl (sk_43 _) (mR_43_8 _) ?_
      refine go_iloadn_3 iM_digest_137 ?_
      refine go_iald iM_digest_138 (sh_47 _) rfl (by omega) (by omega) ?_
      try simp (disch := omega) only [am_u_n, am_u_s, am_u_k, s2]
      first | refine gn_ic_ge iM_digest_139 (by omega) (by omega) (fun c_139 => ?_) (fun c_139 => ?_) | refine go_ic_ge iM_digest_139 (fun c_139 => ?_) (fun c_139 => ?_)
      rotate_left
      · (first | omega | exact absurd c_139 (by decide) | (exfalso; simp (disch := omega) only [Int32.lt_iff_toInt_lt, Int32.le_iff_toInt_le, ← Int32.toInt_inj, nI_toInt, i32_m1, i32_0, i32_m20, i32_m40, i32_m30, i32_m9] at *; omega))
      first | refine go_iinc_3 iM_digest_167 (ni_inc _ 1) (by simp [Value.category, am_U]) ?_ | refine go_iinc_3 iM_digest_167 rfl (by simp [Value.category, am_U]) ?_
      refine go_goto iM_digest_170 ?_
      have ih := lo_M_dg3 h hro k (i + 1) (.int (nI 0)) (by simp [Value.category]) (by omega)
      simp only [dB, e] at ih
      exact ih
    · have e : dR mI i (dB mI h i) = dF (dS (dB mI h i) (nI s)) (fun j => mI 48 (4 * i + j)) s := by
        unfold dR
        rw [s2, if_neg (by intro q; have q2 := congrArg Int32.toInt q; rw [nI_toInt (by omega), i32_m9] at q2; omega), nI_clamp (by omega)]
      refine go_iloadn_3 iM_digest_96 ?_
      refine go_iconst (v := nI 4) iM_digest_97 rfl ?_
      first | refine gn_ic_ge iM_digest_98 (by omega) (by omega) (fun c_98 => ?_) (fun c_98 => ?_) | refine go_ic_ge iM_digest_98 (fun c_98 => ?_) (fun c_98 => ?_)
      · (first | omega | exact absurd c_98 (by decide) | (exfalso; simp (disch := omega) only [Int32.lt_iff_toInt_lt, Int32.le_iff_toInt_le, ← Int32.toInt_inj, nI_toInt, i32_m1, i32_0, i32_m20, i32_m40, i32_m30, i32_m9] at *; omega))
      refine go_ldc2 (v := 31) iM_digest_101 rfl ?_
      refine go_lloadn_1 iM_digest_104 ?_
      refine go_lmul iM_digest_105 ?_
      refine go_aloadn_0 iM_digest_106 rfl ?_
      refine go_getR iM_digest_107 rfl (sk_43 _) (mR_43_8 _) ?_
      refine go_iloadn_3 iM_digest_110 ?_
      refine go_iald iM_digest_111 (sh_47 _) rfl (by omega) (by omega) ?_
      try simp (disch := omega) only [am_u_n, am_u_s, am_u_k, s2]
      refine go_if_ge iM_digest_112 (fun c_112 => ?_) (fun c_112 => ?_)
      rotate_left
      · (first | omega | exact absurd c_112 (by decide) | (exfalso; simp (disch := omega) only [Int32.lt_iff_toInt_lt, Int32.le_iff_toInt_le, ← Int32.toInt_inj, nI_toInt, i32_m1, i32_0, i32_m20, i32_m40, i32_m30, i32_m9] at *; omega))
      refine go_aloadn_0 iM_digest_119 rfl ?_
      refine go_getR iM_digest_120 rfl (sk_43 _) (mR_43_8 _) ?_
      refine go_iloadn_3 iM_digest_123 ?_
      refine go_iald iM_digest_124 (sh_47 _) rfl (by omega) (by omega) ?_
      try simp (disch := omega) only [am_u_n, am_u_s, am_u_k, s2]
      refine go_i2l iM_digest_125 ?_
      refine go_ladd iM_digest_126 ?_
      refine go_lstoren_1 iM_digest_127 (by simp [Value.category, am_U]) ?_
      refine go_iconst (v := nI 0) iM_digest_128 rfl ?_
      refine go_istore_4 iM_digest_129 (by simp [Value.category, am_U]) ?_
      refine lo_M_dg4 (h := dS (dB mI h i) (nI s)) (by omega) s2 hs4 ?_ s 0 (by omega)
      first | refine go_iinc_3 iM_digest_167 (ni_inc _ 1) (by simp [Value.category, am_U]) ?_ | refine go_iinc_3 iM_digest_167 rfl (by simp [Value.category, am_U]) ?_
      refine go_goto iM_digest_170 ?_
      have ih := lo_M_dg3 h hro k (i + 1) (.int (nI s)) (by simp [Value.category]) (by omega)
      simp only [dB, e] at ih
      exact ih
theorem lo_M_dg0 (h : Int64) (h8 : n ≤ 8) (hcM : mI 43 5 = nI n) (hpl : ∀ p, p < n → PlR mI p) (hro : ∀ r, r < 4 → RoR mI r) : ∀ k i (z : Value), z.category ≠ 2 → i + k = n → Go S 3 tM_digest ((am_sh n, mI, mL, am_mR n), 12, [.ref 43, .long (dA mI h i), am_U, .int (nI i), z], []) (fun q => q = (some (.long (dB mI (dA mI h n) 4)), (am_sh n, mI, mL, am_mR n)))
  | 0, i, z, hz, hi => by
    obtain rfl : i = n := by omega
    refine go_iloadn_3 iM_digest_12 ?_
    refine go_aloadn_0 iM_digest_13 rfl ?_
    refine go_getI iM_digest_14 (Or.inl rfl) (sk_43 _) ?_
    try simp (disch := omega) only [am_u_n, am_u_s, am_u_k, hcM]
    first | refine gn_ic_ge iM_digest_17 (by omega) (by omega) (fun c_17 => ?_) (fun c_17 => ?_) | refine go_ic_ge iM_digest_17 (fun c_17 => ?_) (fun c_17 => ?_)
    rotate_left
    · (first | omega | exact absurd c_17 (by decide) | (exfalso; simp (disch := omega) only [Int32.lt_iff_toInt_lt, Int32.le_iff_toInt_le, ← Int32.toInt_inj, nI_toInt, i32_m1, i32_0, i32_m20, i32_m40, i32_m30, i32_m9] at *; omega))
    refine go_iconst (v := nI 0) iM_digest_94 rfl ?_
    refine go_istoren_3 iM_digest_95 (by simp [Value.category, am_U]) ?_
    exact lo_M_dg3 _ hro 4 0 z hz (by omega)
  | k + 1, i, z, hz, hi => by
    have hp : i < n := by omega
    obtain ⟨kd, hkd, hkT, hkM, hsz, hw, ho, ho3⟩ := hpl i hp
    have hkk : kdN mI i = kd := by unfold kdN; rw [hkM, nI_clamp (by omega)]
    refine go_iloadn_3 iM_digest_12 ?_
    refine go_aloadn_0 iM_digest_13 rfl ?_
    refine go_getI iM_digest_14 (Or.inl rfl) (sk_43 _) ?_
    try simp (disch := omega) only [am_u_n, am_u_s, am_u_k, hcM]
    first | refine gn_ic_ge iM_digest_17 (by omega) (by omega) (fun c_17 => ?_) (fun c_17 => ?_) | refine go_ic_ge iM_digest_17 (fun c_17 => ?_) (fun c_17 => ?_)
    · (first | omega | exact absurd c_17 (by decide) | (exfalso; simp (disch := omega) only [Int32.lt_iff_toInt_lt, Int32.le_iff_toInt_le, ← Int32.toInt_inj, nI_toInt, i32_m1, i32_0, i32_m20, i32_m40, i32_m30, i32_m9] at *; omega))
    refine go_iconst (v := nI 0) iM_digest_20 rfl ?_
    refine go_istore_4 iM_digest_21 (by simp [Value.category, am_U]) ?_
    refine it_M_dg1 (by omega) hkM hkd (by omega) ?_
    refine it_M_dg1 (by omega) hkM hkd (by omega) ?_
    refine it_M_dg1 (by omega) hkM hkd (by omega) ?_
    refine it_M_dg1 (by omega) hkM hkd (by omega) ?_
    refine go_iload_4 iM_digest_23 ?_
    refine go_iconst (v := nI 3) iM_digest_25 rfl ?_
    first | refine gn_ic_gt iM_digest_26 (by omega) (by omega) (fun c_26 => ?_) (fun c_26 => ?_) | refine go_ic_gt iM_digest_26 (fun c_26 => ?_) (fun c_26 => ?_)
    rotate_left
    · (first | omega | exact absurd c_26 (by decide) | (exfalso; simp (disch := omega) only [Int32.lt_iff_toInt_lt, Int32.le_iff_toInt_le, ← Int32.toInt_inj, nI_toInt, i32_m1, i32_0, i32_m20, i32_m40, i32_m30, i32_m9] at *; omega))
    refine go_iconst (v := nI 0) iM_digest_50 rfl ?_
    refine go_istore_4 iM_digest_51 (by simp [Value.category, am_U]) ?_
    refine lo_M_dg2 (by omega) hkM hkd ?_ (szK kd) 0 (by omega)
    first | refine go_iinc_3 iM_digest_88 (ni_inc _ 1) (by simp [Value.category, am_U]) ?_ | refine go_iinc_3 iM_digest_88 rfl (by simp [Value.category, am_U]) ?_
    refine go_goto iM_digest_91 ?_
    have ih := lo_M_dg0 h h8 hcM hpl hro k (i + 1) (.int (nI (szK kd))) (by simp [Value.category]) (by omega)
    simp only [dA, hkk] at ih
    exact ih
theorem pr_digest (hR : Rel n mI mL) : Pair S tT_digest tM_digest [] n mI mL := by
  have hR' := hR
  obtain ⟨h8, ⟨m, hm1, hm3, hmT, hmM⟩, hcT, hcM, hpl, hro, hfi, hfs, hu, hl, hch⟩ := hR
  refine Pair.same (h1 := 3) (h2 := 3) (v := .long (dB mI (dA mI (527 + (nI m).toInt64) n) 4)) hR' ?_ ?_
  · show Go _ _ tT_digest (_, 0, [.ref 0, am_U, am_U, am_U, am_U], []) _
    refine go_ldc2 (v := 527) iT_digest_0 rfl ?_
    refine go_aloadn_0 iT_digest_3 rfl ?_
    refine go_getI iT_digest_4 (Or.inl rfl) (sk_0 _) ?_
    try simp (disch := omega) only [am_u_n, am_u_s, am_u_k, hmT]
    refine go_i2l iT_digest_7 ?_
    refine go_ladd iT_digest_8 ?_
    refine go_lstoren_1 iT_digest_9 (by simp [Value.category, am_U]) ?_
    refine go_iconst (v := nI 0) iT_digest_10 rfl ?_
    refine go_istoren_3 iT_digest_11 (by simp [Value.category, am_U]) ?_
    exact lo_T_dg1 _ h8 hcT hpl hro n 0 _ (by omega)
  · show Go _ _ tM_digest (_, 0, [.ref 43, am_U, am_U, am_U, am_U], []) _
    refine go_ldc2 (v := 527) iM_digest_0 rfl ?_
    refine go_aloadn_0 iM_digest_3 rfl ?_
    refine go_getI iM_digest_4 (Or.inl rfl) (sk_43 _) ?_
    try simp (disch := omega) only [am_u_n, am_u_s, am_u_k, hmM]
    refine go_i2l iM_digest_7 ?_
    refine go_ladd iM_digest_8 ?_
    refine go_lstoren_1 iM_digest_9 (by simp [Value.category, am_U]) ?_
    refine go_iconst (v := nI 0) iM_digest_10 rfl ?_
    refine go_istoren_3 iM_digest_11 (by simp [Value.category, am_U]) ?_
    exact lo_M_dg0 _ h8 hcM hpl hro n 0 _ (by simp [Value.category, am_U]) (by omega)
end DIG
