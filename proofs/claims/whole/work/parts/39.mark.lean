/-! ===== pairs: mark, change ===== -/
section MRK
variable {S : am_S} {mI : Nat → Nat → Int32} {mL : Nat → Nat → Int64} {n : Nat} {p : Nat}
theorem sp_P_isOf_t {kd k : Nat} (hp : p < n) (hkT : mI (60 + 2 * p) 0 = nI kd) (hkd : kd < 4) (hk4 : k < 4) (h : kd = k ∨ (kd = 3 ∧ k = 1)) : Sp S 0 tP_isOf (am_sh n, mI, mL, am_mR n) [.ref (60 + 2 * p), .int (nI k)] (fun q => q = (some (.int (nI 1)), (am_sh n, mI, mL, am_mR n))) := by
  have hk := sk_play hp
  show Go _ _ tP_isOf (_, 0, [.ref (60 + 2 * p), .int (nI k)], []) _
  refine go_aloadn_0 iP_isOf_0 rfl ?_
  refine go_getI iP_isOf_1 (Or.inl rfl) (by assumption) ?_
  try simp (disch := omega) only [am_u_n, am_u_s, am_u_k, hkT]
  refine go_iloadn_1 iP_isOf_4 ?_
  first | refine gn_ic_eq iP_isOf_5 (by omega) (by omega) (fun c_5 => ?_) (fun c_5 => ?_) | refine go_ic_eq iP_isOf_5 (fun c_5 => ?_) (fun c_5 => ?_)
  · refine go_iconst (v := nI 1) iP_isOf_21 rfl ?_
    refine go_goto iP_isOf_22 ?_
    refine go_zret iP_isOf_26 rfl (by first | exact Or.inl rfl | exact Or.inr rfl) ?_
    first | rfl | omega | (exfalso; simp (disch := omega) only [Int32.lt_iff_toInt_lt, Int32.le_iff_toInt_le, Int32.not_lt, Int32.not_le, ← Int32.toInt_inj, nI_toInt, i32_m1, i32_0, i32_m20, i32_m40, i32_m30, i32_m9] at *; omega)
  · refine go_aloadn_0 iP_isOf_8 rfl ?_
    refine go_getI iP_isOf_9 (Or.inl rfl) (by assumption) ?_
    try simp (disch := omega) only [am_u_n, am_u_s, am_u_k, hkT]
    refine go_iconst (v := nI 3) iP_isOf_12 rfl ?_
    first | refine gn_ic_ne iP_isOf_13 (by omega) (by omega) (fun c_13 => ?_) (fun c_13 => ?_) | refine go_ic_ne iP_isOf_13 (fun c_13 => ?_) (fun c_13 => ?_)
    · refine go_iconst (v := nI 0) iP_isOf_25 rfl ?_
      refine go_zret iP_isOf_26 rfl (by first | exact Or.inl rfl | exact Or.inr rfl) ?_
      first | rfl | omega | (exfalso; simp (disch := omega) only [Int32.lt_iff_toInt_lt, Int32.le_iff_toInt_le, Int32.not_lt, Int32.not_le, ← Int32.toInt_inj, nI_toInt, i32_m1, i32_0, i32_m20, i32_m40, i32_m30, i32_m9] at *; omega)
    · refine go_iloadn_1 iP_isOf_16 ?_
      refine go_iconst (v := nI 1) iP_isOf_17 rfl ?_
      first | refine gn_ic_ne iP_isOf_18 (by omega) (by omega) (fun c_18 => ?_) (fun c_18 => ?_) | refine go_ic_ne iP_isOf_18 (fun c_18 => ?_) (fun c_18 => ?_)
      · refine go_iconst (v := nI 0) iP_isOf_25 rfl ?_
        refine go_zret iP_isOf_26 rfl (by first | exact Or.inl rfl | exact Or.inr rfl) ?_
        first | rfl | omega | (exfalso; simp (disch := omega) only [Int32.lt_iff_toInt_lt, Int32.le_iff_toInt_le, Int32.not_lt, Int32.not_le, ← Int32.toInt_inj, nI_toInt, i32_m1, i32_0, i32_m20, i32_m40, i32_m30, i32_m9] at *; omega)
      · refine go_iconst (v := nI 1) iP_isOf_21 rfl ?_
        refine go_goto iP_isOf_22 ?_
        refine go_zret iP_isOf_26 rfl (by first | exact Or.inl rfl | exact Or.inr rfl) ?_
        first | rfl | omega | (exfalso; simp (disch := omega) only [Int32.lt_iff_toInt_lt, Int32.le_iff_toInt_le, Int32.not_lt, Int32.not_le, ← Int32.toInt_inj, nI_toInt, i32_m1, i32_0, i32_m20, i32_m40, i32_m30, i32_m9] at *; omega)
theorem sp_P_isOf_f {kd k : Nat} (hp : p < n) (hkT : mI (60 + 2 * p) 0 = nI kd) (hkd : kd < 4) (hk4 : k < 4) (h : ¬ (kd = k ∨ (kd = 3 ∧ k = 1))) : Sp S 0 tP_isOf (am_sh n, mI, mL, am_mR n) [.ref (60 + 2 * p), .int (nI k)] (fun q => q = (some (.int (nI 0)), (am_sh n, mI, mL, am_mR n))) := by
  have hk := sk_play hp
  show Go _ _ tP_isOf (_, 0, [.ref (60 + 2 * p), .int (nI k)], []) _
  refine go_aloadn_0 iP_isOf_0 rfl ?_
  refine go_getI iP_isOf_1 (Or.inl rfl) (by assumption) ?_
  try simp (disch := omega) only [am_u_n, am_u_s, am_u_k, hkT]
  refine go_iloadn_1 iP_isOf_4 ?_
  first | refine gn_ic_eq iP_isOf_5 (by omega) (by omega) (fun c_5 => ?_) (fun c_5 => ?_) | refine go_ic_eq iP_isOf_5 (fun c_5 => ?_) (fun c_5 => ?_)
  · refine go_iconst (v := nI 1) iP_isOf_21 rfl ?_
    refine go_goto iP_isOf_22 ?_
    refine go_zret iP_isOf_26 rfl (by first | exact Or.inl rfl | exact Or.inr rfl) ?_
    first | rfl | omega | (exfalso; simp (disch := omega) only [Int32.lt_iff_toInt_lt, Int32.le_iff_toInt_le, Int32.not_lt, Int32.not_le, ← Int32.toInt_inj, nI_toInt, i32_m1, i32_0, i32_m20, i32_m40, i32_m30, i32_m9] at *; omega)
  · refine go_aloadn_0 iP_isOf_8 rfl ?_
    refine go_getI iP_isOf_9 (Or.inl rfl) (by assumption) ?_
    try simp (disch := omega) only [am_u_n, am_u_s, am_u_k, hkT]
    refine go_iconst (v := nI 3) iP_isOf_12 rfl ?_
    first | refine gn_ic_ne iP_isOf_13 (by omega) (by omega) (fun c_13 => ?_) (fun c_13 => ?_) | refine go_ic_ne iP_isOf_13 (fun c_13 => ?_) (fun c_13 => ?_)
    · refine go_iconst (v := nI 0) iP_isOf_25 rfl ?_
      refine go_zret iP_isOf_26 rfl (by first | exact Or.inl rfl | exact Or.inr rfl) ?_
      first | rfl | omega | (exfalso; simp (disch := omega) only [Int32.lt_iff_toInt_lt, Int32.le_iff_toInt_le, Int32.not_lt, Int32.not_le, ← Int32.toInt_inj, nI_toInt, i32_m1, i32_0, i32_m20, i32_m40, i32_m30, i32_m9] at *; omega)
    · refine go_iloadn_1 iP_isOf_16 ?_
      refine go_iconst (v := nI 1) iP_isOf_17 rfl ?_
      first | refine gn_ic_ne iP_isOf_18 (by omega) (by omega) (fun c_18 => ?_) (fun c_18 => ?_) | refine go_ic_ne iP_isOf_18 (fun c_18 => ?_) (fun c_18 => ?_)
      · refine go_iconst (v := nI 0) iP_isOf_25 rfl ?_
        refine go_zret iP_isOf_26 rfl (by first | exact Or.inl rfl | exact Or.inr rfl) ?_
        first | rfl | omega | (exfalso; simp (disch := omega) only [Int32.lt_iff_toInt_lt, Int32.le_iff_toInt_le, Int32.not_lt, Int32.not_le, ← Int32.toInt_inj, nI_toInt, i32_m1, i32_0, i32_m20, i32_m40, i32_m30, i32_m9] at *; omega)
      · refine go_iconst (v := nI 1) iP_isOf_21 rfl ?_
        refine go_goto iP_isOf_22 ?_
        refine go_zret iP_isOf_26 rfl (by first | exact Or.inl rfl | exact Or.inr rfl) ?_
        first | rfl | omega | (exfalso; simp (disch := omega) only [Int32.lt_iff_toInt_lt, Int32.le_iff_toInt_le, Int32.not_lt, Int32.not_le, ← Int32.toInt_inj, nI_toInt, i32_m1, i32_0, i32_m20, i32_m40, i32_m30, i32_m9] at *; omega)
theorem pr_mark (x y : Int32) (hR : Rel n mI mL) : Pair S tT_mark tM_mark [.int x, .int y] n mI mL := by
  have hR' := hR
  obtain ⟨h8, ⟨m, hm1, hm3, hmT, hmM⟩, hcT, hcM, hpl, hro, hfi, hfs, hu, hl, hch⟩ := hR
  rcases pl_cases x n h8 with ⟨p, hp, rfl⟩ | hx
  · have hk := sk_play hp
    have hr := mR_wins n hp
    have hv := sh_wins hp
    obtain ⟨kd, hkd, hkT, hkM, hsz, hw, ho, ho3⟩ := hpl p hp
    have hcM' : rfI mI 3 43 5 = nI n := by rw [rfI_r (by decide) (by decide)]; exact hcM
    have hkM' : rfI mI 3 45 p = nI kd := by rw [rfI_r (by decide) (by decide)]; exact hkM
    have ho0 : mI 46 (4 * p) = mI (61 + 2 * p) 0 := ho 0 (by decide)
    by_cases hy : y.toInt < 1 ∨ 3 < y.toInt
    · refine Pair.same (h1 := 2) (h2 := 2) (v := .int (-1)) hR' ?_ ?_
      · show Go _ _ tT_mark (_, 0, [.ref 0, .int (nI p), .int y, am_U], []) _
        refine go_aloadn_0 iT_mark_0 rfl ?_
        refine go_iloadn_1 iT_mark_1 ?_
        refine gc_V1 iT_mark_2 rfl (by decide) (sk_0 _) rfl (Nat.le_of_ble_eq_true rfl) (Nat.le_of_ble_eq_true rfl) (by decide) (sp_T_playAt_t h8 hcT hp) ?_
        refine go_astoren_3 iT_mark_5 rfl (by simp [Value.category, am_U]) ?_
        refine go_aloadn_3 iT_mark_6 rfl ?_
        refine go_nulR iT_mark_7 ?_
        refine go_iloadn_2 iT_mark_10 ?_
        refine go_iconst (v := nI 1) iT_mark_11 rfl ?_
        first | refine gn_ic_lt iT_mark_12 (by omega) (by omega) (fun c_12 => ?_) (fun c_12 => ?_) | refine go_ic_lt iT_mark_12 (fun c_12 => ?_) (fun c_12 => ?_)
        · refine go_iconst (v := (-1)) iT_mark_20 rfl ?_
          refine go_iret iT_mark_21 rfl ?_
          first | rfl | omega | (exfalso; simp (disch := omega) only [Int32.lt_iff_toInt_lt, Int32.le_iff_toInt_le, Int32.not_lt, Int32.not_le, ← Int32.toInt_inj, nI_toInt, i32_m1, i32_0, i32_m20, i32_m40, i32_m30, i32_m9] at *; omega)
        · refine go_iloadn_2 iT_mark_15 ?_
          refine go_iconst (v := nI 3) iT_mark_16 rfl ?_
          first | refine gn_ic_le iT_mark_17 (by omega) (by omega) (fun c_17 => ?_) (fun c_17 => ?_) | refine go_ic_le iT_mark_17 (fun c_17 => ?_) (fun c_17 => ?_)
          · (first | omega | exact absurd c_17 (by decide) | (exfalso; simp (disch := omega) only [Int32.lt_iff_toInt_lt, Int32.le_iff_toInt_le, ← Int32.toInt_inj, nI_toInt, i32_m1, i32_0, i32_m20, i32_m40, i32_m30, i32_m9] at *; omega))
          · refine go_iconst (v := (-1)) iT_mark_20 rfl ?_
            refine go_iret iT_mark_21 rfl ?_
            first | rfl | omega | (exfalso; simp (disch := omega) only [Int32.lt_iff_toInt_lt, Int32.le_iff_toInt_le, Int32.not_lt, Int32.not_le, ← Int32.toInt_inj, nI_toInt, i32_m1, i32_0, i32_m20, i32_m40, i32_m30, i32_m9] at *; omega)
      · show Go _ _ tM_mark (_, 0, [.ref 43, .int (nI p), .int y], []) _
        refine go_aloadn_0 iM_mark_0 rfl ?_
        refine go_iloadn_1 iM_mark_1 ?_
        refine gc_V1 iM_mark_2 rfl (by decide) (sk_43 _) rfl (Nat.le_of_ble_eq_true rfl) (Nat.le_of_ble_eq_true rfl) (by decide) (sp_M_isPlay_t h8 hcM hp) ?_
        refine go_if_eq iM_mark_5 (fun c_5 => ?_) (fun c_5 => ?_)
        · (first | omega | exact absurd c_5 (by decide) | (exfalso; simp (disch := omega) only [Int32.lt_iff_toInt_lt, Int32.le_iff_toInt_le, ← Int32.toInt_inj, nI_toInt, i32_m1, i32_0, i32_m20, i32_m40, i32_m30, i32_m9] at *; omega))
        refine go_iloadn_2 iM_mark_8 ?_
        refine go_iconst (v := nI 1) iM_mark_9 rfl ?_
        refine go_iconst (v := nI 3) iM_mark_10 rfl ?_
        refine gc_S1 iM_mark_11 (by decide) rfl rfl (Nat.le_of_ble_eq_true rfl) (Nat.le_of_ble_eq_true rfl) (by decide) (sp_M_in_f (by simp (disch := omega) only [nI_toInt]; omega)) ?_
        refine go_if_ne iM_mark_14 (fun c_14 => ?_) (fun c_14 => ?_)
        · (first | omega | exact absurd c_14 (by decide) | (exfalso; simp (disch := omega) only [Int32.lt_iff_toInt_lt, Int32.le_iff_toInt_le, ← Int32.toInt_inj, nI_toInt, i32_m1, i32_0, i32_m20, i32_m40, i32_m30, i32_m9] at *; omega))
        refine go_iconst (v := (-1)) iM_mark_17 rfl ?_
        refine go_iret iM_mark_18 rfl ?_
        rfl
    · obtain ⟨k, hk3, rfl⟩ : ∃ a, (1 ≤ a ∧ a ≤ 3) ∧ y = nI a := by
        rcases int_cases y 3 (by decide) with ⟨a, ha, rfl⟩ | h
        · rw [nI_toInt (by omega)] at hy
          exact ⟨a, by omega, rfl⟩
        · omega
      clear hy
      by_cases hof : kd = k ∨ (kd = 3 ∧ k = 1)
      · rcases (by omega : k = 1 ∨ k = 2 ∨ k = 3) with rfl | rfl | rfl
        · refine Pair.same (h1 := 2) (h2 := 2) (v := .int (mI (61 + 2 * p) 0)) hR' ?_ ?_
          · show Go _ _ tT_mark (_, 0, [.ref 0, .int (nI p), .int (nI 1), am_U], []) _
            refine go_aloadn_0 iT_mark_0 rfl ?_
            refine go_iloadn_1 iT_mark_1 ?_
            refine gc_V1 iT_mark_2 rfl (by decide) (sk_0 _) rfl (Nat.le_of_ble_eq_true rfl) (Nat.le_of_ble_eq_true rfl) (by decide) (sp_T_playAt_t h8 hcT hp) ?_
            refine go_astoren_3 iT_mark_5 rfl (by simp [Value.category, am_U]) ?_
            refine go_aloadn_3 iT_mark_6 rfl ?_
            refine go_nulR iT_mark_7 ?_
            refine go_iloadn_2 iT_mark_10 ?_
            refine go_iconst (v := nI 1) iT_mark_11 rfl ?_
            first | refine gn_ic_lt iT_mark_12 (by omega) (by omega) (fun c_12 => ?_) (fun c_12 => ?_) | refine go_ic_lt iT_mark_12 (fun c_12 => ?_) (fun c_12 => ?_)
            · (first | omega | exact absurd c_12 (by decide) | (exfalso; simp (disch := omega) only [Int32.lt_iff_toInt_lt, Int32.le_iff_toInt_le, ← Int32.toInt_inj, nI_toInt, i32_m1, i32_0, i32_m20, i32_m40, i32_m30, i32_m9] at *; omega))
            refine go_iloadn_2 iT_mark_15 ?_
            refine go_iconst (v := nI 3) iT_mark_16 rfl ?_
            first | refine gn_ic_le iT_mark_17 (by omega) (by omega) (fun c_17 => ?_) (fun c_17 => ?_) | refine go_ic_le iT_mark_17 (fun c_17 => ?_) (fun c_17 => ?_)
            rotate_left
            · (first | omega | exact absurd c_17 (by decide) | (exfalso; simp (disch := omega) only [Int32.lt_iff_toInt_lt, Int32.le_iff_toInt_le, ← Int32.toInt_inj, nI_toInt, i32_m1, i32_0, i32_m20, i32_m40, i32_m30, i32_m9] at *; omega))
            refine go_aloadn_3 iT_mark_22 rfl ?_
            refine go_iloadn_2 iT_mark_23 ?_
            refine gc_V1 iT_mark_24 rfl (by decide) (by assumption) rfl (Nat.le_of_ble_eq_true rfl) (Nat.le_of_ble_eq_true rfl) (by decide) (sp_P_isOf_t hp hkT hkd (by decide) hof) ?_
            refine go_if_ne iT_mark_27 (fun c_27 => ?_) (fun c_27 => ?_)
            rotate_left
            · (first | omega | exact absurd c_27 (by decide) | (exfalso; simp (disch := omega) only [Int32.lt_iff_toInt_lt, Int32.le_iff_toInt_le, ← Int32.toInt_inj, nI_toInt, i32_m1, i32_0, i32_m20, i32_m40, i32_m30, i32_m9] at *; omega))
            refine go_iloadn_2 iT_mark_36 ?_
            refine go_lsw (off := 27) (tgt := 64) iT_mark_37 (by decide) (by decide) (by decide) ?_
            refine go_aloadn_3 iT_mark_64 rfl ?_
            refine go_getR iT_mark_65 rfl (by assumption) (by assumption) ?_
            refine go_iconst (v := nI 0) iT_mark_68 rfl ?_
            refine go_iald iT_mark_69 (by assumption) rfl (by omega) (by omega) ?_
            refine go_iret iT_mark_70 rfl ?_
            rfl
          · show Go _ _ tM_mark (_, 0, [.ref 43, .int (nI p), .int (nI 1)], []) _
            refine go_aloadn_0 iM_mark_0 rfl ?_
            refine go_iloadn_1 iM_mark_1 ?_
            refine gc_V1 iM_mark_2 rfl (by decide) (sk_43 _) rfl (Nat.le_of_ble_eq_true rfl) (Nat.le_of_ble_eq_true rfl) (by decide) (sp_M_isPlay_t h8 hcM hp) ?_
            refine go_if_eq iM_mark_5 (fun c_5 => ?_) (fun c_5 => ?_)
            · (first | omega | exact absurd c_5 (by decide) | (exfalso; simp (disch := omega) only [Int32.lt_iff_toInt_lt, Int32.le_iff_toInt_le, ← Int32.toInt_inj, nI_toInt, i32_m1, i32_0, i32_m20, i32_m40, i32_m30, i32_m9] at *; omega))
            refine go_iloadn_2 iM_mark_8 ?_
            refine go_iconst (v := nI 1) iM_mark_9 rfl ?_
            refine go_iconst (v := nI 3) iM_mark_10 rfl ?_
            refine gc_S1 iM_mark_11 (by decide) rfl rfl (Nat.le_of_ble_eq_true rfl) (Nat.le_of_ble_eq_true rfl) (by decide) (sp_M_in_t (by simp (disch := omega) only [nI_toInt]; omega) (by simp (disch := omega) only [nI_toInt]; omega)) ?_
            refine go_if_ne iM_mark_14 (fun c_14 => ?_) (fun c_14 => ?_)
            rotate_left
            · (first | omega | exact absurd c_14 (by decide) | (exfalso; simp (disch := omega) only [Int32.lt_iff_toInt_lt, Int32.le_iff_toInt_le, ← Int32.toInt_inj, nI_toInt, i32_m1, i32_0, i32_m20, i32_m40, i32_m30, i32_m9] at *; omega))
            refine go_aloadn_0 iM_mark_19 rfl ?_
            refine go_getR iM_mark_20 rfl (sk_43 _) (mR_43_6 _) ?_
            refine go_iloadn_1 iM_mark_23 ?_
            refine go_iald iM_mark_24 (sh_45 _) rfl (by omega) (by omega) ?_
            try simp (disch := omega) only [am_u_n, am_u_s, am_u_k, hkM]
            refine go_iloadn_2 iM_mark_25 ?_
            first | refine gn_ic_eq iM_mark_26 (by omega) (by omega) (fun c_26 => ?_) (fun c_26 => ?_) | refine go_ic_eq iM_mark_26 (fun c_26 => ?_) (fun c_26 => ?_)
            · refine go_iloadn_2 iM_mark_50 ?_
              refine go_iconst (v := nI 1) iM_mark_51 rfl ?_
              first | refine gn_ic_ne iM_mark_52 (by omega) (by omega) (fun c_52 => ?_) (fun c_52 => ?_) | refine go_ic_ne iM_mark_52 (fun c_52 => ?_) (fun c_52 => ?_)
              · (first | omega | exact absurd c_52 (by decide) | (exfalso; simp (disch := omega) only [Int32.lt_iff_toInt_lt, Int32.le_iff_toInt_le, ← Int32.toInt_inj, nI_toInt, i32_m1, i32_0, i32_m20, i32_m40, i32_m30, i32_m9] at *; omega))
              refine go_aloadn_0 iM_mark_55 rfl ?_
              refine go_getR iM_mark_56 rfl (sk_43 _) (mR_43_7 _) ?_
              refine go_iconst (v := nI 4) iM_mark_59 rfl ?_
              refine go_iloadn_1 iM_mark_60 ?_
              first | refine gn_imul iM_mark_61 ?_ | refine go_imul iM_mark_61 ?_
              refine go_iald iM_mark_62 (sh_46 _) rfl (by omega) (by omega) ?_
              try simp (disch := omega) only [am_u_n, am_u_s, am_u_k, hkM]
              rw [ho0]
              refine go_goto iM_mark_63 ?_
              refine go_iret iM_mark_95 rfl ?_
              rfl
            · refine go_iloadn_2 iM_mark_29 ?_
              refine go_iconst (v := nI 1) iM_mark_30 rfl ?_
              first | refine gn_ic_ne iM_mark_31 (by omega) (by omega) (fun c_31 => ?_) (fun c_31 => ?_) | refine go_ic_ne iM_mark_31 (fun c_31 => ?_) (fun c_31 => ?_)
              · (first | omega | exact absurd c_26 (by decide) | (exfalso; simp (disch := omega) only [Int32.lt_iff_toInt_lt, Int32.le_iff_toInt_le, ← Int32.toInt_inj, nI_toInt, i32_m1, i32_0, i32_m20, i32_m40, i32_m30, i32_m9] at *; omega))
              · refine go_aloadn_0 iM_mark_34 rfl ?_
                refine go_getR iM_mark_35 rfl (sk_43 _) (mR_43_6 _) ?_
                refine go_iloadn_1 iM_mark_38 ?_
                refine go_iald iM_mark_39 (sh_45 _) rfl (by omega) (by omega) ?_
                try simp (disch := omega) only [am_u_n, am_u_s, am_u_k, hkM]
                refine go_iconst (v := nI 3) iM_mark_40 rfl ?_
                first | refine gn_ic_eq iM_mark_41 (by omega) (by omega) (fun c_41 => ?_) (fun c_41 => ?_) | refine go_ic_eq iM_mark_41 (fun c_41 => ?_) (fun c_41 => ?_)
                · refine go_iloadn_2 iM_mark_50 ?_
                  refine go_iconst (v := nI 1) iM_mark_51 rfl ?_
                  first | refine gn_ic_ne iM_mark_52 (by omega) (by omega) (fun c_52 => ?_) (fun c_52 => ?_) | refine go_ic_ne iM_mark_52 (fun c_52 => ?_) (fun c_52 => ?_)
                  · (first | omega | exact absurd c_52 (by decide) | (exfalso; simp (disch := omega) only [Int32.lt_iff_toInt_lt, Int32.le_iff_toInt_le, ← Int32.toInt_inj, nI_toInt, i32_m1, i32_0, i32_m20, i32_m40, i32_m30, i32_m9] at *; omega))
                  refine go_aloadn_0 iM_mark_55 rfl ?_
                  refine go_getR iM_mark_56 rfl (sk_43 _) (mR_43_7 _) ?_
                  refine go_iconst (v := nI 4) iM_mark_59 rfl ?_
                  refine go_iloadn_1 iM_mark_60 ?_
                  first | refine gn_imul iM_mark_61 ?_ | refine go_imul iM_mark_61 ?_
                  refine go_iald iM_mark_62 (sh_46 _) rfl (by omega) (by omega) ?_
                  try simp (disch := omega) only [am_u_n, am_u_s, am_u_k, hkM]
                  rw [ho0]
                  refine go_goto iM_mark_63 ?_
                  refine go_iret iM_mark_95 rfl ?_
                  rfl
                · (first | omega | exact absurd c_26 (by decide) | (exfalso; simp (disch := omega) only [Int32.lt_iff_toInt_lt, Int32.le_iff_toInt_le, ← Int32.toInt_inj, nI_toInt, i32_m1, i32_0, i32_m20, i32_m40, i32_m30, i32_m9] at *; omega))
        · refine Pair.same (h1 := 2) (h2 := 2) (v := .int (mI (61 + 2 * p) 3)) hR' ?_ ?_
          · show Go _ _ tT_mark (_, 0, [.ref 0, .int (nI p), .int (nI 2), am_U], []) _
            refine go_aloadn_0 iT_mark_0 rfl ?_
            refine go_iloadn_1 iT_mark_1 ?_
            refine gc_V1 iT_mark_2 rfl (by decide) (sk_0 _) rfl (Nat.le_of_ble_eq_true rfl) (Nat.le_of_ble_eq_true rfl) (by decide) (sp_T_playAt_t h8 hcT hp) ?_
            refine go_astoren_3 iT_mark_5 rfl (by simp [Value.category, am_U]) ?_
            refine go_aloadn_3 iT_mark_6 rfl ?_
            refine go_nulR iT_mark_7 ?_
            refine go_iloadn_2 iT_mark_10 ?_
            refine go_iconst (v := nI 1) iT_mark_11 rfl ?_
            first | refine gn_ic_lt iT_mark_12 (by omega) (by omega) (fun c_12 => ?_) (fun c_12 => ?_) | refine go_ic_lt iT_mark_12 (fun c_12 => ?_) (fun c_12 => ?_)
            · (first | omega | exact absurd c_12 (by decide) | (exfalso; simp (disch := omega) only [Int32.lt_iff_toInt_lt, Int32.le_iff_toInt_le, ← Int32.toInt_inj, nI_toInt, i32_m1, i32_0, i32_m20, i32_m40, i32_m30, i32_m9] at *; omega))
            refine go_iloadn_2 iT_mark_15 ?_
            refine go_iconst (v := nI 3) iT_mark_16 rfl ?_
            first | refine gn_ic_le iT_mark_17 (by omega) (by omega) (fun c_17 => ?_) (fun c_17 => ?_) | refine go_ic_le iT_mark_17 (fun c_17 => ?_) (fun c_17 => ?_)
            rotate_left
            · (first | omega | exact absurd c_17 (by decide) | (exfalso; simp (disch := omega) only [Int32.lt_iff_toInt_lt, Int32.le_iff_toInt_le, ← Int32.toInt_inj, nI_toInt, i32_m1, i32_0, i32_m20, i32_m40, i32_m30, i32_m9] at *; omega))
            refine go_aloadn_3 iT_mark_22 rfl ?_
            refine go_iloadn_2 iT_mark_23 ?_
            refine gc_V1 iT_mark_24 rfl (by decide) (by assumption) rfl (Nat.le_of_ble_eq_true rfl) (Nat.le_of_ble_eq_true rfl) (by decide) (sp_P_isOf_t hp hkT hkd (by decide) hof) ?_
            refine go_if_ne iT_mark_27 (fun c_27 => ?_) (fun c_27 => ?_)
            rotate_left
            · (first | omega | exact absurd c_27 (by decide) | (exfalso; simp (disch := omega) only [Int32.lt_iff_toInt_lt, Int32.le_iff_toInt_le, ← Int32.toInt_inj, nI_toInt, i32_m1, i32_0, i32_m20, i32_m40, i32_m30, i32_m9] at *; omega))
            refine go_iloadn_2 iT_mark_36 ?_
            refine go_lsw (off := 34) (tgt := 71) iT_mark_37 (by decide) (by decide) (by decide) ?_
            refine go_aloadn_3 iT_mark_71 rfl ?_
            refine go_getR iT_mark_72 rfl (by assumption) (by assumption) ?_
            refine go_iconst (v := nI 3) iT_mark_75 rfl ?_
            refine go_iald iT_mark_76 (by assumption) rfl (by omega) (by omega) ?_
            refine go_iret iT_mark_77 rfl ?_
            rfl
          · show Go _ _ tM_mark (_, 0, [.ref 43, .int (nI p), .int (nI 2)], []) _
            refine go_aloadn_0 iM_mark_0 rfl ?_
            refine go_iloadn_1 iM_mark_1 ?_
            refine gc_V1 iM_mark_2 rfl (by decide) (sk_43 _) rfl (Nat.le_of_ble_eq_true rfl) (Nat.le_of_ble_eq_true rfl) (by decide) (sp_M_isPlay_t h8 hcM hp) ?_
            refine go_if_eq iM_mark_5 (fun c_5 => ?_) (fun c_5 => ?_)
            · (first | omega | exact absurd c_5 (by decide) | (exfalso; simp (disch := omega) only [Int32.lt_iff_toInt_lt, Int32.le_iff_toInt_le, ← Int32.toInt_inj, nI_toInt, i32_m1, i32_0, i32_m20, i32_m40, i32_m30, i32_m9] at *; omega))
            refine go_iloadn_2 iM_mark_8 ?_
            refine go_iconst (v := nI 1) iM_mark_9 rfl ?_
            refine go_iconst (v := nI 3) iM_mark_10 rfl ?_
            refine gc_S1 iM_mark_11 (by decide) rfl rfl (Nat.le_of_ble_eq_true rfl) (Nat.le_of_ble_eq_true rfl) (by decide) (sp_M_in_t (by simp (disch := omega) only [nI_toInt]; omega) (by simp (disch := omega) only [nI_toInt]; omega)) ?_
            refine go_if_ne iM_mark_14 (fun c_14 => ?_) (fun c_14 => ?_)
            rotate_left
            · (first | omega | exact absurd c_14 (by decide) | (exfalso; simp (disch := omega) only [Int32.lt_iff_toInt_lt, Int32.le_iff_toInt_le, ← Int32.toInt_inj, nI_toInt, i32_m1, i32_0, i32_m20, i32_m40, i32_m30, i32_m9] at *; omega))
            refine go_aloadn_0 iM_mark_19 rfl ?_
            refine go_getR iM_mark_20 rfl (sk_43 _) (mR_43_6 _) ?_
            refine go_iloadn_1 iM_mark_23 ?_
            refine go_iald iM_mark_24 (sh_45 _) rfl (by omega) (by omega) ?_
            try simp (disch := omega) only [am_u_n, am_u_s, am_u_k, hkM]
            refine go_iloadn_2 iM_mark_25 ?_
            first | refine gn_ic_eq iM_mark_26 (by omega) (by omega) (fun c_26 => ?_) (fun c_26 => ?_) | refine go_ic_eq iM_mark_26 (fun c_26 => ?_) (fun c_26 => ?_)
            rotate_left
            · (first | omega | exact absurd c_26 (by decide) | (exfalso; simp (disch := omega) only [Int32.lt_iff_toInt_lt, Int32.le_iff_toInt_le, ← Int32.toInt_inj, nI_toInt, i32_m1, i32_0, i32_m20, i32_m40, i32_m30, i32_m9] at *; omega))
            refine go_iloadn_2 iM_mark_50 ?_
            refine go_iconst (v := nI 1) iM_mark_51 rfl ?_
            first | refine gn_ic_ne iM_mark_52 (by omega) (by omega) (fun c_52 => ?_) (fun c_52 => ?_) | refine go_ic_ne iM_mark_52 (fun c_52 => ?_) (fun c_52 => ?_)
            rotate_left
            · (first | omega | exact absurd c_52 (by decide) | (exfalso; simp (disch := omega) only [Int32.lt_iff_toInt_lt, Int32.le_iff_toInt_le, ← Int32.toInt_inj, nI_toInt, i32_m1, i32_0, i32_m20, i32_m40, i32_m30, i32_m9] at *; omega))
            refine go_iloadn_2 iM_mark_66 ?_
            refine go_iconst (v := nI 2) iM_mark_67 rfl ?_
            first | refine gn_ic_ne iM_mark_68 (by omega) (by omega) (fun c_68 => ?_) (fun c_68 => ?_) | refine go_ic_ne iM_mark_68 (fun c_68 => ?_) (fun c_68 => ?_)
            · (first | omega | exact absurd c_68 (by decide) | (exfalso; simp (disch := omega) only [Int32.lt_iff_toInt_lt, Int32.le_iff_toInt_le, ← Int32.toInt_inj, nI_toInt, i32_m1, i32_0, i32_m20, i32_m40, i32_m30, i32_m9] at *; omega))
            refine go_aloadn_0 iM_mark_71 rfl ?_
            refine go_getR iM_mark_72 rfl (sk_43 _) (mR_43_7 _) ?_
            refine go_iconst (v := nI 4) iM_mark_75 rfl ?_
            refine go_iloadn_1 iM_mark_76 ?_
            first | refine gn_imul iM_mark_77 ?_ | refine go_imul iM_mark_77 ?_
            refine go_iconst (v := nI 3) iM_mark_78 rfl ?_
            first | refine gn_iadd iM_mark_79 ?_ | refine go_iadd iM_mark_79 ?_
            refine go_iald iM_mark_80 (sh_46 _) rfl (by omega) (by omega) ?_
            try simp (disch := omega) only [am_u_n, am_u_s, am_u_k, hkM]
            rw [ho3 (by omega)]
            refine go_goto iM_mark_81 ?_
            refine go_iret iM_mark_95 rfl ?_
            rfl
        · refine Pair.same (h1 := 2) (h2 := 2) (v := .int (mI (61 + 2 * p) 0 - nI 6)) hR' ?_ ?_
          · show Go _ _ tT_mark (_, 0, [.ref 0, .int (nI p), .int (nI 3), am_U], []) _
            refine go_aloadn_0 iT_mark_0 rfl ?_
            refine go_iloadn_1 iT_mark_1 ?_
            refine gc_V1 iT_mark_2 rfl (by decide) (sk_0 _) rfl (Nat.le_of_ble_eq_true rfl) (Nat.le_of_ble_eq_true rfl) (by decide) (sp_T_playAt_t h8 hcT hp) ?_
            refine go_astoren_3 iT_mark_5 rfl (by simp [Value.category, am_U]) ?_
            refine go_aloadn_3 iT_mark_6 rfl ?_
            refine go_nulR iT_mark_7 ?_
            refine go_iloadn_2 iT_mark_10 ?_
            refine go_iconst (v := nI 1) iT_mark_11 rfl ?_
            first | refine gn_ic_lt iT_mark_12 (by omega) (by omega) (fun c_12 => ?_) (fun c_12 => ?_) | refine go_ic_lt iT_mark_12 (fun c_12 => ?_) (fun c_12 => ?_)
            · (first | omega | exact absurd c_12 (by decide) | (exfalso; simp (disch := omega) only [Int32.lt_iff_toInt_lt, Int32.le_iff_toInt_le, ← Int32.toInt_inj, nI_toInt, i32_m1, i32_0, i32_m20, i32_m40, i32_m30, i32_m9] at *; omega))
            refine go_iloadn_2 iT_mark_15 ?_
            refine go_iconst (v := nI 3) iT_mark_16 rfl ?_
            first | refine gn_ic_le iT_mark_17 (by omega) (by omega) (fun c_17 => ?_) (fun c_17 => ?_) | refine go_ic_le iT_mark_17 (fun c_17 => ?_) (fun c_17 => ?_)
            rotate_left
            · (first | omega | exact absurd c_17 (by decide) | (exfalso; simp (disch := omega) only [Int32.lt_iff_toInt_lt, Int32.le_iff_toInt_le, ← Int32.toInt_inj, nI_toInt, i32_m1, i32_0, i32_m20, i32_m40, i32_m30, i32_m9] at *; omega))
            refine go_aloadn_3 iT_mark_22 rfl ?_
            refine go_iloadn_2 iT_mark_23 ?_
            refine gc_V1 iT_mark_24 rfl (by decide) (by assumption) rfl (Nat.le_of_ble_eq_true rfl) (Nat.le_of_ble_eq_true rfl) (by decide) (sp_P_isOf_t hp hkT hkd (by decide) hof) ?_
            refine go_if_ne iT_mark_27 (fun c_27 => ?_) (fun c_27 => ?_)
            rotate_left
            · (first | omega | exact absurd c_27 (by decide) | (exfalso; simp (disch := omega) only [Int32.lt_iff_toInt_lt, Int32.le_iff_toInt_le, ← Int32.toInt_inj, nI_toInt, i32_m1, i32_0, i32_m20, i32_m40, i32_m30, i32_m9] at *; omega))
            refine go_iloadn_2 iT_mark_36 ?_
            refine go_lsw (off := 41) (tgt := 78) iT_mark_37 (by decide) (by decide) (by decide) ?_
            refine go_aloadn_3 iT_mark_78 rfl ?_
            refine go_getR iT_mark_79 rfl (by assumption) (by assumption) ?_
            refine go_iconst (v := nI 0) iT_mark_82 rfl ?_
            refine go_iald iT_mark_83 (by assumption) rfl (by omega) (by omega) ?_
            refine go_bipush (v := nI 6) iT_mark_84 (by decide) ?_
            first | refine gn_isub iT_mark_86 (by omega) ?_ | refine go_isub iT_mark_86 ?_
            refine go_iret iT_mark_87 rfl ?_
            rfl
          · show Go _ _ tM_mark (_, 0, [.ref 43, .int (nI p), .int (nI 3)], []) _
            refine go_aloadn_0 iM_mark_0 rfl ?_
            refine go_iloadn_1 iM_mark_1 ?_
            refine gc_V1 iM_mark_2 rfl (by decide) (sk_43 _) rfl (Nat.le_of_ble_eq_true rfl) (Nat.le_of_ble_eq_true rfl) (by decide) (sp_M_isPlay_t h8 hcM hp) ?_
            refine go_if_eq iM_mark_5 (fun c_5 => ?_) (fun c_5 => ?_)
            · (first | omega | exact absurd c_5 (by decide) | (exfalso; simp (disch := omega) only [Int32.lt_iff_toInt_lt, Int32.le_iff_toInt_le, ← Int32.toInt_inj, nI_toInt, i32_m1, i32_0, i32_m20, i32_m40, i32_m30, i32_m9] at *; omega))
            refine go_iloadn_2 iM_mark_8 ?_
            refine go_iconst (v := nI 1) iM_mark_9 rfl ?_
            refine go_iconst (v := nI 3) iM_mark_10 rfl ?_
            refine gc_S1 iM_mark_11 (by decide) rfl rfl (Nat.le_of_ble_eq_true rfl) (Nat.le_of_ble_eq_true rfl) (by decide) (sp_M_in_t (by simp (disch := omega) only [nI_toInt]; omega) (by simp (disch := omega) only [nI_toInt]; omega)) ?_
            refine go_if_ne iM_mark_14 (fun c_14 => ?_) (fun c_14 => ?_)
            rotate_left
            · (first | omega | exact absurd c_14 (by decide) | (exfalso; simp (disch := omega) only [Int32.lt_iff_toInt_lt, Int32.le_iff_toInt_le, ← Int32.toInt_inj, nI_toInt, i32_m1, i32_0, i32_m20, i32_m40, i32_m30, i32_m9] at *; omega))
            refine go_aloadn_0 iM_mark_19 rfl ?_
            refine go_getR iM_mark_20 rfl (sk_43 _) (mR_43_6 _) ?_
            refine go_iloadn_1 iM_mark_23 ?_
            refine go_iald iM_mark_24 (sh_45 _) rfl (by omega) (by omega) ?_
            try simp (disch := omega) only [am_u_n, am_u_s, am_u_k, hkM]
            refine go_iloadn_2 iM_mark_25 ?_
            first | refine gn_ic_eq iM_mark_26 (by omega) (by omega) (fun c_26 => ?_) (fun c_26 => ?_) | refine go_ic_eq iM_mark_26 (fun c_26 => ?_) (fun c_26 => ?_)
            rotate_left
            · (first | omega | exact absurd c_26 (by decide) | (exfalso; simp (disch := omega) only [Int32.lt_iff_toInt_lt, Int32.le_iff_toInt_le, ← Int32.toInt_inj, nI_toInt, i32_m1, i32_0, i32_m20, i32_m40, i32_m30, i32_m9] at *; omega))
            refine go_iloadn_2 iM_mark_50 ?_
            refine go_iconst (v := nI 1) iM_mark_51 rfl ?_
            first | refine gn_ic_ne iM_mark_52 (by omega) (by omega) (fun c_52 => ?_) (fun c_52 => ?_) | refine go_ic_ne iM_mark_52 (fun c_52 => ?_) (fun c_52 => ?_)
            rotate_left
            · (first | omega | exact absurd c_52 (by decide) | (exfalso; simp (disch := omega) only [Int32.lt_iff_toInt_lt, Int32.le_iff_toInt_le, ← Int32.toInt_inj, nI_toInt, i32_m1, i32_0, i32_m20, i32_m40, i32_m30, i32_m9] at *; omega))
            refine go_iloadn_2 iM_mark_66 ?_
            refine go_iconst (v := nI 2) iM_mark_67 rfl ?_
            first | refine gn_ic_ne iM_mark_68 (by omega) (by omega) (fun c_68 => ?_) (fun c_68 => ?_) | refine go_ic_ne iM_mark_68 (fun c_68 => ?_) (fun c_68 => ?_)
            rotate_left
            · (first | omega | exact absurd c_68 (by decide) | (exfalso; simp (disch := omega) only [Int32.lt_iff_toInt_lt, Int32.le_iff_toInt_le, ← Int32.toInt_inj, nI_toInt, i32_m1, i32_0, i32_m20, i32_m40, i32_m30, i32_m9] at *; omega))
            refine go_aloadn_0 iM_mark_84 rfl ?_
            refine go_getR iM_mark_85 rfl (sk_43 _) (mR_43_7 _) ?_
            refine go_iconst (v := nI 4) iM_mark_88 rfl ?_
            refine go_iloadn_1 iM_mark_89 ?_
            first | refine gn_imul iM_mark_90 ?_ | refine go_imul iM_mark_90 ?_
            refine go_iald iM_mark_91 (sh_46 _) rfl (by omega) (by omega) ?_
            try simp (disch := omega) only [am_u_n, am_u_s, am_u_k, hkM]
            rw [ho0]
            refine go_bipush (v := nI 6) iM_mark_92 (by decide) ?_
            first | refine gn_isub iM_mark_94 (by omega) ?_ | refine go_isub iM_mark_94 ?_
            refine go_iret iM_mark_95 rfl ?_
            rfl
      · refine Pair.refuse (h1 := 2) (h2 := 2) (f := 3) hR' (by decide) ?_ ?_
        · show Go _ _ tT_mark (_, 0, [.ref 0, .int (nI p), .int (nI k), am_U], []) _
          refine go_aloadn_0 iT_mark_0 rfl ?_
          refine go_iloadn_1 iT_mark_1 ?_
          refine gc_V1 iT_mark_2 rfl (by decide) (sk_0 _) rfl (Nat.le_of_ble_eq_true rfl) (Nat.le_of_ble_eq_true rfl) (by decide) (sp_T_playAt_t h8 hcT hp) ?_
          refine go_astoren_3 iT_mark_5 rfl (by simp [Value.category, am_U]) ?_
          refine go_aloadn_3 iT_mark_6 rfl ?_
          refine go_nulR iT_mark_7 ?_
          refine go_iloadn_2 iT_mark_10 ?_
          refine go_iconst (v := nI 1) iT_mark_11 rfl ?_
          first | refine gn_ic_lt iT_mark_12 (by omega) (by omega) (fun c_12 => ?_) (fun c_12 => ?_) | refine go_ic_lt iT_mark_12 (fun c_12 => ?_) (fun c_12 => ?_)
          · (first | omega | exact absurd c_12 (by decide) | (exfalso; simp (disch := omega) only [Int32.lt_iff_toInt_lt, Int32.le_iff_toInt_le, ← Int32.toInt_inj, nI_toInt, i32_m1, i32_0, i32_m20, i32_m40, i32_m30, i32_m9] at *; omega))
          refine go_iloadn_2 iT_mark_15 ?_
          refine go_iconst (v := nI 3) iT_mark_16 rfl ?_
          first | refine gn_ic_le iT_mark_17 (by omega) (by omega) (fun c_17 => ?_) (fun c_17 => ?_) | refine go_ic_le iT_mark_17 (fun c_17 => ?_) (fun c_17 => ?_)
          rotate_left
          · (first | omega | exact absurd c_17 (by decide) | (exfalso; simp (disch := omega) only [Int32.lt_iff_toInt_lt, Int32.le_iff_toInt_le, ← Int32.toInt_inj, nI_toInt, i32_m1, i32_0, i32_m20, i32_m40, i32_m30, i32_m9] at *; omega))
          refine go_aloadn_3 iT_mark_22 rfl ?_
          refine go_iloadn_2 iT_mark_23 ?_
          refine gc_V1 iT_mark_24 rfl (by decide) (by assumption) rfl (Nat.le_of_ble_eq_true rfl) (Nat.le_of_ble_eq_true rfl) (by decide) (sp_P_isOf_f hp hkT hkd (by omega) hof) ?_
          refine go_if_ne iT_mark_27 (fun c_27 => ?_) (fun c_27 => ?_)
          · (first | omega | exact absurd c_27 (by decide) | (exfalso; simp (disch := omega) only [Int32.lt_iff_toInt_lt, Int32.le_iff_toInt_le, ← Int32.toInt_inj, nI_toInt, i32_m1, i32_0, i32_m20, i32_m40, i32_m30, i32_m9] at *; omega))
          refine go_aloadn_0 iT_mark_30 rfl ?_
          refine go_iconst (v := nI 3) iT_mark_31 rfl ?_
          refine gc_V1 iT_mark_32 rfl (by decide) (sk_0 _) rfl (Nat.le_of_ble_eq_true rfl) (Nat.le_of_ble_eq_true rfl) (by decide) (sp_T_refuse (by decide)) ?_
          refine go_iret iT_mark_35 rfl ?_
          rfl
        · show Go _ _ tM_mark (_, 0, [.ref 43, .int (nI p), .int (nI k)], []) _
          refine go_aloadn_0 iM_mark_0 rfl ?_
          refine go_iloadn_1 iM_mark_1 ?_
          refine gc_V1 iM_mark_2 rfl (by decide) (sk_43 _) rfl (Nat.le_of_ble_eq_true rfl) (Nat.le_of_ble_eq_true rfl) (by decide) (sp_M_isPlay_t h8 hcM' hp) ?_
          refine go_if_eq iM_mark_5 (fun c_5 => ?_) (fun c_5 => ?_)
          · (first | omega | exact absurd c_5 (by decide) | (exfalso; simp (disch := omega) only [Int32.lt_iff_toInt_lt, Int32.le_iff_toInt_le, ← Int32.toInt_inj, nI_toInt, i32_m1, i32_0, i32_m20, i32_m40, i32_m30, i32_m9] at *; omega))
          refine go_iloadn_2 iM_mark_8 ?_
          refine go_iconst (v := nI 1) iM_mark_9 rfl ?_
          refine go_iconst (v := nI 3) iM_mark_10 rfl ?_
          refine gc_S1 iM_mark_11 (by decide) rfl rfl (Nat.le_of_ble_eq_true rfl) (Nat.le_of_ble_eq_true rfl) (by decide) (sp_M_in_t (by simp (disch := omega) only [nI_toInt]; omega) (by simp (disch := omega) only [nI_toInt]; omega)) ?_
          refine go_if_ne iM_mark_14 (fun c_14 => ?_) (fun c_14 => ?_)
          rotate_left
          · (first | omega | exact absurd c_14 (by decide) | (exfalso; simp (disch := omega) only [Int32.lt_iff_toInt_lt, Int32.le_iff_toInt_le, ← Int32.toInt_inj, nI_toInt, i32_m1, i32_0, i32_m20, i32_m40, i32_m30, i32_m9] at *; omega))
          refine go_aloadn_0 iM_mark_19 rfl ?_
          refine go_getR iM_mark_20 rfl (sk_43 _) (mR_43_6 _) ?_
          refine go_iloadn_1 iM_mark_23 ?_
          refine go_iald iM_mark_24 (sh_45 _) rfl (by omega) (by omega) ?_
          try simp (disch := omega) only [am_u_n, am_u_s, am_u_k, hkM']
          refine go_iloadn_2 iM_mark_25 ?_
          first | refine gn_ic_eq iM_mark_26 (by omega) (by omega) (fun c_26 => ?_) (fun c_26 => ?_) | refine go_ic_eq iM_mark_26 (fun c_26 => ?_) (fun c_26 => ?_)
          · (first | omega | exact absurd c_26 (by decide) | (exfalso; simp (disch := omega) only [Int32.lt_iff_toInt_lt, Int32.le_iff_toInt_le, ← Int32.toInt_inj, nI_toInt, i32_m1, i32_0, i32_m20, i32_m40, i32_m30, i32_m9] at *; omega))
          refine go_iloadn_2 iM_mark_29 ?_
          refine go_iconst (v := nI 1) iM_mark_30 rfl ?_
          first | refine gn_ic_ne iM_mark_31 (by omega) (by omega) (fun c_31 => ?_) (fun c_31 => ?_) | refine go_ic_ne iM_mark_31 (fun c_31 => ?_) (fun c_31 => ?_)
          · refine go_aloadn_0 iM_mark_44 rfl ?_
            refine go_iconst (v := nI 3) iM_mark_45 rfl ?_
            refine gc_V1 iM_mark_46 rfl (by decide) (sk_43 _) rfl (Nat.le_of_ble_eq_true rfl) (Nat.le_of_ble_eq_true rfl) (by decide) (sp_M_meets (by decide)) ?_
            refine go_iret iM_mark_49 rfl ?_
            rfl
          · refine go_aloadn_0 iM_mark_34 rfl ?_
            refine go_getR iM_mark_35 rfl (sk_43 _) (mR_43_6 _) ?_
            refine go_iloadn_1 iM_mark_38 ?_
            refine go_iald iM_mark_39 (sh_45 _) rfl (by omega) (by omega) ?_
            try simp (disch := omega) only [am_u_n, am_u_s, am_u_k, hkM']
            refine go_iconst (v := nI 3) iM_mark_40 rfl ?_
            first | refine gn_ic_eq iM_mark_41 (by omega) (by omega) (fun c_41 => ?_) (fun c_41 => ?_) | refine go_ic_eq iM_mark_41 (fun c_41 => ?_) (fun c_41 => ?_)
            · (first | omega | exact absurd c_41 (by decide) | (exfalso; simp (disch := omega) only [Int32.lt_iff_toInt_lt, Int32.le_iff_toInt_le, ← Int32.toInt_inj, nI_toInt, i32_m1, i32_0, i32_m20, i32_m40, i32_m30, i32_m9] at *; omega))
            · refine go_aloadn_0 iM_mark_44 rfl ?_
              refine go_iconst (v := nI 3) iM_mark_45 rfl ?_
              refine gc_V1 iM_mark_46 rfl (by decide) (sk_43 _) rfl (Nat.le_of_ble_eq_true rfl) (Nat.le_of_ble_eq_true rfl) (by decide) (sp_M_meets (by decide)) ?_
              refine go_iret iM_mark_49 rfl ?_
              rfl
  · refine Pair.same (h1 := 2) (h2 := 2) (v := .int (-1)) hR' ?_ ?_
    · show Go _ _ tT_mark (_, 0, [.ref 0, .int x, .int y, am_U], []) _
      refine go_aloadn_0 iT_mark_0 rfl ?_
      refine go_iloadn_1 iT_mark_1 ?_
      refine gc_V1 iT_mark_2 rfl (by decide) (sk_0 _) rfl (Nat.le_of_ble_eq_true rfl) (Nat.le_of_ble_eq_true rfl) (by decide) (sp_T_playAt_f h8 hcT hx) ?_
      refine go_astoren_3 iT_mark_5 rfl (by simp [Value.category, am_U]) ?_
      refine go_aloadn_3 iT_mark_6 rfl ?_
      refine go_nulN iT_mark_7 ?_
      refine go_iconst (v := (-1)) iT_mark_20 rfl ?_
      refine go_iret iT_mark_21 rfl ?_
      rfl
    · show Go _ _ tM_mark (_, 0, [.ref 43, .int x, .int y], []) _
      refine go_aloadn_0 iM_mark_0 rfl ?_
      refine go_iloadn_1 iM_mark_1 ?_
      refine gc_V1 iM_mark_2 rfl (by decide) (sk_43 _) rfl (Nat.le_of_ble_eq_true rfl) (Nat.le_of_ble_eq_true rfl) (by decide) (sp_M_isPlay_f h8 hcM hx) ?_
      refine go_if_eq iM_mark_5 (fun c_5 => ?_) (fun c_5 => ?_)
      rotate_left
      · (first | omega | exact absurd c_5 (by decide) | (exfalso; simp (disch := omega) only [Int32.lt_iff_toInt_lt, Int32.le_iff_toInt_le, ← Int32.toInt_inj, nI_toInt, i32_m1, i32_0, i32_m20, i32_m40, i32_m30, i32_m9] at *; omega))
      refine go_iconst (v := (-1)) iM_mark_17 rfl ?_
      refine go_iret iM_mark_18 rfl ?_
      rfl
/-- the class: one place, or all four of a FLAT one -/
def beI (mI : Nat → Nat → Int32) (p kd j : Nat) (v : Int32) : Nat → Nat → Int32 := if kd = 3 then va_up mI (61 + 2 * p) (fl (mI (61 + 2 * p)) 4 v) else am_u mI (61 + 2 * p) j v
theorem sp_P_become {kd j : Nat} {v : Int32} (hp : p < n) (hkT : mI (60 + 2 * p) 0 = nI kd) (hkd : kd < 4) (hj : j < 4) : Sp S 1 tP_become (am_sh n, mI, mL, am_mR n) [.ref (60 + 2 * p), .int (nI j), .int v] (fun q => q = (none, (am_sh n, beI mI p kd j v, mL, am_mR n))) := by
  have hk := sk_play hp
  have hr := mR_wins n hp
  have hv := sh_wins hp
  show Go _ _ tP_become (_, 0, [.ref (60 + 2 * p), .int (nI j), .int v], []) _
  by_cases h3 : kd = 3
  · have e : beI mI p kd j v = va_up mI (61 + 2 * p) (fl (mI (61 + 2 * p)) 4 v) := by unfold beI; rw [if_pos h3]
    rw [e]
    refine go_aloadn_0 iP_become_0 rfl ?_
    refine go_getI iP_become_1 (Or.inl rfl) (by assumption) ?_
    try simp (disch := omega) only [am_u_n, am_u_s, am_u_k, hkT]
    refine go_iconst (v := nI 3) iP_become_4 rfl ?_
    first | refine gn_ic_ne iP_become_5 (by omega) (by omega) (fun c_5 => ?_) (fun c_5 => ?_) | refine go_ic_ne iP_become_5 (fun c_5 => ?_) (fun c_5 => ?_)
    · (first | omega | exact absurd c_5 (by decide) | (exfalso; simp (disch := omega) only [Int32.lt_iff_toInt_lt, Int32.le_iff_toInt_le, ← Int32.toInt_inj, nI_toInt, i32_m1, i32_0, i32_m20, i32_m40, i32_m30, i32_m9] at *; omega))
    refine go_aloadn_0 iP_become_8 rfl ?_
    refine go_getR iP_become_9 rfl (by assumption) (by assumption) ?_
    refine go_iloadn_2 iP_become_12 ?_
    refine gc_S0 iP_become_13 (by decide) rfl rfl (Nat.le_of_ble_eq_true rfl) (Nat.le_of_ble_eq_true rfl) (by decide) (sp_J_fillI hv (by decide)) ?_
    refine go_goto iP_become_16 ?_
    refine go_vret iP_become_35 rfl ?_
    rfl
  · have e : beI mI p kd j v = am_u mI (61 + 2 * p) j v := by unfold beI; rw [if_neg h3]
    rw [e]
    refine go_aloadn_0 iP_become_0 rfl ?_
    refine go_getI iP_become_1 (Or.inl rfl) (by assumption) ?_
    try simp (disch := omega) only [am_u_n, am_u_s, am_u_k, hkT]
    refine go_iconst (v := nI 3) iP_become_4 rfl ?_
    first | refine gn_ic_ne iP_become_5 (by omega) (by omega) (fun c_5 => ?_) (fun c_5 => ?_) | refine go_ic_ne iP_become_5 (fun c_5 => ?_) (fun c_5 => ?_)
    rotate_left
    · (first | omega | exact absurd c_5 (by decide) | (exfalso; simp (disch := omega) only [Int32.lt_iff_toInt_lt, Int32.le_iff_toInt_le, ← Int32.toInt_inj, nI_toInt, i32_m1, i32_0, i32_m20, i32_m40, i32_m30, i32_m9] at *; omega))
    refine go_iloadn_1 iP_become_19 ?_
    refine go_if_lt iP_become_20 (fun c_20 => ?_) (fun c_20 => ?_)
    · (first | omega | exact absurd c_20 (by decide) | (exfalso; simp (disch := omega) only [Int32.lt_iff_toInt_lt, Int32.le_iff_toInt_le, ← Int32.toInt_inj, nI_toInt, i32_m1, i32_0, i32_m20, i32_m40, i32_m30, i32_m9] at *; omega))
    refine go_iloadn_1 iP_become_23 ?_
    refine go_iconst (v := nI 4) iP_become_24 rfl ?_
    first | refine gn_ic_ge iP_become_25 (by omega) (by omega) (fun c_25 => ?_) (fun c_25 => ?_) | refine go_ic_ge iP_become_25 (fun c_25 => ?_) (fun c_25 => ?_)
    · (first | omega | exact absurd c_25 (by decide) | (exfalso; simp (disch := omega) only [Int32.lt_iff_toInt_lt, Int32.le_iff_toInt_le, ← Int32.toInt_inj, nI_toInt, i32_m1, i32_0, i32_m20, i32_m40, i32_m30, i32_m9] at *; omega))
    refine go_aloadn_0 iP_become_28 rfl ?_
    refine go_getR iP_become_29 rfl (by assumption) (by assumption) ?_
    refine go_iloadn_1 iP_become_32 ?_
    refine go_iloadn_2 iP_become_33 ?_
    refine go_iast iP_become_34 (by assumption) rfl (by omega) (by omega) ?_
    refine go_vret iP_become_35 rfl ?_
    rfl
/-- the reference: the first i of three places are through -/
def chF (f : Nat → Int32) (p kd j : Nat) (v : Int32) (i : Nat) : Nat → Int32 := fun z => if 4 * p ≤ z ∧ z < 4 * p + i ∧ (z = 4 * p + j ∨ kd = 3) then v else f z
theorem chF_s (f : Nat → Int32) (p kd j : Nat) (v : Int32) (i : Nat) (x : Int32) (hx : x = if i = j ∨ kd = 3 then v else f (4 * p + i)) : va_up (chF f p kd j v i) (4 * p + i) x = chF f p kd j v (i + 1) := by
  funext z
  unfold va_up chF
  by_cases h : z = 4 * p + i
  · subst h
    rw [if_pos rfl, hx]
    by_cases h2 : i = j ∨ kd = 3
    · rw [if_pos h2, if_pos (by omega)]
    · rw [if_neg h2, if_neg (by omega)]
  · rw [if_neg h]
    by_cases h2 : 4 * p ≤ z ∧ z < 4 * p + i ∧ (z = 4 * p + j ∨ kd = 3)
    · rw [if_pos h2, if_pos (by omega)]
    · rw [if_neg h2, if_neg (by omega)]
theorem lo_M_change {kd j : Nat} {v w : Int32} (hp : p < 8) (hkM : mI 45 p = nI kd) (hkd : kd < 4) (hj : j < 4) {Q : Option Value × am_M → Prop} (kq : Go S 2 tM_change ((am_sh n, va_up mI 46 (chF (mI 46) p kd j v 3), mL, am_mR n), 122, [.ref 43, .int (nI p), .int (nI j), .int v, .int w, .int (nI 3)], []) Q) : ∀ k i, i + k = 3 → Go S 2 tM_change ((am_sh n, va_up mI 46 (chF (mI 46) p kd j v i), mL, am_mR n), 68, [.ref 43, .int (nI p), .int (nI j), .int v, .int w, .int (nI i)], []) Q
  | 0, i, hi => by
    obtain rfl : i = 3 := by omega
    refine go_iload_5 iM_change_68 ?_
    refine go_iconst (v := nI 3) iM_change_70 rfl ?_
    first | refine gn_ic_ge iM_change_71 (by omega) (by omega) (fun c_71 => ?_) (fun c_71 => ?_) | refine go_ic_ge iM_change_71 (fun c_71 => ?_) (fun c_71 => ?_)
    rotate_left
    · (first | omega | exact absurd c_71 (by decide) | (exfalso; simp (disch := omega) only [Int32.lt_iff_toInt_lt, Int32.le_iff_toInt_le, ← Int32.toInt_inj, nI_toInt, i32_m1, i32_0, i32_m20, i32_m40, i32_m30, i32_m9] at *; omega))
    exact kq
  | k + 1, i, hi => by
    have hkM' : va_up mI 46 (chF (mI 46) p kd j v i) 45 p = nI kd := by rw [va_up_ne _ _ (by decide)]; exact hkM
    have hch : va_up mI 46 (chF (mI 46) p kd j v i) 46 (4 * p + i) = mI 46 (4 * p + i) := by
      rw [va_up_self]
      unfold chF
      rw [if_neg (by omega)]
    have fin : ∀ x, x = (if i = j ∨ kd = 3 then v else mI 46 (4 * p + i)) → Go S 2 tM_change ((am_sh n, va_up mI 46 (chF (mI 46) p kd j v i), mL, am_mR n), 115, [.ref 43, .int (nI p), .int (nI j), .int v, .int w, .int (nI i)], [.int x, .int (nI (4 * p + i)), .ref 46]) Q := by
      intro x hx
      refine go_iast iM_change_115 (sh_46 _) rfl (by omega) (by omega) ?_
      first | refine go_iinc_5 iM_change_116 (ni_inc _ 1) (by simp [Value.category, am_U]) ?_ | refine go_iinc_5 iM_change_116 rfl (by simp [Value.category, am_U]) ?_
      refine go_goto iM_change_119 ?_
      rw [am_u_up, chF_s _ _ _ _ _ _ _ hx]
      exact lo_M_change hp hkM hkd hj kq k (i + 1) (by omega)
    refine go_iload_5 iM_change_68 ?_
    refine go_iconst (v := nI 3) iM_change_70 rfl ?_
    first | refine gn_ic_ge iM_change_71 (by omega) (by omega) (fun c_71 => ?_) (fun c_71 => ?_) | refine go_ic_ge iM_change_71 (fun c_71 => ?_) (fun c_71 => ?_)
    · (first | omega | exact absurd c_71 (by decide) | (exfalso; simp (disch := omega) only [Int32.lt_iff_toInt_lt, Int32.le_iff_toInt_le, ← Int32.toInt_inj, nI_toInt, i32_m1, i32_0, i32_m20, i32_m40, i32_m30, i32_m9] at *; omega))
    refine go_aloadn_0 iM_change_74 rfl ?_
    refine go_getR iM_change_75 rfl (sk_43 _) (mR_43_7 _) ?_
    refine go_iconst (v := nI 4) iM_change_78 rfl ?_
    refine go_iloadn_1 iM_change_79 ?_
    first | refine gn_imul iM_change_80 ?_ | refine go_imul iM_change_80 ?_
    refine go_iload_5 iM_change_81 ?_
    first | refine gn_iadd iM_change_83 ?_ | refine go_iadd iM_change_83 ?_
    refine go_iload_5 iM_change_84 ?_
    refine go_iloadn_2 iM_change_86 ?_
    first | refine gn_ic_eq iM_change_87 (by omega) (by omega) (fun c_87 => ?_) (fun c_87 => ?_) | refine go_ic_eq iM_change_87 (fun c_87 => ?_) (fun c_87 => ?_)
    · refine go_iloadn_3 iM_change_100 ?_
      refine go_goto iM_change_101 ?_
      refine fin _ ?_
      first | rw [if_pos (by omega)] | rw [if_neg (by omega)]
    · refine go_aloadn_0 iM_change_90 rfl ?_
      refine go_getR iM_change_91 rfl (sk_43 _) (mR_43_6 _) ?_
      refine go_iloadn_1 iM_change_94 ?_
      refine go_iald iM_change_95 (sh_45 _) rfl (by omega) (by omega) ?_
      try simp (disch := omega) only [am_u_n, am_u_s, am_u_k, hkM', hch]
      refine go_iconst (v := nI 3) iM_change_96 rfl ?_
      first | refine gn_ic_ne iM_change_97 (by omega) (by omega) (fun c_97 => ?_) (fun c_97 => ?_) | refine go_ic_ne iM_change_97 (fun c_97 => ?_) (fun c_97 => ?_)
      · refine go_aloadn_0 iM_change_104 rfl ?_
        refine go_getR iM_change_105 rfl (sk_43 _) (mR_43_7 _) ?_
        refine go_iconst (v := nI 4) iM_change_108 rfl ?_
        refine go_iloadn_1 iM_change_109 ?_
        first | refine gn_imul iM_change_110 ?_ | refine go_imul iM_change_110 ?_
        refine go_iload_5 iM_change_111 ?_
        first | refine gn_iadd iM_change_113 ?_ | refine go_iadd iM_change_113 ?_
        refine go_iald iM_change_114 (sh_46 _) rfl (by omega) (by omega) ?_
        try simp (disch := omega) only [am_u_n, am_u_s, am_u_k, hkM', hch]
        refine fin _ ?_
        first | rw [if_pos (by omega)] | rw [if_neg (by omega)]
      · refine go_iloadn_3 iM_change_100 ?_
        refine go_goto iM_change_101 ?_
        refine fin _ ?_
        first | rw [if_pos (by omega)] | rw [if_neg (by omega)]
theorem pr_change (x y z : Int32) (hR : Rel n mI mL) : Pair S tT_change tM_change [.int x, .int y, .int z] n mI mL := by
  have hR' := hR
  obtain ⟨h8, ⟨m, hm1, hm3, hmT, hmM⟩, hcT, hcM, hpl, hro, hfi, hfs, hu, hl, hch⟩ := hR
  rcases pl_cases x n h8 with ⟨p, hp, rfl⟩ | hx
  · have hk := sk_play hp
    have hr := mR_wins n hp
    have hv := sh_wins hp
    obtain ⟨kd, hkd, hkT, hkM, hsz, hw, ho, ho3⟩ := hpl p hp
    have hz4 := szK_le kd
    have hcMr : ∀ f, rfI mI f 43 5 = nI n := fun f => by rw [rfI_r (by decide) (by decide)]; exact hcM
    have hkMr : ∀ f, rfI mI f 45 p = nI kd := fun f => by rw [rfI_r (by decide) (by decide)]; exact hkM
    rcases odd_cases z with ⟨a, ha, rfl⟩ | hz
    · by_cases h0 : kd = 0
      · subst h0
        have hkM3 := hkMr 3
        refine Pair.refuse (h1 := 3) (h2 := 2) (f := 3) hR' (by decide) ?_ ?_
        · show Go _ _ tT_change (_, 0, [.ref 0, .int (nI p), .int y, .int (nI a), am_U, am_U], []) _
          refine go_aloadn_0 iT_change_0 rfl ?_
          refine go_iloadn_1 iT_change_1 ?_
          refine gc_V1 iT_change_2 rfl (by decide) (sk_0 _) rfl (Nat.le_of_ble_eq_true rfl) (Nat.le_of_ble_eq_true rfl) (by decide) (sp_T_playAt_t h8 hcT hp) ?_
          refine go_astore_4 iT_change_5 rfl (by simp [Value.category, am_U]) ?_
          refine go_aload_4 iT_change_7 rfl ?_
          refine go_nulR iT_change_9 ?_
          refine go_iloadn_3 iT_change_12 ?_
          refine gc_S1 iT_change_13 (by decide) rfl rfl (Nat.le_of_ble_eq_true rfl) (Nat.le_of_ble_eq_true rfl) (by decide) (sp_T_isOdds_t ha) ?_
          refine go_if_ne iT_change_16 (fun c_16 => ?_) (fun c_16 => ?_)
          rotate_left
          · (first | omega | exact absurd c_16 (by decide) | (exfalso; simp (disch := omega) only [Int32.lt_iff_toInt_lt, Int32.le_iff_toInt_le, ← Int32.toInt_inj, nI_toInt, i32_m1, i32_0, i32_m20, i32_m40, i32_m30, i32_m9] at *; omega))
          refine go_aload_4 iT_change_21 rfl ?_
          refine go_getI iT_change_23 (Or.inl rfl) (by assumption) ?_
          try simp (disch := omega) only [am_u_n, am_u_s, am_u_k, hkT]
          refine go_if_ne iT_change_26 (fun c_26 => ?_) (fun c_26 => ?_)
          · (first | omega | exact absurd c_26 (by decide) | (exfalso; simp (disch := omega) only [Int32.lt_iff_toInt_lt, Int32.le_iff_toInt_le, ← Int32.toInt_inj, nI_toInt, i32_m1, i32_0, i32_m20, i32_m40, i32_m30, i32_m9] at *; omega))
          refine go_aloadn_0 iT_change_29 rfl ?_
          refine go_iconst (v := nI 3) iT_change_30 rfl ?_
          refine gc_V1 iT_change_31 rfl (by decide) (sk_0 _) rfl (Nat.le_of_ble_eq_true rfl) (Nat.le_of_ble_eq_true rfl) (by decide) (sp_T_refuse (by decide)) ?_
          refine go_iret iT_change_34 rfl ?_
          rfl
        · show Go _ _ tM_change (_, 0, [.ref 43, .int (nI p), .int y, .int (nI a), am_U, am_U], []) _
          refine go_aloadn_0 iM_change_0 rfl ?_
          refine go_iloadn_1 iM_change_1 ?_
          refine gc_V1 iM_change_2 rfl (by decide) (sk_43 _) rfl (Nat.le_of_ble_eq_true rfl) (Nat.le_of_ble_eq_true rfl) (by decide) (sp_M_isPlay_t h8 (hcMr 3) hp) ?_
          refine go_if_eq iM_change_5 (fun c_5 => ?_) (fun c_5 => ?_)
          · (first | omega | exact absurd c_5 (by decide) | (exfalso; simp (disch := omega) only [Int32.lt_iff_toInt_lt, Int32.le_iff_toInt_le, ← Int32.toInt_inj, nI_toInt, i32_m1, i32_0, i32_m20, i32_m40, i32_m30, i32_m9] at *; omega))
          refine go_iloadn_3 iM_change_8 ?_
          refine gc_S1 iM_change_9 (by decide) rfl rfl (Nat.le_of_ble_eq_true rfl) (Nat.le_of_ble_eq_true rfl) (by decide) (sp_M_isOdds_t ha) ?_
          refine go_if_ne iM_change_12 (fun c_12 => ?_) (fun c_12 => ?_)
          rotate_left
          · (first | omega | exact absurd c_12 (by decide) | (exfalso; simp (disch := omega) only [Int32.lt_iff_toInt_lt, Int32.le_iff_toInt_le, ← Int32.toInt_inj, nI_toInt, i32_m1, i32_0, i32_m20, i32_m40, i32_m30, i32_m9] at *; omega))
          refine go_aloadn_0 iM_change_17 rfl ?_
          refine go_getR iM_change_18 rfl (sk_43 _) (mR_43_6 _) ?_
          refine go_iloadn_1 iM_change_21 ?_
          refine go_iald iM_change_22 (sh_45 _) rfl (by omega) (by omega) ?_
          try simp (disch := omega) only [am_u_n, am_u_s, am_u_k, hkM3]
          refine go_if_ne iM_change_23 (fun c_23 => ?_) (fun c_23 => ?_)
          · (first | omega | exact absurd c_23 (by decide) | (exfalso; simp (disch := omega) only [Int32.lt_iff_toInt_lt, Int32.le_iff_toInt_le, ← Int32.toInt_inj, nI_toInt, i32_m1, i32_0, i32_m20, i32_m40, i32_m30, i32_m9] at *; omega))
          refine go_aloadn_0 iM_change_26 rfl ?_
          refine go_iconst (v := nI 3) iM_change_27 rfl ?_
          refine gc_V1 iM_change_28 rfl (by decide) (sk_43 _) rfl (Nat.le_of_ble_eq_true rfl) (Nat.le_of_ble_eq_true rfl) (by decide) (sp_M_meets (by decide)) ?_
          refine go_iret iM_change_31 rfl ?_
          rfl
      · have hs1 : 1 ≤ szK kd := by
          unfold szK
          (repeat' split) <;> omega
        rcases int_cases y (szK kd - 1) (by omega) with ⟨j, hj, rfl⟩ | hy
        · have hjo := odd_eq ho ho3 j (by omega)
          have hb1 : ∀ c, c ≠ 61 + 2 * p → beI mI p kd j (nI a) c = mI c := fun c hc => by
            unfold beI
            split
            · rw [va_up_ne _ _ hc]
            · rw [am_u_r hc]
          have hb43 := hb1 43 (by omega)
          have hb45 := hb1 45 (by omega)
          have hb46 := hb1 46 (by omega)
          refine Pair.mk (h1 := 3) (h2 := 2) (n1 := n) (mI1 := beI mI p kd j (nI a)) (mL1 := mL) (mI2 := am_u (va_up (beI mI p kd j (nI a)) 46 (chF (mI 46) p kd j (nI a) 3)) 46 (4 * p + j) (nI a)) (mL2 := mL) (v := .int (mI (61 + 2 * p) j)) ?_ ?_ ?_ (by decide) (by decide) (Nat.le_refl _) (by omega)
          · show Go _ _ tT_change (_, 0, [.ref 0, .int (nI p), .int (nI j), .int (nI a), am_U, am_U], []) _
            refine go_aloadn_0 iT_change_0 rfl ?_
            refine go_iloadn_1 iT_change_1 ?_
            refine gc_V1 iT_change_2 rfl (by decide) (sk_0 _) rfl (Nat.le_of_ble_eq_true rfl) (Nat.le_of_ble_eq_true rfl) (by decide) (sp_T_playAt_t h8 hcT hp) ?_
            refine go_astore_4 iT_change_5 rfl (by simp [Value.category, am_U]) ?_
            refine go_aload_4 iT_change_7 rfl ?_
            refine go_nulR iT_change_9 ?_
            refine go_iloadn_3 iT_change_12 ?_
            refine gc_S1 iT_change_13 (by decide) rfl rfl (Nat.le_of_ble_eq_true rfl) (Nat.le_of_ble_eq_true rfl) (by decide) (sp_T_isOdds_t ha) ?_
            refine go_if_ne iT_change_16 (fun c_16 => ?_) (fun c_16 => ?_)
            rotate_left
            · (first | omega | exact absurd c_16 (by decide) | (exfalso; simp (disch := omega) only [Int32.lt_iff_toInt_lt, Int32.le_iff_toInt_le, ← Int32.toInt_inj, nI_toInt, i32_m1, i32_0, i32_m20, i32_m40, i32_m30, i32_m9] at *; omega))
            refine go_aload_4 iT_change_21 rfl ?_
            refine go_getI iT_change_23 (Or.inl rfl) (by assumption) ?_
            try simp (disch := omega) only [am_u_n, am_u_s, am_u_k, hkT, hsz]
            refine go_if_ne iT_change_26 (fun c_26 => ?_) (fun c_26 => ?_)
            rotate_left
            · (first | omega | exact absurd c_26 (by decide) | (exfalso; simp (disch := omega) only [Int32.lt_iff_toInt_lt, Int32.le_iff_toInt_le, ← Int32.toInt_inj, nI_toInt, i32_m1, i32_0, i32_m20, i32_m40, i32_m30, i32_m9] at *; omega))
            refine go_iloadn_2 iT_change_35 ?_
            refine go_if_lt iT_change_36 (fun c_36 => ?_) (fun c_36 => ?_)
            · (first | omega | exact absurd c_36 (by decide) | (exfalso; simp (disch := omega) only [Int32.lt_iff_toInt_lt, Int32.le_iff_toInt_le, ← Int32.toInt_inj, nI_toInt, i32_m1, i32_0, i32_m20, i32_m40, i32_m30, i32_m9] at *; omega))
            refine go_iloadn_2 iT_change_39 ?_
            refine go_aload_4 iT_change_40 rfl ?_
            refine go_getI iT_change_42 (Or.inl rfl) (by assumption) ?_
            try simp (disch := omega) only [am_u_n, am_u_s, am_u_k, hkT, hsz]
            first | refine gn_ic_lt iT_change_45 (by omega) (by omega) (fun c_45 => ?_) (fun c_45 => ?_) | refine go_ic_lt iT_change_45 (fun c_45 => ?_) (fun c_45 => ?_)
            rotate_left
            · (first | omega | exact absurd c_45 (by decide) | (exfalso; simp (disch := omega) only [Int32.lt_iff_toInt_lt, Int32.le_iff_toInt_le, ← Int32.toInt_inj, nI_toInt, i32_m1, i32_0, i32_m20, i32_m40, i32_m30, i32_m9] at *; omega))
            refine go_aload_4 iT_change_54 rfl ?_
            refine go_getR iT_change_56 rfl (by assumption) (by assumption) ?_
            refine go_iloadn_2 iT_change_59 ?_
            refine go_iald iT_change_60 (by assumption) rfl (by omega) (by omega) ?_
            try simp (disch := omega) only [am_u_n, am_u_s, am_u_k, hkT, hsz]
            refine go_istore_5 iT_change_61 (by simp [Value.category, am_U]) ?_
            refine go_aload_4 iT_change_63 rfl ?_
            refine go_iloadn_2 iT_change_65 ?_
            refine go_iloadn_3 iT_change_66 ?_
            refine gc_V0 iT_change_67 rfl (by decide) (by assumption) rfl (Nat.le_of_ble_eq_true rfl) (Nat.le_of_ble_eq_true rfl) (by decide) (sp_P_become hp hkT hkd (by omega)) ?_
            refine go_iload_5 iT_change_70 ?_
            refine go_iret iT_change_72 rfl ?_
            rfl
          · have hcM1 : beI mI p kd j (nI a) 43 5 = nI n := by rw [hb43]; exact hcM
            have hkM1 : beI mI p kd j (nI a) 45 p = nI kd := by rw [hb45]; exact hkM
            have hw1 : beI mI p kd j (nI a) 46 (4 * p + j) = mI (61 + 2 * p) j := by rw [hb46, hjo]
            show Go _ _ tM_change (_, 0, [.ref 43, .int (nI p), .int (nI j), .int (nI a), am_U, am_U], []) _
            refine go_aloadn_0 iM_change_0 rfl ?_
            refine go_iloadn_1 iM_change_1 ?_
            refine gc_V1 iM_change_2 rfl (by decide) (sk_43 _) rfl (Nat.le_of_ble_eq_true rfl) (Nat.le_of_ble_eq_true rfl) (by decide) (sp_M_isPlay_t h8 hcM1 hp) ?_
            refine go_if_eq iM_change_5 (fun c_5 => ?_) (fun c_5 => ?_)
            · (first | omega | exact absurd c_5 (by decide) | (exfalso; simp (disch := omega) only [Int32.lt_iff_toInt_lt, Int32.le_iff_toInt_le, ← Int32.toInt_inj, nI_toInt, i32_m1, i32_0, i32_m20, i32_m40, i32_m30, i32_m9] at *; omega))
            refine go_iloadn_3 iM_change_8 ?_
            refine gc_S1 iM_change_9 (by decide) rfl rfl (Nat.le_of_ble_eq_true rfl) (Nat.le_of_ble_eq_true rfl) (by decide) (sp_M_isOdds_t ha) ?_
            refine go_if_ne iM_change_12 (fun c_12 => ?_) (fun c_12 => ?_)
            rotate_left
            · (first | omega | exact absurd c_12 (by decide) | (exfalso; simp (disch := omega) only [Int32.lt_iff_toInt_lt, Int32.le_iff_toInt_le, ← Int32.toInt_inj, nI_toInt, i32_m1, i32_0, i32_m20, i32_m40, i32_m30, i32_m9] at *; omega))
            refine go_aloadn_0 iM_change_17 rfl ?_
            refine go_getR iM_change_18 rfl (sk_43 _) (mR_43_6 _) ?_
            refine go_iloadn_1 iM_change_21 ?_
            refine go_iald iM_change_22 (sh_45 _) rfl (by omega) (by omega) ?_
            try simp (disch := omega) only [am_u_n, am_u_s, am_u_k, hkM1, hw1]
            refine go_if_ne iM_change_23 (fun c_23 => ?_) (fun c_23 => ?_)
            rotate_left
            · (first | omega | exact absurd c_23 (by decide) | (exfalso; simp (disch := omega) only [Int32.lt_iff_toInt_lt, Int32.le_iff_toInt_le, ← Int32.toInt_inj, nI_toInt, i32_m1, i32_0, i32_m20, i32_m40, i32_m30, i32_m9] at *; omega))
            refine go_iloadn_2 iM_change_32 ?_
            refine go_iconst (v := nI 0) iM_change_33 rfl ?_
            refine go_aloadn_0 iM_change_34 rfl ?_
            refine go_iloadn_1 iM_change_35 ?_
            refine gc_V1 iM_change_36 rfl (by decide) (sk_43 _) rfl (Nat.le_of_ble_eq_true rfl) (Nat.le_of_ble_eq_true rfl) (by decide) (sp_M_many (by omega) hkM1 hkd) ?_
            refine go_iconst (v := nI 1) iM_change_39 rfl ?_
            first | refine gn_isub iM_change_40 (by omega) ?_ | refine go_isub iM_change_40 ?_
            refine gc_S1 iM_change_41 (by decide) rfl rfl (Nat.le_of_ble_eq_true rfl) (Nat.le_of_ble_eq_true rfl) (by decide) (sp_M_in_t (by simp (disch := omega) only [nI_toInt]; omega) (by simp (disch := omega) only [nI_toInt]; omega)) ?_
            refine go_if_ne iM_change_44 (fun c_44 => ?_) (fun c_44 => ?_)
            rotate_left
            · (first | omega | exact absurd c_44 (by decide) | (exfalso; simp (disch := omega) only [Int32.lt_iff_toInt_lt, Int32.le_iff_toInt_le, ← Int32.toInt_inj, nI_toInt, i32_m1, i32_0, i32_m20, i32_m40, i32_m30, i32_m9] at *; omega))
            refine go_aloadn_0 iM_change_53 rfl ?_
            refine go_getR iM_change_54 rfl (sk_43 _) (mR_43_7 _) ?_
            refine go_iconst (v := nI 4) iM_change_57 rfl ?_
            refine go_iloadn_1 iM_change_58 ?_
            first | refine gn_imul iM_change_59 ?_ | refine go_imul iM_change_59 ?_
            refine go_iloadn_2 iM_change_60 ?_
            first | refine gn_iadd iM_change_61 ?_ | refine go_iadd iM_change_61 ?_
            refine go_iald iM_change_62 (sh_46 _) rfl (by omega) (by omega) ?_
            try simp (disch := omega) only [am_u_n, am_u_s, am_u_k, hkM1, hw1]
            refine go_istore_4 iM_change_63 (by simp [Value.category, am_U]) ?_
            refine go_iconst (v := nI 0) iM_change_65 rfl ?_
            refine go_istore_5 iM_change_66 (by simp [Value.category, am_U]) ?_
            have lo := @lo_M_change S (beI mI p kd j (nI a)) mL n p kd j (nI a) (mI (61 + 2 * p) j) (by omega) hkM1 hkd (by omega)
            rw [hb46] at lo
            have e0 : va_up (beI mI p kd j (nI a)) 46 (chF (mI 46) p kd j (nI a) 0) = beI mI p kd j (nI a) := by
              rw [show chF (mI 46) p kd j (nI a) 0 = beI mI p kd j (nI a) 46 from ?_, va_up_id]
              · rw [hb46]
                funext z
                unfold chF
                rw [if_neg (by omega)]
            have l0 := lo (Q := (fun q => q = (some (.int (mI (61 + 2 * p) j)), (am_sh n, am_u (va_up (beI mI p kd j (nI a)) 46 (chF (mI 46) p kd j (nI a) 3)) 46 (4 * p + j) (nI a), mL, am_mR n)))) ?_ 3 0 (by omega)
            · rw [e0] at l0
              exact l0
            refine go_aloadn_0 iM_change_122 rfl ?_
            refine go_getR iM_change_123 rfl (sk_43 _) (mR_43_7 _) ?_
            refine go_iconst (v := nI 4) iM_change_126 rfl ?_
            refine go_iloadn_1 iM_change_127 ?_
            first | refine gn_imul iM_change_128 ?_ | refine go_imul iM_change_128 ?_
            refine go_iloadn_2 iM_change_129 ?_
            first | refine gn_iadd iM_change_130 ?_ | refine go_iadd iM_change_130 ?_
            refine go_iloadn_3 iM_change_131 ?_
            refine go_iast iM_change_132 (sh_46 _) rfl (by omega) (by omega) ?_
            refine go_iload_4 iM_change_133 ?_
            refine go_iret iM_change_135 rfl ?_
            rfl
          · rw [am_u_up]
            have r46 : ∀ z, va_up (beI mI p kd j (nI a)) 46 (va_up (chF (mI 46) p kd j (nI a) 3) (4 * p + j) (nI a)) 46 z = if z = 4 * p + j then nI a else chF (mI 46) p kd j (nI a) 3 z := fun z => by rw [va_up_self]; rfl
            have roth : ∀ c, c ≠ 46 → c ≠ 61 + 2 * p → va_up (beI mI p kd j (nI a)) 46 (va_up (chF (mI 46) p kd j (nI a) 3) (4 * p + j) (nI a)) c = mI c := fun c h1 h2 => by rw [va_up_ne _ _ h1, hb1 c h2]
            have rw' : ∀ z, z < 4 → va_up (beI mI p kd j (nI a)) 46 (va_up (chF (mI 46) p kd j (nI a) 3) (4 * p + j) (nI a)) (61 + 2 * p) z = if z = j ∨ kd = 3 then nI a else mI (61 + 2 * p) z := fun z hz => by
              rw [va_up_ne _ _ (by omega)]
              unfold beI
              by_cases h3 : kd = 3
              · rw [if_pos h3, va_up_self, if_pos (Or.inr h3)]
                unfold fl
                rw [if_pos hz]
              · rw [if_neg h3]
                by_cases hzj : z = j
                · subst hzj
                  rw [am_u_s, if_pos (Or.inl rfl)]
                · rw [am_u_k hzj, if_neg (by omega)]
            have hkk : kd = 3 → szK kd = 1 := fun h => by rw [h]; rfl
            refine ⟨h8, ⟨m, hm1, hm3, ?_, ?_⟩, ?_, ?_, fun p' hp' => ?_, fun r hr => (hro r hr).of ?_ ?_ ?_ (fun j hj => ?_), ?_, fun f hf => ?_, hu, hl, fun j hj => ?_⟩
            case refine_5 =>
              by_cases e : p' = p
              · subst e
                refine ⟨kd, hkd, ?_, ?_, ?_, fun z hz => ?_, fun z hz => ?_, fun h2 => ?_⟩
                · rw [roth _ (by omega) (by omega)]; exact hkT
                · rw [roth _ (by omega) (by omega)]; exact hkM
                · rw [roth _ (by omega) (by omega)]; exact hsz
                · rw [rw' z hz]
                  split
                  · exact ⟨a, ha, rfl⟩
                  · exact hw z hz
                · rw [r46, rw' z (by omega)]
                  by_cases h2 : z = j ∨ kd = 3
                  · rw [if_pos h2]
                    split
                    · rfl
                    · unfold chF
                      rw [if_pos (by omega)]
                  · rw [if_neg h2, if_neg (by omega)]
                    unfold chF
                    rw [if_neg (by omega)]
                    exact ho z hz
                · rw [r46, rw' 3 (by omega)]
                  by_cases h3 : j = 3
                  · rw [if_pos (by omega), if_pos (by omega)]
                  · rw [if_neg (by omega), if_neg (by omega)]
                    unfold chF
                    rw [if_neg (by omega)]
                    exact ho3 h2
              · refine (hpl p' hp').of ?_ ?_ ?_ (fun z hz => ?_)
                · exact roth _ (by omega) (by omega)
                · exact roth _ (by omega) (by omega)
                · rw [roth _ (by omega) (by omega)]
                · rw [r46, if_neg (by omega)]
                  unfold chF
                  rw [if_neg (by omega)]
            all_goals (first | (rw [roth _ (by omega) (by omega)]; first | assumption | done) | (rw [roth _ (by omega) (by omega), roth _ (by omega) (by omega)]; first | assumption | exact hfs _ hf | exact hch _ hj))
        · have hkM2 := hkMr 2
          refine Pair.refuse (h1 := 3) (h2 := 2) (f := 2) hR' (by decide) ?_ ?_
          · show Go _ _ tT_change (_, 0, [.ref 0, .int (nI p), .int y, .int (nI a), am_U, am_U], []) _
            refine go_aloadn_0 iT_change_0 rfl ?_
            refine go_iloadn_1 iT_change_1 ?_
            refine gc_V1 iT_change_2 rfl (by decide) (sk_0 _) rfl (Nat.le_of_ble_eq_true rfl) (Nat.le_of_ble_eq_true rfl) (by decide) (sp_T_playAt_t h8 hcT hp) ?_
            refine go_astore_4 iT_change_5 rfl (by simp [Value.category, am_U]) ?_
            refine go_aload_4 iT_change_7 rfl ?_
            refine go_nulR iT_change_9 ?_
            refine go_iloadn_3 iT_change_12 ?_
            refine gc_S1 iT_change_13 (by decide) rfl rfl (Nat.le_of_ble_eq_true rfl) (Nat.le_of_ble_eq_true rfl) (by decide) (sp_T_isOdds_t ha) ?_
            refine go_if_ne iT_change_16 (fun c_16 => ?_) (fun c_16 => ?_)
            rotate_left
            · (first | omega | exact absurd c_16 (by decide) | (exfalso; simp (disch := omega) only [Int32.lt_iff_toInt_lt, Int32.le_iff_toInt_le, ← Int32.toInt_inj, nI_toInt, i32_m1, i32_0, i32_m20, i32_m40, i32_m30, i32_m9] at *; omega))
            refine go_aload_4 iT_change_21 rfl ?_
            refine go_getI iT_change_23 (Or.inl rfl) (by assumption) ?_
            try simp (disch := omega) only [am_u_n, am_u_s, am_u_k, hkT, hsz]
            refine go_if_ne iT_change_26 (fun c_26 => ?_) (fun c_26 => ?_)
            rotate_left
            · (first | omega | exact absurd c_26 (by decide) | (exfalso; simp (disch := omega) only [Int32.lt_iff_toInt_lt, Int32.le_iff_toInt_le, ← Int32.toInt_inj, nI_toInt, i32_m1, i32_0, i32_m20, i32_m40, i32_m30, i32_m9] at *; omega))
            refine go_iloadn_2 iT_change_35 ?_
            refine go_if_lt iT_change_36 (fun c_36 => ?_) (fun c_36 => ?_)
            · refine go_aloadn_0 iT_change_48 rfl ?_
              refine go_iconst (v := nI 2) iT_change_49 rfl ?_
              refine gc_V1 iT_change_50 rfl (by decide) (sk_0 _) rfl (Nat.le_of_ble_eq_true rfl) (Nat.le_of_ble_eq_true rfl) (by decide) (sp_T_refuse (by decide)) ?_
              refine go_iret iT_change_53 rfl ?_
              rfl
            · refine go_iloadn_2 iT_change_39 ?_
              refine go_aload_4 iT_change_40 rfl ?_
              refine go_getI iT_change_42 (Or.inl rfl) (by assumption) ?_
              try simp (disch := omega) only [am_u_n, am_u_s, am_u_k, hkT, hsz]
              first | refine gn_ic_lt iT_change_45 (by omega) (by omega) (fun c_45 => ?_) (fun c_45 => ?_) | refine go_ic_lt iT_change_45 (fun c_45 => ?_) (fun c_45 => ?_)
              · (first | omega | exact absurd c_45 (by decide) | (exfalso; simp (disch := omega) only [Int32.lt_iff_toInt_lt, Int32.le_iff_toInt_le, ← Int32.toInt_inj, nI_toInt, i32_m1, i32_0, i32_m20, i32_m40, i32_m30, i32_m9] at *; omega))
              · refine go_aloadn_0 iT_change_48 rfl ?_
                refine go_iconst (v := nI 2) iT_change_49 rfl ?_
                refine gc_V1 iT_change_50 rfl (by decide) (sk_0 _) rfl (Nat.le_of_ble_eq_true rfl) (Nat.le_of_ble_eq_true rfl) (by decide) (sp_T_refuse (by decide)) ?_
                refine go_iret iT_change_53 rfl ?_
                rfl
          · show Go _ _ tM_change (_, 0, [.ref 43, .int (nI p), .int y, .int (nI a), am_U, am_U], []) _
            refine go_aloadn_0 iM_change_0 rfl ?_
            refine go_iloadn_1 iM_change_1 ?_
            refine gc_V1 iM_change_2 rfl (by decide) (sk_43 _) rfl (Nat.le_of_ble_eq_true rfl) (Nat.le_of_ble_eq_true rfl) (by decide) (sp_M_isPlay_t h8 (hcMr 2) hp) ?_
            refine go_if_eq iM_change_5 (fun c_5 => ?_) (fun c_5 => ?_)
            · (first | omega | exact absurd c_5 (by decide) | (exfalso; simp (disch := omega) only [Int32.lt_iff_toInt_lt, Int32.le_iff_toInt_le, ← Int32.toInt_inj, nI_toInt, i32_m1, i32_0, i32_m20, i32_m40, i32_m30, i32_m9] at *; omega))
            refine go_iloadn_3 iM_change_8 ?_
            refine gc_S1 iM_change_9 (by decide) rfl rfl (Nat.le_of_ble_eq_true rfl) (Nat.le_of_ble_eq_true rfl) (by decide) (sp_M_isOdds_t ha) ?_
            refine go_if_ne iM_change_12 (fun c_12 => ?_) (fun c_12 => ?_)
            rotate_left
            · (first | omega | exact absurd c_12 (by decide) | (exfalso; simp (disch := omega) only [Int32.lt_iff_toInt_lt, Int32.le_iff_toInt_le, ← Int32.toInt_inj, nI_toInt, i32_m1, i32_0, i32_m20, i32_m40, i32_m30, i32_m9] at *; omega))
            refine go_aloadn_0 iM_change_17 rfl ?_
            refine go_getR iM_change_18 rfl (sk_43 _) (mR_43_6 _) ?_
            refine go_iloadn_1 iM_change_21 ?_
            refine go_iald iM_change_22 (sh_45 _) rfl (by omega) (by omega) ?_
            try simp (disch := omega) only [am_u_n, am_u_s, am_u_k, hkM2]
            refine go_if_ne iM_change_23 (fun c_23 => ?_) (fun c_23 => ?_)
            rotate_left
            · (first | omega | exact absurd c_23 (by decide) | (exfalso; simp (disch := omega) only [Int32.lt_iff_toInt_lt, Int32.le_iff_toInt_le, ← Int32.toInt_inj, nI_toInt, i32_m1, i32_0, i32_m20, i32_m40, i32_m30, i32_m9] at *; omega))
            refine go_iloadn_2 iM_change_32 ?_
            refine go_iconst (v := nI 0) iM_change_33 rfl ?_
            refine go_aloadn_0 iM_change_34 rfl ?_
            refine go_iloadn_1 iM_change_35 ?_
            refine gc_V1 iM_change_36 rfl (by decide) (sk_43 _) rfl (Nat.le_of_ble_eq_true rfl) (Nat.le_of_ble_eq_true rfl) (by decide) (sp_M_many (by omega) hkM2 hkd) ?_
            refine go_iconst (v := nI 1) iM_change_39 rfl ?_
            first | refine gn_isub iM_change_40 (by omega) ?_ | refine go_isub iM_change_40 ?_
            refine gc_S1 iM_change_41 (by decide) rfl rfl (Nat.le_of_ble_eq_true rfl) (Nat.le_of_ble_eq_true rfl) (by decide) (sp_M_in_f (by simp (disch := omega) only [nI_toInt]; omega)) ?_
            refine go_if_ne iM_change_44 (fun c_44 => ?_) (fun c_44 => ?_)
            · (first | omega | exact absurd c_44 (by decide) | (exfalso; simp (disch := omega) only [Int32.lt_iff_toInt_lt, Int32.le_iff_toInt_le, ← Int32.toInt_inj, nI_toInt, i32_m1, i32_0, i32_m20, i32_m40, i32_m30, i32_m9] at *; omega))
            refine go_aloadn_0 iM_change_47 rfl ?_
            refine go_iconst (v := nI 2) iM_change_48 rfl ?_
            refine gc_V1 iM_change_49 rfl (by decide) (sk_43 _) rfl (Nat.le_of_ble_eq_true rfl) (Nat.le_of_ble_eq_true rfl) (by decide) (sp_M_meets (by decide)) ?_
            refine go_iret iM_change_52 rfl ?_
            rfl
    · refine Pair.same (h1 := 3) (h2 := 2) (v := .int (-1)) hR' ?_ ?_
      · show Go _ _ tT_change (_, 0, [.ref 0, .int (nI p), .int y, .int z, am_U, am_U], []) _
        refine go_aloadn_0 iT_change_0 rfl ?_
        refine go_iloadn_1 iT_change_1 ?_
        refine gc_V1 iT_change_2 rfl (by decide) (sk_0 _) rfl (Nat.le_of_ble_eq_true rfl) (Nat.le_of_ble_eq_true rfl) (by decide) (sp_T_playAt_t h8 hcT hp) ?_
        refine go_astore_4 iT_change_5 rfl (by simp [Value.category, am_U]) ?_
        refine go_aload_4 iT_change_7 rfl ?_
        refine go_nulR iT_change_9 ?_
        refine go_iloadn_3 iT_change_12 ?_
        refine gc_S1 iT_change_13 (by decide) rfl rfl (Nat.le_of_ble_eq_true rfl) (Nat.le_of_ble_eq_true rfl) (by decide) (sp_T_isOdds_f hz) ?_
        refine go_if_ne iT_change_16 (fun c_16 => ?_) (fun c_16 => ?_)
        · (first | omega | exact absurd c_16 (by decide) | (exfalso; simp (disch := omega) only [Int32.lt_iff_toInt_lt, Int32.le_iff_toInt_le, ← Int32.toInt_inj, nI_toInt, i32_m1, i32_0, i32_m20, i32_m40, i32_m30, i32_m9] at *; omega))
        refine go_iconst (v := (-1)) iT_change_19 rfl ?_
        refine go_iret iT_change_20 rfl ?_
        rfl
      · show Go _ _ tM_change (_, 0, [.ref 43, .int (nI p), .int y, .int z, am_U, am_U], []) _
        refine go_aloadn_0 iM_change_0 rfl ?_
        refine go_iloadn_1 iM_change_1 ?_
        refine gc_V1 iM_change_2 rfl (by decide) (sk_43 _) rfl (Nat.le_of_ble_eq_true rfl) (Nat.le_of_ble_eq_true rfl) (by decide) (sp_M_isPlay_t h8 hcM hp) ?_
        refine go_if_eq iM_change_5 (fun c_5 => ?_) (fun c_5 => ?_)
        · (first | omega | exact absurd c_5 (by decide) | (exfalso; simp (disch := omega) only [Int32.lt_iff_toInt_lt, Int32.le_iff_toInt_le, ← Int32.toInt_inj, nI_toInt, i32_m1, i32_0, i32_m20, i32_m40, i32_m30, i32_m9] at *; omega))
        refine go_iloadn_3 iM_change_8 ?_
        refine gc_S1 iM_change_9 (by decide) rfl rfl (Nat.le_of_ble_eq_true rfl) (Nat.le_of_ble_eq_true rfl) (by decide) (sp_M_isOdds_f hz) ?_
        refine go_if_ne iM_change_12 (fun c_12 => ?_) (fun c_12 => ?_)
        · (first | omega | exact absurd c_12 (by decide) | (exfalso; simp (disch := omega) only [Int32.lt_iff_toInt_lt, Int32.le_iff_toInt_le, ← Int32.toInt_inj, nI_toInt, i32_m1, i32_0, i32_m20, i32_m40, i32_m30, i32_m9] at *; omega))
        refine go_iconst (v := (-1)) iM_change_15 rfl ?_
        refine go_iret iM_change_16 rfl ?_
        rfl
  · refine Pair.same (h1 := 3) (h2 := 2) (v := .int (-1)) hR' ?_ ?_
    · show Go _ _ tT_change (_, 0, [.ref 0, .int x, .int y, .int z, am_U, am_U], []) _
      refine go_aloadn_0 iT_change_0 rfl ?_
      refine go_iloadn_1 iT_change_1 ?_
      refine gc_V1 iT_change_2 rfl (by decide) (sk_0 _) rfl (Nat.le_of_ble_eq_true rfl) (Nat.le_of_ble_eq_true rfl) (by decide) (sp_T_playAt_f h8 hcT hx) ?_
      refine go_astore_4 iT_change_5 rfl (by simp [Value.category, am_U]) ?_
      refine go_aload_4 iT_change_7 rfl ?_
      refine go_nulN iT_change_9 ?_
      refine go_iconst (v := (-1)) iT_change_19 rfl ?_
      refine go_iret iT_change_20 rfl ?_
      rfl
    · show Go _ _ tM_change (_, 0, [.ref 43, .int x, .int y, .int z, am_U, am_U], []) _
      refine go_aloadn_0 iM_change_0 rfl ?_
      refine go_iloadn_1 iM_change_1 ?_
      refine gc_V1 iM_change_2 rfl (by decide) (sk_43 _) rfl (Nat.le_of_ble_eq_true rfl) (Nat.le_of_ble_eq_true rfl) (by decide) (sp_M_isPlay_f h8 hcM hx) ?_
      refine go_if_eq iM_change_5 (fun c_5 => ?_) (fun c_5 => ?_)
      rotate_left
      · (first | omega | exact absurd c_5 (by decide) | (exfalso; simp (disch := omega) only [Int32.lt_iff_toInt_lt, Int32.le_iff_toInt_le, ← Int32.toInt_inj, nI_toInt, i32_m1, i32_0, i32_m20, i32_m40, i32_m30, i32_m9] at *; omega))
      refine go_iconst (v := (-1)) iM_change_15 rfl ?_
      refine go_iret iM_change_16 rfl ?_
      rfl
end MRK
