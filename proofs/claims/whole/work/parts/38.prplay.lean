/-! ===== pairs: told, odds, mean, mark ===== -/
theorem pl_cases (x : Int32) (n : Nat) (hn : n ≤ 8) : (∃ p, p < n ∧ x = nI p) ∨ (x.toInt < 0 ∨ (n : Int) ≤ x.toInt) := by
  by_cases h : x.toInt < 0 ∨ (n : Int) ≤ x.toInt
  · exact Or.inr h
  · refine Or.inl ⟨x.toInt.toNat, by omega, ?_⟩
    apply Int32.toInt_inj.mp
    rw [nI_toInt (by omega)]
    omega
section PRP
variable {S : am_S} {mI : Nat → Nat → Int32} {mL : Nat → Nat → Int64} {n : Nat} {p : Nat}
theorem odd_eq {kd : Nat} (ho : ∀ j, j < 3 → mI 46 (4 * p + j) = mI (61 + 2 * p) j) (ho3 : kd = 2 → mI 46 (4 * p + 3) = mI (61 + 2 * p) 3) : ∀ j, j < szK kd → mI (61 + 2 * p) j = mI 46 (4 * p + j) := by
  intro j hj
  by_cases h : j < 3
  · exact (ho j h).symm
  · have h4 := szK_le kd
    obtain rfl : j = 3 := by omega
    have hk : kd = 2 := by
      unfold szK at hj
      revert hj
      (repeat' split) <;> intro hj <;> omega
    exact (ho3 hk).symm
theorem le_tl {f g : Nat → Int32} {s : Nat} (h : ∀ j, j < s → f j = g j) : leK f s = tlF 2 g s := by
  unfold leK tlF
  by_cases e : s = 0
  · rw [if_pos e, if_pos e]
  · rw [if_neg e, if_neg e, if_pos rfl]
    exact minF_congr _ (fun j hj => h j (by omega))
theorem gr_tl {f g : Nat → Int32} {s : Nat} (h : ∀ j, j < s → f j = g j) : grK f s = tlF 3 g s := by
  unfold grK tlF
  by_cases e : s = 0
  · rw [if_pos e, if_pos e]
  · rw [if_neg e, if_neg e, if_neg (by decide)]
    exact maxF_congr _ (fun j hj => h j (by omega))
theorem pr_told (x y : Int32) (hR : Rel n mI mL) : Pair S tT_told tM_told [.int x, .int y] n mI mL := by
  have hR' := hR
  obtain ⟨h8, ⟨m, hm1, hm3, hmT, hmM⟩, hcT, hcM, hpl, hro, hfi, hfs, hu, hl, hch⟩ := hR
  rcases pl_cases x n h8 with ⟨p, hp, rfl⟩ | hx
  · have hk := sk_play hp
    obtain ⟨kd, hkd, hkT, hkM, hsz, hw, ho, ho3⟩ := hpl p hp
    rcases int_cases y 3 (by decide) with ⟨w, hw3, rfl⟩ | hy
    · have hoe := odd_eq ho ho3
      have hz4 := szK_le kd
      refine Pair.same (h1 := 3) (h2 := 3) (v := .int (if w = 0 then nI kd else if w = 1 then nI (szK kd) else tlF w (fun j => mI 46 (4 * p + j)) (szK kd))) hR' ?_ ?_
      · show Go _ _ tT_told (_, 0, [.ref 0, .int (nI p), .int (nI w), am_U], []) _
        rcases (by omega : w = 0 ∨ w = 1 ∨ w = 2 ∨ w = 3) with rfl | rfl | rfl | rfl
        · refine go_aloadn_0 iT_told_0 rfl ?_
          refine go_iloadn_1 iT_told_1 ?_
          refine gc_V1 iT_told_2 rfl (by decide) (sk_0 _) rfl (Nat.le_of_ble_eq_true rfl) (Nat.le_of_ble_eq_true rfl) (by decide) (sp_T_playAt_t h8 hcT hp) ?_
          refine go_astoren_3 iT_told_5 rfl (by simp [Value.category, am_U]) ?_
          refine go_aloadn_3 iT_told_6 rfl ?_
          refine go_nnulR iT_told_7 ?_
          refine go_iloadn_2 iT_told_12 ?_
          refine go_tswI (off := 31) (tgt := 44) iT_told_13 (by decide) (by decide) (by decide) (by decide) ?_
          refine go_aloadn_3 iT_told_44 rfl ?_
          refine go_getI iT_told_45 (Or.inl rfl) (by assumption) ?_
          try simp (disch := omega) only [am_u_n, am_u_s, am_u_k, hkT]
          refine go_iret iT_told_48 rfl ?_
          rfl
        · refine go_aloadn_0 iT_told_0 rfl ?_
          refine go_iloadn_1 iT_told_1 ?_
          refine gc_V1 iT_told_2 rfl (by decide) (sk_0 _) rfl (Nat.le_of_ble_eq_true rfl) (Nat.le_of_ble_eq_true rfl) (by decide) (sp_T_playAt_t h8 hcT hp) ?_
          refine go_astoren_3 iT_told_5 rfl (by simp [Value.category, am_U]) ?_
          refine go_aloadn_3 iT_told_6 rfl ?_
          refine go_nnulR iT_told_7 ?_
          refine go_iloadn_2 iT_told_12 ?_
          refine go_tswI (off := 36) (tgt := 49) iT_told_13 (by decide) (by decide) (by decide) (by decide) ?_
          refine go_aloadn_3 iT_told_49 rfl ?_
          refine go_getI iT_told_50 (Or.inl rfl) (by assumption) ?_
          try simp (disch := omega) only [am_u_n, am_u_s, am_u_k, hsz]
          refine go_iret iT_told_53 rfl ?_
          rfl
        · refine go_aloadn_0 iT_told_0 rfl ?_
          refine go_iloadn_1 iT_told_1 ?_
          refine gc_V1 iT_told_2 rfl (by decide) (sk_0 _) rfl (Nat.le_of_ble_eq_true rfl) (Nat.le_of_ble_eq_true rfl) (by decide) (sp_T_playAt_t h8 hcT hp) ?_
          refine go_astoren_3 iT_told_5 rfl (by simp [Value.category, am_U]) ?_
          refine go_aloadn_3 iT_told_6 rfl ?_
          refine go_nnulR iT_told_7 ?_
          refine go_iloadn_2 iT_told_12 ?_
          refine go_tswI (off := 41) (tgt := 54) iT_told_13 (by decide) (by decide) (by decide) (by decide) ?_
          refine go_aloadn_3 iT_told_54 rfl ?_
          refine gc_V1 iT_told_55 rfl (by decide) (by assumption) rfl (Nat.le_of_ble_eq_true rfl) (Nat.le_of_ble_eq_true rfl) (by decide) (sp_P_least hp hsz hz4) ?_
          refine go_iret iT_told_58 rfl ?_
          rw [le_tl hoe]; rfl
        · refine go_aloadn_0 iT_told_0 rfl ?_
          refine go_iloadn_1 iT_told_1 ?_
          refine gc_V1 iT_told_2 rfl (by decide) (sk_0 _) rfl (Nat.le_of_ble_eq_true rfl) (Nat.le_of_ble_eq_true rfl) (by decide) (sp_T_playAt_t h8 hcT hp) ?_
          refine go_astoren_3 iT_told_5 rfl (by simp [Value.category, am_U]) ?_
          refine go_aloadn_3 iT_told_6 rfl ?_
          refine go_nnulR iT_told_7 ?_
          refine go_iloadn_2 iT_told_12 ?_
          refine go_tswI (off := 46) (tgt := 59) iT_told_13 (by decide) (by decide) (by decide) (by decide) ?_
          refine go_aloadn_3 iT_told_59 rfl ?_
          refine gc_V1 iT_told_60 rfl (by decide) (by assumption) rfl (Nat.le_of_ble_eq_true rfl) (Nat.le_of_ble_eq_true rfl) (by decide) (sp_P_greatest hp hsz hz4) ?_
          refine go_iret iT_told_63 rfl ?_
          rw [gr_tl hoe]; rfl
      · show Go _ _ tM_told (_, 0, [.ref 43, .int (nI p), .int (nI w)], []) _
        refine go_aloadn_0 iM_told_0 rfl ?_
        refine go_iloadn_1 iM_told_1 ?_
        refine gc_V1 iM_told_2 rfl (by decide) (sk_43 _) rfl (Nat.le_of_ble_eq_true rfl) (Nat.le_of_ble_eq_true rfl) (by decide) (sp_M_isPlay_t h8 hcM hp) ?_
        refine go_if_eq iM_told_5 (fun c_5 => ?_) (fun c_5 => ?_)
        · (first | omega | exact absurd c_5 (by decide) | (exfalso; simp (disch := omega) only [Int32.lt_iff_toInt_lt, Int32.le_iff_toInt_le, ← Int32.toInt_inj, nI_toInt, i32_m1, i32_0, i32_m20, i32_m40, i32_m30, i32_m9] at *; omega))
        refine go_iloadn_2 iM_told_8 ?_
        refine go_iconst (v := nI 0) iM_told_9 rfl ?_
        refine go_iconst (v := nI 3) iM_told_10 rfl ?_
        refine gc_S1 iM_told_11 (by decide) rfl rfl (Nat.le_of_ble_eq_true rfl) (Nat.le_of_ble_eq_true rfl) (by decide) (sp_M_in_t (by simp (disch := omega) only [nI_toInt]; omega) (by simp (disch := omega) only [nI_toInt]; omega)) ?_
        refine go_if_eq iM_told_14 (fun c_14 => ?_) (fun c_14 => ?_)
        · (first | omega | exact absurd c_14 (by decide) | (exfalso; simp (disch := omega) only [Int32.lt_iff_toInt_lt, Int32.le_iff_toInt_le, ← Int32.toInt_inj, nI_toInt, i32_m1, i32_0, i32_m20, i32_m40, i32_m30, i32_m9] at *; omega))
        refine go_aloadn_0 iM_told_17 rfl ?_
        refine go_iloadn_1 iM_told_18 ?_
        refine go_iloadn_2 iM_told_19 ?_
        refine gc_V1 iM_told_20 rfl (by decide) (sk_43 _) rfl (Nat.le_of_ble_eq_true rfl) (Nat.le_of_ble_eq_true rfl) (by decide) (sp_M_tells (by omega) hkM hkd (by omega)) ?_
        refine go_goto iM_told_23 ?_
        refine go_iret iM_told_27 rfl ?_
        rfl
    · refine Pair.same (h1 := 3) (h2 := 3) (v := .int (-1)) hR' ?_ ?_
      · show Go _ _ tT_told (_, 0, [.ref 0, .int (nI p), .int y, am_U], []) _
        refine go_aloadn_0 iT_told_0 rfl ?_
        refine go_iloadn_1 iT_told_1 ?_
        refine gc_V1 iT_told_2 rfl (by decide) (sk_0 _) rfl (Nat.le_of_ble_eq_true rfl) (Nat.le_of_ble_eq_true rfl) (by decide) (sp_T_playAt_t h8 hcT hp) ?_
        refine go_astoren_3 iT_told_5 rfl (by simp [Value.category, am_U]) ?_
        refine go_aloadn_3 iT_told_6 rfl ?_
        refine go_nnulR iT_told_7 ?_
        refine go_iloadn_2 iT_told_12 ?_
        refine go_tswO (tgt := 64) iT_told_13 (by omega) (by decide) ?_
        refine go_iconst (v := (-1)) iT_told_64 rfl ?_
        refine go_iret iT_told_65 rfl ?_
        rfl
      · show Go _ _ tM_told (_, 0, [.ref 43, .int (nI p), .int y], []) _
        refine go_aloadn_0 iM_told_0 rfl ?_
        refine go_iloadn_1 iM_told_1 ?_
        refine gc_V1 iM_told_2 rfl (by decide) (sk_43 _) rfl (Nat.le_of_ble_eq_true rfl) (Nat.le_of_ble_eq_true rfl) (by decide) (sp_M_isPlay_t h8 hcM hp) ?_
        refine go_if_eq iM_told_5 (fun c_5 => ?_) (fun c_5 => ?_)
        · (first | omega | exact absurd c_5 (by decide) | (exfalso; simp (disch := omega) only [Int32.lt_iff_toInt_lt, Int32.le_iff_toInt_le, ← Int32.toInt_inj, nI_toInt, i32_m1, i32_0, i32_m20, i32_m40, i32_m30, i32_m9] at *; omega))
        refine go_iloadn_2 iM_told_8 ?_
        refine go_iconst (v := nI 0) iM_told_9 rfl ?_
        refine go_iconst (v := nI 3) iM_told_10 rfl ?_
        refine gc_S1 iM_told_11 (by decide) rfl rfl (Nat.le_of_ble_eq_true rfl) (Nat.le_of_ble_eq_true rfl) (by decide) (sp_M_in_f (by simp (disch := omega) only [nI_toInt]; omega)) ?_
        refine go_if_eq iM_told_14 (fun c_14 => ?_) (fun c_14 => ?_)
        rotate_left
        · (first | omega | exact absurd c_14 (by decide) | (exfalso; simp (disch := omega) only [Int32.lt_iff_toInt_lt, Int32.le_iff_toInt_le, ← Int32.toInt_inj, nI_toInt, i32_m1, i32_0, i32_m20, i32_m40, i32_m30, i32_m9] at *; omega))
        refine go_iconst (v := (-1)) iM_told_26 rfl ?_
        refine go_iret iM_told_27 rfl ?_
        rfl
  · refine Pair.same (h1 := 3) (h2 := 3) (v := .int (-1)) hR' ?_ ?_
    · show Go _ _ tT_told (_, 0, [.ref 0, .int x, .int y, am_U], []) _
      refine go_aloadn_0 iT_told_0 rfl ?_
      refine go_iloadn_1 iT_told_1 ?_
      refine gc_V1 iT_told_2 rfl (by decide) (sk_0 _) rfl (Nat.le_of_ble_eq_true rfl) (Nat.le_of_ble_eq_true rfl) (by decide) (sp_T_playAt_f h8 hcT hx) ?_
      refine go_astoren_3 iT_told_5 rfl (by simp [Value.category, am_U]) ?_
      refine go_aloadn_3 iT_told_6 rfl ?_
      refine go_nnulN iT_told_7 ?_
      refine go_iconst (v := (-1)) iT_told_10 rfl ?_
      refine go_iret iT_told_11 rfl ?_
      rfl
    · show Go _ _ tM_told (_, 0, [.ref 43, .int x, .int y], []) _
      refine go_aloadn_0 iM_told_0 rfl ?_
      refine go_iloadn_1 iM_told_1 ?_
      refine gc_V1 iM_told_2 rfl (by decide) (sk_43 _) rfl (Nat.le_of_ble_eq_true rfl) (Nat.le_of_ble_eq_true rfl) (by decide) (sp_M_isPlay_f h8 hcM hx) ?_
      refine go_if_eq iM_told_5 (fun c_5 => ?_) (fun c_5 => ?_)
      rotate_left
      · (first | omega | exact absurd c_5 (by decide) | (exfalso; simp (disch := omega) only [Int32.lt_iff_toInt_lt, Int32.le_iff_toInt_le, ← Int32.toInt_inj, nI_toInt, i32_m1, i32_0, i32_m20, i32_m40, i32_m30, i32_m9] at *; omega))
      refine go_iconst (v := (-1)) iM_told_26 rfl ?_
      refine go_iret iM_told_27 rfl ?_
      rfl
/-- how many odds can be asked for -/
def rdK (kd : Nat) : Nat := if kd = 0 then 1 else if kd = 2 then 4 else 3
theorem sp_P_readable {kd : Nat} (hp : p < n) (hkT : mI (60 + 2 * p) 0 = nI kd) (hkd : kd < 4) : Sp S 0 tP_readable (am_sh n, mI, mL, am_mR n) [.ref (60 + 2 * p)] (fun q => q = (some (.int (nI (rdK kd))), (am_sh n, mI, mL, am_mR n))) := by
  have hk := sk_play hp
  show Go _ _ tP_readable (_, 0, [.ref (60 + 2 * p)], []) _
  rcases (by omega : kd = 0 ∨ kd = 1 ∨ kd = 2 ∨ kd = 3) with rfl | rfl | rfl | rfl
  · refine go_aloadn_0 iP_readable_0 rfl ?_
    refine go_getI iP_readable_1 (Or.inl rfl) (by assumption) ?_
    try simp (disch := omega) only [am_u_n, am_u_s, am_u_k, hkT]
    refine go_lsw (off := 28) (tgt := 32) iP_readable_4 (by decide) (by decide) (by decide) ?_
    refine go_iconst (v := nI 1) iP_readable_32 rfl ?_
    refine go_iret iP_readable_33 rfl ?_
    rfl
  · refine go_aloadn_0 iP_readable_0 rfl ?_
    refine go_getI iP_readable_1 (Or.inl rfl) (by assumption) ?_
    try simp (disch := omega) only [am_u_n, am_u_s, am_u_k, hkT]
    refine go_lsw (off := 32) (tgt := 36) iP_readable_4 (by decide) (by decide) (by decide) ?_
    refine go_iconst (v := nI 3) iP_readable_36 rfl ?_
    refine go_iret iP_readable_37 rfl ?_
    rfl
  · refine go_aloadn_0 iP_readable_0 rfl ?_
    refine go_getI iP_readable_1 (Or.inl rfl) (by assumption) ?_
    try simp (disch := omega) only [am_u_n, am_u_s, am_u_k, hkT]
    refine go_lsw (off := 30) (tgt := 34) iP_readable_4 (by decide) (by decide) (by decide) ?_
    refine go_iconst (v := nI 4) iP_readable_34 rfl ?_
    refine go_iret iP_readable_35 rfl ?_
    rfl
  · refine go_aloadn_0 iP_readable_0 rfl ?_
    refine go_getI iP_readable_1 (Or.inl rfl) (by assumption) ?_
    try simp (disch := omega) only [am_u_n, am_u_s, am_u_k, hkT]
    refine go_lsw (off := 32) (tgt := 36) iP_readable_4 (by decide) (by decide) (by decide) ?_
    refine go_iconst (v := nI 3) iP_readable_36 rfl ?_
    refine go_iret iP_readable_37 rfl ?_
    rfl
theorem rdK_le (kd : Nat) : 1 ≤ rdK kd ∧ rdK kd ≤ 4 := by
  unfold rdK
  (repeat' split) <;> omega
theorem nI_m1 (s : Nat) (h : 1 ≤ s) : nI s - nI 1 = nI (s - 1) := pk_sub h
/-- the reference's last place of odds is on the stack at 38 -/
theorem lo_M_odds {kd : Nat} {z : Value} {y : Int32} (hp : p < 8) (hkM : mI 45 p = nI kd) (hkd : kd < 4) {Q : Option Value × am_M → Prop} (k : Go S 2 tM_odds ((am_sh n, mI, mL, am_mR n), 38, [.ref 43, .int (nI p), .int y, am_U], [.int (nI (rdK kd - 1))]) Q) : Go S 2 tM_odds ((am_sh n, mI, mL, am_mR n), 10, [.ref 43, .int (nI p), .int y, am_U], []) Q := by
  rcases (by omega : kd = 0 ∨ kd = 1 ∨ kd = 2 ∨ kd = 3) with rfl | rfl | rfl | rfl
  · refine go_aloadn_0 iM_odds_10 rfl ?_
    refine go_getR iM_odds_11 rfl (sk_43 _) (mR_43_6 _) ?_
    refine go_iloadn_1 iM_odds_14 ?_
    refine go_iald iM_odds_15 (sh_45 _) rfl (by omega) (by omega) ?_
    try simp (disch := omega) only [am_u_n, am_u_s, am_u_k, hkM]
    refine go_if_ne iM_odds_16 (fun c_16 => ?_) (fun c_16 => ?_)
    · (first | omega | exact absurd c_16 (by decide) | (exfalso; simp (disch := omega) only [Int32.lt_iff_toInt_lt, Int32.le_iff_toInt_le, ← Int32.toInt_inj, nI_toInt, i32_m1, i32_0, i32_m20, i32_m40, i32_m30, i32_m9] at *; omega))
    refine go_iconst (v := nI 0) iM_odds_19 rfl ?_
    refine go_goto iM_odds_20 ?_
    exact k
  · refine go_aloadn_0 iM_odds_10 rfl ?_
    refine go_getR iM_odds_11 rfl (sk_43 _) (mR_43_6 _) ?_
    refine go_iloadn_1 iM_odds_14 ?_
    refine go_iald iM_odds_15 (sh_45 _) rfl (by omega) (by omega) ?_
    try simp (disch := omega) only [am_u_n, am_u_s, am_u_k, hkM]
    refine go_if_ne iM_odds_16 (fun c_16 => ?_) (fun c_16 => ?_)
    rotate_left
    · (first | omega | exact absurd c_16 (by decide) | (exfalso; simp (disch := omega) only [Int32.lt_iff_toInt_lt, Int32.le_iff_toInt_le, ← Int32.toInt_inj, nI_toInt, i32_m1, i32_0, i32_m20, i32_m40, i32_m30, i32_m9] at *; omega))
    refine go_aloadn_0 iM_odds_23 rfl ?_
    refine go_getR iM_odds_24 rfl (sk_43 _) (mR_43_6 _) ?_
    refine go_iloadn_1 iM_odds_27 ?_
    refine go_iald iM_odds_28 (sh_45 _) rfl (by omega) (by omega) ?_
    try simp (disch := omega) only [am_u_n, am_u_s, am_u_k, hkM]
    refine go_iconst (v := nI 2) iM_odds_29 rfl ?_
    first | refine gn_ic_ne iM_odds_30 (by omega) (by omega) (fun c_30 => ?_) (fun c_30 => ?_) | refine go_ic_ne iM_odds_30 (fun c_30 => ?_) (fun c_30 => ?_)
    rotate_left
    · (first | omega | exact absurd c_30 (by decide) | (exfalso; simp (disch := omega) only [Int32.lt_iff_toInt_lt, Int32.le_iff_toInt_le, ← Int32.toInt_inj, nI_toInt, i32_m1, i32_0, i32_m20, i32_m40, i32_m30, i32_m9] at *; omega))
    refine go_iconst (v := nI 2) iM_odds_37 rfl ?_
    exact k
  · refine go_aloadn_0 iM_odds_10 rfl ?_
    refine go_getR iM_odds_11 rfl (sk_43 _) (mR_43_6 _) ?_
    refine go_iloadn_1 iM_odds_14 ?_
    refine go_iald iM_odds_15 (sh_45 _) rfl (by omega) (by omega) ?_
    try simp (disch := omega) only [am_u_n, am_u_s, am_u_k, hkM]
    refine go_if_ne iM_odds_16 (fun c_16 => ?_) (fun c_16 => ?_)
    rotate_left
    · (first | omega | exact absurd c_16 (by decide) | (exfalso; simp (disch := omega) only [Int32.lt_iff_toInt_lt, Int32.le_iff_toInt_le, ← Int32.toInt_inj, nI_toInt, i32_m1, i32_0, i32_m20, i32_m40, i32_m30, i32_m9] at *; omega))
    refine go_aloadn_0 iM_odds_23 rfl ?_
    refine go_getR iM_odds_24 rfl (sk_43 _) (mR_43_6 _) ?_
    refine go_iloadn_1 iM_odds_27 ?_
    refine go_iald iM_odds_28 (sh_45 _) rfl (by omega) (by omega) ?_
    try simp (disch := omega) only [am_u_n, am_u_s, am_u_k, hkM]
    refine go_iconst (v := nI 2) iM_odds_29 rfl ?_
    first | refine gn_ic_ne iM_odds_30 (by omega) (by omega) (fun c_30 => ?_) (fun c_30 => ?_) | refine go_ic_ne iM_odds_30 (fun c_30 => ?_) (fun c_30 => ?_)
    · (first | omega | exact absurd c_30 (by decide) | (exfalso; simp (disch := omega) only [Int32.lt_iff_toInt_lt, Int32.le_iff_toInt_le, ← Int32.toInt_inj, nI_toInt, i32_m1, i32_0, i32_m20, i32_m40, i32_m30, i32_m9] at *; omega))
    refine go_iconst (v := nI 3) iM_odds_33 rfl ?_
    refine go_goto iM_odds_34 ?_
    exact k
  · refine go_aloadn_0 iM_odds_10 rfl ?_
    refine go_getR iM_odds_11 rfl (sk_43 _) (mR_43_6 _) ?_
    refine go_iloadn_1 iM_odds_14 ?_
    refine go_iald iM_odds_15 (sh_45 _) rfl (by omega) (by omega) ?_
    try simp (disch := omega) only [am_u_n, am_u_s, am_u_k, hkM]
    refine go_if_ne iM_odds_16 (fun c_16 => ?_) (fun c_16 => ?_)
    rotate_left
    · (first | omega | exact absurd c_16 (by decide) | (exfalso; simp (disch := omega) only [Int32.lt_iff_toInt_lt, Int32.le_iff_toInt_le, ← Int32.toInt_inj, nI_toInt, i32_m1, i32_0, i32_m20, i32_m40, i32_m30, i32_m9] at *; omega))
    refine go_aloadn_0 iM_odds_23 rfl ?_
    refine go_getR iM_odds_24 rfl (sk_43 _) (mR_43_6 _) ?_
    refine go_iloadn_1 iM_odds_27 ?_
    refine go_iald iM_odds_28 (sh_45 _) rfl (by omega) (by omega) ?_
    try simp (disch := omega) only [am_u_n, am_u_s, am_u_k, hkM]
    refine go_iconst (v := nI 2) iM_odds_29 rfl ?_
    first | refine gn_ic_ne iM_odds_30 (by omega) (by omega) (fun c_30 => ?_) (fun c_30 => ?_) | refine go_ic_ne iM_odds_30 (fun c_30 => ?_) (fun c_30 => ?_)
    rotate_left
    · (first | omega | exact absurd c_30 (by decide) | (exfalso; simp (disch := omega) only [Int32.lt_iff_toInt_lt, Int32.le_iff_toInt_le, ← Int32.toInt_inj, nI_toInt, i32_m1, i32_0, i32_m20, i32_m40, i32_m30, i32_m9] at *; omega))
    refine go_iconst (v := nI 2) iM_odds_37 rfl ?_
    exact k
theorem odd_rd {kd j : Nat} (ho : ∀ j, j < 3 → mI 46 (4 * p + j) = mI (61 + 2 * p) j) (ho3 : kd = 2 → mI 46 (4 * p + 3) = mI (61 + 2 * p) 3) (hj : j < rdK kd) : mI 46 (4 * p + j) = mI (61 + 2 * p) j := by
  by_cases h : j < 3
  · exact ho j h
  · have h4 := rdK_le kd
    obtain rfl : j = 3 := by omega
    refine ho3 ?_
    unfold rdK at hj
    revert hj
    (repeat' split) <;> intro hj <;> omega
theorem pr_odds (x y : Int32) (hR : Rel n mI mL) : Pair S tT_odds tM_odds [.int x, .int y] n mI mL := by
  have hR' := hR
  obtain ⟨h8, ⟨m, hm1, hm3, hmT, hmM⟩, hcT, hcM, hpl, hro, hfi, hfs, hu, hl, hch⟩ := hR
  rcases pl_cases x n h8 with ⟨p, hp, rfl⟩ | hx
  · have hk := sk_play hp
    have hr := mR_wins n hp
    have hv := sh_wins hp
    obtain ⟨kd, hkd, hkT, hkM, hsz, hw, ho, ho3⟩ := hpl p hp
    have hrd := rdK_le kd
    have hcM' : rfI mI 2 43 5 = nI n := by rw [rfI_r (by decide) (by decide)]; exact hcM
    have hkM' : rfI mI 2 45 p = nI kd := by rw [rfI_r (by decide) (by decide)]; exact hkM
    rcases int_cases y (rdK kd - 1) (by omega) with ⟨j, hj, rfl⟩ | hy
    · refine Pair.same (h1 := 2) (h2 := 2) (v := .int (mI (61 + 2 * p) j)) hR' ?_ ?_
      · show Go _ _ tT_odds (_, 0, [.ref 0, .int (nI p), .int (nI j), am_U], []) _
        refine go_aloadn_0 iT_odds_0 rfl ?_
        refine go_iloadn_1 iT_odds_1 ?_
        refine gc_V1 iT_odds_2 rfl (by decide) (sk_0 _) rfl (Nat.le_of_ble_eq_true rfl) (Nat.le_of_ble_eq_true rfl) (by decide) (sp_T_playAt_t h8 hcT hp) ?_
        refine go_astoren_3 iT_odds_5 rfl (by simp [Value.category, am_U]) ?_
        refine go_aloadn_3 iT_odds_6 rfl ?_
        refine go_nnulR iT_odds_7 ?_
        refine go_iloadn_2 iT_odds_12 ?_
        refine go_if_lt iT_odds_13 (fun c_13 => ?_) (fun c_13 => ?_)
        · (first | omega | exact absurd c_13 (by decide) | (exfalso; simp (disch := omega) only [Int32.lt_iff_toInt_lt, Int32.le_iff_toInt_le, ← Int32.toInt_inj, nI_toInt, i32_m1, i32_0, i32_m20, i32_m40, i32_m30, i32_m9] at *; omega))
        refine go_iloadn_2 iT_odds_16 ?_
        refine go_aloadn_3 iT_odds_17 rfl ?_
        refine gc_V1 iT_odds_18 rfl (by decide) (by assumption) rfl (Nat.le_of_ble_eq_true rfl) (Nat.le_of_ble_eq_true rfl) (by decide) (sp_P_readable hp hkT hkd) ?_
        first | refine gn_ic_lt iT_odds_21 (by omega) (by omega) (fun c_21 => ?_) (fun c_21 => ?_) | refine go_ic_lt iT_odds_21 (fun c_21 => ?_) (fun c_21 => ?_)
        rotate_left
        · (first | omega | exact absurd c_21 (by decide) | (exfalso; simp (disch := omega) only [Int32.lt_iff_toInt_lt, Int32.le_iff_toInt_le, ← Int32.toInt_inj, nI_toInt, i32_m1, i32_0, i32_m20, i32_m40, i32_m30, i32_m9] at *; omega))
        refine go_aloadn_3 iT_odds_30 rfl ?_
        refine go_getR iT_odds_31 rfl (by assumption) (by assumption) ?_
        refine go_iloadn_2 iT_odds_34 ?_
        refine go_iald iT_odds_35 (by assumption) rfl (by omega) (by omega) ?_
        refine go_iret iT_odds_36 rfl ?_
        rfl
      · show Go _ _ tM_odds (_, 0, [.ref 43, .int (nI p), .int (nI j), am_U], []) _
        refine go_aloadn_0 iM_odds_0 rfl ?_
        refine go_iloadn_1 iM_odds_1 ?_
        refine gc_V1 iM_odds_2 rfl (by decide) (sk_43 _) rfl (Nat.le_of_ble_eq_true rfl) (Nat.le_of_ble_eq_true rfl) (by decide) (sp_M_isPlay_t h8 hcM hp) ?_
        refine go_if_ne iM_odds_5 (fun c_5 => ?_) (fun c_5 => ?_)
        rotate_left
        · (first | omega | exact absurd c_5 (by decide) | (exfalso; simp (disch := omega) only [Int32.lt_iff_toInt_lt, Int32.le_iff_toInt_le, ← Int32.toInt_inj, nI_toInt, i32_m1, i32_0, i32_m20, i32_m40, i32_m30, i32_m9] at *; omega))
        refine lo_M_odds (z := am_U) (by omega) hkM hkd ?_
        refine go_istoren_3 iM_odds_38 (by simp [Value.category, am_U]) ?_
        refine go_iloadn_2 iM_odds_39 ?_
        refine go_iconst (v := nI 0) iM_odds_40 rfl ?_
        refine go_iloadn_3 iM_odds_41 ?_
        refine gc_S1 iM_odds_42 (by decide) rfl rfl (Nat.le_of_ble_eq_true rfl) (Nat.le_of_ble_eq_true rfl) (by decide) (sp_M_in_t (by simp (disch := omega) only [nI_toInt]; omega) (by simp (disch := omega) only [nI_toInt]; omega)) ?_
        refine go_if_eq iM_odds_45 (fun c_45 => ?_) (fun c_45 => ?_)
        · (first | omega | exact absurd c_45 (by decide) | (exfalso; simp (disch := omega) only [Int32.lt_iff_toInt_lt, Int32.le_iff_toInt_le, ← Int32.toInt_inj, nI_toInt, i32_m1, i32_0, i32_m20, i32_m40, i32_m30, i32_m9] at *; omega))
        refine go_aloadn_0 iM_odds_48 rfl ?_
        refine go_getR iM_odds_49 rfl (sk_43 _) (mR_43_7 _) ?_
        refine go_iconst (v := nI 4) iM_odds_52 rfl ?_
        refine go_iloadn_1 iM_odds_53 ?_
        first | refine gn_imul iM_odds_54 ?_ | refine go_imul iM_odds_54 ?_
        refine go_iloadn_2 iM_odds_55 ?_
        first | refine gn_iadd iM_odds_56 ?_ | refine go_iadd iM_odds_56 ?_
        refine go_iald iM_odds_57 (sh_46 _) rfl (by omega) (by omega) ?_
        rw [odd_rd ho ho3 (by omega)]
        refine go_goto iM_odds_58 ?_
        refine go_iret iM_odds_66 rfl ?_
        rfl
    · refine Pair.refuse (h1 := 2) (h2 := 2) (f := 2) hR' (by decide) ?_ ?_
      · show Go _ _ tT_odds (_, 0, [.ref 0, .int (nI p), .int y, am_U], []) _
        refine go_aloadn_0 iT_odds_0 rfl ?_
        refine go_iloadn_1 iT_odds_1 ?_
        refine gc_V1 iT_odds_2 rfl (by decide) (sk_0 _) rfl (Nat.le_of_ble_eq_true rfl) (Nat.le_of_ble_eq_true rfl) (by decide) (sp_T_playAt_t h8 hcT hp) ?_
        refine go_astoren_3 iT_odds_5 rfl (by simp [Value.category, am_U]) ?_
        refine go_aloadn_3 iT_odds_6 rfl ?_
        refine go_nnulR iT_odds_7 ?_
        refine go_iloadn_2 iT_odds_12 ?_
        refine go_if_lt iT_odds_13 (fun c_13 => ?_) (fun c_13 => ?_)
        · refine go_aloadn_0 iT_odds_24 rfl ?_
          refine go_iconst (v := nI 2) iT_odds_25 rfl ?_
          refine gc_V1 iT_odds_26 rfl (by decide) (sk_0 _) rfl (Nat.le_of_ble_eq_true rfl) (Nat.le_of_ble_eq_true rfl) (by decide) (sp_T_refuse (by decide)) ?_
          refine go_iret iT_odds_29 rfl ?_
          rfl
        · refine go_iloadn_2 iT_odds_16 ?_
          refine go_aloadn_3 iT_odds_17 rfl ?_
          refine gc_V1 iT_odds_18 rfl (by decide) (by assumption) rfl (Nat.le_of_ble_eq_true rfl) (Nat.le_of_ble_eq_true rfl) (by decide) (sp_P_readable hp hkT hkd) ?_
          first | refine gn_ic_lt iT_odds_21 (by omega) (by omega) (fun c_21 => ?_) (fun c_21 => ?_) | refine go_ic_lt iT_odds_21 (fun c_21 => ?_) (fun c_21 => ?_)
          · (first | omega | exact absurd c_21 (by decide) | (exfalso; simp (disch := omega) only [Int32.lt_iff_toInt_lt, Int32.le_iff_toInt_le, ← Int32.toInt_inj, nI_toInt, i32_m1, i32_0, i32_m20, i32_m40, i32_m30, i32_m9] at *; omega))
          · refine go_aloadn_0 iT_odds_24 rfl ?_
            refine go_iconst (v := nI 2) iT_odds_25 rfl ?_
            refine gc_V1 iT_odds_26 rfl (by decide) (sk_0 _) rfl (Nat.le_of_ble_eq_true rfl) (Nat.le_of_ble_eq_true rfl) (by decide) (sp_T_refuse (by decide)) ?_
            refine go_iret iT_odds_29 rfl ?_
            rfl
      · show Go _ _ tM_odds (_, 0, [.ref 43, .int (nI p), .int y, am_U], []) _
        refine go_aloadn_0 iM_odds_0 rfl ?_
        refine go_iloadn_1 iM_odds_1 ?_
        refine gc_V1 iM_odds_2 rfl (by decide) (sk_43 _) rfl (Nat.le_of_ble_eq_true rfl) (Nat.le_of_ble_eq_true rfl) (by decide) (sp_M_isPlay_t h8 hcM' hp) ?_
        refine go_if_ne iM_odds_5 (fun c_5 => ?_) (fun c_5 => ?_)
        rotate_left
        · (first | omega | exact absurd c_5 (by decide) | (exfalso; simp (disch := omega) only [Int32.lt_iff_toInt_lt, Int32.le_iff_toInt_le, ← Int32.toInt_inj, nI_toInt, i32_m1, i32_0, i32_m20, i32_m40, i32_m30, i32_m9] at *; omega))
        refine lo_M_odds (z := am_U) (by omega) hkM' hkd ?_
        refine go_istoren_3 iM_odds_38 (by simp [Value.category, am_U]) ?_
        refine go_iloadn_2 iM_odds_39 ?_
        refine go_iconst (v := nI 0) iM_odds_40 rfl ?_
        refine go_iloadn_3 iM_odds_41 ?_
        refine gc_S1 iM_odds_42 (by decide) rfl rfl (Nat.le_of_ble_eq_true rfl) (Nat.le_of_ble_eq_true rfl) (by decide) (sp_M_in_f (by simp (disch := omega) only [nI_toInt]; omega)) ?_
        refine go_if_eq iM_odds_45 (fun c_45 => ?_) (fun c_45 => ?_)
        rotate_left
        · (first | omega | exact absurd c_45 (by decide) | (exfalso; simp (disch := omega) only [Int32.lt_iff_toInt_lt, Int32.le_iff_toInt_le, ← Int32.toInt_inj, nI_toInt, i32_m1, i32_0, i32_m20, i32_m40, i32_m30, i32_m9] at *; omega))
        refine go_aloadn_0 iM_odds_61 rfl ?_
        refine go_iconst (v := nI 2) iM_odds_62 rfl ?_
        refine gc_V1 iM_odds_63 rfl (by decide) (sk_43 _) rfl (Nat.le_of_ble_eq_true rfl) (Nat.le_of_ble_eq_true rfl) (by decide) (sp_M_meets (by decide)) ?_
        refine go_iret iM_odds_66 rfl ?_
        rfl
  · refine Pair.same (h1 := 2) (h2 := 2) (v := .int (-1)) hR' ?_ ?_
    · show Go _ _ tT_odds (_, 0, [.ref 0, .int x, .int y, am_U], []) _
      refine go_aloadn_0 iT_odds_0 rfl ?_
      refine go_iloadn_1 iT_odds_1 ?_
      refine gc_V1 iT_odds_2 rfl (by decide) (sk_0 _) rfl (Nat.le_of_ble_eq_true rfl) (Nat.le_of_ble_eq_true rfl) (by decide) (sp_T_playAt_f h8 hcT hx) ?_
      refine go_astoren_3 iT_odds_5 rfl (by simp [Value.category, am_U]) ?_
      refine go_aloadn_3 iT_odds_6 rfl ?_
      refine go_nnulN iT_odds_7 ?_
      refine go_iconst (v := (-1)) iT_odds_10 rfl ?_
      refine go_iret iT_odds_11 rfl ?_
      rfl
    · show Go _ _ tM_odds (_, 0, [.ref 43, .int x, .int y, am_U], []) _
      refine go_aloadn_0 iM_odds_0 rfl ?_
      refine go_iloadn_1 iM_odds_1 ?_
      refine gc_V1 iM_odds_2 rfl (by decide) (sk_43 _) rfl (Nat.le_of_ble_eq_true rfl) (Nat.le_of_ble_eq_true rfl) (by decide) (sp_M_isPlay_f h8 hcM hx) ?_
      refine go_if_ne iM_odds_5 (fun c_5 => ?_) (fun c_5 => ?_)
      · (first | omega | exact absurd c_5 (by decide) | (exfalso; simp (disch := omega) only [Int32.lt_iff_toInt_lt, Int32.le_iff_toInt_le, ← Int32.toInt_inj, nI_toInt, i32_m1, i32_0, i32_m20, i32_m40, i32_m30, i32_m9] at *; omega))
      refine go_iconst (v := (-1)) iM_odds_8 rfl ?_
      refine go_iret iM_odds_9 rfl ?_
      rfl
theorem lo_M_mean {kd : Nat} (hp : p < 8) (hkM : mI 45 p = nI kd) (hkd : kd < 4) {Q : Option Value × am_M → Prop} (kq : Go S 2 tM_mean ((am_sh n, mI, mL, am_mR n), 42, [.ref 43, .int (nI p), .int (sumF (fun j => mI 46 (4 * p + j)) (szK kd)), .int (nI (szK kd))], []) Q) : ∀ k i, i + k = szK kd → Go S 2 tM_mean ((am_sh n, mI, mL, am_mR n), 14, [.ref 43, .int (nI p), .int (sumF (fun j => mI 46 (4 * p + j)) i), .int (nI i)], []) Q
  | 0, i, hi => by
    have hs := szK_le kd
    obtain rfl : i = szK kd := by omega
    refine go_iloadn_3 iM_mean_14 ?_
    refine go_aloadn_0 iM_mean_15 rfl ?_
    refine go_iloadn_1 iM_mean_16 ?_
    refine gc_V1 iM_mean_17 rfl (by decide) (sk_43 _) rfl (Nat.le_of_ble_eq_true rfl) (Nat.le_of_ble_eq_true rfl) (by decide) (sp_M_many hp hkM hkd) ?_
    first | refine gn_ic_ge iM_mean_20 (by omega) (by omega) (fun c_20 => ?_) (fun c_20 => ?_) | refine go_ic_ge iM_mean_20 (fun c_20 => ?_) (fun c_20 => ?_)
    rotate_left
    · (first | omega | exact absurd c_20 (by decide) | (exfalso; simp (disch := omega) only [Int32.lt_iff_toInt_lt, Int32.le_iff_toInt_le, ← Int32.toInt_inj, nI_toInt, i32_m1, i32_0, i32_m20, i32_m40, i32_m30, i32_m9] at *; omega))
    exact kq
  | k + 1, i, hi => by
    have hs := szK_le kd
    refine go_iloadn_3 iM_mean_14 ?_
    refine go_aloadn_0 iM_mean_15 rfl ?_
    refine go_iloadn_1 iM_mean_16 ?_
    refine gc_V1 iM_mean_17 rfl (by decide) (sk_43 _) rfl (Nat.le_of_ble_eq_true rfl) (Nat.le_of_ble_eq_true rfl) (by decide) (sp_M_many hp hkM hkd) ?_
    first | refine gn_ic_ge iM_mean_20 (by omega) (by omega) (fun c_20 => ?_) (fun c_20 => ?_) | refine go_ic_ge iM_mean_20 (fun c_20 => ?_) (fun c_20 => ?_)
    · (first | omega | exact absurd c_20 (by decide) | (exfalso; simp (disch := omega) only [Int32.lt_iff_toInt_lt, Int32.le_iff_toInt_le, ← Int32.toInt_inj, nI_toInt, i32_m1, i32_0, i32_m20, i32_m40, i32_m30, i32_m9] at *; omega))
    refine go_iloadn_2 iM_mean_23 ?_
    refine go_aloadn_0 iM_mean_24 rfl ?_
    refine go_getR iM_mean_25 rfl (sk_43 _) (mR_43_7 _) ?_
    refine go_iconst (v := nI 4) iM_mean_28 rfl ?_
    refine go_iloadn_1 iM_mean_29 ?_
    first | refine gn_imul iM_mean_30 ?_ | refine go_imul iM_mean_30 ?_
    refine go_iloadn_3 iM_mean_31 ?_
    first | refine gn_iadd iM_mean_32 ?_ | refine go_iadd iM_mean_32 ?_
    refine go_iald iM_mean_33 (sh_46 _) rfl (by omega) (by omega) ?_
    first | refine gn_iadd iM_mean_34 ?_ | refine go_iadd iM_mean_34 ?_
    refine go_istoren_2 iM_mean_35 (by simp [Value.category, am_U]) ?_
    first | refine go_iinc_3 iM_mean_36 (ni_inc _ 1) (by simp [Value.category, am_U]) ?_ | refine go_iinc_3 iM_mean_36 rfl (by simp [Value.category, am_U]) ?_
    refine go_goto iM_mean_39 ?_
    exact lo_M_mean hp hkM hkd kq k (i + 1) (by omega)
theorem pr_mean (x : Int32) (hR : Rel n mI mL) : Pair S tT_mean tM_mean [.int x] n mI mL := by
  have hR' := hR
  obtain ⟨h8, ⟨m, hm1, hm3, hmT, hmM⟩, hcT, hcM, hpl, hro, hfi, hfs, hu, hl, hch⟩ := hR
  rcases pl_cases x n h8 with ⟨p, hp, rfl⟩ | hx
  · have hk := sk_play hp
    obtain ⟨kd, hkd, hkT, hkM, hsz, hw, ho, ho3⟩ := hpl p hp
    have hz4 := szK_le kd
    have hcM' : rfI mI 4 43 5 = nI n := by rw [rfI_r (by decide) (by decide)]; exact hcM
    have hkM' : rfI mI 4 45 p = nI kd := by rw [rfI_r (by decide) (by decide)]; exact hkM
    by_cases h0 : szK kd = 0
    · rw [h0] at hsz
      refine Pair.refuse (h1 := 2) (h2 := 2) (f := 4) hR' (by decide) ?_ ?_
      · show Go _ _ tT_mean (_, 0, [.ref 0, .int (nI p), am_U], []) _
        refine go_aloadn_0 iT_mean_0 rfl ?_
        refine go_iloadn_1 iT_mean_1 ?_
        refine gc_V1 iT_mean_2 rfl (by decide) (sk_0 _) rfl (Nat.le_of_ble_eq_true rfl) (Nat.le_of_ble_eq_true rfl) (by decide) (sp_T_playAt_t h8 hcT hp) ?_
        refine go_astoren_2 iT_mean_5 rfl (by simp [Value.category, am_U]) ?_
        refine go_aloadn_2 iT_mean_6 rfl ?_
        refine go_nnulR iT_mean_7 ?_
        refine go_aloadn_2 iT_mean_12 rfl ?_
        refine go_getI iT_mean_13 (Or.inl rfl) (by assumption) ?_
        try simp (disch := omega) only [am_u_n, am_u_s, am_u_k, hsz]
        refine go_if_ne iT_mean_16 (fun c_16 => ?_) (fun c_16 => ?_)
        · (first | omega | exact absurd c_16 (by decide) | (exfalso; simp (disch := omega) only [Int32.lt_iff_toInt_lt, Int32.le_iff_toInt_le, ← Int32.toInt_inj, nI_toInt, i32_m1, i32_0, i32_m20, i32_m40, i32_m30, i32_m9] at *; omega))
        refine go_aloadn_0 iT_mean_19 rfl ?_
        refine go_iconst (v := nI 4) iT_mean_20 rfl ?_
        refine gc_V1 iT_mean_21 rfl (by decide) (sk_0 _) rfl (Nat.le_of_ble_eq_true rfl) (Nat.le_of_ble_eq_true rfl) (by decide) (sp_T_refuse (by decide)) ?_
        refine go_iret iT_mean_24 rfl ?_
        rfl
      · show Go _ _ tM_mean (_, 0, [.ref 43, .int (nI p), am_U, am_U], []) _
        refine go_aloadn_0 iM_mean_0 rfl ?_
        refine go_iloadn_1 iM_mean_1 ?_
        refine gc_V1 iM_mean_2 rfl (by decide) (sk_43 _) rfl (Nat.le_of_ble_eq_true rfl) (Nat.le_of_ble_eq_true rfl) (by decide) (sp_M_isPlay_t h8 hcM' hp) ?_
        refine go_if_ne iM_mean_5 (fun c_5 => ?_) (fun c_5 => ?_)
        rotate_left
        · (first | omega | exact absurd c_5 (by decide) | (exfalso; simp (disch := omega) only [Int32.lt_iff_toInt_lt, Int32.le_iff_toInt_le, ← Int32.toInt_inj, nI_toInt, i32_m1, i32_0, i32_m20, i32_m40, i32_m30, i32_m9] at *; omega))
        refine go_iconst (v := nI 0) iM_mean_10 rfl ?_
        refine go_istoren_2 iM_mean_11 (by simp [Value.category, am_U]) ?_
        refine go_iconst (v := nI 0) iM_mean_12 rfl ?_
        refine go_istoren_3 iM_mean_13 (by simp [Value.category, am_U]) ?_
        refine lo_M_mean (by omega) hkM' hkd ?_ (szK kd) 0 (by omega)
        rw [h0]
        refine go_aloadn_0 iM_mean_42 rfl ?_
        refine go_iloadn_1 iM_mean_43 ?_
        refine gc_V1 iM_mean_44 rfl (by decide) (sk_43 _) rfl (Nat.le_of_ble_eq_true rfl) (Nat.le_of_ble_eq_true rfl) (by decide) (sp_M_many (by omega) hkM' hkd) ?_
        rw [h0]
        refine go_if_ne iM_mean_47 (fun c_47 => ?_) (fun c_47 => ?_)
        · (first | omega | exact absurd c_47 (by decide) | (exfalso; simp (disch := omega) only [Int32.lt_iff_toInt_lt, Int32.le_iff_toInt_le, ← Int32.toInt_inj, nI_toInt, i32_m1, i32_0, i32_m20, i32_m40, i32_m30, i32_m9] at *; omega))
        refine go_aloadn_0 iM_mean_50 rfl ?_
        refine go_iconst (v := nI 4) iM_mean_51 rfl ?_
        refine gc_V1 iM_mean_52 rfl (by decide) (sk_43 _) rfl (Nat.le_of_ble_eq_true rfl) (Nat.le_of_ble_eq_true rfl) (by decide) (sp_M_meets (by decide)) ?_
        refine go_goto iM_mean_55 ?_
        refine go_iret iM_mean_65 rfl ?_
        rfl
    · have hne : ¬ nI (szK kd) = 0 := nI_ne0 (by omega) (by omega)
      have hse : sumF (fun j => mI 46 (4 * p + j)) (szK kd) = sumF (mI (61 + 2 * p)) (szK kd) := sumF_congr _ (fun j hj => (odd_eq ho ho3 j hj).symm)
      refine Pair.same (h1 := 2) (h2 := 2) (v := .int (sumF (mI (61 + 2 * p)) (szK kd) / nI (szK kd))) hR' ?_ ?_
      · show Go _ _ tT_mean (_, 0, [.ref 0, .int (nI p), am_U], []) _
        refine go_aloadn_0 iT_mean_0 rfl ?_
        refine go_iloadn_1 iT_mean_1 ?_
        refine gc_V1 iT_mean_2 rfl (by decide) (sk_0 _) rfl (Nat.le_of_ble_eq_true rfl) (Nat.le_of_ble_eq_true rfl) (by decide) (sp_T_playAt_t h8 hcT hp) ?_
        refine go_astoren_2 iT_mean_5 rfl (by simp [Value.category, am_U]) ?_
        refine go_aloadn_2 iT_mean_6 rfl ?_
        refine go_nnulR iT_mean_7 ?_
        refine go_aloadn_2 iT_mean_12 rfl ?_
        refine go_getI iT_mean_13 (Or.inl rfl) (by assumption) ?_
        try simp (disch := omega) only [am_u_n, am_u_s, am_u_k, hsz]
        refine go_if_ne iT_mean_16 (fun c_16 => ?_) (fun c_16 => ?_)
        rotate_left
        · (first | omega | exact absurd c_16 (by decide) | (exfalso; simp (disch := omega) only [Int32.lt_iff_toInt_lt, Int32.le_iff_toInt_le, ← Int32.toInt_inj, nI_toInt, i32_m1, i32_0, i32_m20, i32_m40, i32_m30, i32_m9] at *; omega))
        refine go_aloadn_2 iT_mean_25 rfl ?_
        refine gc_V1 iT_mean_26 rfl (by decide) (by assumption) rfl (Nat.le_of_ble_eq_true rfl) (Nat.le_of_ble_eq_true rfl) (by decide) (sp_P_sum hp hsz hz4) ?_
        refine go_aloadn_2 iT_mean_29 rfl ?_
        refine go_getI iT_mean_30 (Or.inl rfl) (by assumption) ?_
        try simp (disch := omega) only [am_u_n, am_u_s, am_u_k, hsz]
        refine go_idiv iT_mean_33 hne ?_
        refine go_iret iT_mean_34 rfl ?_
        rfl
      · show Go _ _ tM_mean (_, 0, [.ref 43, .int (nI p), am_U, am_U], []) _
        refine go_aloadn_0 iM_mean_0 rfl ?_
        refine go_iloadn_1 iM_mean_1 ?_
        refine gc_V1 iM_mean_2 rfl (by decide) (sk_43 _) rfl (Nat.le_of_ble_eq_true rfl) (Nat.le_of_ble_eq_true rfl) (by decide) (sp_M_isPlay_t h8 hcM hp) ?_
        refine go_if_ne iM_mean_5 (fun c_5 => ?_) (fun c_5 => ?_)
        rotate_left
        · (first | omega | exact absurd c_5 (by decide) | (exfalso; simp (disch := omega) only [Int32.lt_iff_toInt_lt, Int32.le_iff_toInt_le, ← Int32.toInt_inj, nI_toInt, i32_m1, i32_0, i32_m20, i32_m40, i32_m30, i32_m9] at *; omega))
        refine go_iconst (v := nI 0) iM_mean_10 rfl ?_
        refine go_istoren_2 iM_mean_11 (by simp [Value.category, am_U]) ?_
        refine go_iconst (v := nI 0) iM_mean_12 rfl ?_
        refine go_istoren_3 iM_mean_13 (by simp [Value.category, am_U]) ?_
        refine lo_M_mean (by omega) hkM hkd ?_ (szK kd) 0 (by omega)
        rw [hse]
        refine go_aloadn_0 iM_mean_42 rfl ?_
        refine go_iloadn_1 iM_mean_43 ?_
        refine gc_V1 iM_mean_44 rfl (by decide) (sk_43 _) rfl (Nat.le_of_ble_eq_true rfl) (Nat.le_of_ble_eq_true rfl) (by decide) (sp_M_many (by omega) hkM hkd) ?_
        refine go_if_ne iM_mean_47 (fun c_47 => ?_) (fun c_47 => ?_)
        rotate_left
        · (first | omega | exact absurd c_47 (by decide) | (exfalso; simp (disch := omega) only [Int32.lt_iff_toInt_lt, Int32.le_iff_toInt_le, ← Int32.toInt_inj, nI_toInt, i32_m1, i32_0, i32_m20, i32_m40, i32_m30, i32_m9] at *; omega))
        refine go_iloadn_2 iM_mean_58 ?_
        refine go_aloadn_0 iM_mean_59 rfl ?_
        refine go_iloadn_1 iM_mean_60 ?_
        refine gc_V1 iM_mean_61 rfl (by decide) (sk_43 _) rfl (Nat.le_of_ble_eq_true rfl) (Nat.le_of_ble_eq_true rfl) (by decide) (sp_M_many (by omega) hkM hkd) ?_
        refine go_idiv iM_mean_64 hne ?_
        refine go_iret iM_mean_65 rfl ?_
        rfl
  · refine Pair.same (h1 := 2) (h2 := 2) (v := .int (-1)) hR' ?_ ?_
    · show Go _ _ tT_mean (_, 0, [.ref 0, .int x, am_U], []) _
      refine go_aloadn_0 iT_mean_0 rfl ?_
      refine go_iloadn_1 iT_mean_1 ?_
      refine gc_V1 iT_mean_2 rfl (by decide) (sk_0 _) rfl (Nat.le_of_ble_eq_true rfl) (Nat.le_of_ble_eq_true rfl) (by decide) (sp_T_playAt_f h8 hcT hx) ?_
      refine go_astoren_2 iT_mean_5 rfl (by simp [Value.category, am_U]) ?_
      refine go_aloadn_2 iT_mean_6 rfl ?_
      refine go_nnulN iT_mean_7 ?_
      refine go_iconst (v := (-1)) iT_mean_10 rfl ?_
      refine go_iret iT_mean_11 rfl ?_
      rfl
    · show Go _ _ tM_mean (_, 0, [.ref 43, .int x, am_U, am_U], []) _
      refine go_aloadn_0 iM_mean_0 rfl ?_
      refine go_iloadn_1 iM_mean_1 ?_
      refine gc_V1 iM_mean_2 rfl (by decide) (sk_43 _) rfl (Nat.le_of_ble_eq_true rfl) (Nat.le_of_ble_eq_true rfl) (by decide) (sp_M_isPlay_f h8 hcM hx) ?_
      refine go_if_ne iM_mean_5 (fun c_5 => ?_) (fun c_5 => ?_)
      · (first | omega | exact absurd c_5 (by decide) | (exfalso; simp (disch := omega) only [Int32.lt_iff_toInt_lt, Int32.le_iff_toInt_le, ← Int32.toInt_inj, nI_toInt, i32_m1, i32_0, i32_m20, i32_m40, i32_m30, i32_m9] at *; omega))
      refine go_iconst (v := (-1)) iM_mean_8 rfl ?_
      refine go_iret iM_mean_9 rfl ?_
      rfl
end PRP
