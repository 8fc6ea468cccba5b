/-! ===== small methods of both sides ===== -/
theorem int_cases (x : Int32) (n : Nat) (hn : n < 2 ^ 31) : (∃ a, a ≤ n ∧ x = nI a) ∨ (x.toInt < 0 ∨ (n : Int) < x.toInt) := by
  by_cases h0 : x.toInt < 0
  · exact Or.inr (Or.inl h0)
  · by_cases h1 : (n : Int) < x.toInt
    · exact Or.inr (Or.inr h1)
    · refine Or.inl ⟨x.toInt.toNat, by omega, ?_⟩
      apply Int32.toInt_inj.mp
      rw [nI_toInt (by omega)]
      omega
section HLP
variable {S : am_S} {M : am_M} {sh : List (Nat × Nat)} {mI : Nat → Nat → Int32} {mL : Nat → Nat → Int64} {mR : Nat → Nat → Option Nat} {n : Nat}
theorem sp_T_isOdds_t {a : Nat} (ha : a ≤ 12) : Sp S 0 tT_isOdds M [.int (nI a)] (fun q => q = (some (.int (nI 1)), M)) := by
  show Go _ _ tT_isOdds (_, 0, [.int (nI a)], []) _
  refine go_iloadn_0 iT_isOdds_0 ?_
  refine go_if_lt iT_isOdds_1 (fun c_1 => ?_) (fun c_1 => ?_)
  · (first | omega | exact absurd c_1 (by decide) | (exfalso; simp (disch := omega) only [Int32.lt_iff_toInt_lt, Int32.le_iff_toInt_le, ← Int32.toInt_inj, nI_toInt, i32_m1, i32_0, i32_m20, i32_m40, i32_m30, i32_m9] at *; omega))
  refine go_iloadn_0 iT_isOdds_4 ?_
  refine go_bipush (v := nI 12) iT_isOdds_5 (by decide) ?_
  first | refine gn_ic_gt iT_isOdds_7 (by omega) (by omega) (fun c_7 => ?_) (fun c_7 => ?_) | refine go_ic_gt iT_isOdds_7 (fun c_7 => ?_) (fun c_7 => ?_)
  · (first | omega | exact absurd c_7 (by decide) | (exfalso; simp (disch := omega) only [Int32.lt_iff_toInt_lt, Int32.le_iff_toInt_le, ← Int32.toInt_inj, nI_toInt, i32_m1, i32_0, i32_m20, i32_m40, i32_m30, i32_m9] at *; omega))
  refine go_iconst (v := nI 1) iT_isOdds_10 rfl ?_
  refine go_goto iT_isOdds_11 ?_
  refine go_zret iT_isOdds_15 rfl (by first | exact Or.inl rfl | exact Or.inr rfl) ?_
  rfl
theorem sp_T_isOdds_f {x : Int32} (hx : x.toInt < 0 ∨ 12 < x.toInt) : Sp S 0 tT_isOdds M [.int x] (fun q => q = (some (.int (nI 0)), M)) := by
  show Go _ _ tT_isOdds (_, 0, [.int x], []) _
  refine go_iloadn_0 iT_isOdds_0 ?_
  refine go_if_lt iT_isOdds_1 (fun c_1 => ?_) (fun c_1 => ?_)
  · refine go_iconst (v := nI 0) iT_isOdds_14 rfl ?_
    refine go_zret iT_isOdds_15 rfl (by first | exact Or.inl rfl | exact Or.inr rfl) ?_
    first | rfl | omega | (exfalso; simp (disch := omega) only [Int32.lt_iff_toInt_lt, Int32.le_iff_toInt_le, Int32.not_lt, Int32.not_le, ← Int32.toInt_inj, nI_toInt, i32_m1, i32_0, i32_m20, i32_m40, i32_m30, i32_m9] at *; omega)
  · refine go_iloadn_0 iT_isOdds_4 ?_
    refine go_bipush (v := nI 12) iT_isOdds_5 (by decide) ?_
    first | refine gn_ic_gt iT_isOdds_7 (by omega) (by omega) (fun c_7 => ?_) (fun c_7 => ?_) | refine go_ic_gt iT_isOdds_7 (fun c_7 => ?_) (fun c_7 => ?_)
    · refine go_iconst (v := nI 0) iT_isOdds_14 rfl ?_
      refine go_zret iT_isOdds_15 rfl (by first | exact Or.inl rfl | exact Or.inr rfl) ?_
      first | rfl | omega | (exfalso; simp (disch := omega) only [Int32.lt_iff_toInt_lt, Int32.le_iff_toInt_le, Int32.not_lt, Int32.not_le, ← Int32.toInt_inj, nI_toInt, i32_m1, i32_0, i32_m20, i32_m40, i32_m30, i32_m9] at *; omega)
    · refine go_iconst (v := nI 1) iT_isOdds_10 rfl ?_
      refine go_goto iT_isOdds_11 ?_
      refine go_zret iT_isOdds_15 rfl (by first | exact Or.inl rfl | exact Or.inr rfl) ?_
      first | rfl | omega | (exfalso; simp (disch := omega) only [Int32.lt_iff_toInt_lt, Int32.le_iff_toInt_le, Int32.not_lt, Int32.not_le, ← Int32.toInt_inj, nI_toInt, i32_m1, i32_0, i32_m20, i32_m40, i32_m30, i32_m9] at *; omega)
theorem sp_T_areTurns_t {a : Nat} (ha : a ≤ 9) : Sp S 0 tT_areTurns M [.int (nI a)] (fun q => q = (some (.int (nI 1)), M)) := by
  show Go _ _ tT_areTurns (_, 0, [.int (nI a)], []) _
  refine go_iloadn_0 iT_areTurns_0 ?_
  refine go_if_lt iT_areTurns_1 (fun c_1 => ?_) (fun c_1 => ?_)
  · (first | omega | exact absurd c_1 (by decide) | (exfalso; simp (disch := omega) only [Int32.lt_iff_toInt_lt, Int32.le_iff_toInt_le, ← Int32.toInt_inj, nI_toInt, i32_m1, i32_0, i32_m20, i32_m40, i32_m30, i32_m9] at *; omega))
  refine go_iloadn_0 iT_areTurns_4 ?_
  refine go_bipush (v := nI 9) iT_areTurns_5 (by decide) ?_
  first | refine gn_ic_gt iT_areTurns_7 (by omega) (by omega) (fun c_7 => ?_) (fun c_7 => ?_) | refine go_ic_gt iT_areTurns_7 (fun c_7 => ?_) (fun c_7 => ?_)
  · (first | omega | exact absurd c_7 (by decide) | (exfalso; simp (disch := omega) only [Int32.lt_iff_toInt_lt, Int32.le_iff_toInt_le, ← Int32.toInt_inj, nI_toInt, i32_m1, i32_0, i32_m20, i32_m40, i32_m30, i32_m9] at *; omega))
  refine go_iconst (v := nI 1) iT_areTurns_10 rfl ?_
  refine go_goto iT_areTurns_11 ?_
  refine go_zret iT_areTurns_15 rfl (by first | exact Or.inl rfl | exact Or.inr rfl) ?_
  rfl
theorem sp_T_areTurns_f {x : Int32} (hx : x.toInt < 0 ∨ 9 < x.toInt) : Sp S 0 tT_areTurns M [.int x] (fun q => q = (some (.int (nI 0)), M)) := by
  show Go _ _ tT_areTurns (_, 0, [.int x], []) _
  refine go_iloadn_0 iT_areTurns_0 ?_
  refine go_if_lt iT_areTurns_1 (fun c_1 => ?_) (fun c_1 => ?_)
  · refine go_iconst (v := nI 0) iT_areTurns_14 rfl ?_
    refine go_zret iT_areTurns_15 rfl (by first | exact Or.inl rfl | exact Or.inr rfl) ?_
    first | rfl | omega | (exfalso; simp (disch := omega) only [Int32.lt_iff_toInt_lt, Int32.le_iff_toInt_le, Int32.not_lt, Int32.not_le, ← Int32.toInt_inj, nI_toInt, i32_m1, i32_0, i32_m20, i32_m40, i32_m30, i32_m9] at *; omega)
  · refine go_iloadn_0 iT_areTurns_4 ?_
    refine go_bipush (v := nI 9) iT_areTurns_5 (by decide) ?_
    first | refine gn_ic_gt iT_areTurns_7 (by omega) (by omega) (fun c_7 => ?_) (fun c_7 => ?_) | refine go_ic_gt iT_areTurns_7 (fun c_7 => ?_) (fun c_7 => ?_)
    · refine go_iconst (v := nI 0) iT_areTurns_14 rfl ?_
      refine go_zret iT_areTurns_15 rfl (by first | exact Or.inl rfl | exact Or.inr rfl) ?_
      first | rfl | omega | (exfalso; simp (disch := omega) only [Int32.lt_iff_toInt_lt, Int32.le_iff_toInt_le, Int32.not_lt, Int32.not_le, ← Int32.toInt_inj, nI_toInt, i32_m1, i32_0, i32_m20, i32_m40, i32_m30, i32_m9] at *; omega)
    · refine go_iconst (v := nI 1) iT_areTurns_10 rfl ?_
      refine go_goto iT_areTurns_11 ?_
      refine go_zret iT_areTurns_15 rfl (by first | exact Or.inl rfl | exact Or.inr rfl) ?_
      first | rfl | omega | (exfalso; simp (disch := omega) only [Int32.lt_iff_toInt_lt, Int32.le_iff_toInt_le, Int32.not_lt, Int32.not_le, ← Int32.toInt_inj, nI_toInt, i32_m1, i32_0, i32_m20, i32_m40, i32_m30, i32_m9] at *; omega)
theorem sp_T_isFirstPurse_t {x : Int32} (h1 : -20 ≤ x.toInt) (h2 : x.toInt ≤ 20) : Sp S 0 tT_isFirstPurse M [.int x] (fun q => q = (some (.int (nI 1)), M)) := by
  show Go _ _ tT_isFirstPurse (_, 0, [.int x], []) _
  refine go_iloadn_0 iT_isFirstPurse_0 ?_
  refine go_bipush (v := (-20)) iT_isFirstPurse_1 (by decide) ?_
  first | refine gn_ic_lt iT_isFirstPurse_3 (by omega) (by omega) (fun c_3 => ?_) (fun c_3 => ?_) | refine go_ic_lt iT_isFirstPurse_3 (fun c_3 => ?_) (fun c_3 => ?_)
  · (first | omega | exact absurd c_3 (by decide) | (exfalso; simp (disch := omega) only [Int32.lt_iff_toInt_lt, Int32.le_iff_toInt_le, ← Int32.toInt_inj, nI_toInt, i32_m1, i32_0, i32_m20, i32_m40, i32_m30, i32_m9] at *; omega))
  refine go_iloadn_0 iT_isFirstPurse_6 ?_
  refine go_bipush (v := nI 20) iT_isFirstPurse_7 (by decide) ?_
  first | refine gn_ic_gt iT_isFirstPurse_9 (by omega) (by omega) (fun c_9 => ?_) (fun c_9 => ?_) | refine go_ic_gt iT_isFirstPurse_9 (fun c_9 => ?_) (fun c_9 => ?_)
  · (first | omega | exact absurd c_9 (by decide) | (exfalso; simp (disch := omega) only [Int32.lt_iff_toInt_lt, Int32.le_iff_toInt_le, ← Int32.toInt_inj, nI_toInt, i32_m1, i32_0, i32_m20, i32_m40, i32_m30, i32_m9] at *; omega))
  refine go_iconst (v := nI 1) iT_isFirstPurse_12 rfl ?_
  refine go_goto iT_isFirstPurse_13 ?_
  refine go_zret iT_isFirstPurse_17 rfl (by first | exact Or.inl rfl | exact Or.inr rfl) ?_
  rfl
theorem sp_T_isFirstPurse_f {x : Int32} (hx : x.toInt < -20 ∨ 20 < x.toInt) : Sp S 0 tT_isFirstPurse M [.int x] (fun q => q = (some (.int (nI 0)), M)) := by
  show Go _ _ tT_isFirstPurse (_, 0, [.int x], []) _
  refine go_iloadn_0 iT_isFirstPurse_0 ?_
  refine go_bipush (v := (-20)) iT_isFirstPurse_1 (by decide) ?_
  first | refine gn_ic_lt iT_isFirstPurse_3 (by omega) (by omega) (fun c_3 => ?_) (fun c_3 => ?_) | refine go_ic_lt iT_isFirstPurse_3 (fun c_3 => ?_) (fun c_3 => ?_)
  · refine go_iconst (v := nI 0) iT_isFirstPurse_16 rfl ?_
    refine go_zret iT_isFirstPurse_17 rfl (by first | exact Or.inl rfl | exact Or.inr rfl) ?_
    first | rfl | omega | (exfalso; simp (disch := omega) only [Int32.lt_iff_toInt_lt, Int32.le_iff_toInt_le, Int32.not_lt, Int32.not_le, ← Int32.toInt_inj, nI_toInt, i32_m1, i32_0, i32_m20, i32_m40, i32_m30, i32_m9] at *; omega)
  · refine go_iloadn_0 iT_isFirstPurse_6 ?_
    refine go_bipush (v := nI 20) iT_isFirstPurse_7 (by decide) ?_
    first | refine gn_ic_gt iT_isFirstPurse_9 (by omega) (by omega) (fun c_9 => ?_) (fun c_9 => ?_) | refine go_ic_gt iT_isFirstPurse_9 (fun c_9 => ?_) (fun c_9 => ?_)
    · refine go_iconst (v := nI 0) iT_isFirstPurse_16 rfl ?_
      refine go_zret iT_isFirstPurse_17 rfl (by first | exact Or.inl rfl | exact Or.inr rfl) ?_
      first | rfl | omega | (exfalso; simp (disch := omega) only [Int32.lt_iff_toInt_lt, Int32.le_iff_toInt_le, Int32.not_lt, Int32.not_le, ← Int32.toInt_inj, nI_toInt, i32_m1, i32_0, i32_m20, i32_m40, i32_m30, i32_m9] at *; omega)
    · refine go_iconst (v := nI 1) iT_isFirstPurse_12 rfl ?_
      refine go_goto iT_isFirstPurse_13 ?_
      refine go_zret iT_isFirstPurse_17 rfl (by first | exact Or.inl rfl | exact Or.inr rfl) ?_
      first | rfl | omega | (exfalso; simp (disch := omega) only [Int32.lt_iff_toInt_lt, Int32.le_iff_toInt_le, Int32.not_lt, Int32.not_le, ← Int32.toInt_inj, nI_toInt, i32_m1, i32_0, i32_m20, i32_m40, i32_m30, i32_m9] at *; omega)
theorem sp_T_isLaterPurse_t {x : Int32} (h1 : -40 ≤ x.toInt) (h2 : x.toInt ≤ 40) : Sp S 0 tT_isLaterPurse M [.int x] (fun q => q = (some (.int (nI 1)), M)) := by
  show Go _ _ tT_isLaterPurse (_, 0, [.int x], []) _
  refine go_iloadn_0 iT_isLaterPurse_0 ?_
  refine go_bipush (v := (-40)) iT_isLaterPurse_1 (by decide) ?_
  first | refine gn_ic_lt iT_isLaterPurse_3 (by omega) (by omega) (fun c_3 => ?_) (fun c_3 => ?_) | refine go_ic_lt iT_isLaterPurse_3 (fun c_3 => ?_) (fun c_3 => ?_)
  · (first | omega | exact absurd c_3 (by decide) | (exfalso; simp (disch := omega) only [Int32.lt_iff_toInt_lt, Int32.le_iff_toInt_le, ← Int32.toInt_inj, nI_toInt, i32_m1, i32_0, i32_m20, i32_m40, i32_m30, i32_m9] at *; omega))
  refine go_iloadn_0 iT_isLaterPurse_6 ?_
  refine go_bipush (v := nI 40) iT_isLaterPurse_7 (by decide) ?_
  first | refine gn_ic_gt iT_isLaterPurse_9 (by omega) (by omega) (fun c_9 => ?_) (fun c_9 => ?_) | refine go_ic_gt iT_isLaterPurse_9 (fun c_9 => ?_) (fun c_9 => ?_)
  · (first | omega | exact absurd c_9 (by decide) | (exfalso; simp (disch := omega) only [Int32.lt_iff_toInt_lt, Int32.le_iff_toInt_le, ← Int32.toInt_inj, nI_toInt, i32_m1, i32_0, i32_m20, i32_m40, i32_m30, i32_m9] at *; omega))
  refine go_iconst (v := nI 1) iT_isLaterPurse_12 rfl ?_
  refine go_goto iT_isLaterPurse_13 ?_
  refine go_zret iT_isLaterPurse_17 rfl (by first | exact Or.inl rfl | exact Or.inr rfl) ?_
  rfl
theorem sp_T_isLaterPurse_f {x : Int32} (hx : x.toInt < -40 ∨ 40 < x.toInt) : Sp S 0 tT_isLaterPurse M [.int x] (fun q => q = (some (.int (nI 0)), M)) := by
  show Go _ _ tT_isLaterPurse (_, 0, [.int x], []) _
  refine go_iloadn_0 iT_isLaterPurse_0 ?_
  refine go_bipush (v := (-40)) iT_isLaterPurse_1 (by decide) ?_
  first | refine gn_ic_lt iT_isLaterPurse_3 (by omega) (by omega) (fun c_3 => ?_) (fun c_3 => ?_) | refine go_ic_lt iT_isLaterPurse_3 (fun c_3 => ?_) (fun c_3 => ?_)
  · refine go_iconst (v := nI 0) iT_isLaterPurse_16 rfl ?_
    refine go_zret iT_isLaterPurse_17 rfl (by first | exact Or.inl rfl | exact Or.inr rfl) ?_
    first | rfl | omega | (exfalso; simp (disch := omega) only [Int32.lt_iff_toInt_lt, Int32.le_iff_toInt_le, Int32.not_lt, Int32.not_le, ← Int32.toInt_inj, nI_toInt, i32_m1, i32_0, i32_m20, i32_m40, i32_m30, i32_m9] at *; omega)
  · refine go_iloadn_0 iT_isLaterPurse_6 ?_
    refine go_bipush (v := nI 40) iT_isLaterPurse_7 (by decide) ?_
    first | refine gn_ic_gt iT_isLaterPurse_9 (by omega) (by omega) (fun c_9 => ?_) (fun c_9 => ?_) | refine go_ic_gt iT_isLaterPurse_9 (fun c_9 => ?_) (fun c_9 => ?_)
    · refine go_iconst (v := nI 0) iT_isLaterPurse_16 rfl ?_
      refine go_zret iT_isLaterPurse_17 rfl (by first | exact Or.inl rfl | exact Or.inr rfl) ?_
      first | rfl | omega | (exfalso; simp (disch := omega) only [Int32.lt_iff_toInt_lt, Int32.le_iff_toInt_le, Int32.not_lt, Int32.not_le, ← Int32.toInt_inj, nI_toInt, i32_m1, i32_0, i32_m20, i32_m40, i32_m30, i32_m9] at *; omega)
    · refine go_iconst (v := nI 1) iT_isLaterPurse_12 rfl ?_
      refine go_goto iT_isLaterPurse_13 ?_
      refine go_zret iT_isLaterPurse_17 rfl (by first | exact Or.inl rfl | exact Or.inr rfl) ?_
      first | rfl | omega | (exfalso; simp (disch := omega) only [Int32.lt_iff_toInt_lt, Int32.le_iff_toInt_le, Int32.not_lt, Int32.not_le, ← Int32.toInt_inj, nI_toInt, i32_m1, i32_0, i32_m20, i32_m40, i32_m30, i32_m9] at *; omega)
theorem sp_T_isRest_t {m a : Nat} (hm : mI 0 0 = nI m) (hm3 : m ≤ 3) (ha : a < m) : Sp S 0 tT_isRest (am_sh n, mI, mL, am_mR n) [.ref 0, .int (nI a)] (fun q => q = (some (.int (nI 1)), (am_sh n, mI, mL, am_mR n))) := by
  show Go _ _ tT_isRest (_, 0, [.ref 0, .int (nI a)], []) _
  refine go_iloadn_1 iT_isRest_0 ?_
  refine go_if_lt iT_isRest_1 (fun c_1 => ?_) (fun c_1 => ?_)
  · (first | omega | exact absurd c_1 (by decide) | (exfalso; simp (disch := omega) only [Int32.lt_iff_toInt_lt, Int32.le_iff_toInt_le, ← Int32.toInt_inj, nI_toInt, i32_m1, i32_0, i32_m20, i32_m40, i32_m30, i32_m9] at *; omega))
  refine go_iloadn_1 iT_isRest_4 ?_
  refine go_aloadn_0 iT_isRest_5 rfl ?_
  refine go_getI iT_isRest_6 (Or.inl rfl) (sk_0 _) ?_
  rw [hm]
  first | refine gn_ic_ge iT_isRest_9 (by omega) (by omega) (fun c_9 => ?_) (fun c_9 => ?_) | refine go_ic_ge iT_isRest_9 (fun c_9 => ?_) (fun c_9 => ?_)
  · (first | omega | exact absurd c_9 (by decide) | (exfalso; simp (disch := omega) only [Int32.lt_iff_toInt_lt, Int32.le_iff_toInt_le, ← Int32.toInt_inj, nI_toInt, i32_m1, i32_0, i32_m20, i32_m40, i32_m30, i32_m9] at *; omega))
  refine go_iconst (v := nI 1) iT_isRest_12 rfl ?_
  refine go_goto iT_isRest_13 ?_
  refine go_zret iT_isRest_17 rfl (by first | exact Or.inl rfl | exact Or.inr rfl) ?_
  rfl
theorem sp_T_isRest_f {m : Nat} {x : Int32} (hm : mI 0 0 = nI m) (hm3 : m ≤ 3) (hx : x.toInt < 0 ∨ (m : Int) ≤ x.toInt) : Sp S 0 tT_isRest (am_sh n, mI, mL, am_mR n) [.ref 0, .int x] (fun q => q = (some (.int (nI 0)), (am_sh n, mI, mL, am_mR n))) := by
  show Go _ _ tT_isRest (_, 0, [.ref 0, .int x], []) _
  refine go_iloadn_1 iT_isRest_0 ?_
  refine go_if_lt iT_isRest_1 (fun c_1 => ?_) (fun c_1 => ?_)
  · refine go_iconst (v := nI 0) iT_isRest_16 rfl ?_
    refine go_zret iT_isRest_17 rfl (by first | exact Or.inl rfl | exact Or.inr rfl) ?_
    first | rfl | omega | (exfalso; simp (disch := omega) only [Int32.lt_iff_toInt_lt, Int32.le_iff_toInt_le, Int32.not_lt, Int32.not_le, ← Int32.toInt_inj, nI_toInt, i32_m1, i32_0, i32_m20, i32_m40, i32_m30, i32_m9] at *; omega)
  · refine go_iloadn_1 iT_isRest_4 ?_
    refine go_aloadn_0 iT_isRest_5 rfl ?_
    refine go_getI iT_isRest_6 (Or.inl rfl) (sk_0 _) ?_
    rw [hm]
    first | refine gn_ic_ge iT_isRest_9 (by omega) (by omega) (fun c_9 => ?_) (fun c_9 => ?_) | refine go_ic_ge iT_isRest_9 (fun c_9 => ?_) (fun c_9 => ?_)
    · refine go_iconst (v := nI 0) iT_isRest_16 rfl ?_
      refine go_zret iT_isRest_17 rfl (by first | exact Or.inl rfl | exact Or.inr rfl) ?_
      first | rfl | omega | (exfalso; simp (disch := omega) only [Int32.lt_iff_toInt_lt, Int32.le_iff_toInt_le, Int32.not_lt, Int32.not_le, ← Int32.toInt_inj, nI_toInt, i32_m1, i32_0, i32_m20, i32_m40, i32_m30, i32_m9] at *; omega)
    · refine go_iconst (v := nI 1) iT_isRest_12 rfl ?_
      refine go_goto iT_isRest_13 ?_
      refine go_zret iT_isRest_17 rfl (by first | exact Or.inl rfl | exact Or.inr rfl) ?_
      first | rfl | omega | (exfalso; simp (disch := omega) only [Int32.lt_iff_toInt_lt, Int32.le_iff_toInt_le, Int32.not_lt, Int32.not_le, ← Int32.toInt_inj, nI_toInt, i32_m1, i32_0, i32_m20, i32_m40, i32_m30, i32_m9] at *; omega)
/-- what a refusal writes: the finding and its count -/
def rfI (mI : Nat → Nat → Int32) (f : Nat) : Nat → Nat → Int32 := am_u (am_u mI 0 4 (nI f)) 3 f (mI 3 f + nI 1)
def mtI (mI : Nat → Nat → Int32) (f : Nat) : Nat → Nat → Int32 := am_u (am_u mI 43 0 (nI f)) 44 f (mI 44 f + nI 1)
theorem sp_T_refuse {f : Nat} (hf : f < 6) : Sp S 0 tT_refuse (am_sh n, mI, mL, am_mR n) [.ref 0, .int (nI f)] (fun q => q = (some (.int (-3)), (am_sh n, rfI mI f, mL, am_mR n))) := by
  show Go _ _ tT_refuse (_, 0, [.ref 0, .int (nI f)], []) _
  refine go_aloadn_0 iT_refuse_0 rfl ?_
  refine go_iloadn_1 iT_refuse_1 ?_
  refine go_putI iT_refuse_2 rfl (sk_0 _) ?_
  refine go_aloadn_0 iT_refuse_5 rfl ?_
  refine go_getR iT_refuse_6 rfl (sk_0 _) (mR_0_5 _) ?_
  refine go_iloadn_1 iT_refuse_9 ?_
  refine go_dup2 iT_refuse_10 ⟨rfl, rfl⟩ ?_
  refine go_iald iT_refuse_11 (sh_3 _) rfl (by omega) (by omega) ?_
  refine go_iconst (v := nI 1) iT_refuse_12 rfl ?_
  first | refine gn_iadd iT_refuse_13 ?_ | refine go_iadd iT_refuse_13 ?_
  refine go_iast iT_refuse_14 (sh_3 _) rfl (by omega) (by omega) ?_
  refine go_bipush (v := (-3)) iT_refuse_15 (by decide) ?_
  refine go_iret iT_refuse_17 rfl ?_
  rfl
theorem sp_M_meets {f : Nat} (hf : f < 6) : Sp S 0 tM_meets (am_sh n, mI, mL, am_mR n) [.ref 43, .int (nI f)] (fun q => q = (some (.int (-3)), (am_sh n, mtI mI f, mL, am_mR n))) := by
  show Go _ _ tM_meets (_, 0, [.ref 43, .int (nI f)], []) _
  refine go_aloadn_0 iM_meets_0 rfl ?_
  refine go_iloadn_1 iM_meets_1 ?_
  refine go_putI iM_meets_2 rfl (sk_43 _) ?_
  refine go_aloadn_0 iM_meets_5 rfl ?_
  refine go_getR iM_meets_6 rfl (sk_43 _) (mR_43_1 _) ?_
  refine go_iloadn_1 iM_meets_9 ?_
  refine go_dup2 iM_meets_10 ⟨rfl, rfl⟩ ?_
  refine go_iald iM_meets_11 (sh_44 _) rfl (by omega) (by omega) ?_
  refine go_iconst (v := nI 1) iM_meets_12 rfl ?_
  first | refine gn_iadd iM_meets_13 ?_ | refine go_iadd iM_meets_13 ?_
  refine go_iast iM_meets_14 (sh_44 _) rfl (by omega) (by omega) ?_
  refine go_bipush (v := (-3)) iM_meets_15 (by decide) ?_
  refine go_iret iM_meets_17 rfl ?_
  rfl
theorem sp_T_playAt_t {p : Nat} (hn : n ≤ 8) (hc : mI 0 1 = nI n) (hp : p < n) : Sp S 0 tT_playAt (am_sh n, mI, mL, am_mR n) [.ref 0, .int (nI p)] (fun q => q = (some (.ref (60 + 2 * p)), (am_sh n, mI, mL, am_mR n))) := by
  show Go _ _ tT_playAt (_, 0, [.ref 0, .int (nI p)], []) _
  refine go_iloadn_1 iT_playAt_0 ?_
  refine go_if_lt iT_playAt_1 (fun c_1 => ?_) (fun c_1 => ?_)
  · (first | omega | exact absurd c_1 (by decide) | (exfalso; simp (disch := omega) only [Int32.lt_iff_toInt_lt, Int32.le_iff_toInt_le, ← Int32.toInt_inj, nI_toInt, i32_m1, i32_0, i32_m20, i32_m40, i32_m30, i32_m9] at *; omega))
  refine go_iloadn_1 iT_playAt_4 ?_
  refine go_aloadn_0 iT_playAt_5 rfl ?_
  refine go_getI iT_playAt_6 (Or.inl rfl) (sk_0 _) ?_
  rw [hc]
  first | refine gn_ic_lt iT_playAt_9 (by omega) (by omega) (fun c_9 => ?_) (fun c_9 => ?_) | refine go_ic_lt iT_playAt_9 (fun c_9 => ?_) (fun c_9 => ?_)
  rotate_left
  · (first | omega | exact absurd c_9 (by decide) | (exfalso; simp (disch := omega) only [Int32.lt_iff_toInt_lt, Int32.le_iff_toInt_le, ← Int32.toInt_inj, nI_toInt, i32_m1, i32_0, i32_m20, i32_m40, i32_m30, i32_m9] at *; omega))
  refine go_aloadn_0 iT_playAt_16 rfl ?_
  refine go_getR iT_playAt_17 rfl (sk_0 _) (mR_0_2 _) ?_
  refine go_iloadn_1 iT_playAt_20 ?_
  refine go_aald iT_playAt_21 (sh_1 _) (by decide) (by decide) rfl (by omega) (by omega) (mR_plays n hp) ?_
  refine go_aret iT_playAt_22 rfl ?_
  rfl
theorem sp_T_playAt_f {x : Int32} (hn : n ≤ 8) (hc : mI 0 1 = nI n) (hx : x.toInt < 0 ∨ (n : Int) ≤ x.toInt) : Sp S 0 tT_playAt (am_sh n, mI, mL, am_mR n) [.ref 0, .int x] (fun q => q = (some .null, (am_sh n, mI, mL, am_mR n))) := by
  show Go _ _ tT_playAt (_, 0, [.ref 0, .int x], []) _
  refine go_iloadn_1 iT_playAt_0 ?_
  refine go_if_lt iT_playAt_1 (fun c_1 => ?_) (fun c_1 => ?_)
  · refine go_null iT_playAt_12 ?_
    refine go_goto iT_playAt_13 ?_
    refine go_nret iT_playAt_22 rfl ?_
    rfl
  · refine go_iloadn_1 iT_playAt_4 ?_
    refine go_aloadn_0 iT_playAt_5 rfl ?_
    refine go_getI iT_playAt_6 (Or.inl rfl) (sk_0 _) ?_
    rw [hc]
    first | refine gn_ic_lt iT_playAt_9 (by omega) (by omega) (fun c_9 => ?_) (fun c_9 => ?_) | refine go_ic_lt iT_playAt_9 (fun c_9 => ?_) (fun c_9 => ?_)
    · (first | omega | exact absurd c_9 (by decide) | (exfalso; simp (disch := omega) only [Int32.lt_iff_toInt_lt, Int32.le_iff_toInt_le, ← Int32.toInt_inj, nI_toInt, i32_m1, i32_0, i32_m20, i32_m40, i32_m30, i32_m9] at *; omega))
    · refine go_null iT_playAt_12 ?_
      refine go_goto iT_playAt_13 ?_
      refine go_nret iT_playAt_22 rfl ?_
      rfl
theorem sp_T_rowAt_t {r : Nat} (hr : r < 4) : Sp S 0 tT_rowAt (am_sh n, mI, mL, am_mR n) [.ref 0, .int (nI r)] (fun q => q = (some (.ref (15 + 2 * r)), (am_sh n, mI, mL, am_mR n))) := by
  show Go _ _ tT_rowAt (_, 0, [.ref 0, .int (nI r)], []) _
  refine go_iloadn_1 iT_rowAt_0 ?_
  refine go_if_lt iT_rowAt_1 (fun c_1 => ?_) (fun c_1 => ?_)
  · (first | omega | exact absurd c_1 (by decide) | (exfalso; simp (disch := omega) only [Int32.lt_iff_toInt_lt, Int32.le_iff_toInt_le, ← Int32.toInt_inj, nI_toInt, i32_m1, i32_0, i32_m20, i32_m40, i32_m30, i32_m9] at *; omega))
  refine go_iloadn_1 iT_rowAt_4 ?_
  refine go_iconst (v := nI 4) iT_rowAt_5 rfl ?_
  first | refine gn_ic_lt iT_rowAt_6 (by omega) (by omega) (fun c_6 => ?_) (fun c_6 => ?_) | refine go_ic_lt iT_rowAt_6 (fun c_6 => ?_) (fun c_6 => ?_)
  rotate_left
  · (first | omega | exact absurd c_6 (by decide) | (exfalso; simp (disch := omega) only [Int32.lt_iff_toInt_lt, Int32.le_iff_toInt_le, ← Int32.toInt_inj, nI_toInt, i32_m1, i32_0, i32_m20, i32_m40, i32_m30, i32_m9] at *; omega))
  refine go_aloadn_0 iT_rowAt_13 rfl ?_
  refine go_getR iT_rowAt_14 rfl (sk_0 _) (mR_0_3 _) ?_
  refine go_iloadn_1 iT_rowAt_17 ?_
  refine go_aald iT_rowAt_18 (sh_2 _) (by decide) (by decide) rfl (by omega) (by omega) (sh_row n hr).2.2.1 ?_
  refine go_aret iT_rowAt_19 rfl ?_
  rfl
theorem sp_T_rowAt_f {x : Int32} (hx : x.toInt < 0 ∨ 4 ≤ x.toInt) : Sp S 0 tT_rowAt (am_sh n, mI, mL, am_mR n) [.ref 0, .int x] (fun q => q = (some .null, (am_sh n, mI, mL, am_mR n))) := by
  show Go _ _ tT_rowAt (_, 0, [.ref 0, .int x], []) _
  refine go_iloadn_1 iT_rowAt_0 ?_
  refine go_if_lt iT_rowAt_1 (fun c_1 => ?_) (fun c_1 => ?_)
  · refine go_null iT_rowAt_9 ?_
    refine go_goto iT_rowAt_10 ?_
    refine go_nret iT_rowAt_19 rfl ?_
    rfl
  · refine go_iloadn_1 iT_rowAt_4 ?_
    refine go_iconst (v := nI 4) iT_rowAt_5 rfl ?_
    first | refine gn_ic_lt iT_rowAt_6 (by omega) (by omega) (fun c_6 => ?_) (fun c_6 => ?_) | refine go_ic_lt iT_rowAt_6 (fun c_6 => ?_) (fun c_6 => ?_)
    · (first | omega | exact absurd c_6 (by decide) | (exfalso; simp (disch := omega) only [Int32.lt_iff_toInt_lt, Int32.le_iff_toInt_le, ← Int32.toInt_inj, nI_toInt, i32_m1, i32_0, i32_m20, i32_m40, i32_m30, i32_m9] at *; omega))
    · refine go_null iT_rowAt_9 ?_
      refine go_goto iT_rowAt_10 ?_
      refine go_nret iT_rowAt_19 rfl ?_
      rfl
theorem sp_M_in_t {x lo hi : Int32} (h1 : lo.toInt ≤ x.toInt) (h2 : x.toInt ≤ hi.toInt) : Sp S 0 tM_in M [.int x, .int lo, .int hi] (fun q => q = (some (.int (nI 1)), M)) := by
  show Go _ _ tM_in (_, 0, [.int x, .int lo, .int hi], []) _
  refine go_iloadn_0 iM_in_0 ?_
  refine go_iloadn_1 iM_in_1 ?_
  first | refine gn_ic_lt iM_in_2 (by omega) (by omega) (fun c_2 => ?_) (fun c_2 => ?_) | refine go_ic_lt iM_in_2 (fun c_2 => ?_) (fun c_2 => ?_)
  · (first | omega | exact absurd c_2 (by decide) | (exfalso; simp (disch := omega) only [Int32.lt_iff_toInt_lt, Int32.le_iff_toInt_le, ← Int32.toInt_inj, nI_toInt, i32_m1, i32_0, i32_m20, i32_m40, i32_m30, i32_m9] at *; omega))
  refine go_iloadn_0 iM_in_5 ?_
  refine go_iloadn_2 iM_in_6 ?_
  first | refine gn_ic_gt iM_in_7 (by omega) (by omega) (fun c_7 => ?_) (fun c_7 => ?_) | refine go_ic_gt iM_in_7 (fun c_7 => ?_) (fun c_7 => ?_)
  · (first | omega | exact absurd c_7 (by decide) | (exfalso; simp (disch := omega) only [Int32.lt_iff_toInt_lt, Int32.le_iff_toInt_le, ← Int32.toInt_inj, nI_toInt, i32_m1, i32_0, i32_m20, i32_m40, i32_m30, i32_m9] at *; omega))
  refine go_iconst (v := nI 1) iM_in_10 rfl ?_
  refine go_goto iM_in_11 ?_
  refine go_zret iM_in_15 rfl (by first | exact Or.inl rfl | exact Or.inr rfl) ?_
  rfl
theorem sp_M_in_f {x lo hi : Int32} (h : x.toInt < lo.toInt ∨ hi.toInt < x.toInt) : Sp S 0 tM_in M [.int x, .int lo, .int hi] (fun q => q = (some (.int (nI 0)), M)) := by
  show Go _ _ tM_in (_, 0, [.int x, .int lo, .int hi], []) _
  refine go_iloadn_0 iM_in_0 ?_
  refine go_iloadn_1 iM_in_1 ?_
  first | refine gn_ic_lt iM_in_2 (by omega) (by omega) (fun c_2 => ?_) (fun c_2 => ?_) | refine go_ic_lt iM_in_2 (fun c_2 => ?_) (fun c_2 => ?_)
  · refine go_iconst (v := nI 0) iM_in_14 rfl ?_
    refine go_zret iM_in_15 rfl (by first | exact Or.inl rfl | exact Or.inr rfl) ?_
    first | rfl | omega | (exfalso; simp (disch := omega) only [Int32.lt_iff_toInt_lt, Int32.le_iff_toInt_le, Int32.not_lt, Int32.not_le, ← Int32.toInt_inj, nI_toInt, i32_m1, i32_0, i32_m20, i32_m40, i32_m30, i32_m9] at *; omega)
  · refine go_iloadn_0 iM_in_5 ?_
    refine go_iloadn_2 iM_in_6 ?_
    first | refine gn_ic_gt iM_in_7 (by omega) (by omega) (fun c_7 => ?_) (fun c_7 => ?_) | refine go_ic_gt iM_in_7 (fun c_7 => ?_) (fun c_7 => ?_)
    · refine go_iconst (v := nI 0) iM_in_14 rfl ?_
      refine go_zret iM_in_15 rfl (by first | exact Or.inl rfl | exact Or.inr rfl) ?_
      first | rfl | omega | (exfalso; simp (disch := omega) only [Int32.lt_iff_toInt_lt, Int32.le_iff_toInt_le, Int32.not_lt, Int32.not_le, ← Int32.toInt_inj, nI_toInt, i32_m1, i32_0, i32_m20, i32_m40, i32_m30, i32_m9] at *; omega)
    · refine go_iconst (v := nI 1) iM_in_10 rfl ?_
      refine go_goto iM_in_11 ?_
      refine go_zret iM_in_15 rfl (by first | exact Or.inl rfl | exact Or.inr rfl) ?_
      first | rfl | omega | (exfalso; simp (disch := omega) only [Int32.lt_iff_toInt_lt, Int32.le_iff_toInt_le, Int32.not_lt, Int32.not_le, ← Int32.toInt_inj, nI_toInt, i32_m1, i32_0, i32_m20, i32_m40, i32_m30, i32_m9] at *; omega)
theorem sp_M_isOdds_t {a : Nat} (ha : a ≤ 12) : Sp S 1 tM_isOdds M [.int (nI a)] (fun q => q = (some (.int (nI 1)), M)) := by
  show Go _ _ tM_isOdds (_, 0, [.int (nI a)], []) _
  refine go_iloadn_0 iM_isOdds_0 ?_
  refine go_iconst (v := nI 0) iM_isOdds_1 rfl ?_
  refine go_bipush (v := nI 12) iM_isOdds_2 (by decide) ?_
  refine gc_S1 iM_isOdds_4 (by decide) rfl rfl (Nat.le_of_ble_eq_true rfl) (Nat.le_of_ble_eq_true rfl) (by decide) (sp_M_in_t (by rw [nI_toInt (by omega), nI_toInt (by omega)]; omega) (by rw [nI_toInt (by omega), nI_toInt (by omega)]; omega)) ?_
  refine go_zret iM_isOdds_7 rfl (by first | exact Or.inl rfl | exact Or.inr rfl) ?_
  rfl
theorem sp_M_isOdds_f {x : Int32} (hx : x.toInt < 0 ∨ 12 < x.toInt) : Sp S 1 tM_isOdds M [.int x] (fun q => q = (some (.int (nI 0)), M)) := by
  show Go _ _ tM_isOdds (_, 0, [.int x], []) _
  refine go_iloadn_0 iM_isOdds_0 ?_
  refine go_iconst (v := nI 0) iM_isOdds_1 rfl ?_
  refine go_bipush (v := nI 12) iM_isOdds_2 (by decide) ?_
  refine gc_S1 iM_isOdds_4 (by decide) rfl rfl (Nat.le_of_ble_eq_true rfl) (Nat.le_of_ble_eq_true rfl) (by decide) (sp_M_in_f (by rw [nI_toInt (by omega), nI_toInt (by omega)]; omega)) ?_
  refine go_zret iM_isOdds_7 rfl (by first | exact Or.inl rfl | exact Or.inr rfl) ?_
  rfl
theorem sp_M_isRow_t {a : Nat} (ha : a < 4) : Sp S 1 tM_isRow M [.int (nI a)] (fun q => q = (some (.int (nI 1)), M)) := by
  show Go _ _ tM_isRow (_, 0, [.int (nI a)], []) _
  refine go_iloadn_0 iM_isRow_0 ?_
  refine go_iconst (v := nI 0) iM_isRow_1 rfl ?_
  refine go_iconst (v := nI 3) iM_isRow_2 rfl ?_
  refine gc_S1 iM_isRow_3 (by decide) rfl rfl (Nat.le_of_ble_eq_true rfl) (Nat.le_of_ble_eq_true rfl) (by decide) (sp_M_in_t (by rw [nI_toInt (by omega), nI_toInt (by omega)]; omega) (by rw [nI_toInt (by omega), nI_toInt (by omega)]; omega)) ?_
  refine go_zret iM_isRow_6 rfl (by first | exact Or.inl rfl | exact Or.inr rfl) ?_
  rfl
theorem sp_M_isRow_f {x : Int32} (hx : x.toInt < 0 ∨ 4 ≤ x.toInt) : Sp S 1 tM_isRow M [.int x] (fun q => q = (some (.int (nI 0)), M)) := by
  show Go _ _ tM_isRow (_, 0, [.int x], []) _
  refine go_iloadn_0 iM_isRow_0 ?_
  refine go_iconst (v := nI 0) iM_isRow_1 rfl ?_
  refine go_iconst (v := nI 3) iM_isRow_2 rfl ?_
  refine gc_S1 iM_isRow_3 (by decide) rfl rfl (Nat.le_of_ble_eq_true rfl) (Nat.le_of_ble_eq_true rfl) (by decide) (sp_M_in_f (by rw [nI_toInt (by omega), nI_toInt (by omega)]; omega)) ?_
  refine go_zret iM_isRow_6 rfl (by first | exact Or.inl rfl | exact Or.inr rfl) ?_
  rfl
theorem pk_subI {a b : Nat} (ha : a < 2 ^ 30) (hb : b < 2 ^ 30) : (nI a - nI b).toInt = (a : Int) - b := pk_sub_toInt ha hb
theorem sp_M_isPlay_t {p : Nat} (hn : n ≤ 8) (hc : mI 43 5 = nI n) (hp : p < n) : Sp S 1 tM_isPlay (am_sh n, mI, mL, am_mR n) [.ref 43, .int (nI p)] (fun q => q = (some (.int (nI 1)), (am_sh n, mI, mL, am_mR n))) := by
  show Go _ _ tM_isPlay (_, 0, [.ref 43, .int (nI p)], []) _
  refine go_iloadn_1 iM_isPlay_0 ?_
  refine go_iconst (v := nI 0) iM_isPlay_1 rfl ?_
  refine go_aloadn_0 iM_isPlay_2 rfl ?_
  refine go_getI iM_isPlay_3 (Or.inl rfl) (sk_43 _) ?_
  rw [hc]
  refine go_iconst (v := nI 1) iM_isPlay_6 rfl ?_
  refine go_isub iM_isPlay_7 ?_
  refine gc_S1 iM_isPlay_8 (by decide) rfl rfl (Nat.le_of_ble_eq_true rfl) (Nat.le_of_ble_eq_true rfl) (by decide) (sp_M_in_t (by rw [nI_toInt (by omega), nI_toInt (by omega)]; omega) (by rw [nI_toInt (by omega), pk_subI (by omega) (by omega)]; omega)) ?_
  refine go_zret iM_isPlay_11 rfl (by first | exact Or.inl rfl | exact Or.inr rfl) ?_
  rfl
theorem sp_M_isPlay_f {x : Int32} (hn : n ≤ 8) (hc : mI 43 5 = nI n) (hx : x.toInt < 0 ∨ (n : Int) ≤ x.toInt) : Sp S 1 tM_isPlay (am_sh n, mI, mL, am_mR n) [.ref 43, .int x] (fun q => q = (some (.int (nI 0)), (am_sh n, mI, mL, am_mR n))) := by
  show Go _ _ tM_isPlay (_, 0, [.ref 43, .int x], []) _
  refine go_iloadn_1 iM_isPlay_0 ?_
  refine go_iconst (v := nI 0) iM_isPlay_1 rfl ?_
  refine go_aloadn_0 iM_isPlay_2 rfl ?_
  refine go_getI iM_isPlay_3 (Or.inl rfl) (sk_43 _) ?_
  rw [hc]
  refine go_iconst (v := nI 1) iM_isPlay_6 rfl ?_
  refine go_isub iM_isPlay_7 ?_
  refine gc_S1 iM_isPlay_8 (by decide) rfl rfl (Nat.le_of_ble_eq_true rfl) (Nat.le_of_ble_eq_true rfl) (by decide) (sp_M_in_f (by rw [nI_toInt (by omega), pk_subI (by omega) (by omega)]; omega)) ?_
  refine go_zret iM_isPlay_11 rfl (by first | exact Or.inl rfl | exact Or.inr rfl) ?_
  rfl
end HLP
