/-! ===== play, rested, echo, flat ===== -/
section NEWP
variable {S : am_S} {mI : Nat → Nat → Int32} {mL : Nat → Nat → Int64} {n : Nat}
theorem Rel_add {kd : Nat} {a b c d a' b' c' d' : Int32} (hR : Rel n mI mL) (hn : n < 8) (hk : kd < 4) (ha : ∃ z, z ≤ 12 ∧ a = nI z) (hb : ∃ z, z ≤ 12 ∧ b = nI z) (hc : ∃ z, z ≤ 12 ∧ c = nI z) (hd : ∃ z, z ≤ 12 ∧ d = nI z) (ea : a' = a) (eb : b' = b) (ec : c' = c) (ed : kd = 2 → d' = d) : Rel (n + 1) (putI (addI mI n (nI kd) (nI (szK kd)) a b c d) n (nI kd) a' b' c' d') (addL mL n) := by
  obtain ⟨h8, ⟨m, hm1, hm3, hmT, hmM⟩, hcT, hcM, hpl, hro, hfi, hfs, hu, hl, hch⟩ := hR
  subst ea; subst eb; subst ec
  refine ⟨by omega, ⟨m, hm1, hm3, ?_, ?_⟩, ?_, ?_, fun p hp => ?_, fun r hr => (hro r hr).of ?_ ?_ ?_ (fun j hj => ?_), ?_, fun f hf => ?_, ?_, ?_, fun j hj => ?_⟩
  case refine_5 =>
    by_cases e : p = n
    · subst e
      refine ⟨kd, hk, ?_, ?_, ?_, fun j hj => ?_, fun j hj => ?_, fun h2 => ?_⟩
      · simp (disch := omega) only [putI, addI, plI, am_u_n, am_u_s, am_u_k, am_u_r, va_up_ne]
      · simp (disch := omega) only [putI, addI, plI, am_u_n, am_u_s, am_u_k, am_u_r, va_up_ne]
      · simp (disch := omega) only [putI, addI, plI, am_u_n, am_u_s, am_u_k, am_u_r, va_up_ne]
      · rcases (by omega : j = 0 ∨ j = 1 ∨ j = 2 ∨ j = 3) with rfl | rfl | rfl | rfl <;> simp (disch := omega) only [putI, addI, plI, am_u_n, am_u_s, am_u_k, am_u_r, va_up_ne] <;> assumption
      · rcases (by omega : j = 0 ∨ j = 1 ∨ j = 2) with rfl | rfl | rfl <;> simp (disch := omega) only [putI, addI, plI, Nat.add_zero, am_u_n, am_u_s, am_u_k, am_u_r, va_up_ne]
      · rw [ed h2]
        simp (disch := omega) only [putI, addI, plI, am_u_n, am_u_s, am_u_k, am_u_r, va_up_ne]
    · refine (hpl p (by omega)).of ?_ ?_ ?_ (fun j hj => ?_) <;> simp (disch := omega) only [putI, addI, plI, am_u_n, am_u_s, am_u_k, am_u_r, va_up_ne]
  all_goals (simp (disch := omega) only [putI, addI, addL, plI, am_u_n, am_u_s, am_u_k, am_u_r, va_up_ne]; try first | assumption | exact hfs _ hf | exact hch _ hj)
theorem hcM_add {kd sz a b c d : Int32} (hcM : mI 43 5 = nI n) : addI mI n kd sz a b c d 43 5 = nI n := by
  simp (disch := omega) only [addI, plI, am_u_n, am_u_r, va_up_ne, hcM]
theorem nI12 : ∃ z, z ≤ 12 ∧ nI 12 = nI z := ⟨12, by omega, rfl⟩
theorem nI00 : ∃ z, z ≤ 12 ∧ nI 0 = nI z := ⟨0, by omega, rfl⟩
theorem pr_play (hR : Rel n mI mL) : Pair S tT_play tM_play [] n mI mL := by
  have hR' := hR
  obtain ⟨h8, ⟨m, hm1, hm3, hmT, hmM⟩, hcT, hcM, hpl, hro, hfi, hfs, hu, hl, hch⟩ := hR
  by_cases hn : n = 8
  · refine Pair.mk (h1 := 2) (h2 := 1) (n1 := n) (mI1 := mI) (mL1 := mL) (mI2 := mI) (mL2 := mL) (v := .int (-2)) ?_ ?_ hR' (by decide) (by decide) (Nat.le_refl _) (by omega)
    · show Go _ _ tT_play (_, 0, [.ref 0], []) _
      refine go_aloadn_0 iT_play_0 rfl ?_
      refine go_iconst (v := nI 0) iT_play_1 rfl ?_
      refine go_iconst (v := nI 0) iT_play_2 rfl ?_
      refine go_bipush (v := nI 12) iT_play_3 (by decide) ?_
      refine go_bipush (v := nI 12) iT_play_5 (by decide) ?_
      refine go_bipush (v := nI 12) iT_play_7 (by decide) ?_
      refine go_bipush (v := nI 12) iT_play_9 (by decide) ?_
      refine gc_V1 iT_play_11 rfl (by decide) (sk_0 _) rfl (Nat.le_of_ble_eq_true rfl) (Nat.le_of_ble_eq_true rfl) (by decide) (sp_T_added_f hcT hn) ?_
      refine go_iret iT_play_14 rfl ?_
      rfl
    · show Go _ _ tM_play (_, 0, [.ref 43], []) _
      refine go_aloadn_0 iM_play_0 rfl ?_
      refine go_iconst (v := nI 0) iM_play_1 rfl ?_
      refine go_bipush (v := nI 12) iM_play_2 (by decide) ?_
      refine go_bipush (v := nI 12) iM_play_4 (by decide) ?_
      refine go_bipush (v := nI 12) iM_play_6 (by decide) ?_
      refine go_iconst (v := nI 0) iM_play_8 rfl ?_
      refine gc_V1 iM_play_9 rfl (by decide) (sk_43 _) rfl (Nat.le_of_ble_eq_true rfl) (Nat.le_of_ble_eq_true rfl) (by decide) (sp_M_put_f hcM hn) ?_
      refine go_iret iM_play_12 rfl ?_
      rfl
  · refine Pair.mk (h1 := 2) (h2 := 1) (n1 := n + 1) (mI1 := addI mI n (nI 0) (nI (szK 0)) (nI 12) (nI 12) (nI 12) (nI 12)) (mL1 := addL mL n) (v := .int (nI n)) ?_ ?_ (Rel_add (kd := 0) (a' := nI 12) (b' := nI 12) (c' := nI 12) (d' := nI 0) hR' (by omega) (by decide) nI12 nI12 nI12 nI12 rfl rfl rfl (fun h => by omega)) (by decide) (by decide) (by omega) (Nat.le_refl _)
    · show Go _ _ tT_play (_, 0, [.ref 0], []) _
      refine go_aloadn_0 iT_play_0 rfl ?_
      refine go_iconst (v := nI 0) iT_play_1 rfl ?_
      refine go_iconst (v := nI 0) iT_play_2 rfl ?_
      refine go_bipush (v := nI 12) iT_play_3 (by decide) ?_
      refine go_bipush (v := nI 12) iT_play_5 (by decide) ?_
      refine go_bipush (v := nI 12) iT_play_7 (by decide) ?_
      refine go_bipush (v := nI 12) iT_play_9 (by decide) ?_
      refine gc_V1 iT_play_11 rfl (by decide) (sk_0 _) rfl (Nat.le_of_ble_eq_true rfl) (Nat.le_of_ble_eq_true rfl) (by decide) (sp_T_added_t hcT (by omega)) ?_
      refine go_iret iT_play_14 rfl ?_
      rfl
    · show Go _ _ tM_play (_, 0, [.ref 43], []) _
      refine go_aloadn_0 iM_play_0 rfl ?_
      refine go_iconst (v := nI 0) iM_play_1 rfl ?_
      refine go_bipush (v := nI 12) iM_play_2 (by decide) ?_
      refine go_bipush (v := nI 12) iM_play_4 (by decide) ?_
      refine go_bipush (v := nI 12) iM_play_6 (by decide) ?_
      refine go_iconst (v := nI 0) iM_play_8 rfl ?_
      refine gc_V1 iM_play_9 rfl (by decide) (sk_43 _) rfl (Nat.le_of_ble_eq_true rfl) (Nat.le_of_ble_eq_true rfl) (by decide) (sp_M_put_t (hcM_add hcM) (by omega)) ?_
      refine go_iret iM_play_12 rfl ?_
      rfl
theorem sp_T_flat_f {x : Int32} (hx : x.toInt < 0 ∨ 12 < x.toInt) : Sp S 2 tT_flat (am_sh n, mI, mL, am_mR n) [.ref 0, .int x] (fun q => q = (some (.int (-1)), (am_sh n, mI, mL, am_mR n))) := by
  show Go _ _ tT_flat (_, 0, [.ref 0, .int x], []) _
  refine go_iloadn_1 iT_flat_0 ?_
  refine gc_S1 iT_flat_1 (by decide) rfl rfl (Nat.le_of_ble_eq_true rfl) (Nat.le_of_ble_eq_true rfl) (by decide) (sp_T_isOdds_f hx) ?_
  refine go_if_ne iT_flat_4 (fun c_4 => ?_) (fun c_4 => ?_)
  · (first | omega | exact absurd c_4 (by decide) | (exfalso; simp (disch := omega) only [Int32.lt_iff_toInt_lt, Int32.le_iff_toInt_le, ← Int32.toInt_inj, nI_toInt, i32_m1, i32_0, i32_m20, i32_m40, i32_m30, i32_m9] at *; omega))
  refine go_iconst (v := (-1)) iT_flat_7 rfl ?_
  refine go_iret iT_flat_8 rfl ?_
  rfl
theorem sp_M_flat_f {x : Int32} (hx : x.toInt < 0 ∨ 12 < x.toInt) : Sp S 2 tM_flat (am_sh n, mI, mL, am_mR n) [.ref 43, .int x] (fun q => q = (some (.int (-1)), (am_sh n, mI, mL, am_mR n))) := by
  show Go _ _ tM_flat (_, 0, [.ref 43, .int x], []) _
  refine go_iloadn_1 iM_flat_0 ?_
  refine gc_S1 iM_flat_1 (by decide) rfl rfl (Nat.le_of_ble_eq_true rfl) (Nat.le_of_ble_eq_true rfl) (by decide) (sp_M_isOdds_f hx) ?_
  refine go_if_eq iM_flat_4 (fun c_4 => ?_) (fun c_4 => ?_)
  rotate_left
  · (first | omega | exact absurd c_4 (by decide) | (exfalso; simp (disch := omega) only [Int32.lt_iff_toInt_lt, Int32.le_iff_toInt_le, ← Int32.toInt_inj, nI_toInt, i32_m1, i32_0, i32_m20, i32_m40, i32_m30, i32_m9] at *; omega))
  refine go_iconst (v := (-1)) iM_flat_19 rfl ?_
  refine go_iret iM_flat_20 rfl ?_
  rfl
theorem pr_flat (x : Int32) (hR : Rel n mI mL) : Pair S tT_flat tM_flat [.int x] n mI mL := by
  have hR' := hR
  obtain ⟨h8, ⟨m, hm1, hm3, hmT, hmM⟩, hcT, hcM, hpl, hro, hfi, hfs, hu, hl, hch⟩ := hR
  rcases int_cases x 12 (by decide) with ⟨a, ha, rfl⟩ | hx
  · have hz : ∃ z, z ≤ 12 ∧ nI a = nI z := ⟨a, ha, rfl⟩
    by_cases hn : n = 8
    · refine Pair.mk (h1 := 2) (h2 := 2) (n1 := n) (mI1 := mI) (mL1 := mL) (mI2 := mI) (mL2 := mL) (v := .int (-2)) ?_ ?_ hR' (by decide) (by decide) (Nat.le_refl _) (by omega)
      · show Go _ _ tT_flat (_, 0, [.ref 0, .int (nI a)], []) _
        refine go_iloadn_1 iT_flat_0 ?_
        refine gc_S1 iT_flat_1 (by decide) rfl rfl (Nat.le_of_ble_eq_true rfl) (Nat.le_of_ble_eq_true rfl) (by decide) (sp_T_isOdds_t ha) ?_
        refine go_if_ne iT_flat_4 (fun c_4 => ?_) (fun c_4 => ?_)
        rotate_left
        · (first | omega | exact absurd c_4 (by decide) | (exfalso; simp (disch := omega) only [Int32.lt_iff_toInt_lt, Int32.le_iff_toInt_le, ← Int32.toInt_inj, nI_toInt, i32_m1, i32_0, i32_m20, i32_m40, i32_m30, i32_m9] at *; omega))
        refine go_aloadn_0 iT_flat_9 rfl ?_
        refine go_iconst (v := nI 3) iT_flat_10 rfl ?_
        refine go_iconst (v := nI 1) iT_flat_11 rfl ?_
        refine go_iloadn_1 iT_flat_12 ?_
        refine go_iloadn_1 iT_flat_13 ?_
        refine go_iloadn_1 iT_flat_14 ?_
        refine go_iloadn_1 iT_flat_15 ?_
        refine gc_V1 iT_flat_16 rfl (by decide) (sk_0 _) rfl (Nat.le_of_ble_eq_true rfl) (Nat.le_of_ble_eq_true rfl) (by decide) (sp_T_added_f hcT hn) ?_
        refine go_iret iT_flat_19 rfl ?_
        rfl
      · show Go _ _ tM_flat (_, 0, [.ref 43, .int (nI a)], []) _
        refine go_iloadn_1 iM_flat_0 ?_
        refine gc_S1 iM_flat_1 (by decide) rfl rfl (Nat.le_of_ble_eq_true rfl) (Nat.le_of_ble_eq_true rfl) (by decide) (sp_M_isOdds_t ha) ?_
        refine go_if_eq iM_flat_4 (fun c_4 => ?_) (fun c_4 => ?_)
        · (first | omega | exact absurd c_4 (by decide) | (exfalso; simp (disch := omega) only [Int32.lt_iff_toInt_lt, Int32.le_iff_toInt_le, ← Int32.toInt_inj, nI_toInt, i32_m1, i32_0, i32_m20, i32_m40, i32_m30, i32_m9] at *; omega))
        refine go_aloadn_0 iM_flat_7 rfl ?_
        refine go_iconst (v := nI 3) iM_flat_8 rfl ?_
        refine go_iloadn_1 iM_flat_9 ?_
        refine go_iloadn_1 iM_flat_10 ?_
        refine go_iloadn_1 iM_flat_11 ?_
        refine go_iconst (v := nI 0) iM_flat_12 rfl ?_
        refine gc_V1 iM_flat_13 rfl (by decide) (sk_43 _) rfl (Nat.le_of_ble_eq_true rfl) (Nat.le_of_ble_eq_true rfl) (by decide) (sp_M_put_f hcM hn) ?_
        refine go_goto iM_flat_16 ?_
        refine go_iret iM_flat_20 rfl ?_
        rfl
    · refine Pair.mk (h1 := 2) (h2 := 2) (n1 := n + 1) (mI1 := addI mI n (nI 3) (nI (szK 3)) (nI a) (nI a) (nI a) (nI a)) (mL1 := addL mL n) (v := .int (nI n)) ?_ ?_ (Rel_add (kd := 3) (a' := nI a) (b' := nI a) (c' := nI a) (d' := nI 0) hR' (by omega) (by decide) hz hz hz hz rfl rfl rfl (fun h => by omega)) (by decide) (by decide) (by omega) (Nat.le_refl _)
      · show Go _ _ tT_flat (_, 0, [.ref 0, .int (nI a)], []) _
        refine go_iloadn_1 iT_flat_0 ?_
        refine gc_S1 iT_flat_1 (by decide) rfl rfl (Nat.le_of_ble_eq_true rfl) (Nat.le_of_ble_eq_true rfl) (by decide) (sp_T_isOdds_t ha) ?_
        refine go_if_ne iT_flat_4 (fun c_4 => ?_) (fun c_4 => ?_)
        rotate_left
        · (first | omega | exact absurd c_4 (by decide) | (exfalso; simp (disch := omega) only [Int32.lt_iff_toInt_lt, Int32.le_iff_toInt_le, ← Int32.toInt_inj, nI_toInt, i32_m1, i32_0, i32_m20, i32_m40, i32_m30, i32_m9] at *; omega))
        refine go_aloadn_0 iT_flat_9 rfl ?_
        refine go_iconst (v := nI 3) iT_flat_10 rfl ?_
        refine go_iconst (v := nI 1) iT_flat_11 rfl ?_
        refine go_iloadn_1 iT_flat_12 ?_
        refine go_iloadn_1 iT_flat_13 ?_
        refine go_iloadn_1 iT_flat_14 ?_
        refine go_iloadn_1 iT_flat_15 ?_
        refine gc_V1 iT_flat_16 rfl (by decide) (sk_0 _) rfl (Nat.le_of_ble_eq_true rfl) (Nat.le_of_ble_eq_true rfl) (by decide) (sp_T_added_t hcT (by omega)) ?_
        refine go_iret iT_flat_19 rfl ?_
        rfl
      · show Go _ _ tM_flat (_, 0, [.ref 43, .int (nI a)], []) _
        refine go_iloadn_1 iM_flat_0 ?_
        refine gc_S1 iM_flat_1 (by decide) rfl rfl (Nat.le_of_ble_eq_true rfl) (Nat.le_of_ble_eq_true rfl) (by decide) (sp_M_isOdds_t ha) ?_
        refine go_if_eq iM_flat_4 (fun c_4 => ?_) (fun c_4 => ?_)
        · (first | omega | exact absurd c_4 (by decide) | (exfalso; simp (disch := omega) only [Int32.lt_iff_toInt_lt, Int32.le_iff_toInt_le, ← Int32.toInt_inj, nI_toInt, i32_m1, i32_0, i32_m20, i32_m40, i32_m30, i32_m9] at *; omega))
        refine go_aloadn_0 iM_flat_7 rfl ?_
        refine go_iconst (v := nI 3) iM_flat_8 rfl ?_
        refine go_iloadn_1 iM_flat_9 ?_
        refine go_iloadn_1 iM_flat_10 ?_
        refine go_iloadn_1 iM_flat_11 ?_
        refine go_iconst (v := nI 0) iM_flat_12 rfl ?_
        refine gc_V1 iM_flat_13 rfl (by decide) (sk_43 _) rfl (Nat.le_of_ble_eq_true rfl) (Nat.le_of_ble_eq_true rfl) (by decide) (sp_M_put_t (hcM_add hcM) (by omega)) ?_
        refine go_goto iM_flat_16 ?_
        refine go_iret iM_flat_20 rfl ?_
        rfl
  · exact Pair.mk (sp_T_flat_f hx) (sp_M_flat_f hx) hR' (by decide) (by decide) (Nat.le_refl _) (by omega)
/-- the answer of isOdds, both ways -/
theorem odd_cases (x : Int32) : (∃ a, a ≤ 12 ∧ x = nI a) ∨ (x.toInt < 0 ∨ 12 < x.toInt) := int_cases x 12 (by decide)
theorem pr_rested (x y z : Int32) (hR : Rel n mI mL) : Pair S tT_rested tM_rested [.int x, .int y, .int z] n mI mL := by
  have hR' := hR
  obtain ⟨h8, ⟨m, hm1, hm3, hmT, hmM⟩, hcT, hcM, hpl, hro, hfi, hfs, hu, hl, hch⟩ := hR
  rcases odd_cases x with ⟨a, ha, rfl⟩ | hx
  · rcases odd_cases y with ⟨b, hb, rfl⟩ | hy
    · rcases odd_cases z with ⟨c, hc, rfl⟩ | hz
      · by_cases hn : n = 8
        · refine Pair.mk (h1 := 2) (h2 := 2) (n1 := n) (mI1 := mI) (mL1 := mL) (mI2 := mI) (mL2 := mL) (v := .int (-2)) ?_ ?_ hR' (by decide) (by decide) (Nat.le_refl _) (by omega)
          · show Go _ _ tT_rested (_, 0, [.ref 0, .int (nI a), .int (nI b), .int (nI c)], []) _
            refine go_iloadn_1 iT_rested_0 ?_
            refine gc_S1 iT_rested_1 (by decide) rfl rfl (Nat.le_of_ble_eq_true rfl) (Nat.le_of_ble_eq_true rfl) (by decide) (sp_T_isOdds_t ha) ?_
            refine go_if_eq iT_rested_4 (fun c_4 => ?_) (fun c_4 => ?_)
            · (first | omega | exact absurd c_4 (by decide) | (exfalso; simp (disch := omega) only [Int32.lt_iff_toInt_lt, Int32.le_iff_toInt_le, ← Int32.toInt_inj, nI_toInt, i32_m1, i32_0, i32_m20, i32_m40, i32_m30, i32_m9] at *; omega))
            refine go_iloadn_2 iT_rested_7 ?_
            refine gc_S1 iT_rested_8 (by decide) rfl rfl (Nat.le_of_ble_eq_true rfl) (Nat.le_of_ble_eq_true rfl) (by decide) (sp_T_isOdds_t hb) ?_
            refine go_if_eq iT_rested_11 (fun c_11 => ?_) (fun c_11 => ?_)
            · (first | omega | exact absurd c_11 (by decide) | (exfalso; simp (disch := omega) only [Int32.lt_iff_toInt_lt, Int32.le_iff_toInt_le, ← Int32.toInt_inj, nI_toInt, i32_m1, i32_0, i32_m20, i32_m40, i32_m30, i32_m9] at *; omega))
            refine go_iloadn_3 iT_rested_14 ?_
            refine gc_S1 iT_rested_15 (by decide) rfl rfl (Nat.le_of_ble_eq_true rfl) (Nat.le_of_ble_eq_true rfl) (by decide) (sp_T_isOdds_t hc) ?_
            refine go_if_ne iT_rested_18 (fun c_18 => ?_) (fun c_18 => ?_)
            rotate_left
            · (first | omega | exact absurd c_18 (by decide) | (exfalso; simp (disch := omega) only [Int32.lt_iff_toInt_lt, Int32.le_iff_toInt_le, ← Int32.toInt_inj, nI_toInt, i32_m1, i32_0, i32_m20, i32_m40, i32_m30, i32_m9] at *; omega))
            refine go_aloadn_0 iT_rested_23 rfl ?_
            refine go_iconst (v := nI 1) iT_rested_24 rfl ?_
            refine go_iconst (v := nI 3) iT_rested_25 rfl ?_
            refine go_iloadn_1 iT_rested_26 ?_
            refine go_iloadn_2 iT_rested_27 ?_
            refine go_iloadn_3 iT_rested_28 ?_
            refine go_iconst (v := nI 0) iT_rested_29 rfl ?_
            refine gc_V1 iT_rested_30 rfl (by decide) (sk_0 _) rfl (Nat.le_of_ble_eq_true rfl) (Nat.le_of_ble_eq_true rfl) (by decide) (sp_T_added_f hcT hn) ?_
            refine go_iret iT_rested_33 rfl ?_
            rfl
          · show Go _ _ tM_rested (_, 0, [.ref 43, .int (nI a), .int (nI b), .int (nI c)], []) _
            refine go_iloadn_1 iM_rested_0 ?_
            refine gc_S1 iM_rested_1 (by decide) rfl rfl (Nat.le_of_ble_eq_true rfl) (Nat.le_of_ble_eq_true rfl) (by decide) (sp_M_isOdds_t ha) ?_
            refine go_if_eq iM_rested_4 (fun c_4 => ?_) (fun c_4 => ?_)
            · (first | omega | exact absurd c_4 (by decide) | (exfalso; simp (disch := omega) only [Int32.lt_iff_toInt_lt, Int32.le_iff_toInt_le, ← Int32.toInt_inj, nI_toInt, i32_m1, i32_0, i32_m20, i32_m40, i32_m30, i32_m9] at *; omega))
            refine go_iloadn_2 iM_rested_7 ?_
            refine gc_S1 iM_rested_8 (by decide) rfl rfl (Nat.le_of_ble_eq_true rfl) (Nat.le_of_ble_eq_true rfl) (by decide) (sp_M_isOdds_t hb) ?_
            refine go_if_eq iM_rested_11 (fun c_11 => ?_) (fun c_11 => ?_)
            · (first | omega | exact absurd c_11 (by decide) | (exfalso; simp (disch := omega) only [Int32.lt_iff_toInt_lt, Int32.le_iff_toInt_le, ← Int32.toInt_inj, nI_toInt, i32_m1, i32_0, i32_m20, i32_m40, i32_m30, i32_m9] at *; omega))
            refine go_iloadn_3 iM_rested_14 ?_
            refine gc_S1 iM_rested_15 (by decide) rfl rfl (Nat.le_of_ble_eq_true rfl) (Nat.le_of_ble_eq_true rfl) (by decide) (sp_M_isOdds_t hc) ?_
            refine go_if_eq iM_rested_18 (fun c_18 => ?_) (fun c_18 => ?_)
            · (first | omega | exact absurd c_18 (by decide) | (exfalso; simp (disch := omega) only [Int32.lt_iff_toInt_lt, Int32.le_iff_toInt_le, ← Int32.toInt_inj, nI_toInt, i32_m1, i32_0, i32_m20, i32_m40, i32_m30, i32_m9] at *; omega))
            refine go_aloadn_0 iM_rested_21 rfl ?_
            refine go_iconst (v := nI 1) iM_rested_22 rfl ?_
            refine go_iloadn_1 iM_rested_23 ?_
            refine go_iloadn_2 iM_rested_24 ?_
            refine go_iloadn_3 iM_rested_25 ?_
            refine go_iconst (v := nI 0) iM_rested_26 rfl ?_
            refine gc_V1 iM_rested_27 rfl (by decide) (sk_43 _) rfl (Nat.le_of_ble_eq_true rfl) (Nat.le_of_ble_eq_true rfl) (by decide) (sp_M_put_f hcM hn) ?_
            refine go_goto iM_rested_30 ?_
            refine go_iret iM_rested_34 rfl ?_
            rfl
        · refine Pair.mk (h1 := 2) (h2 := 2) (n1 := n + 1) (mI1 := addI mI n (nI 1) (nI (szK 1)) (nI a) (nI b) (nI c) (nI 0)) (mL1 := addL mL n) (v := .int (nI n)) ?_ ?_ (Rel_add (kd := 1) (a' := nI a) (b' := nI b) (c' := nI c) (d' := nI 0) hR' (by omega) (by decide) ⟨a, ha, rfl⟩ ⟨b, hb, rfl⟩ ⟨c, hc, rfl⟩ nI00 rfl rfl rfl (fun _ => rfl)) (by decide) (by decide) (by omega) (Nat.le_refl _)
          · show Go _ _ tT_rested (_, 0, [.ref 0, .int (nI a), .int (nI b), .int (nI c)], []) _
            refine go_iloadn_1 iT_rested_0 ?_
            refine gc_S1 iT_rested_1 (by decide) rfl rfl (Nat.le_of_ble_eq_true rfl) (Nat.le_of_ble_eq_true rfl) (by decide) (sp_T_isOdds_t ha) ?_
            refine go_if_eq iT_rested_4 (fun c_4 => ?_) (fun c_4 => ?_)
            · (first | omega | exact absurd c_4 (by decide) | (exfalso; simp (disch := omega) only [Int32.lt_iff_toInt_lt, Int32.le_iff_toInt_le, ← Int32.toInt_inj, nI_toInt, i32_m1, i32_0, i32_m20, i32_m40, i32_m30, i32_m9] at *; omega))
            refine go_iloadn_2 iT_rested_7 ?_
            refine gc_S1 iT_rested_8 (by decide) rfl rfl (Nat.le_of_ble_eq_true rfl) (Nat.le_of_ble_eq_true rfl) (by decide) (sp_T_isOdds_t hb) ?_
            refine go_if_eq iT_rested_11 (fun c_11 => ?_) (fun c_11 => ?_)
            · (first | omega | exact absurd c_11 (by decide) | (exfalso; simp (disch := omega) only [Int32.lt_iff_toInt_lt, Int32.le_iff_toInt_le, ← Int32.toInt_inj, nI_toInt, i32_m1, i32_0, i32_m20, i32_m40, i32_m30, i32_m9] at *; omega))
            refine go_iloadn_3 iT_rested_14 ?_
            refine gc_S1 iT_rested_15 (by decide) rfl rfl (Nat.le_of_ble_eq_true rfl) (Nat.le_of_ble_eq_true rfl) (by decide) (sp_T_isOdds_t hc) ?_
            refine go_if_ne iT_rested_18 (fun c_18 => ?_) (fun c_18 => ?_)
            rotate_left
            · (first | omega | exact absurd c_18 (by decide) | (exfalso; simp (disch := omega) only [Int32.lt_iff_toInt_lt, Int32.le_iff_toInt_le, ← Int32.toInt_inj, nI_toInt, i32_m1, i32_0, i32_m20, i32_m40, i32_m30, i32_m9] at *; omega))
            refine go_aloadn_0 iT_rested_23 rfl ?_
            refine go_iconst (v := nI 1) iT_rested_24 rfl ?_
            refine go_iconst (v := nI 3) iT_rested_25 rfl ?_
            refine go_iloadn_1 iT_rested_26 ?_
            refine go_iloadn_2 iT_rested_27 ?_
            refine go_iloadn_3 iT_rested_28 ?_
            refine go_iconst (v := nI 0) iT_rested_29 rfl ?_
            refine gc_V1 iT_rested_30 rfl (by decide) (sk_0 _) rfl (Nat.le_of_ble_eq_true rfl) (Nat.le_of_ble_eq_true rfl) (by decide) (sp_T_added_t hcT (by omega)) ?_
            refine go_iret iT_rested_33 rfl ?_
            rfl
          · show Go _ _ tM_rested (_, 0, [.ref 43, .int (nI a), .int (nI b), .int (nI c)], []) _
            refine go_iloadn_1 iM_rested_0 ?_
            refine gc_S1 iM_rested_1 (by decide) rfl rfl (Nat.le_of_ble_eq_true rfl) (Nat.le_of_ble_eq_true rfl) (by decide) (sp_M_isOdds_t ha) ?_
            refine go_if_eq iM_rested_4 (fun c_4 => ?_) (fun c_4 => ?_)
            · (first | omega | exact absurd c_4 (by decide) | (exfalso; simp (disch := omega) only [Int32.lt_iff_toInt_lt, Int32.le_iff_toInt_le, ← Int32.toInt_inj, nI_toInt, i32_m1, i32_0, i32_m20, i32_m40, i32_m30, i32_m9] at *; omega))
            refine go_iloadn_2 iM_rested_7 ?_
            refine gc_S1 iM_rested_8 (by decide) rfl rfl (Nat.le_of_ble_eq_true rfl) (Nat.le_of_ble_eq_true rfl) (by decide) (sp_M_isOdds_t hb) ?_
            refine go_if_eq iM_rested_11 (fun c_11 => ?_) (fun c_11 => ?_)
            · (first | omega | exact absurd c_11 (by decide) | (exfalso; simp (disch := omega) only [Int32.lt_iff_toInt_lt, Int32.le_iff_toInt_le, ← Int32.toInt_inj, nI_toInt, i32_m1, i32_0, i32_m20, i32_m40, i32_m30, i32_m9] at *; omega))
            refine go_iloadn_3 iM_rested_14 ?_
            refine gc_S1 iM_rested_15 (by decide) rfl rfl (Nat.le_of_ble_eq_true rfl) (Nat.le_of_ble_eq_true rfl) (by decide) (sp_M_isOdds_t hc) ?_
            refine go_if_eq iM_rested_18 (fun c_18 => ?_) (fun c_18 => ?_)
            · (first | omega | exact absurd c_18 (by decide) | (exfalso; simp (disch := omega) only [Int32.lt_iff_toInt_lt, Int32.le_iff_toInt_le, ← Int32.toInt_inj, nI_toInt, i32_m1, i32_0, i32_m20, i32_m40, i32_m30, i32_m9] at *; omega))
            refine go_aloadn_0 iM_rested_21 rfl ?_
            refine go_iconst (v := nI 1) iM_rested_22 rfl ?_
            refine go_iloadn_1 iM_rested_23 ?_
            refine go_iloadn_2 iM_rested_24 ?_
            refine go_iloadn_3 iM_rested_25 ?_
            refine go_iconst (v := nI 0) iM_rested_26 rfl ?_
            refine gc_V1 iM_rested_27 rfl (by decide) (sk_43 _) rfl (Nat.le_of_ble_eq_true rfl) (Nat.le_of_ble_eq_true rfl) (by decide) (sp_M_put_t (hcM_add hcM) (by omega)) ?_
            refine go_goto iM_rested_30 ?_
            refine go_iret iM_rested_34 rfl ?_
            rfl
      · refine Pair.mk (h1 := 2) (h2 := 2) (n1 := n) (mI1 := mI) (mL1 := mL) (mI2 := mI) (mL2 := mL) (v := .int (-1)) ?_ ?_ hR' (by decide) (by decide) (Nat.le_refl _) (by omega)
        · show Go _ _ tT_rested (_, 0, [.ref 0, .int (nI a), .int (nI b), .int z], []) _
          refine go_iloadn_1 iT_rested_0 ?_
          refine gc_S1 iT_rested_1 (by decide) rfl rfl (Nat.le_of_ble_eq_true rfl) (Nat.le_of_ble_eq_true rfl) (by decide) (sp_T_isOdds_t ha) ?_
          refine go_if_eq iT_rested_4 (fun c_4 => ?_) (fun c_4 => ?_)
          · (first | omega | exact absurd c_4 (by decide) | (exfalso; simp (disch := omega) only [Int32.lt_iff_toInt_lt, Int32.le_iff_toInt_le, ← Int32.toInt_inj, nI_toInt, i32_m1, i32_0, i32_m20, i32_m40, i32_m30, i32_m9] at *; omega))
          refine go_iloadn_2 iT_rested_7 ?_
          refine gc_S1 iT_rested_8 (by decide) rfl rfl (Nat.le_of_ble_eq_true rfl) (Nat.le_of_ble_eq_true rfl) (by decide) (sp_T_isOdds_t hb) ?_
          refine go_if_eq iT_rested_11 (fun c_11 => ?_) (fun c_11 => ?_)
          · (first | omega | exact absurd c_11 (by decide) | (exfalso; simp (disch := omega) only [Int32.lt_iff_toInt_lt, Int32.le_iff_toInt_le, ← Int32.toInt_inj, nI_toInt, i32_m1, i32_0, i32_m20, i32_m40, i32_m30, i32_m9] at *; omega))
          refine go_iloadn_3 iT_rested_14 ?_
          refine gc_S1 iT_rested_15 (by decide) rfl rfl (Nat.le_of_ble_eq_true rfl) (Nat.le_of_ble_eq_true rfl) (by decide) (sp_T_isOdds_f hz) ?_
          refine go_if_ne iT_rested_18 (fun c_18 => ?_) (fun c_18 => ?_)
          · (first | omega | exact absurd c_18 (by decide) | (exfalso; simp (disch := omega) only [Int32.lt_iff_toInt_lt, Int32.le_iff_toInt_le, ← Int32.toInt_inj, nI_toInt, i32_m1, i32_0, i32_m20, i32_m40, i32_m30, i32_m9] at *; omega))
          refine go_iconst (v := (-1)) iT_rested_21 rfl ?_
          refine go_iret iT_rested_22 rfl ?_
          rfl
        · show Go _ _ tM_rested (_, 0, [.ref 43, .int (nI a), .int (nI b), .int z], []) _
          refine go_iloadn_1 iM_rested_0 ?_
          refine gc_S1 iM_rested_1 (by decide) rfl rfl (Nat.le_of_ble_eq_true rfl) (Nat.le_of_ble_eq_true rfl) (by decide) (sp_M_isOdds_t ha) ?_
          refine go_if_eq iM_rested_4 (fun c_4 => ?_) (fun c_4 => ?_)
          · (first | omega | exact absurd c_4 (by decide) | (exfalso; simp (disch := omega) only [Int32.lt_iff_toInt_lt, Int32.le_iff_toInt_le, ← Int32.toInt_inj, nI_toInt, i32_m1, i32_0, i32_m20, i32_m40, i32_m30, i32_m9] at *; omega))
          refine go_iloadn_2 iM_rested_7 ?_
          refine gc_S1 iM_rested_8 (by decide) rfl rfl (Nat.le_of_ble_eq_true rfl) (Nat.le_of_ble_eq_true rfl) (by decide) (sp_M_isOdds_t hb) ?_
          refine go_if_eq iM_rested_11 (fun c_11 => ?_) (fun c_11 => ?_)
          · (first | omega | exact absurd c_11 (by decide) | (exfalso; simp (disch := omega) only [Int32.lt_iff_toInt_lt, Int32.le_iff_toInt_le, ← Int32.toInt_inj, nI_toInt, i32_m1, i32_0, i32_m20, i32_m40, i32_m30, i32_m9] at *; omega))
          refine go_iloadn_3 iM_rested_14 ?_
          refine gc_S1 iM_rested_15 (by decide) rfl rfl (Nat.le_of_ble_eq_true rfl) (Nat.le_of_ble_eq_true rfl) (by decide) (sp_M_isOdds_f hz) ?_
          refine go_if_eq iM_rested_18 (fun c_18 => ?_) (fun c_18 => ?_)
          rotate_left
          · (first | omega | exact absurd c_18 (by decide) | (exfalso; simp (disch := omega) only [Int32.lt_iff_toInt_lt, Int32.le_iff_toInt_le, ← Int32.toInt_inj, nI_toInt, i32_m1, i32_0, i32_m20, i32_m40, i32_m30, i32_m9] at *; omega))
          refine go_iconst (v := (-1)) iM_rested_33 rfl ?_
          refine go_iret iM_rested_34 rfl ?_
          rfl
    · refine Pair.mk (h1 := 2) (h2 := 2) (n1 := n) (mI1 := mI) (mL1 := mL) (mI2 := mI) (mL2 := mL) (v := .int (-1)) ?_ ?_ hR' (by decide) (by decide) (Nat.le_refl _) (by omega)
      · show Go _ _ tT_rested (_, 0, [.ref 0, .int (nI a), .int y, .int z], []) _
        refine go_iloadn_1 iT_rested_0 ?_
        refine gc_S1 iT_rested_1 (by decide) rfl rfl (Nat.le_of_ble_eq_true rfl) (Nat.le_of_ble_eq_true rfl) (by decide) (sp_T_isOdds_t ha) ?_
        refine go_if_eq iT_rested_4 (fun c_4 => ?_) (fun c_4 => ?_)
        · (first | omega | exact absurd c_4 (by decide) | (exfalso; simp (disch := omega) only [Int32.lt_iff_toInt_lt, Int32.le_iff_toInt_le, ← Int32.toInt_inj, nI_toInt, i32_m1, i32_0, i32_m20, i32_m40, i32_m30, i32_m9] at *; omega))
        refine go_iloadn_2 iT_rested_7 ?_
        refine gc_S1 iT_rested_8 (by decide) rfl rfl (Nat.le_of_ble_eq_true rfl) (Nat.le_of_ble_eq_true rfl) (by decide) (sp_T_isOdds_f hy) ?_
        refine go_if_eq iT_rested_11 (fun c_11 => ?_) (fun c_11 => ?_)
        rotate_left
        · (first | omega | exact absurd c_11 (by decide) | (exfalso; simp (disch := omega) only [Int32.lt_iff_toInt_lt, Int32.le_iff_toInt_le, ← Int32.toInt_inj, nI_toInt, i32_m1, i32_0, i32_m20, i32_m40, i32_m30, i32_m9] at *; omega))
        refine go_iconst (v := (-1)) iT_rested_21 rfl ?_
        refine go_iret iT_rested_22 rfl ?_
        rfl
      · show Go _ _ tM_rested (_, 0, [.ref 43, .int (nI a), .int y, .int z], []) _
        refine go_iloadn_1 iM_rested_0 ?_
        refine gc_S1 iM_rested_1 (by decide) rfl rfl (Nat.le_of_ble_eq_true rfl) (Nat.le_of_ble_eq_true rfl) (by decide) (sp_M_isOdds_t ha) ?_
        refine go_if_eq iM_rested_4 (fun c_4 => ?_) (fun c_4 => ?_)
        · (first | omega | exact absurd c_4 (by decide) | (exfalso; simp (disch := omega) only [Int32.lt_iff_toInt_lt, Int32.le_iff_toInt_le, ← Int32.toInt_inj, nI_toInt, i32_m1, i32_0, i32_m20, i32_m40, i32_m30, i32_m9] at *; omega))
        refine go_iloadn_2 iM_rested_7 ?_
        refine gc_S1 iM_rested_8 (by decide) rfl rfl (Nat.le_of_ble_eq_true rfl) (Nat.le_of_ble_eq_true rfl) (by decide) (sp_M_isOdds_f hy) ?_
        refine go_if_eq iM_rested_11 (fun c_11 => ?_) (fun c_11 => ?_)
        rotate_left
        · (first | omega | exact absurd c_11 (by decide) | (exfalso; simp (disch := omega) only [Int32.lt_iff_toInt_lt, Int32.le_iff_toInt_le, ← Int32.toInt_inj, nI_toInt, i32_m1, i32_0, i32_m20, i32_m40, i32_m30, i32_m9] at *; omega))
        refine go_iconst (v := (-1)) iM_rested_33 rfl ?_
        refine go_iret iM_rested_34 rfl ?_
        rfl
  · refine Pair.mk (h1 := 2) (h2 := 2) (n1 := n) (mI1 := mI) (mL1 := mL) (mI2 := mI) (mL2 := mL) (v := .int (-1)) ?_ ?_ hR' (by decide) (by decide) (Nat.le_refl _) (by omega)
    · show Go _ _ tT_rested (_, 0, [.ref 0, .int x, .int y, .int z], []) _
      refine go_iloadn_1 iT_rested_0 ?_
      refine gc_S1 iT_rested_1 (by decide) rfl rfl (Nat.le_of_ble_eq_true rfl) (Nat.le_of_ble_eq_true rfl) (by decide) (sp_T_isOdds_f hx) ?_
      refine go_if_eq iT_rested_4 (fun c_4 => ?_) (fun c_4 => ?_)
      rotate_left
      · (first | omega | exact absurd c_4 (by decide) | (exfalso; simp (disch := omega) only [Int32.lt_iff_toInt_lt, Int32.le_iff_toInt_le, ← Int32.toInt_inj, nI_toInt, i32_m1, i32_0, i32_m20, i32_m40, i32_m30, i32_m9] at *; omega))
      refine go_iconst (v := (-1)) iT_rested_21 rfl ?_
      refine go_iret iT_rested_22 rfl ?_
      rfl
    · show Go _ _ tM_rested (_, 0, [.ref 43, .int x, .int y, .int z], []) _
      refine go_iloadn_1 iM_rested_0 ?_
      refine gc_S1 iM_rested_1 (by decide) rfl rfl (Nat.le_of_ble_eq_true rfl) (Nat.le_of_ble_eq_true rfl) (by decide) (sp_M_isOdds_f hx) ?_
      refine go_if_eq iM_rested_4 (fun c_4 => ?_) (fun c_4 => ?_)
      rotate_left
      · (first | omega | exact absurd c_4 (by decide) | (exfalso; simp (disch := omega) only [Int32.lt_iff_toInt_lt, Int32.le_iff_toInt_le, ← Int32.toInt_inj, nI_toInt, i32_m1, i32_0, i32_m20, i32_m40, i32_m30, i32_m9] at *; omega))
      refine go_iconst (v := (-1)) iM_rested_33 rfl ?_
      refine go_iret iM_rested_34 rfl ?_
      rfl
theorem pr_echo (x y z w : Int32) (hR : Rel n mI mL) : Pair S tT_echo tM_echo [.int x, .int y, .int z, .int w] n mI mL := by
  have hR' := hR
  obtain ⟨h8, ⟨m, hm1, hm3, hmT, hmM⟩, hcT, hcM, hpl, hro, hfi, hfs, hu, hl, hch⟩ := hR
  rcases odd_cases x with ⟨a, ha, rfl⟩ | hx
  · rcases odd_cases y with ⟨b, hb, rfl⟩ | hy
    · rcases odd_cases z with ⟨c, hc, rfl⟩ | hz
      · rcases odd_cases w with ⟨d, hd, rfl⟩ | hw
        · by_cases hn : n = 8
          · refine Pair.mk (h1 := 2) (h2 := 2) (n1 := n) (mI1 := mI) (mL1 := mL) (mI2 := mI) (mL2 := mL) (v := .int (-2)) ?_ ?_ hR' (by decide) (by decide) (Nat.le_refl _) (by omega)
            · show Go _ _ tT_echo (_, 0, [.ref 0, .int (nI a), .int (nI b), .int (nI c), .int (nI d)], []) _
              refine go_iloadn_1 iT_echo_0 ?_
              refine gc_S1 iT_echo_1 (by decide) rfl rfl (Nat.le_of_ble_eq_true rfl) (Nat.le_of_ble_eq_true rfl) (by decide) (sp_T_isOdds_t ha) ?_
              refine go_if_eq iT_echo_4 (fun c_4 => ?_) (fun c_4 => ?_)
              · (first | omega | exact absurd c_4 (by decide) | (exfalso; simp (disch := omega) only [Int32.lt_iff_toInt_lt, Int32.le_iff_toInt_le, ← Int32.toInt_inj, nI_toInt, i32_m1, i32_0, i32_m20, i32_m40, i32_m30, i32_m9] at *; omega))
              refine go_iloadn_2 iT_echo_7 ?_
              refine gc_S1 iT_echo_8 (by decide) rfl rfl (Nat.le_of_ble_eq_true rfl) (Nat.le_of_ble_eq_true rfl) (by decide) (sp_T_isOdds_t hb) ?_
              refine go_if_eq iT_echo_11 (fun c_11 => ?_) (fun c_11 => ?_)
              · (first | omega | exact absurd c_11 (by decide) | (exfalso; simp (disch := omega) only [Int32.lt_iff_toInt_lt, Int32.le_iff_toInt_le, ← Int32.toInt_inj, nI_toInt, i32_m1, i32_0, i32_m20, i32_m40, i32_m30, i32_m9] at *; omega))
              refine go_iloadn_3 iT_echo_14 ?_
              refine gc_S1 iT_echo_15 (by decide) rfl rfl (Nat.le_of_ble_eq_true rfl) (Nat.le_of_ble_eq_true rfl) (by decide) (sp_T_isOdds_t hc) ?_
              refine go_if_eq iT_echo_18 (fun c_18 => ?_) (fun c_18 => ?_)
              · (first | omega | exact absurd c_18 (by decide) | (exfalso; simp (disch := omega) only [Int32.lt_iff_toInt_lt, Int32.le_iff_toInt_le, ← Int32.toInt_inj, nI_toInt, i32_m1, i32_0, i32_m20, i32_m40, i32_m30, i32_m9] at *; omega))
              refine go_iload_4 iT_echo_21 ?_
              refine gc_S1 iT_echo_23 (by decide) rfl rfl (Nat.le_of_ble_eq_true rfl) (Nat.le_of_ble_eq_true rfl) (by decide) (sp_T_isOdds_t hd) ?_
              refine go_if_ne iT_echo_26 (fun c_26 => ?_) (fun c_26 => ?_)
              rotate_left
              · (first | omega | exact absurd c_26 (by decide) | (exfalso; simp (disch := omega) only [Int32.lt_iff_toInt_lt, Int32.le_iff_toInt_le, ← Int32.toInt_inj, nI_toInt, i32_m1, i32_0, i32_m20, i32_m40, i32_m30, i32_m9] at *; omega))
              refine go_aloadn_0 iT_echo_31 rfl ?_
              refine go_iconst (v := nI 2) iT_echo_32 rfl ?_
              refine go_iconst (v := nI 4) iT_echo_33 rfl ?_
              refine go_iloadn_1 iT_echo_34 ?_
              refine go_iloadn_2 iT_echo_35 ?_
              refine go_iloadn_3 iT_echo_36 ?_
              refine go_iload_4 iT_echo_37 ?_
              refine gc_V1 iT_echo_39 rfl (by decide) (sk_0 _) rfl (Nat.le_of_ble_eq_true rfl) (Nat.le_of_ble_eq_true rfl) (by decide) (sp_T_added_f hcT hn) ?_
              refine go_iret iT_echo_42 rfl ?_
              rfl
            · show Go _ _ tM_echo (_, 0, [.ref 43, .int (nI a), .int (nI b), .int (nI c), .int (nI d)], []) _
              refine go_iloadn_1 iM_echo_0 ?_
              refine gc_S1 iM_echo_1 (by decide) rfl rfl (Nat.le_of_ble_eq_true rfl) (Nat.le_of_ble_eq_true rfl) (by decide) (sp_M_isOdds_t ha) ?_
              refine go_if_eq iM_echo_4 (fun c_4 => ?_) (fun c_4 => ?_)
              · (first | omega | exact absurd c_4 (by decide) | (exfalso; simp (disch := omega) only [Int32.lt_iff_toInt_lt, Int32.le_iff_toInt_le, ← Int32.toInt_inj, nI_toInt, i32_m1, i32_0, i32_m20, i32_m40, i32_m30, i32_m9] at *; omega))
              refine go_iloadn_2 iM_echo_7 ?_
              refine gc_S1 iM_echo_8 (by decide) rfl rfl (Nat.le_of_ble_eq_true rfl) (Nat.le_of_ble_eq_true rfl) (by decide) (sp_M_isOdds_t hb) ?_
              refine go_if_eq iM_echo_11 (fun c_11 => ?_) (fun c_11 => ?_)
              · (first | omega | exact absurd c_11 (by decide) | (exfalso; simp (disch := omega) only [Int32.lt_iff_toInt_lt, Int32.le_iff_toInt_le, ← Int32.toInt_inj, nI_toInt, i32_m1, i32_0, i32_m20, i32_m40, i32_m30, i32_m9] at *; omega))
              refine go_iloadn_3 iM_echo_14 ?_
              refine gc_S1 iM_echo_15 (by decide) rfl rfl (Nat.le_of_ble_eq_true rfl) (Nat.le_of_ble_eq_true rfl) (by decide) (sp_M_isOdds_t hc) ?_
              refine go_if_eq iM_echo_18 (fun c_18 => ?_) (fun c_18 => ?_)
              · (first | omega | exact absurd c_18 (by decide) | (exfalso; simp (disch := omega) only [Int32.lt_iff_toInt_lt, Int32.le_iff_toInt_le, ← Int32.toInt_inj, nI_toInt, i32_m1, i32_0, i32_m20, i32_m40, i32_m30, i32_m9] at *; omega))
              refine go_iload_4 iM_echo_21 ?_
              refine gc_S1 iM_echo_23 (by decide) rfl rfl (Nat.le_of_ble_eq_true rfl) (Nat.le_of_ble_eq_true rfl) (by decide) (sp_M_isOdds_t hd) ?_
              refine go_if_eq iM_echo_26 (fun c_26 => ?_) (fun c_26 => ?_)
              · (first | omega | exact absurd c_26 (by decide) | (exfalso; simp (disch := omega) only [Int32.lt_iff_toInt_lt, Int32.le_iff_toInt_le, ← Int32.toInt_inj, nI_toInt, i32_m1, i32_0, i32_m20, i32_m40, i32_m30, i32_m9] at *; omega))
              refine go_aloadn_0 iM_echo_29 rfl ?_
              refine go_iconst (v := nI 2) iM_echo_30 rfl ?_
              refine go_iloadn_1 iM_echo_31 ?_
              refine go_iloadn_2 iM_echo_32 ?_
              refine go_iloadn_3 iM_echo_33 ?_
              refine go_iload_4 iM_echo_34 ?_
              refine gc_V1 iM_echo_36 rfl (by decide) (sk_43 _) rfl (Nat.le_of_ble_eq_true rfl) (Nat.le_of_ble_eq_true rfl) (by decide) (sp_M_put_f hcM hn) ?_
              refine go_goto iM_echo_39 ?_
              refine go_iret iM_echo_43 rfl ?_
              rfl
          · refine Pair.mk (h1 := 2) (h2 := 2) (n1 := n + 1) (mI1 := addI mI n (nI 2) (nI (szK 2)) (nI a) (nI b) (nI c) (nI d)) (mL1 := addL mL n) (v := .int (nI n)) ?_ ?_ (Rel_add (kd := 2) (a' := nI a) (b' := nI b) (c' := nI c) (d' := nI d) hR' (by omega) (by decide) ⟨a, ha, rfl⟩ ⟨b, hb, rfl⟩ ⟨c, hc, rfl⟩ ⟨d, hd, rfl⟩ rfl rfl rfl (fun _ => rfl)) (by decide) (by decide) (by omega) (Nat.le_refl _)
            · show Go _ _ tT_echo (_, 0, [.ref 0, .int (nI a), .int (nI b), .int (nI c), .int (nI d)], []) _
              refine go_iloadn_1 iT_echo_0 ?_
              refine gc_S1 iT_echo_1 (by decide) rfl rfl (Nat.le_of_ble_eq_true rfl) (Nat.le_of_ble_eq_true rfl) (by decide) (sp_T_isOdds_t ha) ?_
              refine go_if_eq iT_echo_4 (fun c_4 => ?_) (fun c_4 => ?_)
              · (first | omega | exact absurd c_4 (by decide) | (exfalso; simp (disch := omega) only [Int32.lt_iff_toInt_lt, Int32.le_iff_toInt_le, ← Int32.toInt_inj, nI_toInt, i32_m1, i32_0, i32_m20, i32_m40, i32_m30, i32_m9] at *; omega))
              refine go_iloadn_2 iT_echo_7 ?_
              refine gc_S1 iT_echo_8 (by decide) rfl rfl (Nat.le_of_ble_eq_true rfl) (Nat.le_of_ble_eq_true rfl) (by decide) (sp_T_isOdds_t hb) ?_
              refine go_if_eq iT_echo_11 (fun c_11 => ?_) (fun c_11 => ?_)
              · (first | omega | exact absurd c_11 (by decide) | (exfalso; simp (disch := omega) only [Int32.lt_iff_toInt_lt, Int32.le_iff_toInt_le, ← Int32.toInt_inj, nI_toInt, i32_m1, i32_0, i32_m20, i32_m40, i32_m30, i32_m9] at *; omega))
              refine go_iloadn_3 iT_echo_14 ?_
              refine gc_S1 iT_echo_15 (by decide) rfl rfl (Nat.le_of_ble_eq_true rfl) (Nat.le_of_ble_eq_true rfl) (by decide) (sp_T_isOdds_t hc) ?_
              refine go_if_eq iT_echo_18 (fun c_18 => ?_) (fun c_18 => ?_)
              · (first | omega | exact absurd c_18 (by decide) | (exfalso; simp (disch := omega) only [Int32.lt_iff_toInt_lt, Int32.le_iff_toInt_le, ← Int32.toInt_inj, nI_toInt, i32_m1, i32_0, i32_m20, i32_m40, i32_m30, i32_m9] at *; omega))
              refine go_iload_4 iT_echo_21 ?_
              refine gc_S1 iT_echo_23 (by decide) rfl rfl (Nat.le_of_ble_eq_true rfl) (Nat.le_of_ble_eq_true rfl) (by decide) (sp_T_isOdds_t hd) ?_
              refine go_if_ne iT_echo_26 (fun c_26 => ?_) (fun c_26 => ?_)
              rotate_left
              · (first | omega | exact absurd c_26 (by decide) | (exfalso; simp (disch := omega) only [Int32.lt_iff_toInt_lt, Int32.le_iff_toInt_le, ← Int32.toInt_inj, nI_toInt, i32_m1, i32_0, i32_m20, i32_m40, i32_m30, i32_m9] at *; omega))
              refine go_aloadn_0 iT_echo_31 rfl ?_
              refine go_iconst (v := nI 2) iT_echo_32 rfl ?_
              refine go_iconst (v := nI 4) iT_echo_33 rfl ?_
              refine go_iloadn_1 iT_echo_34 ?_
              refine go_iloadn_2 iT_echo_35 ?_
              refine go_iloadn_3 iT_echo_36 ?_
              refine go_iload_4 iT_echo_37 ?_
              refine gc_V1 iT_echo_39 rfl (by decide) (sk_0 _) rfl (Nat.le_of_ble_eq_true rfl) (Nat.le_of_ble_eq_true rfl) (by decide) (sp_T_added_t hcT (by omega)) ?_
              refine go_iret iT_echo_42 rfl ?_
              rfl
            · show Go _ _ tM_echo (_, 0, [.ref 43, .int (nI a), .int (nI b), .int (nI c), .int (nI d)], []) _
              refine go_iloadn_1 iM_echo_0 ?_
              refine gc_S1 iM_echo_1 (by decide) rfl rfl (Nat.le_of_ble_eq_true rfl) (Nat.le_of_ble_eq_true rfl) (by decide) (sp_M_isOdds_t ha) ?_
              refine go_if_eq iM_echo_4 (fun c_4 => ?_) (fun c_4 => ?_)
              · (first | omega | exact absurd c_4 (by decide) | (exfalso; simp (disch := omega) only [Int32.lt_iff_toInt_lt, Int32.le_iff_toInt_le, ← Int32.toInt_inj, nI_toInt, i32_m1, i32_0, i32_m20, i32_m40, i32_m30, i32_m9] at *; omega))
              refine go_iloadn_2 iM_echo_7 ?_
              refine gc_S1 iM_echo_8 (by decide) rfl rfl (Nat.le_of_ble_eq_true rfl) (Nat.le_of_ble_eq_true rfl) (by decide) (sp_M_isOdds_t hb) ?_
              refine go_if_eq iM_echo_11 (fun c_11 => ?_) (fun c_11 => ?_)
              · (first | omega | exact absurd c_11 (by decide) | (exfalso; simp (disch := omega) only [Int32.lt_iff_toInt_lt, Int32.le_iff_toInt_le, ← Int32.toInt_inj, nI_toInt, i32_m1, i32_0, i32_m20, i32_m40, i32_m30, i32_m9] at *; omega))
              refine go_iloadn_3 iM_echo_14 ?_
              refine gc_S1 iM_echo_15 (by decide) rfl rfl (Nat.le_of_ble_eq_true rfl) (Nat.le_of_ble_eq_true rfl) (by decide) (sp_M_isOdds_t hc) ?_
              refine go_if_eq iM_echo_18 (fun c_18 => ?_) (fun c_18 => ?_)
              · (first | omega | exact absurd c_18 (by decide) | (exfalso; simp (disch := omega) only [Int32.lt_iff_toInt_lt, Int32.le_iff_toInt_le, ← Int32.toInt_inj, nI_toInt, i32_m1, i32_0, i32_m20, i32_m40, i32_m30, i32_m9] at *; omega))
              refine go_iload_4 iM_echo_21 ?_
              refine gc_S1 iM_echo_23 (by decide) rfl rfl (Nat.le_of_ble_eq_true rfl) (Nat.le_of_ble_eq_true rfl) (by decide) (sp_M_isOdds_t hd) ?_
              refine go_if_eq iM_echo_26 (fun c_26 => ?_) (fun c_26 => ?_)
              · (first | omega | exact absurd c_26 (by decide) | (exfalso; simp (disch := omega) only [Int32.lt_iff_toInt_lt, Int32.le_iff_toInt_le, ← Int32.toInt_inj, nI_toInt, i32_m1, i32_0, i32_m20, i32_m40, i32_m30, i32_m9] at *; omega))
              refine go_aloadn_0 iM_echo_29 rfl ?_
              refine go_iconst (v := nI 2) iM_echo_30 rfl ?_
              refine go_iloadn_1 iM_echo_31 ?_
              refine go_iloadn_2 iM_echo_32 ?_
              refine go_iloadn_3 iM_echo_33 ?_
              refine go_iload_4 iM_echo_34 ?_
              refine gc_V1 iM_echo_36 rfl (by decide) (sk_43 _) rfl (Nat.le_of_ble_eq_true rfl) (Nat.le_of_ble_eq_true rfl) (by decide) (sp_M_put_t (hcM_add hcM) (by omega)) ?_
              refine go_goto iM_echo_39 ?_
              refine go_iret iM_echo_43 rfl ?_
              rfl
        · refine Pair.mk (h1 := 2) (h2 := 2) (n1 := n) (mI1 := mI) (mL1 := mL) (mI2 := mI) (mL2 := mL) (v := .int (-1)) ?_ ?_ hR' (by decide) (by decide) (Nat.le_refl _) (by omega)
          · show Go _ _ tT_echo (_, 0, [.ref 0, .int (nI a), .int (nI b), .int (nI c), .int w], []) _
            refine go_iloadn_1 iT_echo_0 ?_
            refine gc_S1 iT_echo_1 (by decide) rfl rfl (Nat.le_of_ble_eq_true rfl) (Nat.le_of_ble_eq_true rfl) (by decide) (sp_T_isOdds_t ha) ?_
            refine go_if_eq iT_echo_4 (fun c_4 => ?_) (fun c_4 => ?_)
            · (first | omega | exact absurd c_4 (by decide) | (exfalso; simp (disch := omega) only [Int32.lt_iff_toInt_lt, Int32.le_iff_toInt_le, ← Int32.toInt_inj, nI_toInt, i32_m1, i32_0, i32_m20, i32_m40, i32_m30, i32_m9] at *; omega))
            refine go_iloadn_2 iT_echo_7 ?_
            refine gc_S1 iT_echo_8 (by decide) rfl rfl (Nat.le_of_ble_eq_true rfl) (Nat.le_of_ble_eq_true rfl) (by decide) (sp_T_isOdds_t hb) ?_
            refine go_if_eq iT_echo_11 (fun c_11 => ?_) (fun c_11 => ?_)
            · (first | omega | exact absurd c_11 (by decide) | (exfalso; simp (disch := omega) only [Int32.lt_iff_toInt_lt, Int32.le_iff_toInt_le, ← Int32.toInt_inj, nI_toInt, i32_m1, i32_0, i32_m20, i32_m40, i32_m30, i32_m9] at *; omega))
            refine go_iloadn_3 iT_echo_14 ?_
            refine gc_S1 iT_echo_15 (by decide) rfl rfl (Nat.le_of_ble_eq_true rfl) (Nat.le_of_ble_eq_true rfl) (by decide) (sp_T_isOdds_t hc) ?_
            refine go_if_eq iT_echo_18 (fun c_18 => ?_) (fun c_18 => ?_)
            · (first | omega | exact absurd c_18 (by decide) | (exfalso; simp (disch := omega) only [Int32.lt_iff_toInt_lt, Int32.le_iff_toInt_le, ← Int32.toInt_inj, nI_toInt, i32_m1, i32_0, i32_m20, i32_m40, i32_m30, i32_m9] at *; omega))
            refine go_iload_4 iT_echo_21 ?_
            refine gc_S1 iT_echo_23 (by decide) rfl rfl (Nat.le_of_ble_eq_true rfl) (Nat.le_of_ble_eq_true rfl) (by decide) (sp_T_isOdds_f hw) ?_
            refine go_if_ne iT_echo_26 (fun c_26 => ?_) (fun c_26 => ?_)
            · (first | omega | exact absurd c_26 (by decide) | (exfalso; simp (disch := omega) only [Int32.lt_iff_toInt_lt, Int32.le_iff_toInt_le, ← Int32.toInt_inj, nI_toInt, i32_m1, i32_0, i32_m20, i32_m40, i32_m30, i32_m9] at *; omega))
            refine go_iconst (v := (-1)) iT_echo_29 rfl ?_
            refine go_iret iT_echo_30 rfl ?_
            rfl
          · show Go _ _ tM_echo (_, 0, [.ref 43, .int (nI a), .int (nI b), .int (nI c), .int w], []) _
            refine go_iloadn_1 iM_echo_0 ?_
            refine gc_S1 iM_echo_1 (by decide) rfl rfl (Nat.le_of_ble_eq_true rfl) (Nat.le_of_ble_eq_true rfl) (by decide) (sp_M_isOdds_t ha) ?_
            refine go_if_eq iM_echo_4 (fun c_4 => ?_) (fun c_4 => ?_)
            · (first | omega | exact absurd c_4 (by decide) | (exfalso; simp (disch := omega) only [Int32.lt_iff_toInt_lt, Int32.le_iff_toInt_le, ← Int32.toInt_inj, nI_toInt, i32_m1, i32_0, i32_m20, i32_m40, i32_m30, i32_m9] at *; omega))
            refine go_iloadn_2 iM_echo_7 ?_
            refine gc_S1 iM_echo_8 (by decide) rfl rfl (Nat.le_of_ble_eq_true rfl) (Nat.le_of_ble_eq_true rfl) (by decide) (sp_M_isOdds_t hb) ?_
            refine go_if_eq iM_echo_11 (fun c_11 => ?_) (fun c_11 => ?_)
            · (first | omega | exact absurd c_11 (by decide) | (exfalso; simp (disch := omega) only [Int32.lt_iff_toInt_lt, Int32.le_iff_toInt_le, ← Int32.toInt_inj, nI_toInt, i32_m1, i32_0, i32_m20, i32_m40, i32_m30, i32_m9] at *; omega))
            refine go_iloadn_3 iM_echo_14 ?_
            refine gc_S1 iM_echo_15 (by decide) rfl rfl (Nat.le_of_ble_eq_true rfl) (Nat.le_of_ble_eq_true rfl) (by decide) (sp_M_isOdds_t hc) ?_
            refine go_if_eq iM_echo_18 (fun c_18 => ?_) (fun c_18 => ?_)
            · (first | omega | exact absurd c_18 (by decide) | (exfalso; simp (disch := omega) only [Int32.lt_iff_toInt_lt, Int32.le_iff_toInt_le, ← Int32.toInt_inj, nI_toInt, i32_m1, i32_0, i32_m20, i32_m40, i32_m30, i32_m9] at *; omega))
            refine go_iload_4 iM_echo_21 ?_
            refine gc_S1 iM_echo_23 (by decide) rfl rfl (Nat.le_of_ble_eq_true rfl) (Nat.le_of_ble_eq_true rfl) (by decide) (sp_M_isOdds_f hw) ?_
            refine go_if_eq iM_echo_26 (fun c_26 => ?_) (fun c_26 => ?_)
            rotate_left
            · (first | omega | exact absurd c_26 (by decide) | (exfalso; simp (disch := omega) only [Int32.lt_iff_toInt_lt, Int32.le_iff_toInt_le, ← Int32.toInt_inj, nI_toInt, i32_m1, i32_0, i32_m20, i32_m40, i32_m30, i32_m9] at *; omega))
            refine go_iconst (v := (-1)) iM_echo_42 rfl ?_
            refine go_iret iM_echo_43 rfl ?_
            rfl
      · refine Pair.mk (h1 := 2) (h2 := 2) (n1 := n) (mI1 := mI) (mL1 := mL) (mI2 := mI) (mL2 := mL) (v := .int (-1)) ?_ ?_ hR' (by decide) (by decide) (Nat.le_refl _) (by omega)
        · show Go _ _ tT_echo (_, 0, [.ref 0, .int (nI a), .int (nI b), .int z, .int w], []) _
          refine go_iloadn_1 iT_echo_0 ?_
          refine gc_S1 iT_echo_1 (by decide) rfl rfl (Nat.le_of_ble_eq_true rfl) (Nat.le_of_ble_eq_true rfl) (by decide) (sp_T_isOdds_t ha) ?_
          refine go_if_eq iT_echo_4 (fun c_4 => ?_) (fun c_4 => ?_)
          · (first | omega | exact absurd c_4 (by decide) | (exfalso; simp (disch := omega) only [Int32.lt_iff_toInt_lt, Int32.le_iff_toInt_le, ← Int32.toInt_inj, nI_toInt, i32_m1, i32_0, i32_m20, i32_m40, i32_m30, i32_m9] at *; omega))
          refine go_iloadn_2 iT_echo_7 ?_
          refine gc_S1 iT_echo_8 (by decide) rfl rfl (Nat.le_of_ble_eq_true rfl) (Nat.le_of_ble_eq_true rfl) (by decide) (sp_T_isOdds_t hb) ?_
          refine go_if_eq iT_echo_11 (fun c_11 => ?_) (fun c_11 => ?_)
          · (first | omega | exact absurd c_11 (by decide) | (exfalso; simp (disch := omega) only [Int32.lt_iff_toInt_lt, Int32.le_iff_toInt_le, ← Int32.toInt_inj, nI_toInt, i32_m1, i32_0, i32_m20, i32_m40, i32_m30, i32_m9] at *; omega))
          refine go_iloadn_3 iT_echo_14 ?_
          refine gc_S1 iT_echo_15 (by decide) rfl rfl (Nat.le_of_ble_eq_true rfl) (Nat.le_of_ble_eq_true rfl) (by decide) (sp_T_isOdds_f hz) ?_
          refine go_if_eq iT_echo_18 (fun c_18 => ?_) (fun c_18 => ?_)
          rotate_left
          · (first | omega | exact absurd c_18 (by decide) | (exfalso; simp (disch := omega) only [Int32.lt_iff_toInt_lt, Int32.le_iff_toInt_le, ← Int32.toInt_inj, nI_toInt, i32_m1, i32_0, i32_m20, i32_m40, i32_m30, i32_m9] at *; omega))
          refine go_iconst (v := (-1)) iT_echo_29 rfl ?_
          refine go_iret iT_echo_30 rfl ?_
          rfl
        · show Go _ _ tM_echo (_, 0, [.ref 43, .int (nI a), .int (nI b), .int z, .int w], []) _
          refine go_iloadn_1 iM_echo_0 ?_
          refine gc_S1 iM_echo_1 (by decide) rfl rfl (Nat.le_of_ble_eq_true rfl) (Nat.le_of_ble_eq_true rfl) (by decide) (sp_M_isOdds_t ha) ?_
          refine go_if_eq iM_echo_4 (fun c_4 => ?_) (fun c_4 => ?_)
          · (first | omega | exact absurd c_4 (by decide) | (exfalso; simp (disch := omega) only [Int32.lt_iff_toInt_lt, Int32.le_iff_toInt_le, ← Int32.toInt_inj, nI_toInt, i32_m1, i32_0, i32_m20, i32_m40, i32_m30, i32_m9] at *; omega))
          refine go_iloadn_2 iM_echo_7 ?_
          refine gc_S1 iM_echo_8 (by decide) rfl rfl (Nat.le_of_ble_eq_true rfl) (Nat.le_of_ble_eq_true rfl) (by decide) (sp_M_isOdds_t hb) ?_
          refine go_if_eq iM_echo_11 (fun c_11 => ?_) (fun c_11 => ?_)
          · (first | omega | exact absurd c_11 (by decide) | (exfalso; simp (disch := omega) only [Int32.lt_iff_toInt_lt, Int32.le_iff_toInt_le, ← Int32.toInt_inj, nI_toInt, i32_m1, i32_0, i32_m20, i32_m40, i32_m30, i32_m9] at *; omega))
          refine go_iloadn_3 iM_echo_14 ?_
          refine gc_S1 iM_echo_15 (by decide) rfl rfl (Nat.le_of_ble_eq_true rfl) (Nat.le_of_ble_eq_true rfl) (by decide) (sp_M_isOdds_f hz) ?_
          refine go_if_eq iM_echo_18 (fun c_18 => ?_) (fun c_18 => ?_)
          rotate_left
          · (first | omega | exact absurd c_18 (by decide) | (exfalso; simp (disch := omega) only [Int32.lt_iff_toInt_lt, Int32.le_iff_toInt_le, ← Int32.toInt_inj, nI_toInt, i32_m1, i32_0, i32_m20, i32_m40, i32_m30, i32_m9] at *; omega))
          refine go_iconst (v := (-1)) iM_echo_42 rfl ?_
          refine go_iret iM_echo_43 rfl ?_
          rfl
    · refine Pair.mk (h1 := 2) (h2 := 2) (n1 := n) (mI1 := mI) (mL1 := mL) (mI2 := mI) (mL2 := mL) (v := .int (-1)) ?_ ?_ hR' (by decide) (by decide) (Nat.le_refl _) (by omega)
      · show Go _ _ tT_echo (_, 0, [.ref 0, .int (nI a), .int y, .int z, .int w], []) _
        refine go_iloadn_1 iT_echo_0 ?_
        refine gc_S1 iT_echo_1 (by decide) rfl rfl (Nat.le_of_ble_eq_true rfl) (Nat.le_of_ble_eq_true rfl) (by decide) (sp_T_isOdds_t ha) ?_
        refine go_if_eq iT_echo_4 (fun c_4 => ?_) (fun c_4 => ?_)
        · (first | omega | exact absurd c_4 (by decide) | (exfalso; simp (disch := omega) only [Int32.lt_iff_toInt_lt, Int32.le_iff_toInt_le, ← Int32.toInt_inj, nI_toInt, i32_m1, i32_0, i32_m20, i32_m40, i32_m30, i32_m9] at *; omega))
        refine go_iloadn_2 iT_echo_7 ?_
        refine gc_S1 iT_echo_8 (by decide) rfl rfl (Nat.le_of_ble_eq_true rfl) (Nat.le_of_ble_eq_true rfl) (by decide) (sp_T_isOdds_f hy) ?_
        refine go_if_eq iT_echo_11 (fun c_11 => ?_) (fun c_11 => ?_)
        rotate_left
        · (first | omega | exact absurd c_11 (by decide) | (exfalso; simp (disch := omega) only [Int32.lt_iff_toInt_lt, Int32.le_iff_toInt_le, ← Int32.toInt_inj, nI_toInt, i32_m1, i32_0, i32_m20, i32_m40, i32_m30, i32_m9] at *; omega))
        refine go_iconst (v := (-1)) iT_echo_29 rfl ?_
        refine go_iret iT_echo_30 rfl ?_
        rfl
      · show Go _ _ tM_echo (_, 0, [.ref 43, .int (nI a), .int y, .int z, .int w], []) _
        refine go_iloadn_1 iM_echo_0 ?_
        refine gc_S1 iM_echo_1 (by decide) rfl rfl (Nat.le_of_ble_eq_true rfl) (Nat.le_of_ble_eq_true rfl) (by decide) (sp_M_isOdds_t ha) ?_
        refine go_if_eq iM_echo_4 (fun c_4 => ?_) (fun c_4 => ?_)
        · (first | omega | exact absurd c_4 (by decide) | (exfalso; simp (disch := omega) only [Int32.lt_iff_toInt_lt, Int32.le_iff_toInt_le, ← Int32.toInt_inj, nI_toInt, i32_m1, i32_0, i32_m20, i32_m40, i32_m30, i32_m9] at *; omega))
        refine go_iloadn_2 iM_echo_7 ?_
        refine gc_S1 iM_echo_8 (by decide) rfl rfl (Nat.le_of_ble_eq_true rfl) (Nat.le_of_ble_eq_true rfl) (by decide) (sp_M_isOdds_f hy) ?_
        refine go_if_eq iM_echo_11 (fun c_11 => ?_) (fun c_11 => ?_)
        rotate_left
        · (first | omega | exact absurd c_11 (by decide) | (exfalso; simp (disch := omega) only [Int32.lt_iff_toInt_lt, Int32.le_iff_toInt_le, ← Int32.toInt_inj, nI_toInt, i32_m1, i32_0, i32_m20, i32_m40, i32_m30, i32_m9] at *; omega))
        refine go_iconst (v := (-1)) iM_echo_42 rfl ?_
        refine go_iret iM_echo_43 rfl ?_
        rfl
  · refine Pair.mk (h1 := 2) (h2 := 2) (n1 := n) (mI1 := mI) (mL1 := mL) (mI2 := mI) (mL2 := mL) (v := .int (-1)) ?_ ?_ hR' (by decide) (by decide) (Nat.le_refl _) (by omega)
    · show Go _ _ tT_echo (_, 0, [.ref 0, .int x, .int y, .int z, .int w], []) _
      refine go_iloadn_1 iT_echo_0 ?_
      refine gc_S1 iT_echo_1 (by decide) rfl rfl (Nat.le_of_ble_eq_true rfl) (Nat.le_of_ble_eq_true rfl) (by decide) (sp_T_isOdds_f hx) ?_
      refine go_if_eq iT_echo_4 (fun c_4 => ?_) (fun c_4 => ?_)
      rotate_left
      · (first | omega | exact absurd c_4 (by decide) | (exfalso; simp (disch := omega) only [Int32.lt_iff_toInt_lt, Int32.le_iff_toInt_le, ← Int32.toInt_inj, nI_toInt, i32_m1, i32_0, i32_m20, i32_m40, i32_m30, i32_m9] at *; omega))
      refine go_iconst (v := (-1)) iT_echo_29 rfl ?_
      refine go_iret iT_echo_30 rfl ?_
      rfl
    · show Go _ _ tM_echo (_, 0, [.ref 43, .int x, .int y, .int z, .int w], []) _
      refine go_iloadn_1 iM_echo_0 ?_
      refine gc_S1 iM_echo_1 (by decide) rfl rfl (Nat.le_of_ble_eq_true rfl) (Nat.le_of_ble_eq_true rfl) (by decide) (sp_M_isOdds_f hx) ?_
      refine go_if_eq iM_echo_4 (fun c_4 => ?_) (fun c_4 => ?_)
      rotate_left
      · (first | omega | exact absurd c_4 (by decide) | (exfalso; simp (disch := omega) only [Int32.lt_iff_toInt_lt, Int32.le_iff_toInt_le, ← Int32.toInt_inj, nI_toInt, i32_m1, i32_0, i32_m20, i32_m40, i32_m30, i32_m9] at *; omega))
      refine go_iconst (v := (-1)) iM_echo_42 rfl ?_
      refine go_iret iM_echo_43 rfl ?_
      rfl
end NEWP
