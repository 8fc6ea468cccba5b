/-! ===== rows: row, lay, tear ===== -/
section ROWS
variable {S : am_S} {mI : Nat → Nat → Int32} {mL : Nat → Nat → Int64} {n : Nat} {r : Nat}
theorem sk_row (n : Nat) (hr : r < 4) : ((am_sh n)[15 + 2 * r]?).map (fun q => q.1) = some 15 := by rw [(sh_row n hr).1]; rfl
theorem sp_W_isMissing_t (hr : r < 4) (hs : mI (15 + 2 * r) 0 = -1) : Sp S 0 tW_isMissing (am_sh n, mI, mL, am_mR n) [.ref (15 + 2 * r)] (fun q => q = (some (.int (nI 1)), (am_sh n, mI, mL, am_mR n))) := by
  have hk := sk_row n hr
  show Go _ _ tW_isMissing (_, 0, [.ref (15 + 2 * r)], []) _
  refine go_aloadn_0 iW_isMissing_0 rfl ?_
  refine go_getI iW_isMissing_1 (Or.inl rfl) (by assumption) ?_
  try simp (disch := omega) only [am_u_n, am_u_s, am_u_k, hs]
  refine go_iconst (v := (-1)) iW_isMissing_4 rfl ?_
  first | refine gn_ic_ne iW_isMissing_5 (by omega) (by omega) (fun c_5 => ?_) (fun c_5 => ?_) | refine go_ic_ne iW_isMissing_5 (fun c_5 => ?_) (fun c_5 => ?_)
  · (first | omega | exact absurd c_5 (by decide) | (exfalso; simp (disch := omega) only [Int32.lt_iff_toInt_lt, Int32.le_iff_toInt_le, ← Int32.toInt_inj, nI_toInt, i32_m1, i32_0, i32_m20, i32_m40, i32_m30, i32_m9] at *; omega))
  refine go_iconst (v := nI 1) iW_isMissing_8 rfl ?_
  refine go_goto iW_isMissing_9 ?_
  refine go_zret iW_isMissing_13 rfl (by first | exact Or.inl rfl | exact Or.inr rfl) ?_
  rfl
theorem sp_W_isMissing_f {s : Nat} (hr : r < 4) (hs : mI (15 + 2 * r) 0 = nI s) (h4 : s ≤ 4) : Sp S 0 tW_isMissing (am_sh n, mI, mL, am_mR n) [.ref (15 + 2 * r)] (fun q => q = (some (.int (nI 0)), (am_sh n, mI, mL, am_mR n))) := by
  have hk := sk_row n hr
  show Go _ _ tW_isMissing (_, 0, [.ref (15 + 2 * r)], []) _
  refine go_aloadn_0 iW_isMissing_0 rfl ?_
  refine go_getI iW_isMissing_1 (Or.inl rfl) (by assumption) ?_
  try simp (disch := omega) only [am_u_n, am_u_s, am_u_k, hs]
  refine go_iconst (v := (-1)) iW_isMissing_4 rfl ?_
  first | refine gn_ic_ne iW_isMissing_5 (by omega) (by omega) (fun c_5 => ?_) (fun c_5 => ?_) | refine go_ic_ne iW_isMissing_5 (fun c_5 => ?_) (fun c_5 => ?_)
  rotate_left
  · (first | omega | exact absurd c_5 (by decide) | (exfalso; simp (disch := omega) only [Int32.lt_iff_toInt_lt, Int32.le_iff_toInt_le, ← Int32.toInt_inj, nI_toInt, i32_m1, i32_0, i32_m20, i32_m40, i32_m30, i32_m9] at *; omega))
  refine go_iconst (v := nI 0) iW_isMissing_12 rfl ?_
  refine go_zret iW_isMissing_13 rfl (by first | exact Or.inl rfl | exact Or.inr rfl) ?_
  rfl
/-- a row is there with these many zeros (any cell w, its places at u) -/
def roI (mI : Nat → Nat → Int32) (w u : Nat) (x : Int32) : Nat → Nat → Int32 := va_up (am_u mI w 0 x) u (fl (mI u) 4 (nI 0))
theorem sp_W_become {w u : Nat} {x : Int32} (hk : ((am_sh n)[w]?).map (fun q => q.1) = some 15) (hm : am_mR n w 1 = some u) (hu : (am_sh n)[u]? = some (0, 4)) (hwu : u ≠ w) : Sp S 1 tW_become (am_sh n, mI, mL, am_mR n) [.ref w, .int x] (fun q => q = (none, (am_sh n, roI mI w u x, mL, am_mR n))) := by
  have e : roI mI w u x = va_up (am_u mI w 0 x) u (fl (am_u mI w 0 x u) 4 (nI 0)) := by
    unfold roI
    rw [am_u_r hwu]
  rw [e]
  show Go _ _ tW_become (_, 0, [.ref w, .int x], []) _
  refine go_aloadn_0 iW_become_0 rfl ?_
  refine go_iloadn_1 iW_become_1 ?_
  refine go_putI iW_become_2 rfl (by assumption) ?_
  refine go_aloadn_0 iW_become_5 rfl ?_
  refine go_getR iW_become_6 rfl (by assumption) (by assumption) ?_
  refine go_iconst (v := nI 0) iW_become_9 rfl ?_
  refine gc_S0 iW_become_10 (by decide) rfl rfl (Nat.le_of_ble_eq_true rfl) (Nat.le_of_ble_eq_true rfl) (by decide) (sp_J_fillI hu (by decide)) ?_
  refine go_vret iW_become_13 rfl ?_
  rfl
/-- the reference's places of row r: the first k of four are 0 -/
def zrF (f : Nat → Int32) (r k : Nat) : Nat → Int32 := fun z => if 4 * r ≤ z ∧ z < 4 * r + k then nI 0 else f z
theorem zrF_s (f : Nat → Int32) (r k : Nat) : va_up (zrF f r k) (4 * r + k) (nI 0) = zrF f r (k + 1) := by
  funext z
  unfold va_up zrF
  by_cases h : z = 4 * r + k
  · rw [if_pos h, if_pos (by omega)]
  · rw [if_neg h]
    by_cases h2 : 4 * r ≤ z ∧ z < 4 * r + k
    · rw [if_pos h2, if_pos (by omega)]
    · rw [if_neg h2, if_neg (by omega)]
theorem lo_M_row {x : Int32} (hr : r < 4) : ∀ k i, i + k = 4 → Go S 2 tM_row ((am_sh n, va_up mI 48 (zrF (mI 48) r i), mL, am_mR n), 33, [.ref 43, .int (nI r), .int x, .int (nI i)], []) (fun q => q = (some (.int x), (am_sh n, va_up mI 48 (zrF (mI 48) r 4), mL, am_mR n)))
  | 0, i, hi => by
    obtain rfl : i = 4 := by omega
    refine go_iloadn_3 iM_row_33 ?_
    refine go_iconst (v := nI 4) iM_row_34 rfl ?_
    first | refine gn_ic_ge iM_row_35 (by omega) (by omega) (fun c_35 => ?_) (fun c_35 => ?_) | refine go_ic_ge iM_row_35 (fun c_35 => ?_) (fun c_35 => ?_)
    rotate_left
    · (first | omega | exact absurd c_35 (by decide) | (exfalso; simp (disch := omega) only [Int32.lt_iff_toInt_lt, Int32.le_iff_toInt_le, ← Int32.toInt_inj, nI_toInt, i32_m1, i32_0, i32_m20, i32_m40, i32_m30, i32_m9] at *; omega))
    refine go_iloadn_2 iM_row_55 ?_
    refine go_iret iM_row_56 rfl ?_
    rfl
  | k + 1, i, hi => by
    refine go_iloadn_3 iM_row_33 ?_
    refine go_iconst (v := nI 4) iM_row_34 rfl ?_
    first | refine gn_ic_ge iM_row_35 (by omega) (by omega) (fun c_35 => ?_) (fun c_35 => ?_) | refine go_ic_ge iM_row_35 (fun c_35 => ?_) (fun c_35 => ?_)
    · (first | omega | exact absurd c_35 (by decide) | (exfalso; simp (disch := omega) only [Int32.lt_iff_toInt_lt, Int32.le_iff_toInt_le, ← Int32.toInt_inj, nI_toInt, i32_m1, i32_0, i32_m20, i32_m40, i32_m30, i32_m9] at *; omega))
    refine go_aloadn_0 iM_row_38 rfl ?_
    refine go_getR iM_row_39 rfl (sk_43 _) (mR_43_9 _) ?_
    refine go_iconst (v := nI 4) iM_row_42 rfl ?_
    refine go_iloadn_1 iM_row_43 ?_
    first | refine gn_imul iM_row_44 ?_ | refine go_imul iM_row_44 ?_
    refine go_iloadn_3 iM_row_45 ?_
    first | refine gn_iadd iM_row_46 ?_ | refine go_iadd iM_row_46 ?_
    refine go_iconst (v := nI 0) iM_row_47 rfl ?_
    refine go_iast iM_row_48 (sh_48 _) rfl (by omega) (by omega) ?_
    first | refine go_iinc_3 iM_row_49 (ni_inc _ 1) (by simp [Value.category, am_U]) ?_ | refine go_iinc_3 iM_row_49 rfl (by simp [Value.category, am_U]) ?_
    refine go_goto iM_row_52 ?_
    rw [am_u_up, zrF_s]
    exact lo_M_row hr k (i + 1) (by omega)
theorem row_cases (x : Int32) : (∃ r, r < 4 ∧ x = nI r) ∨ (x.toInt < 0 ∨ 4 ≤ x.toInt) := by
  rcases int_cases x 3 (by decide) with ⟨a, ha, rfl⟩ | h
  · exact Or.inl ⟨a, by omega, rfl⟩
  · exact Or.inr (by omega)
theorem pr_row (x y : Int32) (hR : Rel n mI mL) : Pair S tT_row tM_row [.int x, .int y] n mI mL := by
  have hR' := hR
  obtain ⟨h8, ⟨m, hm1, hm3, hmT, hmM⟩, hcT, hcM, hpl, hro, hfi, hfs, hu, hl, hch⟩ := hR
  rcases row_cases x with ⟨r, hr, rfl⟩ | hx
  · have hk := sk_row n hr
    obtain ⟨g1, g2, g3, g4⟩ := sh_row n hr
    rcases int_cases y 4 (by decide) with ⟨s, hs, rfl⟩ | hy
    · refine Pair.mk (h1 := 2) (h2 := 2) (n1 := n) (mI1 := roI mI (15 + 2 * r) (16 + 2 * r) (nI s)) (mL1 := mL) (mI2 := va_up (am_u (roI mI (15 + 2 * r) (16 + 2 * r) (nI s)) 47 r (nI s)) 48 (zrF (mI 48) r 4)) (mL2 := mL) (v := .int (nI s)) ?_ ?_ ?_ (by decide) (by decide) (Nat.le_refl _) (by omega)
      · show Go _ _ tT_row (_, 0, [.ref 0, .int (nI r), .int (nI s), am_U], []) _
        refine go_aloadn_0 iT_row_0 rfl ?_
        refine go_iloadn_1 iT_row_1 ?_
        refine gc_V1 iT_row_2 rfl (by decide) (sk_0 _) rfl (Nat.le_of_ble_eq_true rfl) (Nat.le_of_ble_eq_true rfl) (by decide) (sp_T_rowAt_t hr) ?_
        refine go_astoren_3 iT_row_5 rfl (by simp [Value.category, am_U]) ?_
        refine go_aloadn_3 iT_row_6 rfl ?_
        refine go_nulR iT_row_7 ?_
        refine go_iloadn_2 iT_row_10 ?_
        refine go_iconst (v := nI 4) iT_row_11 rfl ?_
        first | refine gn_ic_le iT_row_12 (by omega) (by omega) (fun c_12 => ?_) (fun c_12 => ?_) | refine go_ic_le iT_row_12 (fun c_12 => ?_) (fun c_12 => ?_)
        rotate_left
        · (first | omega | exact absurd c_12 (by decide) | (exfalso; simp (disch := omega) only [Int32.lt_iff_toInt_lt, Int32.le_iff_toInt_le, ← Int32.toInt_inj, nI_toInt, i32_m1, i32_0, i32_m20, i32_m40, i32_m30, i32_m9] at *; omega))
        refine go_iloadn_2 iT_row_17 ?_
        refine go_if_ge iT_row_18 (fun c_18 => ?_) (fun c_18 => ?_)
        rotate_left
        · (first | omega | exact absurd c_18 (by decide) | (exfalso; simp (disch := omega) only [Int32.lt_iff_toInt_lt, Int32.le_iff_toInt_le, ← Int32.toInt_inj, nI_toInt, i32_m1, i32_0, i32_m20, i32_m40, i32_m30, i32_m9] at *; omega))
        refine go_aloadn_3 iT_row_27 rfl ?_
        refine go_iloadn_2 iT_row_28 ?_
        refine gc_V0 iT_row_29 rfl (by decide) (by assumption) rfl (Nat.le_of_ble_eq_true rfl) (Nat.le_of_ble_eq_true rfl) (by decide) (sp_W_become hk g4 g2 (by omega)) ?_
        refine go_iloadn_2 iT_row_32 ?_
        refine go_iret iT_row_33 rfl ?_
        rfl
      · have e48 : am_u (roI mI (15 + 2 * r) (16 + 2 * r) (nI s)) 47 r (nI s) 48 = mI 48 := by
          unfold roI
          rw [am_u_r (by omega), va_up_ne _ _ (by omega), am_u_r (by omega)]
        have lo := @lo_M_row S (am_u (roI mI (15 + 2 * r) (16 + 2 * r) (nI s)) 47 r (nI s)) mL n r (nI s) hr 4 0 (by omega)
        rw [show zrF (am_u (roI mI (15 + 2 * r) (16 + 2 * r) (nI s)) 47 r (nI s) 48) r 0 = am_u (roI mI (15 + 2 * r) (16 + 2 * r) (nI s)) 47 r (nI s) 48 from ?_, va_up_id, e48] at lo
        · show Go _ _ tM_row (_, 0, [.ref 43, .int (nI r), .int (nI s), am_U], []) _
          refine go_iloadn_1 iM_row_0 ?_
          refine gc_S1 iM_row_1 (by decide) rfl rfl (Nat.le_of_ble_eq_true rfl) (Nat.le_of_ble_eq_true rfl) (by decide) (sp_M_isRow_t hr) ?_
          refine go_if_eq iM_row_4 (fun c_4 => ?_) (fun c_4 => ?_)
          · (first | omega | exact absurd c_4 (by decide) | (exfalso; simp (disch := omega) only [Int32.lt_iff_toInt_lt, Int32.le_iff_toInt_le, ← Int32.toInt_inj, nI_toInt, i32_m1, i32_0, i32_m20, i32_m40, i32_m30, i32_m9] at *; omega))
          refine go_iloadn_2 iM_row_7 ?_
          refine go_iconst (v := nI 4) iM_row_8 rfl ?_
          first | refine gn_ic_le iM_row_9 (by omega) (by omega) (fun c_9 => ?_) (fun c_9 => ?_) | refine go_ic_le iM_row_9 (fun c_9 => ?_) (fun c_9 => ?_)
          rotate_left
          · (first | omega | exact absurd c_9 (by decide) | (exfalso; simp (disch := omega) only [Int32.lt_iff_toInt_lt, Int32.le_iff_toInt_le, ← Int32.toInt_inj, nI_toInt, i32_m1, i32_0, i32_m20, i32_m40, i32_m30, i32_m9] at *; omega))
          refine go_iloadn_2 iM_row_14 ?_
          refine go_if_ge iM_row_15 (fun c_15 => ?_) (fun c_15 => ?_)
          rotate_left
          · (first | omega | exact absurd c_15 (by decide) | (exfalso; simp (disch := omega) only [Int32.lt_iff_toInt_lt, Int32.le_iff_toInt_le, ← Int32.toInt_inj, nI_toInt, i32_m1, i32_0, i32_m20, i32_m40, i32_m30, i32_m9] at *; omega))
          refine go_aloadn_0 iM_row_24 rfl ?_
          refine go_getR iM_row_25 rfl (sk_43 _) (mR_43_8 _) ?_
          refine go_iloadn_1 iM_row_28 ?_
          refine go_iloadn_2 iM_row_29 ?_
          refine go_iast iM_row_30 (sh_47 _) rfl (by omega) (by omega) ?_
          refine go_iconst (v := nI 0) iM_row_31 rfl ?_
          refine go_istoren_3 iM_row_32 (by simp [Value.category, am_U]) ?_
          exact lo
        · funext z
          unfold zrF
          rw [if_neg (by omega)]
      · refine ⟨h8, ⟨m, hm1, hm3, ?_, ?_⟩, ?_, ?_, fun p hp => (hpl p hp).of ?_ ?_ ?_ (fun j hj => ?_), fun q hq => ?_, ?_, fun f hf => ?_, hu, hl, fun j hj => ?_⟩
        case refine_9 =>
          by_cases e : q = r
          · subst e
            refine ⟨Or.inr ⟨s, hs, ?_, ?_⟩, fun j hj => ?_⟩
            · simp (disch := omega) only [roI, am_u_n, am_u_s, am_u_k, am_u_r, va_up_ne]
            · simp (disch := omega) only [roI, am_u_n, am_u_s, am_u_k, am_u_r, va_up_ne]
            · rw [va_up_self]
              simp (disch := omega) only [roI, am_u_n, am_u_s, am_u_k, am_u_r, va_up_ne, va_up_self]
              unfold fl zrF
              rw [if_pos hj, if_pos (by omega)]
          · refine (hro q hq).of ?_ ?_ ?_ (fun j hj => ?_)
            · simp (disch := omega) only [roI, am_u_n, am_u_s, am_u_k, am_u_r, va_up_ne]
            · simp (disch := omega) only [roI, am_u_n, am_u_s, am_u_k, am_u_r, va_up_ne]
            · simp (disch := omega) only [roI, am_u_n, am_u_s, am_u_k, am_u_r, va_up_ne]
            · rw [va_up_self]
              unfold zrF
              rw [if_neg (by omega)]
        all_goals (simp (disch := omega) only [roI, am_u_n, am_u_s, am_u_k, am_u_r, va_up_ne]; try first | assumption | exact hfs _ hf | exact hch _ hj)
    · by_cases hy4 : (4 : Int) < y.toInt
      · refine Pair.same (h1 := 2) (h2 := 2) (v := .int (-1)) hR' ?_ ?_
        · show Go _ _ tT_row (_, 0, [.ref 0, .int (nI r), .int y, am_U], []) _
          refine go_aloadn_0 iT_row_0 rfl ?_
          refine go_iloadn_1 iT_row_1 ?_
          refine gc_V1 iT_row_2 rfl (by decide) (sk_0 _) rfl (Nat.le_of_ble_eq_true rfl) (Nat.le_of_ble_eq_true rfl) (by decide) (sp_T_rowAt_t hr) ?_
          refine go_astoren_3 iT_row_5 rfl (by simp [Value.category, am_U]) ?_
          refine go_aloadn_3 iT_row_6 rfl ?_
          refine go_nulR iT_row_7 ?_
          refine go_iloadn_2 iT_row_10 ?_
          refine go_iconst (v := nI 4) iT_row_11 rfl ?_
          first | refine gn_ic_le iT_row_12 (by omega) (by omega) (fun c_12 => ?_) (fun c_12 => ?_) | refine go_ic_le iT_row_12 (fun c_12 => ?_) (fun c_12 => ?_)
          · (first | omega | exact absurd c_12 (by decide) | (exfalso; simp (disch := omega) only [Int32.lt_iff_toInt_lt, Int32.le_iff_toInt_le, ← Int32.toInt_inj, nI_toInt, i32_m1, i32_0, i32_m20, i32_m40, i32_m30, i32_m9] at *; omega))
          refine go_iconst (v := (-1)) iT_row_15 rfl ?_
          refine go_iret iT_row_16 rfl ?_
          rfl
        · show Go _ _ tM_row (_, 0, [.ref 43, .int (nI r), .int y, am_U], []) _
          refine go_iloadn_1 iM_row_0 ?_
          refine gc_S1 iM_row_1 (by decide) rfl rfl (Nat.le_of_ble_eq_true rfl) (Nat.le_of_ble_eq_true rfl) (by decide) (sp_M_isRow_t hr) ?_
          refine go_if_eq iM_row_4 (fun c_4 => ?_) (fun c_4 => ?_)
          · (first | omega | exact absurd c_4 (by decide) | (exfalso; simp (disch := omega) only [Int32.lt_iff_toInt_lt, Int32.le_iff_toInt_le, ← Int32.toInt_inj, nI_toInt, i32_m1, i32_0, i32_m20, i32_m40, i32_m30, i32_m9] at *; omega))
          refine go_iloadn_2 iM_row_7 ?_
          refine go_iconst (v := nI 4) iM_row_8 rfl ?_
          first | refine gn_ic_le iM_row_9 (by omega) (by omega) (fun c_9 => ?_) (fun c_9 => ?_) | refine go_ic_le iM_row_9 (fun c_9 => ?_) (fun c_9 => ?_)
          · (first | omega | exact absurd c_9 (by decide) | (exfalso; simp (disch := omega) only [Int32.lt_iff_toInt_lt, Int32.le_iff_toInt_le, ← Int32.toInt_inj, nI_toInt, i32_m1, i32_0, i32_m20, i32_m40, i32_m30, i32_m9] at *; omega))
          refine go_iconst (v := (-1)) iM_row_12 rfl ?_
          refine go_iret iM_row_13 rfl ?_
          rfl
      · refine Pair.refuse (h1 := 2) (h2 := 2) (f := 5) hR' (by decide) ?_ ?_
        · show Go _ _ tT_row (_, 0, [.ref 0, .int (nI r), .int y, am_U], []) _
          refine go_aloadn_0 iT_row_0 rfl ?_
          refine go_iloadn_1 iT_row_1 ?_
          refine gc_V1 iT_row_2 rfl (by decide) (sk_0 _) rfl (Nat.le_of_ble_eq_true rfl) (Nat.le_of_ble_eq_true rfl) (by decide) (sp_T_rowAt_t hr) ?_
          refine go_astoren_3 iT_row_5 rfl (by simp [Value.category, am_U]) ?_
          refine go_aloadn_3 iT_row_6 rfl ?_
          refine go_nulR iT_row_7 ?_
          refine go_iloadn_2 iT_row_10 ?_
          refine go_iconst (v := nI 4) iT_row_11 rfl ?_
          first | refine gn_ic_le iT_row_12 (by omega) (by omega) (fun c_12 => ?_) (fun c_12 => ?_) | refine go_ic_le iT_row_12 (fun c_12 => ?_) (fun c_12 => ?_)
          rotate_left
          · (first | omega | exact absurd c_12 (by decide) | (exfalso; simp (disch := omega) only [Int32.lt_iff_toInt_lt, Int32.le_iff_toInt_le, ← Int32.toInt_inj, nI_toInt, i32_m1, i32_0, i32_m20, i32_m40, i32_m30, i32_m9] at *; omega))
          refine go_iloadn_2 iT_row_17 ?_
          refine go_if_ge iT_row_18 (fun c_18 => ?_) (fun c_18 => ?_)
          · (first | omega | exact absurd c_18 (by decide) | (exfalso; simp (disch := omega) only [Int32.lt_iff_toInt_lt, Int32.le_iff_toInt_le, ← Int32.toInt_inj, nI_toInt, i32_m1, i32_0, i32_m20, i32_m40, i32_m30, i32_m9] at *; omega))
          refine go_aloadn_0 iT_row_21 rfl ?_
          refine go_iconst (v := nI 5) iT_row_22 rfl ?_
          refine gc_V1 iT_row_23 rfl (by decide) (sk_0 _) rfl (Nat.le_of_ble_eq_true rfl) (Nat.le_of_ble_eq_true rfl) (by decide) (sp_T_refuse (by decide)) ?_
          refine go_iret iT_row_26 rfl ?_
          rfl
        · show Go _ _ tM_row (_, 0, [.ref 43, .int (nI r), .int y, am_U], []) _
          refine go_iloadn_1 iM_row_0 ?_
          refine gc_S1 iM_row_1 (by decide) rfl rfl (Nat.le_of_ble_eq_true rfl) (Nat.le_of_ble_eq_true rfl) (by decide) (sp_M_isRow_t hr) ?_
          refine go_if_eq iM_row_4 (fun c_4 => ?_) (fun c_4 => ?_)
          · (first | omega | exact absurd c_4 (by decide) | (exfalso; simp (disch := omega) only [Int32.lt_iff_toInt_lt, Int32.le_iff_toInt_le, ← Int32.toInt_inj, nI_toInt, i32_m1, i32_0, i32_m20, i32_m40, i32_m30, i32_m9] at *; omega))
          refine go_iloadn_2 iM_row_7 ?_
          refine go_iconst (v := nI 4) iM_row_8 rfl ?_
          first | refine gn_ic_le iM_row_9 (by omega) (by omega) (fun c_9 => ?_) (fun c_9 => ?_) | refine go_ic_le iM_row_9 (fun c_9 => ?_) (fun c_9 => ?_)
          rotate_left
          · (first | omega | exact absurd c_9 (by decide) | (exfalso; simp (disch := omega) only [Int32.lt_iff_toInt_lt, Int32.le_iff_toInt_le, ← Int32.toInt_inj, nI_toInt, i32_m1, i32_0, i32_m20, i32_m40, i32_m30, i32_m9] at *; omega))
          refine go_iloadn_2 iM_row_14 ?_
          refine go_if_ge iM_row_15 (fun c_15 => ?_) (fun c_15 => ?_)
          · (first | omega | exact absurd c_15 (by decide) | (exfalso; simp (disch := omega) only [Int32.lt_iff_toInt_lt, Int32.le_iff_toInt_le, ← Int32.toInt_inj, nI_toInt, i32_m1, i32_0, i32_m20, i32_m40, i32_m30, i32_m9] at *; omega))
          refine go_aloadn_0 iM_row_18 rfl ?_
          refine go_iconst (v := nI 5) iM_row_19 rfl ?_
          refine gc_V1 iM_row_20 rfl (by decide) (sk_43 _) rfl (Nat.le_of_ble_eq_true rfl) (Nat.le_of_ble_eq_true rfl) (by decide) (sp_M_meets (by decide)) ?_
          refine go_iret iM_row_23 rfl ?_
          rfl
  · refine Pair.same (h1 := 2) (h2 := 2) (v := .int (-1)) hR' ?_ ?_
    · show Go _ _ tT_row (_, 0, [.ref 0, .int x, .int y, am_U], []) _
      refine go_aloadn_0 iT_row_0 rfl ?_
      refine go_iloadn_1 iT_row_1 ?_
      refine gc_V1 iT_row_2 rfl (by decide) (sk_0 _) rfl (Nat.le_of_ble_eq_true rfl) (Nat.le_of_ble_eq_true rfl) (by decide) (sp_T_rowAt_f hx) ?_
      refine go_astoren_3 iT_row_5 rfl (by simp [Value.category, am_U]) ?_
      refine go_aloadn_3 iT_row_6 rfl ?_
      refine go_nulN iT_row_7 ?_
      refine go_iconst (v := (-1)) iT_row_15 rfl ?_
      refine go_iret iT_row_16 rfl ?_
      rfl
    · show Go _ _ tM_row (_, 0, [.ref 43, .int x, .int y, am_U], []) _
      refine go_iloadn_1 iM_row_0 ?_
      refine gc_S1 iM_row_1 (by decide) rfl rfl (Nat.le_of_ble_eq_true rfl) (Nat.le_of_ble_eq_true rfl) (by decide) (sp_M_isRow_f hx) ?_
      refine go_if_eq iM_row_4 (fun c_4 => ?_) (fun c_4 => ?_)
      rotate_left
      · (first | omega | exact absurd c_4 (by decide) | (exfalso; simp (disch := omega) only [Int32.lt_iff_toInt_lt, Int32.le_iff_toInt_le, ← Int32.toInt_inj, nI_toInt, i32_m1, i32_0, i32_m20, i32_m40, i32_m30, i32_m9] at *; omega))
      refine go_iconst (v := (-1)) iM_row_12 rfl ?_
      refine go_iret iM_row_13 rfl ?_
      rfl
theorem sp_M_looked_b {x : Int32} (hx : x.toInt < 0 ∨ 4 ≤ x.toInt) : Sp S 2 tM_looked (am_sh n, mI, mL, am_mR n) [.ref 43, .int x] (fun q => q = (some (.int (-1)), (am_sh n, mI, mL, am_mR n))) := by
  show Go _ _ tM_looked (_, 0, [.ref 43, .int x], []) _
  refine go_iloadn_1 iM_looked_0 ?_
  refine gc_S1 iM_looked_1 (by decide) rfl rfl (Nat.le_of_ble_eq_true rfl) (Nat.le_of_ble_eq_true rfl) (by decide) (sp_M_isRow_f hx) ?_
  refine go_if_ne iM_looked_4 (fun c_4 => ?_) (fun c_4 => ?_)
  · (first | omega | exact absurd c_4 (by decide) | (exfalso; simp (disch := omega) only [Int32.lt_iff_toInt_lt, Int32.le_iff_toInt_le, ← Int32.toInt_inj, nI_toInt, i32_m1, i32_0, i32_m20, i32_m40, i32_m30, i32_m9] at *; omega))
  refine go_iconst (v := (-1)) iM_looked_7 rfl ?_
  refine go_goto iM_looked_8 ?_
  refine go_iret iM_looked_29 rfl ?_
  rfl
theorem sp_M_looked_m (hr : r < 4) (hs : mI 47 r = -9) : Sp S 2 tM_looked (am_sh n, mI, mL, am_mR n) [.ref 43, .int (nI r)] (fun q => q = (some (.int (-3)), (am_sh n, mtI mI 1, mL, am_mR n))) := by
  show Go _ _ tM_looked (_, 0, [.ref 43, .int (nI r)], []) _
  refine go_iloadn_1 iM_looked_0 ?_
  refine gc_S1 iM_looked_1 (by decide) rfl rfl (Nat.le_of_ble_eq_true rfl) (Nat.le_of_ble_eq_true rfl) (by decide) (sp_M_isRow_t hr) ?_
  refine go_if_ne iM_looked_4 (fun c_4 => ?_) (fun c_4 => ?_)
  rotate_left
  · (first | omega | exact absurd c_4 (by decide) | (exfalso; simp (disch := omega) only [Int32.lt_iff_toInt_lt, Int32.le_iff_toInt_le, ← Int32.toInt_inj, nI_toInt, i32_m1, i32_0, i32_m20, i32_m40, i32_m30, i32_m9] at *; omega))
  refine go_aloadn_0 iM_looked_11 rfl ?_
  refine go_getR iM_looked_12 rfl (sk_43 _) (mR_43_8 _) ?_
  refine go_iloadn_1 iM_looked_15 ?_
  refine go_iald iM_looked_16 (sh_47 _) rfl (by omega) (by omega) ?_
  try simp (disch := omega) only [am_u_n, am_u_s, am_u_k, hs]
  refine go_if_ge iM_looked_17 (fun c_17 => ?_) (fun c_17 => ?_)
  · (first | omega | exact absurd c_17 (by decide) | (exfalso; simp (disch := omega) only [Int32.lt_iff_toInt_lt, Int32.le_iff_toInt_le, ← Int32.toInt_inj, nI_toInt, i32_m1, i32_0, i32_m20, i32_m40, i32_m30, i32_m9] at *; omega))
  refine go_aloadn_0 iM_looked_20 rfl ?_
  refine go_iconst (v := nI 1) iM_looked_21 rfl ?_
  refine gc_V1 iM_looked_22 rfl (by decide) (sk_43 _) rfl (Nat.le_of_ble_eq_true rfl) (Nat.le_of_ble_eq_true rfl) (by decide) (sp_M_meets (by decide)) ?_
  refine go_goto iM_looked_25 ?_
  refine go_iret iM_looked_29 rfl ?_
  rfl
theorem sp_M_looked_t {s : Nat} (hr : r < 4) (hs : mI 47 r = nI s) (h4 : s ≤ 4) : Sp S 2 tM_looked (am_sh n, mI, mL, am_mR n) [.ref 43, .int (nI r)] (fun q => q = (some (.int (nI 0)), (am_sh n, mI, mL, am_mR n))) := by
  show Go _ _ tM_looked (_, 0, [.ref 43, .int (nI r)], []) _
  refine go_iloadn_1 iM_looked_0 ?_
  refine gc_S1 iM_looked_1 (by decide) rfl rfl (Nat.le_of_ble_eq_true rfl) (Nat.le_of_ble_eq_true rfl) (by decide) (sp_M_isRow_t hr) ?_
  refine go_if_ne iM_looked_4 (fun c_4 => ?_) (fun c_4 => ?_)
  rotate_left
  · (first | omega | exact absurd c_4 (by decide) | (exfalso; simp (disch := omega) only [Int32.lt_iff_toInt_lt, Int32.le_iff_toInt_le, ← Int32.toInt_inj, nI_toInt, i32_m1, i32_0, i32_m20, i32_m40, i32_m30, i32_m9] at *; omega))
  refine go_aloadn_0 iM_looked_11 rfl ?_
  refine go_getR iM_looked_12 rfl (sk_43 _) (mR_43_8 _) ?_
  refine go_iloadn_1 iM_looked_15 ?_
  refine go_iald iM_looked_16 (sh_47 _) rfl (by omega) (by omega) ?_
  try simp (disch := omega) only [am_u_n, am_u_s, am_u_k, hs]
  refine go_if_ge iM_looked_17 (fun c_17 => ?_) (fun c_17 => ?_)
  rotate_left
  · (first | omega | exact absurd c_17 (by decide) | (exfalso; simp (disch := omega) only [Int32.lt_iff_toInt_lt, Int32.le_iff_toInt_le, ← Int32.toInt_inj, nI_toInt, i32_m1, i32_0, i32_m20, i32_m40, i32_m30, i32_m9] at *; omega))
  refine go_iconst (v := nI 0) iM_looked_28 rfl ?_
  refine go_iret iM_looked_29 rfl ?_
  rfl
theorem pr_tear (x : Int32) (hR : Rel n mI mL) : Pair S tT_tear tM_tear [.int x] n mI mL := by
  have hR' := hR
  obtain ⟨h8, ⟨m, hm1, hm3, hmT, hmM⟩, hcT, hcM, hpl, hro, hfi, hfs, hu, hl, hch⟩ := hR
  rcases row_cases x with ⟨r, hr, rfl⟩ | hx
  · have hk := sk_row n hr
    obtain ⟨hsz, hpc⟩ := hro r hr
    rcases hsz with ⟨s1, s2⟩ | ⟨s, hs4, s1, s2⟩
    · have s2' : rfI mI 1 47 r = -9 := by rw [rfI_r (by decide) (by decide)]; exact s2
      refine Pair.refuse (h1 := 3) (h2 := 3) (f := 1) hR' (by decide) ?_ ?_
      · show Go _ _ tT_tear (_, 0, [.ref 0, .int (nI r), am_U], []) _
        refine go_aloadn_0 iT_tear_0 rfl ?_
        refine go_iloadn_1 iT_tear_1 ?_
        refine gc_V1 iT_tear_2 rfl (by decide) (sk_0 _) rfl (Nat.le_of_ble_eq_true rfl) (Nat.le_of_ble_eq_true rfl) (by decide) (sp_T_rowAt_t hr) ?_
        refine go_astoren_2 iT_tear_5 rfl (by simp [Value.category, am_U]) ?_
        refine go_aloadn_2 iT_tear_6 rfl ?_
        refine go_nnulR iT_tear_7 ?_
        refine go_aloadn_2 iT_tear_12 rfl ?_
        refine gc_V1 iT_tear_13 rfl (by decide) (by assumption) rfl (Nat.le_of_ble_eq_true rfl) (Nat.le_of_ble_eq_true rfl) (by decide) (sp_W_isMissing_t hr s1) ?_
        refine go_if_eq iT_tear_16 (fun c_16 => ?_) (fun c_16 => ?_)
        · (first | omega | exact absurd c_16 (by decide) | (exfalso; simp (disch := omega) only [Int32.lt_iff_toInt_lt, Int32.le_iff_toInt_le, ← Int32.toInt_inj, nI_toInt, i32_m1, i32_0, i32_m20, i32_m40, i32_m30, i32_m9] at *; omega))
        refine go_aloadn_0 iT_tear_19 rfl ?_
        refine go_iconst (v := nI 1) iT_tear_20 rfl ?_
        refine gc_V1 iT_tear_21 rfl (by decide) (sk_0 _) rfl (Nat.le_of_ble_eq_true rfl) (Nat.le_of_ble_eq_true rfl) (by decide) (sp_T_refuse (by decide)) ?_
        refine go_iret iT_tear_24 rfl ?_
        rfl
      · show Go _ _ tM_tear (_, 0, [.ref 43, .int (nI r), am_U], []) _
        refine go_aloadn_0 iM_tear_0 rfl ?_
        refine go_iloadn_1 iM_tear_1 ?_
        refine gc_V1 iM_tear_2 rfl (by decide) (sk_43 _) rfl (Nat.le_of_ble_eq_true rfl) (Nat.le_of_ble_eq_true rfl) (by decide) (sp_M_looked_m hr s2') ?_
        refine go_istoren_2 iM_tear_5 (by simp [Value.category, am_U]) ?_
        refine go_iloadn_2 iM_tear_6 ?_
        refine go_if_ge iM_tear_7 (fun c_7 => ?_) (fun c_7 => ?_)
        · (first | omega | exact absurd c_7 (by decide) | (exfalso; simp (disch := omega) only [Int32.lt_iff_toInt_lt, Int32.le_iff_toInt_le, ← Int32.toInt_inj, nI_toInt, i32_m1, i32_0, i32_m20, i32_m40, i32_m30, i32_m9] at *; omega))
        refine go_iloadn_2 iM_tear_10 ?_
        refine go_iret iM_tear_11 rfl ?_
        rfl
    · refine Pair.mk (h1 := 3) (h2 := 3) (n1 := n) (mI1 := am_u mI (15 + 2 * r) 0 (-1)) (mL1 := mL) (mI2 := am_u (am_u mI (15 + 2 * r) 0 (-1)) 47 r (-9)) (mL2 := mL) (v := .int (nI 1)) ?_ ?_ ?_ (by decide) (by decide) (Nat.le_refl _) (by omega)
      · show Go _ _ tT_tear (_, 0, [.ref 0, .int (nI r), am_U], []) _
        refine go_aloadn_0 iT_tear_0 rfl ?_
        refine go_iloadn_1 iT_tear_1 ?_
        refine gc_V1 iT_tear_2 rfl (by decide) (sk_0 _) rfl (Nat.le_of_ble_eq_true rfl) (Nat.le_of_ble_eq_true rfl) (by decide) (sp_T_rowAt_t hr) ?_
        refine go_astoren_2 iT_tear_5 rfl (by simp [Value.category, am_U]) ?_
        refine go_aloadn_2 iT_tear_6 rfl ?_
        refine go_nnulR iT_tear_7 ?_
        refine go_aloadn_2 iT_tear_12 rfl ?_
        refine gc_V1 iT_tear_13 rfl (by decide) (by assumption) rfl (Nat.le_of_ble_eq_true rfl) (Nat.le_of_ble_eq_true rfl) (by decide) (sp_W_isMissing_f hr s1 hs4) ?_
        refine go_if_eq iT_tear_16 (fun c_16 => ?_) (fun c_16 => ?_)
        rotate_left
        · (first | omega | exact absurd c_16 (by decide) | (exfalso; simp (disch := omega) only [Int32.lt_iff_toInt_lt, Int32.le_iff_toInt_le, ← Int32.toInt_inj, nI_toInt, i32_m1, i32_0, i32_m20, i32_m40, i32_m30, i32_m9] at *; omega))
        refine go_aloadn_2 iT_tear_25 rfl ?_
        refine go_iconst (v := (-1)) iT_tear_26 rfl ?_
        refine go_putI iT_tear_27 rfl (by assumption) ?_
        refine go_iconst (v := nI 1) iT_tear_30 rfl ?_
        refine go_iret iT_tear_31 rfl ?_
        rfl
      · have s2' : am_u mI (15 + 2 * r) 0 (-1) 47 r = nI s := by rw [am_u_n (by omega)]; exact s2
        show Go _ _ tM_tear (_, 0, [.ref 43, .int (nI r), am_U], []) _
        refine go_aloadn_0 iM_tear_0 rfl ?_
        refine go_iloadn_1 iM_tear_1 ?_
        refine gc_V1 iM_tear_2 rfl (by decide) (sk_43 _) rfl (Nat.le_of_ble_eq_true rfl) (Nat.le_of_ble_eq_true rfl) (by decide) (sp_M_looked_t hr s2' hs4) ?_
        refine go_istoren_2 iM_tear_5 (by simp [Value.category, am_U]) ?_
        refine go_iloadn_2 iM_tear_6 ?_
        refine go_if_ge iM_tear_7 (fun c_7 => ?_) (fun c_7 => ?_)
        rotate_left
        · (first | omega | exact absurd c_7 (by decide) | (exfalso; simp (disch := omega) only [Int32.lt_iff_toInt_lt, Int32.le_iff_toInt_le, ← Int32.toInt_inj, nI_toInt, i32_m1, i32_0, i32_m20, i32_m40, i32_m30, i32_m9] at *; omega))
        refine go_aloadn_0 iM_tear_12 rfl ?_
        refine go_getR iM_tear_13 rfl (sk_43 _) (mR_43_8 _) ?_
        refine go_iloadn_1 iM_tear_16 ?_
        refine go_bipush (v := (-9)) iM_tear_17 (by decide) ?_
        refine go_iast iM_tear_19 (sh_47 _) rfl (by omega) (by omega) ?_
        refine go_iconst (v := nI 1) iM_tear_20 rfl ?_
        refine go_iret iM_tear_21 rfl ?_
        rfl
      · refine ⟨h8, ⟨m, hm1, hm3, ?_, ?_⟩, ?_, ?_, fun p hp => (hpl p hp).of ?_ ?_ ?_ (fun j hj => ?_), fun q hq => ?_, ?_, fun f hf => ?_, hu, hl, fun j hj => ?_⟩
        case refine_9 =>
          by_cases e : q = r
          · subst e
            refine ⟨Or.inl ⟨?_, ?_⟩, fun j hj => ?_⟩
            · simp (disch := omega) only [am_u_n, am_u_s, am_u_k, am_u_r]
            · simp (disch := omega) only [am_u_n, am_u_s, am_u_k, am_u_r]
            · simp (disch := omega) only [am_u_n, am_u_s, am_u_k, am_u_r]
              exact hpc j hj
          · refine (hro q hq).of ?_ ?_ ?_ (fun j hj => ?_) <;> simp (disch := omega) only [am_u_n, am_u_s, am_u_k, am_u_r]
        all_goals (simp (disch := omega) only [am_u_n, am_u_s, am_u_k, am_u_r]; try first | assumption | exact hfs _ hf | exact hch _ hj)
  · refine Pair.same (h1 := 3) (h2 := 3) (v := .int (-1)) hR' ?_ ?_
    · show Go _ _ tT_tear (_, 0, [.ref 0, .int x, am_U], []) _
      refine go_aloadn_0 iT_tear_0 rfl ?_
      refine go_iloadn_1 iT_tear_1 ?_
      refine gc_V1 iT_tear_2 rfl (by decide) (sk_0 _) rfl (Nat.le_of_ble_eq_true rfl) (Nat.le_of_ble_eq_true rfl) (by decide) (sp_T_rowAt_f hx) ?_
      refine go_astoren_2 iT_tear_5 rfl (by simp [Value.category, am_U]) ?_
      refine go_aloadn_2 iT_tear_6 rfl ?_
      refine go_nnulN iT_tear_7 ?_
      refine go_iconst (v := (-1)) iT_tear_10 rfl ?_
      refine go_iret iT_tear_11 rfl ?_
      rfl
    · show Go _ _ tM_tear (_, 0, [.ref 43, .int x, am_U], []) _
      refine go_aloadn_0 iM_tear_0 rfl ?_
      refine go_iloadn_1 iM_tear_1 ?_
      refine gc_V1 iM_tear_2 rfl (by decide) (sk_43 _) rfl (Nat.le_of_ble_eq_true rfl) (Nat.le_of_ble_eq_true rfl) (by decide) (sp_M_looked_b hx) ?_
      refine go_istoren_2 iM_tear_5 (by simp [Value.category, am_U]) ?_
      refine go_iloadn_2 iM_tear_6 ?_
      refine go_if_ge iM_tear_7 (fun c_7 => ?_) (fun c_7 => ?_)
      · (first | omega | exact absurd c_7 (by decide) | (exfalso; simp (disch := omega) only [Int32.lt_iff_toInt_lt, Int32.le_iff_toInt_le, ← Int32.toInt_inj, nI_toInt, i32_m1, i32_0, i32_m20, i32_m40, i32_m30, i32_m9] at *; omega))
      refine go_iloadn_2 iM_tear_10 ?_
      refine go_iret iM_tear_11 rfl ?_
      rfl
theorem pr_lay (x y z : Int32) (hR : Rel n mI mL) : Pair S tT_lay tM_lay [.int x, .int y, .int z] n mI mL := by
  have hR' := hR
  obtain ⟨h8, ⟨m, hm1, hm3, hmT, hmM⟩, hcT, hcM, hpl, hro, hfi, hfs, hu, hl, hch⟩ := hR
  rcases row_cases x with ⟨r, hr, rfl⟩ | hx
  · have hk := sk_row n hr
    obtain ⟨g1, g2, g3, g4⟩ := sh_row n hr
    obtain ⟨hsz, hpc⟩ := hro r hr
    rcases hsz with ⟨s1, s2⟩ | ⟨s, hs4, s1, s2⟩
    · have s2' : rfI mI 1 47 r = -9 := by rw [rfI_r (by decide) (by decide)]; exact s2
      refine Pair.refuse (h1 := 3) (h2 := 3) (f := 1) hR' (by decide) ?_ ?_
      · show Go _ _ tT_lay (_, 0, [.ref 0, .int (nI r), .int y, .int z, am_U, am_U], []) _
        refine go_aloadn_0 iT_lay_0 rfl ?_
        refine go_iloadn_1 iT_lay_1 ?_
        refine gc_V1 iT_lay_2 rfl (by decide) (sk_0 _) rfl (Nat.le_of_ble_eq_true rfl) (Nat.le_of_ble_eq_true rfl) (by decide) (sp_T_rowAt_t hr) ?_
        refine go_astore_4 iT_lay_5 rfl (by simp [Value.category, am_U]) ?_
        refine go_aload_4 iT_lay_7 rfl ?_
        refine go_nnulR iT_lay_9 ?_
        refine go_aload_4 iT_lay_14 rfl ?_
        refine gc_V1 iT_lay_16 rfl (by decide) (by assumption) rfl (Nat.le_of_ble_eq_true rfl) (Nat.le_of_ble_eq_true rfl) (by decide) (sp_W_isMissing_t hr s1) ?_
        refine go_if_eq iT_lay_19 (fun c_19 => ?_) (fun c_19 => ?_)
        · (first | omega | exact absurd c_19 (by decide) | (exfalso; simp (disch := omega) only [Int32.lt_iff_toInt_lt, Int32.le_iff_toInt_le, ← Int32.toInt_inj, nI_toInt, i32_m1, i32_0, i32_m20, i32_m40, i32_m30, i32_m9] at *; omega))
        refine go_aloadn_0 iT_lay_22 rfl ?_
        refine go_iconst (v := nI 1) iT_lay_23 rfl ?_
        refine gc_V1 iT_lay_24 rfl (by decide) (sk_0 _) rfl (Nat.le_of_ble_eq_true rfl) (Nat.le_of_ble_eq_true rfl) (by decide) (sp_T_refuse (by decide)) ?_
        refine go_iret iT_lay_27 rfl ?_
        rfl
      · show Go _ _ tM_lay (_, 0, [.ref 43, .int (nI r), .int y, .int z, am_U, am_U], []) _
        refine go_aloadn_0 iM_lay_0 rfl ?_
        refine go_iloadn_1 iM_lay_1 ?_
        refine gc_V1 iM_lay_2 rfl (by decide) (sk_43 _) rfl (Nat.le_of_ble_eq_true rfl) (Nat.le_of_ble_eq_true rfl) (by decide) (sp_M_looked_m hr s2') ?_
        refine go_istore_4 iM_lay_5 (by simp [Value.category, am_U]) ?_
        refine go_iload_4 iM_lay_7 ?_
        refine go_if_ge iM_lay_9 (fun c_9 => ?_) (fun c_9 => ?_)
        · (first | omega | exact absurd c_9 (by decide) | (exfalso; simp (disch := omega) only [Int32.lt_iff_toInt_lt, Int32.le_iff_toInt_le, ← Int32.toInt_inj, nI_toInt, i32_m1, i32_0, i32_m20, i32_m40, i32_m30, i32_m9] at *; omega))
        refine go_iload_4 iM_lay_12 ?_
        refine go_iret iM_lay_14 rfl ?_
        rfl
    · by_cases hy : y.toInt < 0 ∨ (s : Int) ≤ y.toInt
      · have s2' : rfI mI 2 47 r = nI s := by rw [rfI_r (by decide) (by decide)]; exact s2
        refine Pair.refuse (h1 := 3) (h2 := 3) (f := 2) hR' (by decide) ?_ ?_
        · show Go _ _ tT_lay (_, 0, [.ref 0, .int (nI r), .int y, .int z, am_U, am_U], []) _
          refine go_aloadn_0 iT_lay_0 rfl ?_
          refine go_iloadn_1 iT_lay_1 ?_
          refine gc_V1 iT_lay_2 rfl (by decide) (sk_0 _) rfl (Nat.le_of_ble_eq_true rfl) (Nat.le_of_ble_eq_true rfl) (by decide) (sp_T_rowAt_t hr) ?_
          refine go_astore_4 iT_lay_5 rfl (by simp [Value.category, am_U]) ?_
          refine go_aload_4 iT_lay_7 rfl ?_
          refine go_nnulR iT_lay_9 ?_
          refine go_aload_4 iT_lay_14 rfl ?_
          refine gc_V1 iT_lay_16 rfl (by decide) (by assumption) rfl (Nat.le_of_ble_eq_true rfl) (Nat.le_of_ble_eq_true rfl) (by decide) (sp_W_isMissing_f hr s1 hs4) ?_
          refine go_if_eq iT_lay_19 (fun c_19 => ?_) (fun c_19 => ?_)
          rotate_left
          · (first | omega | exact absurd c_19 (by decide) | (exfalso; simp (disch := omega) only [Int32.lt_iff_toInt_lt, Int32.le_iff_toInt_le, ← Int32.toInt_inj, nI_toInt, i32_m1, i32_0, i32_m20, i32_m40, i32_m30, i32_m9] at *; omega))
          refine go_iloadn_2 iT_lay_28 ?_
          refine go_if_lt iT_lay_29 (fun c_29 => ?_) (fun c_29 => ?_)
          · refine go_aloadn_0 iT_lay_41 rfl ?_
            refine go_iconst (v := nI 2) iT_lay_42 rfl ?_
            refine gc_V1 iT_lay_43 rfl (by decide) (sk_0 _) rfl (Nat.le_of_ble_eq_true rfl) (Nat.le_of_ble_eq_true rfl) (by decide) (sp_T_refuse (by decide)) ?_
            refine go_iret iT_lay_46 rfl ?_
            rfl
          · refine go_iloadn_2 iT_lay_32 ?_
            refine go_aload_4 iT_lay_33 rfl ?_
            refine go_getI iT_lay_35 (Or.inl rfl) (by assumption) ?_
            try simp (disch := omega) only [am_u_n, am_u_s, am_u_k, s1]
            first | refine gn_ic_lt iT_lay_38 (by omega) (by omega) (fun c_38 => ?_) (fun c_38 => ?_) | refine go_ic_lt iT_lay_38 (fun c_38 => ?_) (fun c_38 => ?_)
            · (first | omega | exact absurd c_38 (by decide) | (exfalso; simp (disch := omega) only [Int32.lt_iff_toInt_lt, Int32.le_iff_toInt_le, ← Int32.toInt_inj, nI_toInt, i32_m1, i32_0, i32_m20, i32_m40, i32_m30, i32_m9] at *; omega))
            · refine go_aloadn_0 iT_lay_41 rfl ?_
              refine go_iconst (v := nI 2) iT_lay_42 rfl ?_
              refine gc_V1 iT_lay_43 rfl (by decide) (sk_0 _) rfl (Nat.le_of_ble_eq_true rfl) (Nat.le_of_ble_eq_true rfl) (by decide) (sp_T_refuse (by decide)) ?_
              refine go_iret iT_lay_46 rfl ?_
              rfl
        · show Go _ _ tM_lay (_, 0, [.ref 43, .int (nI r), .int y, .int z, am_U, am_U], []) _
          refine go_aloadn_0 iM_lay_0 rfl ?_
          refine go_iloadn_1 iM_lay_1 ?_
          refine gc_V1 iM_lay_2 rfl (by decide) (sk_43 _) rfl (Nat.le_of_ble_eq_true rfl) (Nat.le_of_ble_eq_true rfl) (by decide) (sp_M_looked_t hr s2' hs4) ?_
          refine go_istore_4 iM_lay_5 (by simp [Value.category, am_U]) ?_
          refine go_iload_4 iM_lay_7 ?_
          refine go_if_ge iM_lay_9 (fun c_9 => ?_) (fun c_9 => ?_)
          rotate_left
          · (first | omega | exact absurd c_9 (by decide) | (exfalso; simp (disch := omega) only [Int32.lt_iff_toInt_lt, Int32.le_iff_toInt_le, ← Int32.toInt_inj, nI_toInt, i32_m1, i32_0, i32_m20, i32_m40, i32_m30, i32_m9] at *; omega))
          refine go_iloadn_2 iM_lay_15 ?_
          refine go_iconst (v := nI 0) iM_lay_16 rfl ?_
          refine go_aloadn_0 iM_lay_17 rfl ?_
          refine go_getR iM_lay_18 rfl (sk_43 _) (mR_43_8 _) ?_
          refine go_iloadn_1 iM_lay_21 ?_
          refine go_iald iM_lay_22 (sh_47 _) rfl (by omega) (by omega) ?_
          try simp (disch := omega) only [am_u_n, am_u_s, am_u_k, s2']
          refine go_iconst (v := nI 1) iM_lay_23 rfl ?_
          refine go_isub iM_lay_24 ?_
          refine gc_S1 iM_lay_25 (by decide) rfl rfl (Nat.le_of_ble_eq_true rfl) (Nat.le_of_ble_eq_true rfl) (by decide) (sp_M_in_f (by rw [nI_toInt (by omega), pk_subI (by omega) (by omega)]; omega)) ?_
          refine go_if_ne iM_lay_28 (fun c_28 => ?_) (fun c_28 => ?_)
          · (first | omega | exact absurd c_28 (by decide) | (exfalso; simp (disch := omega) only [Int32.lt_iff_toInt_lt, Int32.le_iff_toInt_le, ← Int32.toInt_inj, nI_toInt, i32_m1, i32_0, i32_m20, i32_m40, i32_m30, i32_m9] at *; omega))
          refine go_aloadn_0 iM_lay_31 rfl ?_
          refine go_iconst (v := nI 2) iM_lay_32 rfl ?_
          refine gc_V1 iM_lay_33 rfl (by decide) (sk_43 _) rfl (Nat.le_of_ble_eq_true rfl) (Nat.le_of_ble_eq_true rfl) (by decide) (sp_M_meets (by decide)) ?_
          refine go_iret iM_lay_36 rfl ?_
          rfl
      · obtain ⟨i, hi, rfl⟩ : ∃ i, i < s ∧ y = nI i := by
          rcases pl_cases y s (by omega) with h | h
          · exact h
          · exact absurd h hy
        clear hy
        refine Pair.mk (h1 := 3) (h2 := 3) (n1 := n) (mI1 := am_u mI (16 + 2 * r) i z) (mL1 := mL) (mI2 := am_u (am_u mI (16 + 2 * r) i z) 48 (4 * r + i) z) (mL2 := mL) (v := .int (mI (16 + 2 * r) i + nI 1000)) ?_ ?_ ?_ (by decide) (by decide) (Nat.le_refl _) (by omega)
        · show Go _ _ tT_lay (_, 0, [.ref 0, .int (nI r), .int (nI i), .int z, am_U, am_U], []) _
          refine go_aloadn_0 iT_lay_0 rfl ?_
          refine go_iloadn_1 iT_lay_1 ?_
          refine gc_V1 iT_lay_2 rfl (by decide) (sk_0 _) rfl (Nat.le_of_ble_eq_true rfl) (Nat.le_of_ble_eq_true rfl) (by decide) (sp_T_rowAt_t hr) ?_
          refine go_astore_4 iT_lay_5 rfl (by simp [Value.category, am_U]) ?_
          refine go_aload_4 iT_lay_7 rfl ?_
          refine go_nnulR iT_lay_9 ?_
          refine go_aload_4 iT_lay_14 rfl ?_
          refine gc_V1 iT_lay_16 rfl (by decide) (by assumption) rfl (Nat.le_of_ble_eq_true rfl) (Nat.le_of_ble_eq_true rfl) (by decide) (sp_W_isMissing_f hr s1 hs4) ?_
          refine go_if_eq iT_lay_19 (fun c_19 => ?_) (fun c_19 => ?_)
          rotate_left
          · (first | omega | exact absurd c_19 (by decide) | (exfalso; simp (disch := omega) only [Int32.lt_iff_toInt_lt, Int32.le_iff_toInt_le, ← Int32.toInt_inj, nI_toInt, i32_m1, i32_0, i32_m20, i32_m40, i32_m30, i32_m9] at *; omega))
          refine go_iloadn_2 iT_lay_28 ?_
          refine go_if_lt iT_lay_29 (fun c_29 => ?_) (fun c_29 => ?_)
          · (first | omega | exact absurd c_29 (by decide) | (exfalso; simp (disch := omega) only [Int32.lt_iff_toInt_lt, Int32.le_iff_toInt_le, ← Int32.toInt_inj, nI_toInt, i32_m1, i32_0, i32_m20, i32_m40, i32_m30, i32_m9] at *; omega))
          refine go_iloadn_2 iT_lay_32 ?_
          refine go_aload_4 iT_lay_33 rfl ?_
          refine go_getI iT_lay_35 (Or.inl rfl) (by assumption) ?_
          try simp (disch := omega) only [am_u_n, am_u_s, am_u_k, s1]
          first | refine gn_ic_lt iT_lay_38 (by omega) (by omega) (fun c_38 => ?_) (fun c_38 => ?_) | refine go_ic_lt iT_lay_38 (fun c_38 => ?_) (fun c_38 => ?_)
          rotate_left
          · (first | omega | exact absurd c_38 (by decide) | (exfalso; simp (disch := omega) only [Int32.lt_iff_toInt_lt, Int32.le_iff_toInt_le, ← Int32.toInt_inj, nI_toInt, i32_m1, i32_0, i32_m20, i32_m40, i32_m30, i32_m9] at *; omega))
          refine go_aload_4 iT_lay_47 rfl ?_
          refine go_getR iT_lay_49 rfl (by assumption) (by assumption) ?_
          refine go_iloadn_2 iT_lay_52 ?_
          refine go_iald iT_lay_53 (by assumption) rfl (by omega) (by omega) ?_
          try simp (disch := omega) only [am_u_n, am_u_s, am_u_k, s1]
          refine go_istore_5 iT_lay_54 (by simp [Value.category, am_U]) ?_
          refine go_aload_4 iT_lay_56 rfl ?_
          refine go_getR iT_lay_58 rfl (by assumption) (by assumption) ?_
          refine go_iloadn_2 iT_lay_61 ?_
          refine go_iloadn_3 iT_lay_62 ?_
          refine go_iast iT_lay_63 (by assumption) rfl (by omega) (by omega) ?_
          refine go_iload_5 iT_lay_64 ?_
          refine go_sipush (v := nI 1000) iT_lay_66 (by decide) ?_
          first | refine gn_iadd iT_lay_69 ?_ | refine go_iadd iT_lay_69 ?_
          refine go_iret iT_lay_70 rfl ?_
          rfl
        · have s2' : am_u mI (16 + 2 * r) i z 47 r = nI s := by rw [am_u_n (by omega)]; exact s2
          have hp' : am_u mI (16 + 2 * r) i z 48 (4 * r + i) = mI (16 + 2 * r) i := by rw [am_u_n (by omega)]; exact (hpc i (by omega)).symm
          show Go _ _ tM_lay (_, 0, [.ref 43, .int (nI r), .int (nI i), .int z, am_U, am_U], []) _
          refine go_aloadn_0 iM_lay_0 rfl ?_
          refine go_iloadn_1 iM_lay_1 ?_
          refine gc_V1 iM_lay_2 rfl (by decide) (sk_43 _) rfl (Nat.le_of_ble_eq_true rfl) (Nat.le_of_ble_eq_true rfl) (by decide) (sp_M_looked_t hr s2' hs4) ?_
          refine go_istore_4 iM_lay_5 (by simp [Value.category, am_U]) ?_
          refine go_iload_4 iM_lay_7 ?_
          refine go_if_ge iM_lay_9 (fun c_9 => ?_) (fun c_9 => ?_)
          rotate_left
          · (first | omega | exact absurd c_9 (by decide) | (exfalso; simp (disch := omega) only [Int32.lt_iff_toInt_lt, Int32.le_iff_toInt_le, ← Int32.toInt_inj, nI_toInt, i32_m1, i32_0, i32_m20, i32_m40, i32_m30, i32_m9] at *; omega))
          refine go_iloadn_2 iM_lay_15 ?_
          refine go_iconst (v := nI 0) iM_lay_16 rfl ?_
          refine go_aloadn_0 iM_lay_17 rfl ?_
          refine go_getR iM_lay_18 rfl (sk_43 _) (mR_43_8 _) ?_
          refine go_iloadn_1 iM_lay_21 ?_
          refine go_iald iM_lay_22 (sh_47 _) rfl (by omega) (by omega) ?_
          rw [s2']
          refine go_iconst (v := nI 1) iM_lay_23 rfl ?_
          refine go_isub iM_lay_24 ?_
          refine gc_S1 iM_lay_25 (by decide) rfl rfl (Nat.le_of_ble_eq_true rfl) (Nat.le_of_ble_eq_true rfl) (by decide) (sp_M_in_t (by simp (disch := omega) only [nI_toInt]; omega) (by rw [nI_toInt (by omega), pk_subI (by omega) (by omega)]; omega)) ?_
          refine go_if_ne iM_lay_28 (fun c_28 => ?_) (fun c_28 => ?_)
          rotate_left
          · (first | omega | exact absurd c_28 (by decide) | (exfalso; simp (disch := omega) only [Int32.lt_iff_toInt_lt, Int32.le_iff_toInt_le, ← Int32.toInt_inj, nI_toInt, i32_m1, i32_0, i32_m20, i32_m40, i32_m30, i32_m9] at *; omega))
          refine go_aloadn_0 iM_lay_37 rfl ?_
          refine go_getR iM_lay_38 rfl (sk_43 _) (mR_43_9 _) ?_
          refine go_iconst (v := nI 4) iM_lay_41 rfl ?_
          refine go_iloadn_1 iM_lay_42 ?_
          first | refine gn_imul iM_lay_43 ?_ | refine go_imul iM_lay_43 ?_
          refine go_iloadn_2 iM_lay_44 ?_
          first | refine gn_iadd iM_lay_45 ?_ | refine go_iadd iM_lay_45 ?_
          refine go_iald iM_lay_46 (sh_48 _) rfl (by omega) (by omega) ?_
          rw [hp']
          refine go_istore_5 iM_lay_47 (by simp [Value.category, am_U]) ?_
          refine go_aloadn_0 iM_lay_49 rfl ?_
          refine go_getR iM_lay_50 rfl (sk_43 _) (mR_43_9 _) ?_
          refine go_iconst (v := nI 4) iM_lay_53 rfl ?_
          refine go_iloadn_1 iM_lay_54 ?_
          first | refine gn_imul iM_lay_55 ?_ | refine go_imul iM_lay_55 ?_
          refine go_iloadn_2 iM_lay_56 ?_
          first | refine gn_iadd iM_lay_57 ?_ | refine go_iadd iM_lay_57 ?_
          refine go_iloadn_3 iM_lay_58 ?_
          refine go_iast iM_lay_59 (sh_48 _) rfl (by omega) (by omega) ?_
          refine go_iload_5 iM_lay_60 ?_
          refine go_sipush (v := nI 1000) iM_lay_62 (by decide) ?_
          first | refine gn_iadd iM_lay_65 ?_ | refine go_iadd iM_lay_65 ?_
          refine go_iret iM_lay_66 rfl ?_
          rfl
        · refine ⟨h8, ⟨m, hm1, hm3, ?_, ?_⟩, ?_, ?_, fun p hp => (hpl p hp).of ?_ ?_ ?_ (fun j hj => ?_), fun q hq => ?_, ?_, fun f hf => ?_, hu, hl, fun j hj => ?_⟩
          case refine_9 =>
            by_cases e : q = r
            · subst e
              refine ⟨Or.inr ⟨s, hs4, ?_, ?_⟩, fun j hj => ?_⟩
              · simp (disch := omega) only [am_u_n, am_u_s, am_u_k, am_u_r]
                exact s1
              · simp (disch := omega) only [am_u_n, am_u_s, am_u_k, am_u_r]
                exact s2
              · by_cases ej : j = i
                · subst ej
                  simp (disch := omega) only [am_u_n, am_u_s, am_u_k, am_u_r]
                · simp (disch := omega) only [am_u_n, am_u_s, am_u_k, am_u_r]
                  exact hpc j hj
            · refine (hro q hq).of ?_ ?_ ?_ (fun j hj => ?_) <;> simp (disch := omega) only [am_u_n, am_u_s, am_u_k, am_u_r]
          all_goals (simp (disch := omega) only [am_u_n, am_u_s, am_u_k, am_u_r]; try first | assumption | exact hfs _ hf | exact hch _ hj)
  · refine Pair.same (h1 := 3) (h2 := 3) (v := .int (-1)) hR' ?_ ?_
    · show Go _ _ tT_lay (_, 0, [.ref 0, .int x, .int y, .int z, am_U, am_U], []) _
      refine go_aloadn_0 iT_lay_0 rfl ?_
      refine go_iloadn_1 iT_lay_1 ?_
      refine gc_V1 iT_lay_2 rfl (by decide) (sk_0 _) rfl (Nat.le_of_ble_eq_true rfl) (Nat.le_of_ble_eq_true rfl) (by decide) (sp_T_rowAt_f hx) ?_
      refine go_astore_4 iT_lay_5 rfl (by simp [Value.category, am_U]) ?_
      refine go_aload_4 iT_lay_7 rfl ?_
      refine go_nnulN iT_lay_9 ?_
      refine go_iconst (v := (-1)) iT_lay_12 rfl ?_
      refine go_iret iT_lay_13 rfl ?_
      rfl
    · show Go _ _ tM_lay (_, 0, [.ref 43, .int x, .int y, .int z, am_U, am_U], []) _
      refine go_aloadn_0 iM_lay_0 rfl ?_
      refine go_iloadn_1 iM_lay_1 ?_
      refine gc_V1 iM_lay_2 rfl (by decide) (sk_43 _) rfl (Nat.le_of_ble_eq_true rfl) (Nat.le_of_ble_eq_true rfl) (by decide) (sp_M_looked_b hx) ?_
      refine go_istore_4 iM_lay_5 (by simp [Value.category, am_U]) ?_
      refine go_iload_4 iM_lay_7 ?_
      refine go_if_ge iM_lay_9 (fun c_9 => ?_) (fun c_9 => ?_)
      · (first | omega | exact absurd c_9 (by decide) | (exfalso; simp (disch := omega) only [Int32.lt_iff_toInt_lt, Int32.le_iff_toInt_le, ← Int32.toInt_inj, nI_toInt, i32_m1, i32_0, i32_m20, i32_m40, i32_m30, i32_m9] at *; omega))
      refine go_iload_4 iM_lay_12 ?_
      refine go_iret iM_lay_14 rfl ?_
      rfl
end ROWS
