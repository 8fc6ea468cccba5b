/-! ===== FIT rows ===== -/
def hgB (mI : Nat → Nat → Int32) (n : Nat) (x : Int32) : Bool := decide (0 ≤ x.toInt) && (decide (x.toInt < (n : Int)) && decide (kdN mI x.toNatClampNeg ≠ 2))
def ft (mI : Nat → Nat → Int32) (n : Nat) (g : Nat → Int32) : Nat → Bool
  | 0 => true
  | i + 1 => ft mI n g i && hgB mI n (g i)
theorem ft_congr {mI : Nat → Nat → Int32} {n : Nat} {g g' : Nat → Int32} : ∀ i, (∀ j, j < i → g j = g' j) → ft mI n g i = ft mI n g' i
  | 0, _ => rfl
  | i + 1, h => by simp only [ft, ft_congr i (fun j hj => h j (by omega)), h i (by omega)]
theorem ft_at {mI : Nat → Nat → Int32} {n : Nat} {g : Nat → Int32} : ∀ s i, i < s → ft mI n g s = true → hgB mI n (g i) = true
  | 0, i, h, _ => by omega
  | s + 1, i, h, hf => by
    simp only [ft, Bool.and_eq_true] at hf
    by_cases e : i = s
    · rw [e]; exact hf.2
    · exact ft_at s i (by omega) hf.1
theorem hg_in {mI : Nat → Nat → Int32} {n : Nat} {x : Int32} (h8 : n ≤ 8) (h : hgB mI n x = true) : ∃ p, p < n ∧ x = nI p ∧ kdN mI p ≠ 2 := by
  simp only [hgB, Bool.and_eq_true, decide_eq_true_eq] at h
  obtain ⟨h1, h2, h3⟩ := h
  rcases int_cases x n (by omega) with ⟨a, ha, rfl⟩ | q
  · rw [nI_toInt (by omega)] at h2
    rw [nI_clamp (by omega)] at h3
    exact ⟨a, by omega, rfl, h3⟩
  · omega
theorem hg_nI {mI : Nat → Nat → Int32} {n p : Nat} (h8 : n ≤ 8) (hp : p < n) : hgB mI n (nI p) = decide (kdN mI p ≠ 2) := by
  unfold hgB
  rw [nI_toInt (by omega), nI_clamp (by omega), decide_eq_true (by omega), decide_eq_true (by omega), Bool.true_and, Bool.true_and]
theorem hg_out {mI : Nat → Nat → Int32} {n : Nat} {x : Int32} (h : x.toInt < 0 ∨ (n : Int) ≤ x.toInt) : hgB mI n x = false := by
  unfold hgB
  rcases h with h | h
  · rw [decide_eq_false (by omega), Bool.false_and]
  · rw [decide_eq_false (p := x.toInt < (n : Int)) (by omega), Bool.false_and, Bool.and_false]
def ftN (mI : Nat → Nat → Int32) (n : Nat) (g : Nat → Int32) (s : Nat) : Nat := if 0 < s ∧ ft mI n g s = true then 1 else 0
section FIT
variable {S : am_S} {mI : Nat → Nat → Int32} {mL mL0 : Nat → Nat → Int64} {n r s : Nat}
theorem sp_T_hangs {x : Int32} (h8 : n ≤ 8) (hcT : mI 0 1 = nI n) (hpl : ∀ p, p < n → PlR mI p) : Sp S 1 tT_hangsOnPurse (am_sh n, mI, mL, am_mR n) [.ref 0, .int x] (fun q => q = (some (.int (nI (if hgB mI n x = true then 1 else 0))), (am_sh n, mI, mL, am_mR n))) := by
  rcases pl_cases x n h8 with ⟨p, hp, rfl⟩ | hx
  · obtain ⟨kd, hkd, hkT, hkM, hsz, hw, ho, ho3⟩ := hpl p hp
    have hkk := kdN_of hkM hkd
    rw [hg_nI h8 hp, hkk]
    by_cases e : kd = 2
    · rw [if_neg (by simp [e])]; exact sp_T_hangs_e h8 hcT hp hkT e
    · rw [if_pos (by simp [e])]; exact sp_T_hangs_t h8 hcT hp hkT hkd e
  · rw [hg_out hx, if_neg (by decide)]
    exact sp_T_hangs_f h8 hcT hx
theorem lo_T_fit (hr : r < 4) (hs : mI (15 + 2 * r) 0 = nI s) (h4 : s ≤ 4) (h8 : n ≤ 8) (hcT : mI 0 1 = nI n) (hpl : ∀ p, p < n → PlR mI p) : ∀ k i, i + k = s → ft mI n (mI (16 + 2 * r)) i = true → Go S 2 tT_isFit ((am_sh n, mI, mL, am_mR n), 2, [.ref 0, .ref (15 + 2 * r), .int (nI i)], []) (fun q => q = (some (.int (nI (ftN mI n (mI (16 + 2 * r)) s))), (am_sh n, mI, mL, am_mR n)))
  | 0, i, hi, hf => by
    have hk := sk_row n hr
    obtain rfl : i = s := by omega
    by_cases e : 0 < i
    · rw [show ftN mI n (mI (16 + 2 * r)) i = 1 by unfold ftN; rw [if_pos ⟨e, hf⟩]]
      refine go_iloadn_2 iT_isFit_2 ?_
      refine go_aloadn_1 iT_isFit_3 rfl ?_
      refine go_getI iT_isFit_4 (Or.inl rfl) (by assumption) ?_
      try simp (disch := omega) only [am_u_n, am_u_s, am_u_k, hs]
      first | refine gn_ic_ge iT_isFit_7 (by omega) (by omega) (fun c_7 => ?_) (fun c_7 => ?_) | refine go_ic_ge iT_isFit_7 (fun c_7 => ?_) (fun c_7 => ?_)
      rotate_left
      · (first | omega | exact absurd c_7 (by decide) | (exfalso; simp (disch := omega) only [Int32.lt_iff_toInt_lt, Int32.le_iff_toInt_le, ← Int32.toInt_inj, nI_toInt, i32_m1, i32_0, i32_m20, i32_m40, i32_m30, i32_m9] at *; omega))
      refine go_aloadn_1 iT_isFit_31 rfl ?_
      refine go_getI iT_isFit_32 (Or.inl rfl) (by assumption) ?_
      try simp (disch := omega) only [am_u_n, am_u_s, am_u_k, hs]
      refine go_if_le iT_isFit_35 (fun c_35 => ?_) (fun c_35 => ?_)
      · (first | omega | exact absurd c_35 (by decide) | (exfalso; simp (disch := omega) only [Int32.lt_iff_toInt_lt, Int32.le_iff_toInt_le, ← Int32.toInt_inj, nI_toInt, i32_m1, i32_0, i32_m20, i32_m40, i32_m30, i32_m9] at *; omega))
      refine go_iconst (v := nI 1) iT_isFit_38 rfl ?_
      refine go_goto iT_isFit_39 ?_
      refine go_zret iT_isFit_43 rfl (by first | exact Or.inl rfl | exact Or.inr rfl) ?_
      rfl
    · rw [show ftN mI n (mI (16 + 2 * r)) i = 0 by unfold ftN; rw [if_neg (fun q => e q.1)]]
      refine go_iloadn_2 iT_isFit_2 ?_
      refine go_aloadn_1 iT_isFit_3 rfl ?_
      refine go_getI iT_isFit_4 (Or.inl rfl) (by assumption) ?_
      try simp (disch := omega) only [am_u_n, am_u_s, am_u_k, hs]
      first | refine gn_ic_ge iT_isFit_7 (by omega) (by omega) (fun c_7 => ?_) (fun c_7 => ?_) | refine go_ic_ge iT_isFit_7 (fun c_7 => ?_) (fun c_7 => ?_)
      rotate_left
      · (first | omega | exact absurd c_7 (by decide) | (exfalso; simp (disch := omega) only [Int32.lt_iff_toInt_lt, Int32.le_iff_toInt_le, ← Int32.toInt_inj, nI_toInt, i32_m1, i32_0, i32_m20, i32_m40, i32_m30, i32_m9] at *; omega))
      refine go_aloadn_1 iT_isFit_31 rfl ?_
      refine go_getI iT_isFit_32 (Or.inl rfl) (by assumption) ?_
      try simp (disch := omega) only [am_u_n, am_u_s, am_u_k, hs]
      refine go_if_le iT_isFit_35 (fun c_35 => ?_) (fun c_35 => ?_)
      rotate_left
      · (first | omega | exact absurd c_35 (by decide) | (exfalso; simp (disch := omega) only [Int32.lt_iff_toInt_lt, Int32.le_iff_toInt_le, ← Int32.toInt_inj, nI_toInt, i32_m1, i32_0, i32_m20, i32_m40, i32_m30, i32_m9] at *; omega))
      refine go_iconst (v := nI 0) iT_isFit_42 rfl ?_
      refine go_zret iT_isFit_43 rfl (by first | exact Or.inl rfl | exact Or.inr rfl) ?_
      rfl
  | k + 1, i, hi, hf => by
    have hk := sk_row n hr
    obtain ⟨g1, g2, g3, g4⟩ := sh_row n hr
    have hh := sp_T_hangs (S := S) (mL := mL) (x := mI (16 + 2 * r) i) h8 hcT hpl
    by_cases e : hgB mI n (mI (16 + 2 * r) i) = true
    · rw [if_pos e] at hh
      refine go_iloadn_2 iT_isFit_2 ?_
      refine go_aloadn_1 iT_isFit_3 rfl ?_
      refine go_getI iT_isFit_4 (Or.inl rfl) (by assumption) ?_
      try simp (disch := omega) only [am_u_n, am_u_s, am_u_k, hs]
      first | refine gn_ic_ge iT_isFit_7 (by omega) (by omega) (fun c_7 => ?_) (fun c_7 => ?_) | refine go_ic_ge iT_isFit_7 (fun c_7 => ?_) (fun c_7 => ?_)
      · (first | omega | exact absurd c_7 (by decide) | (exfalso; simp (disch := omega) only [Int32.lt_iff_toInt_lt, Int32.le_iff_toInt_le, ← Int32.toInt_inj, nI_toInt, i32_m1, i32_0, i32_m20, i32_m40, i32_m30, i32_m9] at *; omega))
      refine go_aloadn_0 iT_isFit_10 rfl ?_
      refine go_aloadn_1 iT_isFit_11 rfl ?_
      refine go_getR iT_isFit_12 rfl (by assumption) (by assumption) ?_
      refine go_iloadn_2 iT_isFit_15 ?_
      refine go_iald iT_isFit_16 (by assumption) rfl (by omega) (by omega) ?_
      try simp (disch := omega) only [am_u_n, am_u_s, am_u_k, hs]
      refine gc_V1 iT_isFit_17 rfl (by decide) (sk_0 _) rfl (Nat.le_of_ble_eq_true rfl) (Nat.le_of_ble_eq_true rfl) (by decide) hh ?_
      refine go_if_ne iT_isFit_20 (fun c_20 => ?_) (fun c_20 => ?_)
      rotate_left
      · (first | omega | exact absurd c_20 (by decide) | (exfalso; simp (disch := omega) only [Int32.lt_iff_toInt_lt, Int32.le_iff_toInt_le, ← Int32.toInt_inj, nI_toInt, i32_m1, i32_0, i32_m20, i32_m40, i32_m30, i32_m9] at *; omega))
      first | refine go_iinc_2 iT_isFit_25 (ni_inc _ 1) (by simp [Value.category, am_U]) ?_ | refine go_iinc_2 iT_isFit_25 rfl (by simp [Value.category, am_U]) ?_
      refine go_goto iT_isFit_28 ?_
      exact lo_T_fit hr hs h4 h8 hcT hpl k (i + 1) (by omega) (by simp only [ft, hf, e, Bool.and_self])
    · rw [if_neg e] at hh
      rw [show ftN mI n (mI (16 + 2 * r)) s = 0 by unfold ftN; rw [if_neg (fun q => e (ft_at s i (by omega) q.2))]]
      refine go_iloadn_2 iT_isFit_2 ?_
      refine go_aloadn_1 iT_isFit_3 rfl ?_
      refine go_getI iT_isFit_4 (Or.inl rfl) (by assumption) ?_
      try simp (disch := omega) only [am_u_n, am_u_s, am_u_k, hs]
      first | refine gn_ic_ge iT_isFit_7 (by omega) (by omega) (fun c_7 => ?_) (fun c_7 => ?_) | refine go_ic_ge iT_isFit_7 (fun c_7 => ?_) (fun c_7 => ?_)
      · (first | omega | exact absurd c_7 (by decide) | (exfalso; simp (disch := omega) only [Int32.lt_iff_toInt_lt, Int32.le_iff_toInt_le, ← Int32.toInt_inj, nI_toInt, i32_m1, i32_0, i32_m20, i32_m40, i32_m30, i32_m9] at *; omega))
      refine go_aloadn_0 iT_isFit_10 rfl ?_
      refine go_aloadn_1 iT_isFit_11 rfl ?_
      refine go_getR iT_isFit_12 rfl (by assumption) (by assumption) ?_
      refine go_iloadn_2 iT_isFit_15 ?_
      refine go_iald iT_isFit_16 (by assumption) rfl (by omega) (by omega) ?_
      try simp (disch := omega) only [am_u_n, am_u_s, am_u_k, hs]
      refine gc_V1 iT_isFit_17 rfl (by decide) (sk_0 _) rfl (Nat.le_of_ble_eq_true rfl) (Nat.le_of_ble_eq_true rfl) (by decide) hh ?_
      refine go_if_ne iT_isFit_20 (fun c_20 => ?_) (fun c_20 => ?_)
      · (first | omega | exact absurd c_20 (by decide) | (exfalso; simp (disch := omega) only [Int32.lt_iff_toInt_lt, Int32.le_iff_toInt_le, ← Int32.toInt_inj, nI_toInt, i32_m1, i32_0, i32_m20, i32_m40, i32_m30, i32_m9] at *; omega))
      refine go_iconst (v := nI 0) iT_isFit_23 rfl ?_
      refine go_zret iT_isFit_24 rfl (by first | exact Or.inl rfl | exact Or.inr rfl) ?_
      rfl
theorem sp_T_isFit (hr : r < 4) (hs : mI (15 + 2 * r) 0 = nI s) (h4 : s ≤ 4) (h8 : n ≤ 8) (hcT : mI 0 1 = nI n) (hpl : ∀ p, p < n → PlR mI p) : Sp S 2 tT_isFit (am_sh n, mI, mL, am_mR n) [.ref 0, .ref (15 + 2 * r)] (fun q => q = (some (.int (nI (ftN mI n (mI (16 + 2 * r)) s))), (am_sh n, mI, mL, am_mR n))) := by
  show Go _ _ tT_isFit (_, 0, [.ref 0, .ref (15 + 2 * r), am_U], []) _
  refine go_iconst (v := nI 0) iT_isFit_0 rfl ?_
  refine go_istoren_2 iT_isFit_1 (by simp [Value.category, am_U]) ?_
  exact lo_T_fit hr hs h4 h8 hcT hpl s 0 (by omega) rfl
theorem sp_T_refusal_m (hr : r < 4) (hs : mI (15 + 2 * r) 0 = -1) : Sp S 3 tT_refusalOf (am_sh n, mI, mL, am_mR n) [.ref 0, .ref (15 + 2 * r)] (fun q => q = (some (.int (-3)), (am_sh n, rfI mI 1, mL, am_mR n))) := by
  have hk := sk_row n hr
  show Go _ _ tT_refusalOf (_, 0, [.ref 0, .ref (15 + 2 * r)], []) _
  refine go_aloadn_1 iT_refusalOf_0 rfl ?_
  refine gc_V1 iT_refusalOf_1 rfl (by decide) (by assumption) rfl (Nat.le_of_ble_eq_true rfl) (Nat.le_of_ble_eq_true rfl) (by decide) (sp_W_isMissing_t hr hs) ?_
  refine go_if_eq iT_refusalOf_4 (fun c_4 => ?_) (fun c_4 => ?_)
  · (first | omega | exact absurd c_4 (by decide) | (exfalso; simp (disch := omega) only [Int32.lt_iff_toInt_lt, Int32.le_iff_toInt_le, ← Int32.toInt_inj, nI_toInt, i32_m1, i32_0, i32_m20, i32_m40, i32_m30, i32_m9] at *; omega))
  refine go_aloadn_0 iT_refusalOf_7 rfl ?_
  refine go_iconst (v := nI 1) iT_refusalOf_8 rfl ?_
  refine gc_V1 iT_refusalOf_9 rfl (by decide) (sk_0 _) rfl (Nat.le_of_ble_eq_true rfl) (Nat.le_of_ble_eq_true rfl) (by decide) (sp_T_refuse (by decide)) ?_
  refine go_iret iT_refusalOf_12 rfl ?_
  rfl
theorem sp_T_refusal_u (hr : r < 4) (hs : mI (15 + 2 * r) 0 = nI s) (h4 : s ≤ 4) (h8 : n ≤ 8) (hcT : mI 0 1 = nI n) (hpl : ∀ p, p < n → PlR mI p) (hf : ftN mI n (mI (16 + 2 * r)) s = 0) : Sp S 3 tT_refusalOf (am_sh n, mI, mL, am_mR n) [.ref 0, .ref (15 + 2 * r)] (fun q => q = (some (.int (-3)), (am_sh n, rfI mI 3, mL, am_mR n))) := by
  have hk := sk_row n hr
  have hh := sp_T_isFit (S := S) (mL := mL) hr hs h4 h8 hcT hpl
  rw [hf] at hh
  show Go _ _ tT_refusalOf (_, 0, [.ref 0, .ref (15 + 2 * r)], []) _
  refine go_aloadn_1 iT_refusalOf_0 rfl ?_
  refine gc_V1 iT_refusalOf_1 rfl (by decide) (by assumption) rfl (Nat.le_of_ble_eq_true rfl) (Nat.le_of_ble_eq_true rfl) (by decide) (sp_W_isMissing_f hr hs h4) ?_
  refine go_if_eq iT_refusalOf_4 (fun c_4 => ?_) (fun c_4 => ?_)
  rotate_left
  · (first | omega | exact absurd c_4 (by decide) | (exfalso; simp (disch := omega) only [Int32.lt_iff_toInt_lt, Int32.le_iff_toInt_le, ← Int32.toInt_inj, nI_toInt, i32_m1, i32_0, i32_m20, i32_m40, i32_m30, i32_m9] at *; omega))
  refine go_aloadn_0 iT_refusalOf_13 rfl ?_
  refine go_aloadn_1 iT_refusalOf_14 rfl ?_
  refine gc_V1 iT_refusalOf_15 rfl (by decide) (sk_0 _) rfl (Nat.le_of_ble_eq_true rfl) (Nat.le_of_ble_eq_true rfl) (by decide) hh ?_
  refine go_if_ne iT_refusalOf_18 (fun c_18 => ?_) (fun c_18 => ?_)
  · (first | omega | exact absurd c_18 (by decide) | (exfalso; simp (disch := omega) only [Int32.lt_iff_toInt_lt, Int32.le_iff_toInt_le, ← Int32.toInt_inj, nI_toInt, i32_m1, i32_0, i32_m20, i32_m40, i32_m30, i32_m9] at *; omega))
  refine go_aloadn_0 iT_refusalOf_21 rfl ?_
  refine go_iconst (v := nI 3) iT_refusalOf_22 rfl ?_
  refine gc_V1 iT_refusalOf_23 rfl (by decide) (sk_0 _) rfl (Nat.le_of_ble_eq_true rfl) (Nat.le_of_ble_eq_true rfl) (by decide) (sp_T_refuse (by decide)) ?_
  refine go_iret iT_refusalOf_26 rfl ?_
  rfl
theorem sp_T_refusal_t (hr : r < 4) (hs : mI (15 + 2 * r) 0 = nI s) (h4 : s ≤ 4) (h8 : n ≤ 8) (hcT : mI 0 1 = nI n) (hpl : ∀ p, p < n → PlR mI p) (hf : ftN mI n (mI (16 + 2 * r)) s = 1) : Sp S 3 tT_refusalOf (am_sh n, mI, mL, am_mR n) [.ref 0, .ref (15 + 2 * r)] (fun q => q = (some (.int (nI 0)), (am_sh n, mI, mL, am_mR n))) := by
  have hk := sk_row n hr
  have hh := sp_T_isFit (S := S) (mL := mL) hr hs h4 h8 hcT hpl
  rw [hf] at hh
  show Go _ _ tT_refusalOf (_, 0, [.ref 0, .ref (15 + 2 * r)], []) _
  refine go_aloadn_1 iT_refusalOf_0 rfl ?_
  refine gc_V1 iT_refusalOf_1 rfl (by decide) (by assumption) rfl (Nat.le_of_ble_eq_true rfl) (Nat.le_of_ble_eq_true rfl) (by decide) (sp_W_isMissing_f hr hs h4) ?_
  refine go_if_eq iT_refusalOf_4 (fun c_4 => ?_) (fun c_4 => ?_)
  rotate_left
  · (first | omega | exact absurd c_4 (by decide) | (exfalso; simp (disch := omega) only [Int32.lt_iff_toInt_lt, Int32.le_iff_toInt_le, ← Int32.toInt_inj, nI_toInt, i32_m1, i32_0, i32_m20, i32_m40, i32_m30, i32_m9] at *; omega))
  refine go_aloadn_0 iT_refusalOf_13 rfl ?_
  refine go_aloadn_1 iT_refusalOf_14 rfl ?_
  refine gc_V1 iT_refusalOf_15 rfl (by decide) (sk_0 _) rfl (Nat.le_of_ble_eq_true rfl) (Nat.le_of_ble_eq_true rfl) (by decide) hh ?_
  refine go_if_ne iT_refusalOf_18 (fun c_18 => ?_) (fun c_18 => ?_)
  rotate_left
  · (first | omega | exact absurd c_18 (by decide) | (exfalso; simp (disch := omega) only [Int32.lt_iff_toInt_lt, Int32.le_iff_toInt_le, ← Int32.toInt_inj, nI_toInt, i32_m1, i32_0, i32_m20, i32_m40, i32_m30, i32_m9] at *; omega))
  refine go_iconst (v := nI 0) iT_refusalOf_27 rfl ?_
  refine go_iret iT_refusalOf_28 rfl ?_
  rfl
theorem lo_M_fit (hr : r < 4) (hs : mI 47 r = nI s) (h4 : s ≤ 4) (h8 : n ≤ 8) (hcM : mI 43 5 = nI n) (hpl : ∀ p, p < n → PlR mI p) : ∀ k i (z : Value), i + k = s → Go S 2 tM_isFit ((am_sh n, mI, mL, am_mR n), 17, [.ref 43, .int (nI r), .int (nI (if 0 < s ∧ ft mI n (fun j => mI 48 (4 * r + j)) i = true then 1 else 0)), .int (nI i), z], []) (fun q => q = (some (.int (nI (ftN mI n (fun j => mI 48 (4 * r + j)) s))), (am_sh n, mI, mL, am_mR n)))
  | 0, i, z, hi => by
    obtain rfl : i = s := by omega
    by_cases e : 0 < i ∧ ft mI n (fun j => mI 48 (4 * r + j)) i = true
    · rw [show ftN mI n (fun j => mI 48 (4 * r + j)) i = 1 by unfold ftN; rw [if_pos e], if_pos e]
      refine go_iloadn_3 iM_isFit_17 ?_
      refine go_aloadn_0 iM_isFit_18 rfl ?_
      refine go_getR iM_isFit_19 rfl (sk_43 _) (mR_43_8 _) ?_
      refine go_iloadn_1 iM_isFit_22 ?_
      refine go_iald iM_isFit_23 (sh_47 _) rfl (by omega) (by omega) ?_
      try simp (disch := omega) only [am_u_n, am_u_s, am_u_k, hs]
      first | refine gn_ic_ge iM_isFit_24 (by omega) (by omega) (fun c_24 => ?_) (fun c_24 => ?_) | refine go_ic_ge iM_isFit_24 (fun c_24 => ?_) (fun c_24 => ?_)
      rotate_left
      · (first | omega | exact absurd c_24 (by decide) | (exfalso; simp (disch := omega) only [Int32.lt_iff_toInt_lt, Int32.le_iff_toInt_le, ← Int32.toInt_inj, nI_toInt, i32_m1, i32_0, i32_m20, i32_m40, i32_m30, i32_m9] at *; omega))
      refine go_iloadn_2 iM_isFit_75 ?_
      refine go_zret iM_isFit_76 rfl (by first | exact Or.inl rfl | exact Or.inr rfl) ?_
      rfl
    · rw [show ftN mI n (fun j => mI 48 (4 * r + j)) i = 0 by unfold ftN; rw [if_neg e], if_neg e]
      refine go_iloadn_3 iM_isFit_17 ?_
      refine go_aloadn_0 iM_isFit_18 rfl ?_
      refine go_getR iM_isFit_19 rfl (sk_43 _) (mR_43_8 _) ?_
      refine go_iloadn_1 iM_isFit_22 ?_
      refine go_iald iM_isFit_23 (sh_47 _) rfl (by omega) (by omega) ?_
      try simp (disch := omega) only [am_u_n, am_u_s, am_u_k, hs]
      first | refine gn_ic_ge iM_isFit_24 (by omega) (by omega) (fun c_24 => ?_) (fun c_24 => ?_) | refine go_ic_ge iM_isFit_24 (fun c_24 => ?_) (fun c_24 => ?_)
      rotate_left
      · (first | omega | exact absurd c_24 (by decide) | (exfalso; simp (disch := omega) only [Int32.lt_iff_toInt_lt, Int32.le_iff_toInt_le, ← Int32.toInt_inj, nI_toInt, i32_m1, i32_0, i32_m20, i32_m40, i32_m30, i32_m9] at *; omega))
      refine go_iloadn_2 iM_isFit_75 ?_
      refine go_zret iM_isFit_76 rfl (by first | exact Or.inl rfl | exact Or.inr rfl) ?_
      rfl
  | k + 1, i, z, hi => by
    have hs0 : 0 < s := by omega
    have nx := lo_M_fit hr hs h4 h8 hcM hpl k (i + 1)
    by_cases e : ft mI n (fun j => mI 48 (4 * r + j)) i = true
    · rw [if_pos ⟨hs0, e⟩]
      rcases pl_cases (mI 48 (4 * r + i)) n h8 with ⟨p, hp, hx⟩ | hx
      · obtain ⟨kd, hkd, hkT, hkM, hsz, hw, ho, ho3⟩ := hpl p hp
        have hkk := kdN_of hkM hkd
        have hb : hgB mI n (mI 48 (4 * r + i)) = decide (kd ≠ 2) := by rw [hx, hg_nI h8 hp, hkk]
        by_cases e2 : kd = 2
        · rw [if_neg (by simp only [ft, hb]; simp [e2])] at nx
          refine go_iloadn_3 iM_isFit_17 ?_
          refine go_aloadn_0 iM_isFit_18 rfl ?_
          refine go_getR iM_isFit_19 rfl (sk_43 _) (mR_43_8 _) ?_
          refine go_iloadn_1 iM_isFit_22 ?_
          refine go_iald iM_isFit_23 (sh_47 _) rfl (by omega) (by omega) ?_
          try simp (disch := omega) only [am_u_n, am_u_s, am_u_k, hs, hx, hkM]
          first | refine gn_ic_ge iM_isFit_24 (by omega) (by omega) (fun c_24 => ?_) (fun c_24 => ?_) | refine go_ic_ge iM_isFit_24 (fun c_24 => ?_) (fun c_24 => ?_)
          · (first | omega | exact absurd c_24 (by decide) | (exfalso; simp (disch := omega) only [Int32.lt_iff_toInt_lt, Int32.le_iff_toInt_le, ← Int32.toInt_inj, nI_toInt, i32_m1, i32_0, i32_m20, i32_m40, i32_m30, i32_m9] at *; omega))
          refine go_aloadn_0 iM_isFit_27 rfl ?_
          refine go_getR iM_isFit_28 rfl (sk_43 _) (mR_43_9 _) ?_
          refine go_iconst (v := nI 4) iM_isFit_31 rfl ?_
          refine go_iloadn_1 iM_isFit_32 ?_
          first | refine gn_imul iM_isFit_33 ?_ | refine go_imul iM_isFit_33 ?_
          refine go_iloadn_3 iM_isFit_34 ?_
          first | refine gn_iadd iM_isFit_35 ?_ | refine go_iadd iM_isFit_35 ?_
          refine go_iald iM_isFit_36 (sh_48 _) rfl (by omega) (by omega) ?_
          try simp (disch := omega) only [am_u_n, am_u_s, am_u_k, hs, hx, hkM]
          refine go_istore_4 iM_isFit_37 (by simp [Value.category, am_U]) ?_
          refine go_iloadn_2 iM_isFit_39 ?_
          refine go_if_eq iM_isFit_40 (fun c_40 => ?_) (fun c_40 => ?_)
          · (first | omega | exact absurd c_40 (by decide) | (exfalso; simp (disch := omega) only [Int32.lt_iff_toInt_lt, Int32.le_iff_toInt_le, ← Int32.toInt_inj, nI_toInt, i32_m1, i32_0, i32_m20, i32_m40, i32_m30, i32_m9] at *; omega))
          refine go_aloadn_0 iM_isFit_43 rfl ?_
          refine go_iload_4 iM_isFit_44 ?_
          refine gc_V1 iM_isFit_46 rfl (by decide) (sk_43 _) rfl (Nat.le_of_ble_eq_true rfl) (Nat.le_of_ble_eq_true rfl) (by decide) (sp_M_isPlay_t h8 hcM hp) ?_
          refine go_if_eq iM_isFit_49 (fun c_49 => ?_) (fun c_49 => ?_)
          · (first | omega | exact absurd c_49 (by decide) | (exfalso; simp (disch := omega) only [Int32.lt_iff_toInt_lt, Int32.le_iff_toInt_le, ← Int32.toInt_inj, nI_toInt, i32_m1, i32_0, i32_m20, i32_m40, i32_m30, i32_m9] at *; omega))
          refine go_aloadn_0 iM_isFit_52 rfl ?_
          refine go_getR iM_isFit_53 rfl (sk_43 _) (mR_43_6 _) ?_
          refine go_iload_4 iM_isFit_56 ?_
          refine go_iald iM_isFit_58 (sh_45 _) rfl (by omega) (by omega) ?_
          try simp (disch := omega) only [am_u_n, am_u_s, am_u_k, hs, hx, hkM]
          refine go_iconst (v := nI 2) iM_isFit_59 rfl ?_
          first | refine gn_ic_eq iM_isFit_60 (by omega) (by omega) (fun c_60 => ?_) (fun c_60 => ?_) | refine go_ic_eq iM_isFit_60 (fun c_60 => ?_) (fun c_60 => ?_)
          rotate_left
          · (first | omega | exact absurd c_60 (by decide) | (exfalso; simp (disch := omega) only [Int32.lt_iff_toInt_lt, Int32.le_iff_toInt_le, ← Int32.toInt_inj, nI_toInt, i32_m1, i32_0, i32_m20, i32_m40, i32_m30, i32_m9] at *; omega))
          refine go_iconst (v := nI 0) iM_isFit_67 rfl ?_
          refine go_istoren_2 iM_isFit_68 (by simp [Value.category, am_U]) ?_
          first | refine go_iinc_3 iM_isFit_69 (ni_inc _ 1) (by simp [Value.category, am_U]) ?_ | refine go_iinc_3 iM_isFit_69 rfl (by simp [Value.category, am_U]) ?_
          refine go_goto iM_isFit_72 ?_
          exact nx _ (by omega)
        · rw [if_pos ⟨hs0, by simp only [ft, hb, e]; simp [e2]⟩] at nx
          refine go_iloadn_3 iM_isFit_17 ?_
          refine go_aloadn_0 iM_isFit_18 rfl ?_
          refine go_getR iM_isFit_19 rfl (sk_43 _) (mR_43_8 _) ?_
          refine go_iloadn_1 iM_isFit_22 ?_
          refine go_iald iM_isFit_23 (sh_47 _) rfl (by omega) (by omega) ?_
          try simp (disch := omega) only [am_u_n, am_u_s, am_u_k, hs, hx, hkM]
          first | refine gn_ic_ge iM_isFit_24 (by omega) (by omega) (fun c_24 => ?_) (fun c_24 => ?_) | refine go_ic_ge iM_isFit_24 (fun c_24 => ?_) (fun c_24 => ?_)
          · (first | omega | exact absurd c_24 (by decide) | (exfalso; simp (disch := omega) only [Int32.lt_iff_toInt_lt, Int32.le_iff_toInt_le, ← Int32.toInt_inj, nI_toInt, i32_m1, i32_0, i32_m20, i32_m40, i32_m30, i32_m9] at *; omega))
          refine go_aloadn_0 iM_isFit_27 rfl ?_
          refine go_getR iM_isFit_28 rfl (sk_43 _) (mR_43_9 _) ?_
          refine go_iconst (v := nI 4) iM_isFit_31 rfl ?_
          refine go_iloadn_1 iM_isFit_32 ?_
          first | refine gn_imul iM_isFit_33 ?_ | refine go_imul iM_isFit_33 ?_
          refine go_iloadn_3 iM_isFit_34 ?_
          first | refine gn_iadd iM_isFit_35 ?_ | refine go_iadd iM_isFit_35 ?_
          refine go_iald iM_isFit_36 (sh_48 _) rfl (by omega) (by omega) ?_
          try simp (disch := omega) only [am_u_n, am_u_s, am_u_k, hs, hx, hkM]
          refine go_istore_4 iM_isFit_37 (by simp [Value.category, am_U]) ?_
          refine go_iloadn_2 iM_isFit_39 ?_
          refine go_if_eq iM_isFit_40 (fun c_40 => ?_) (fun c_40 => ?_)
          · (first | omega | exact absurd c_40 (by decide) | (exfalso; simp (disch := omega) only [Int32.lt_iff_toInt_lt, Int32.le_iff_toInt_le, ← Int32.toInt_inj, nI_toInt, i32_m1, i32_0, i32_m20, i32_m40, i32_m30, i32_m9] at *; omega))
          refine go_aloadn_0 iM_isFit_43 rfl ?_
          refine go_iload_4 iM_isFit_44 ?_
          refine gc_V1 iM_isFit_46 rfl (by decide) (sk_43 _) rfl (Nat.le_of_ble_eq_true rfl) (Nat.le_of_ble_eq_true rfl) (by decide) (sp_M_isPlay_t h8 hcM hp) ?_
          refine go_if_eq iM_isFit_49 (fun c_49 => ?_) (fun c_49 => ?_)
          · (first | omega | exact absurd c_49 (by decide) | (exfalso; simp (disch := omega) only [Int32.lt_iff_toInt_lt, Int32.le_iff_toInt_le, ← Int32.toInt_inj, nI_toInt, i32_m1, i32_0, i32_m20, i32_m40, i32_m30, i32_m9] at *; omega))
          refine go_aloadn_0 iM_isFit_52 rfl ?_
          refine go_getR iM_isFit_53 rfl (sk_43 _) (mR_43_6 _) ?_
          refine go_iload_4 iM_isFit_56 ?_
          refine go_iald iM_isFit_58 (sh_45 _) rfl (by omega) (by omega) ?_
          try simp (disch := omega) only [am_u_n, am_u_s, am_u_k, hs, hx, hkM]
          refine go_iconst (v := nI 2) iM_isFit_59 rfl ?_
          first | refine gn_ic_eq iM_isFit_60 (by omega) (by omega) (fun c_60 => ?_) (fun c_60 => ?_) | refine go_ic_eq iM_isFit_60 (fun c_60 => ?_) (fun c_60 => ?_)
          · (first | omega | exact absurd c_60 (by decide) | (exfalso; simp (disch := omega) only [Int32.lt_iff_toInt_lt, Int32.le_iff_toInt_le, ← Int32.toInt_inj, nI_toInt, i32_m1, i32_0, i32_m20, i32_m40, i32_m30, i32_m9] at *; omega))
          refine go_iconst (v := nI 1) iM_isFit_63 rfl ?_
          refine go_goto iM_isFit_64 ?_
          refine go_istoren_2 iM_isFit_68 (by simp [Value.category, am_U]) ?_
          first | refine go_iinc_3 iM_isFit_69 (ni_inc _ 1) (by simp [Value.category, am_U]) ?_ | refine go_iinc_3 iM_isFit_69 rfl (by simp [Value.category, am_U]) ?_
          refine go_goto iM_isFit_72 ?_
          exact nx _ (by omega)
      · have hb : hgB mI n (mI 48 (4 * r + i)) = false := hg_out hx
        rw [if_neg (by simp only [ft, hb]; simp)] at nx
        refine go_iloadn_3 iM_isFit_17 ?_
        refine go_aloadn_0 iM_isFit_18 rfl ?_
        refine go_getR iM_isFit_19 rfl (sk_43 _) (mR_43_8 _) ?_
        refine go_iloadn_1 iM_isFit_22 ?_
        refine go_iald iM_isFit_23 (sh_47 _) rfl (by omega) (by omega) ?_
        try simp (disch := omega) only [am_u_n, am_u_s, am_u_k, hs]
        first | refine gn_ic_ge iM_isFit_24 (by omega) (by omega) (fun c_24 => ?_) (fun c_24 => ?_) | refine go_ic_ge iM_isFit_24 (fun c_24 => ?_) (fun c_24 => ?_)
        · (first | omega | exact absurd c_24 (by decide) | (exfalso; simp (disch := omega) only [Int32.lt_iff_toInt_lt, Int32.le_iff_toInt_le, ← Int32.toInt_inj, nI_toInt, i32_m1, i32_0, i32_m20, i32_m40, i32_m30, i32_m9] at *; omega))
        refine go_aloadn_0 iM_isFit_27 rfl ?_
        refine go_getR iM_isFit_28 rfl (sk_43 _) (mR_43_9 _) ?_
        refine go_iconst (v := nI 4) iM_isFit_31 rfl ?_
        refine go_iloadn_1 iM_isFit_32 ?_
        first | refine gn_imul iM_isFit_33 ?_ | refine go_imul iM_isFit_33 ?_
        refine go_iloadn_3 iM_isFit_34 ?_
        first | refine gn_iadd iM_isFit_35 ?_ | refine go_iadd iM_isFit_35 ?_
        refine go_iald iM_isFit_36 (sh_48 _) rfl (by omega) (by omega) ?_
        try simp (disch := omega) only [am_u_n, am_u_s, am_u_k, hs]
        refine go_istore_4 iM_isFit_37 (by simp [Value.category, am_U]) ?_
        refine go_iloadn_2 iM_isFit_39 ?_
        refine go_if_eq iM_isFit_40 (fun c_40 => ?_) (fun c_40 => ?_)
        · (first | omega | exact absurd c_40 (by decide) | (exfalso; simp (disch := omega) only [Int32.lt_iff_toInt_lt, Int32.le_iff_toInt_le, ← Int32.toInt_inj, nI_toInt, i32_m1, i32_0, i32_m20, i32_m40, i32_m30, i32_m9] at *; omega))
        refine go_aloadn_0 iM_isFit_43 rfl ?_
        refine go_iload_4 iM_isFit_44 ?_
        refine gc_V1 iM_isFit_46 rfl (by decide) (sk_43 _) rfl (Nat.le_of_ble_eq_true rfl) (Nat.le_of_ble_eq_true rfl) (by decide) (sp_M_isPlay_f h8 hcM hx) ?_
        refine go_if_eq iM_isFit_49 (fun c_49 => ?_) (fun c_49 => ?_)
        rotate_left
        · (first | omega | exact absurd c_49 (by decide) | (exfalso; simp (disch := omega) only [Int32.lt_iff_toInt_lt, Int32.le_iff_toInt_le, ← Int32.toInt_inj, nI_toInt, i32_m1, i32_0, i32_m20, i32_m40, i32_m30, i32_m9] at *; omega))
        refine go_iconst (v := nI 0) iM_isFit_67 rfl ?_
        refine go_istoren_2 iM_isFit_68 (by simp [Value.category, am_U]) ?_
        first | refine go_iinc_3 iM_isFit_69 (ni_inc _ 1) (by simp [Value.category, am_U]) ?_ | refine go_iinc_3 iM_isFit_69 rfl (by simp [Value.category, am_U]) ?_
        refine go_goto iM_isFit_72 ?_
        exact nx _ (by omega)
    · rw [if_neg (fun q => e q.2)]
      rw [if_neg (by simp only [ft]; simp [e])] at nx
      refine go_iloadn_3 iM_isFit_17 ?_
      refine go_aloadn_0 iM_isFit_18 rfl ?_
      refine go_getR iM_isFit_19 rfl (sk_43 _) (mR_43_8 _) ?_
      refine go_iloadn_1 iM_isFit_22 ?_
      refine go_iald iM_isFit_23 (sh_47 _) rfl (by omega) (by omega) ?_
      try simp (disch := omega) only [am_u_n, am_u_s, am_u_k, hs]
      first | refine gn_ic_ge iM_isFit_24 (by omega) (by omega) (fun c_24 => ?_) (fun c_24 => ?_) | refine go_ic_ge iM_isFit_24 (fun c_24 => ?_) (fun c_24 => ?_)
      · (first | omega | exact absurd c_24 (by decide) | (exfalso; simp (disch := omega) only [Int32.lt_iff_toInt_lt, Int32.le_iff_toInt_le, ← Int32.toInt_inj, nI_toInt, i32_m1, i32_0, i32_m20, i32_m40, i32_m30, i32_m9] at *; omega))
      refine go_aloadn_0 iM_isFit_27 rfl ?_
      refine go_getR iM_isFit_28 rfl (sk_43 _) (mR_43_9 _) ?_
      refine go_iconst (v := nI 4) iM_isFit_31 rfl ?_
      refine go_iloadn_1 iM_isFit_32 ?_
      first | refine gn_imul iM_isFit_33 ?_ | refine go_imul iM_isFit_33 ?_
      refine go_iloadn_3 iM_isFit_34 ?_
      first | refine gn_iadd iM_isFit_35 ?_ | refine go_iadd iM_isFit_35 ?_
      refine go_iald iM_isFit_36 (sh_48 _) rfl (by omega) (by omega) ?_
      try simp (disch := omega) only [am_u_n, am_u_s, am_u_k, hs]
      refine go_istore_4 iM_isFit_37 (by simp [Value.category, am_U]) ?_
      refine go_iloadn_2 iM_isFit_39 ?_
      refine go_if_eq iM_isFit_40 (fun c_40 => ?_) (fun c_40 => ?_)
      rotate_left
      · (first | omega | exact absurd c_40 (by decide) | (exfalso; simp (disch := omega) only [Int32.lt_iff_toInt_lt, Int32.le_iff_toInt_le, ← Int32.toInt_inj, nI_toInt, i32_m1, i32_0, i32_m20, i32_m40, i32_m30, i32_m9] at *; omega))
      refine go_iconst (v := nI 0) iM_isFit_67 rfl ?_
      refine go_istoren_2 iM_isFit_68 (by simp [Value.category, am_U]) ?_
      first | refine go_iinc_3 iM_isFit_69 (ni_inc _ 1) (by simp [Value.category, am_U]) ?_ | refine go_iinc_3 iM_isFit_69 rfl (by simp [Value.category, am_U]) ?_
      refine go_goto iM_isFit_72 ?_
      exact nx _ (by omega)
theorem sp_M_isFit (hr : r < 4) (hs : mI 47 r = nI s) (h4 : s ≤ 4) (h8 : n ≤ 8) (hcM : mI 43 5 = nI n) (hpl : ∀ p, p < n → PlR mI p) : Sp S 2 tM_isFit (am_sh n, mI, mL, am_mR n) [.ref 43, .int (nI r)] (fun q => q = (some (.int (nI (ftN mI n (fun j => mI 48 (4 * r + j)) s))), (am_sh n, mI, mL, am_mR n))) := by
  have nx := lo_M_fit (S := S) (mL := mL) hr hs h4 h8 hcM hpl s 0
  show Go _ _ tM_isFit (_, 0, [.ref 43, .int (nI r), am_U, am_U, am_U], []) _
  by_cases e : 0 < s
  · rw [if_pos ⟨e, rfl⟩] at nx
    refine go_aloadn_0 iM_isFit_0 rfl ?_
    refine go_getR iM_isFit_1 rfl (sk_43 _) (mR_43_8 _) ?_
    refine go_iloadn_1 iM_isFit_4 ?_
    refine go_iald iM_isFit_5 (sh_47 _) rfl (by omega) (by omega) ?_
    try simp (disch := omega) only [am_u_n, am_u_s, am_u_k, hs]
    refine go_if_le iM_isFit_6 (fun c_6 => ?_) (fun c_6 => ?_)
    · (first | omega | exact absurd c_6 (by decide) | (exfalso; simp (disch := omega) only [Int32.lt_iff_toInt_lt, Int32.le_iff_toInt_le, ← Int32.toInt_inj, nI_toInt, i32_m1, i32_0, i32_m20, i32_m40, i32_m30, i32_m9] at *; omega))
    refine go_iconst (v := nI 1) iM_isFit_9 rfl ?_
    refine go_goto iM_isFit_10 ?_
    refine go_istoren_2 iM_isFit_14 (by simp [Value.category, am_U]) ?_
    refine go_iconst (v := nI 0) iM_isFit_15 rfl ?_
    refine go_istoren_3 iM_isFit_16 (by simp [Value.category, am_U]) ?_
    exact nx _ (by omega)
  · rw [if_neg (fun q => e q.1)] at nx
    refine go_aloadn_0 iM_isFit_0 rfl ?_
    refine go_getR iM_isFit_1 rfl (sk_43 _) (mR_43_8 _) ?_
    refine go_iloadn_1 iM_isFit_4 ?_
    refine go_iald iM_isFit_5 (sh_47 _) rfl (by omega) (by omega) ?_
    try simp (disch := omega) only [am_u_n, am_u_s, am_u_k, hs]
    refine go_if_le iM_isFit_6 (fun c_6 => ?_) (fun c_6 => ?_)
    rotate_left
    · (first | omega | exact absurd c_6 (by decide) | (exfalso; simp (disch := omega) only [Int32.lt_iff_toInt_lt, Int32.le_iff_toInt_le, ← Int32.toInt_inj, nI_toInt, i32_m1, i32_0, i32_m20, i32_m40, i32_m30, i32_m9] at *; omega))
    refine go_iconst (v := nI 0) iM_isFit_13 rfl ?_
    refine go_istoren_2 iM_isFit_14 (by simp [Value.category, am_U]) ?_
    refine go_iconst (v := nI 0) iM_isFit_15 rfl ?_
    refine go_istoren_3 iM_isFit_16 (by simp [Value.category, am_U]) ?_
    exact nx _ (by omega)
theorem lo_M_setTurn {t p : Nat} {o : Nat → Nat} {Q : Option Value × am_M → Prop} (ht : t < 4) (hp : p < 8) (ho : ∀ i, i < 3 → mI 46 (4 * p + i) = nI (o i)) (hob : ∀ i, i < 3 → o i ≤ 12) (kq : ∀ mL, ((∀ a, a ≠ 50 → mL a = mL0 a) ∧ (∀ y, y < 3 * t → mL 50 y = mL0 50 y) ∧ ∀ i, i < 3 → mL 50 (3 * t + i) = zL (o i)) → Q (none, (am_sh n, mI, mL, am_mR n))) : ∀ k i (mL : Nat → Nat → Int64), i + k = 3 → ((∀ a, a ≠ 50 → mL a = mL0 a) ∧ (∀ y, y < 3 * t → mL 50 y = mL0 50 y) ∧ ∀ j, j < i → mL 50 (3 * t + j) = zL (o j)) → Go S 0 tM_setTurn ((am_sh n, mI, mL, am_mR n), 2, [.ref 43, .int (nI t), .int (nI p), .int (nI i)], []) Q
  | 0, i, mL, hi, hF => by
    obtain rfl : i = 3 := by omega
    refine go_iloadn_3 iM_setTurn_2 ?_
    refine go_iconst (v := nI 3) iM_setTurn_3 rfl ?_
    first | refine gn_ic_ge iM_setTurn_4 (by omega) (by omega) (fun c_4 => ?_) (fun c_4 => ?_) | refine go_ic_ge iM_setTurn_4 (fun c_4 => ?_) (fun c_4 => ?_)
    rotate_left
    · (first | omega | exact absurd c_4 (by decide) | (exfalso; simp (disch := omega) only [Int32.lt_iff_toInt_lt, Int32.le_iff_toInt_le, ← Int32.toInt_inj, nI_toInt, i32_m1, i32_0, i32_m20, i32_m40, i32_m30, i32_m9] at *; omega))
    refine go_vret iM_setTurn_34 rfl ?_
    exact kq _ hF
  | k + 1, i, mL, hi, hF => by
    have r1 := ho i (by omega)
    have r2 := hob i (by omega)
    refine go_iloadn_3 iM_setTurn_2 ?_
    refine go_iconst (v := nI 3) iM_setTurn_3 rfl ?_
    first | refine gn_ic_ge iM_setTurn_4 (by omega) (by omega) (fun c_4 => ?_) (fun c_4 => ?_) | refine go_ic_ge iM_setTurn_4 (fun c_4 => ?_) (fun c_4 => ?_)
    · (first | omega | exact absurd c_4 (by decide) | (exfalso; simp (disch := omega) only [Int32.lt_iff_toInt_lt, Int32.le_iff_toInt_le, ← Int32.toInt_inj, nI_toInt, i32_m1, i32_0, i32_m20, i32_m40, i32_m30, i32_m9] at *; omega))
    refine go_aloadn_0 iM_setTurn_7 rfl ?_
    refine go_getR iM_setTurn_8 rfl (sk_43 _) (mR_43_13 _) ?_
    refine go_iconst (v := nI 3) iM_setTurn_11 rfl ?_
    refine go_iloadn_1 iM_setTurn_12 ?_
    first | refine gn_imul iM_setTurn_13 ?_ | refine go_imul iM_setTurn_13 ?_
    refine go_iloadn_3 iM_setTurn_14 ?_
    first | refine gn_iadd iM_setTurn_15 ?_ | refine go_iadd iM_setTurn_15 ?_
    refine go_aloadn_0 iM_setTurn_16 rfl ?_
    refine go_getR iM_setTurn_17 rfl (sk_43 _) (mR_43_7 _) ?_
    refine go_iconst (v := nI 4) iM_setTurn_20 rfl ?_
    refine go_iloadn_2 iM_setTurn_21 ?_
    first | refine gn_imul iM_setTurn_22 ?_ | refine go_imul iM_setTurn_22 ?_
    refine go_iloadn_3 iM_setTurn_23 ?_
    first | refine gn_iadd iM_setTurn_24 ?_ | refine go_iadd iM_setTurn_24 ?_
    refine go_iald iM_setTurn_25 (sh_46 _) rfl (by omega) (by omega) ?_
    try simp (disch := omega) only [am_u_n, am_u_s, am_u_k, r1]
    first | refine gz_i2l iM_setTurn_26 (by omega) ?_ | refine gz_i2lI iM_setTurn_26 ?_
    refine go_last iM_setTurn_27 (sh_50 _) rfl (by omega) (by omega) ?_
    first | refine go_iinc_3 iM_setTurn_28 (ni_inc _ 1) (by simp [Value.category, am_U]) ?_ | refine go_iinc_3 iM_setTurn_28 rfl (by simp [Value.category, am_U]) ?_
    refine go_goto iM_setTurn_31 ?_
    refine lo_M_setTurn ht hp ho hob kq k (i + 1) _ (by omega) ⟨fun a ha => by rw [am_u_r ha]; exact hF.1 a ha, fun y hy => by rw [am_u_k (by omega)]; exact hF.2.1 y hy, fun j hj => ?_⟩
    by_cases e : j = i
    · rw [e, am_u_s]
    · rw [am_u_k (by omega)]; exact hF.2.2 j (by omega)
theorem ex_M_setTurn {t p : Nat} {o : Nat → Nat} (ht : t < 4) (hp : p < 8) (ho : ∀ i, i < 3 → mI 46 (4 * p + i) = nI (o i)) (hob : ∀ i, i < 3 → o i ≤ 12) : Ex S 0 tM_setTurn n mI mL [.ref 43, .int (nI t), .int (nI p)] none (fun mI' mL' => mI' = mI ∧ (∀ a, a ≠ 50 → mL' a = mL a) ∧ (∀ y, y < 3 * t → mL' 50 y = mL 50 y) ∧ ∀ i, i < 3 → mL' 50 (3 * t + i) = zL (o i)) := by
  unfold Ex
  show Go _ _ tM_setTurn (_, 0, [.ref 43, .int (nI t), .int (nI p), am_U], []) _
  refine go_iconst (v := nI 0) iM_setTurn_0 rfl ?_
  refine go_istoren_3 iM_setTurn_1 (by simp [Value.category, am_U]) ?_
  exact lo_M_setTurn (mL0 := mL) ht hp ho hob (fun mL2 h => ex_i ⟨rfl, h⟩) 3 0 _ (by omega) ⟨fun a _ => rfl, fun _ _ => rfl, fun j hj => by omega⟩
end FIT
/-- the odds of play p at rest i -/
def odN (mI : Nat → Nat → Int32) (p i : Nat) : Nat := (mI (61 + 2 * p) i).toNatClampNeg
theorem odN_ok {mI : Nat → Nat → Int32} {p : Nat} (h : PlR mI p) : (∀ i, i < 4 → mI (61 + 2 * p) i = nI (odN mI p i) ∧ odN mI p i ≤ 12) ∧ ∀ i, i < 3 → mI 46 (4 * p + i) = nI (odN mI p i) := by
  obtain ⟨kd, hkd, hkT, hkM, hsz, hw, ho, ho3⟩ := h
  have h1 : ∀ i, i < 4 → mI (61 + 2 * p) i = nI (odN mI p i) ∧ odN mI p i ≤ 12 := fun i hi => by
    obtain ⟨a, ha, e⟩ := hw i hi
    unfold odN
    rw [e, nI_clamp (by omega)]
    exact ⟨rfl, ha⟩
  exact ⟨h1, fun i hi => by rw [ho i hi]; exact (h1 i (by omega)).1⟩
