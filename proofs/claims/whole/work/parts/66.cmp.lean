/-! ===== fractions compared: floorDiv, floor, isBelow, isMore ===== -/
theorem td_cases {x y : Int} (hy : 0 < y) : (0 ≤ x % y ∧ x % y < y) ∧ ((x.tdiv y = x / y ∧ x - x.tdiv y * y = x % y ∧ (0 ≤ x ∨ x % y = 0)) ∨ (x.tdiv y = x / y + 1 ∧ x - x.tdiv y * y = x % y - y ∧ x < 0 ∧ 0 < x % y)) := by
  have e := Int.mul_ediv_add_emod x y
  have e2 : x / y * y = y * (x / y) := Int.mul_comm _ _
  have r1 := Int.emod_lt_of_pos x hy
  have r2 := Int.emod_nonneg x (show y ≠ 0 by omega)
  refine ⟨⟨r2, r1⟩, ?_⟩
  have t := Int.tdiv_eq_ediv (a := x) (b := y)
  by_cases h : 0 ≤ x ∨ y ∣ x
  · rw [if_pos h, Int.add_zero] at t
    refine Or.inl ⟨t, by rw [t]; omega, ?_⟩
    rcases h with h | h
    · exact Or.inl h
    · exact Or.inr (Int.emod_eq_zero_of_dvd h)
  · rw [if_neg h, Int.sign_eq_one_of_pos hy] at t
    refine Or.inr ⟨t, by rw [t, Int.add_mul, Int.one_mul]; omega, ?_, ?_⟩
    · by_cases q : 0 ≤ x
      · exact absurd (Or.inl q) h
      · omega
    · by_cases q : x % y = 0
      · exact absurd (Or.inr (Int.dvd_of_emod_eq_zero q)) h
      · omega
theorem xor_neg (a b : Int64) : (a ^^^ b).toInt < 0 ↔ ¬ ((a.toInt < 0) ↔ (b.toInt < 0)) := by
  have h := BitVec.msb_xor (x := a.toBitVec) (y := b.toBitVec)
  rw [BitVec.msb_eq_toInt, BitVec.msb_eq_toInt, BitVec.msb_eq_toInt] at h
  have e : (a ^^^ b).toInt = (a.toBitVec ^^^ b.toBitVec).toInt := rfl
  have e1 : a.toInt = a.toBitVec.toInt := rfl
  have e2 : b.toInt = b.toBitVec.toInt := rfl
  rw [e, e1, e2]
  by_cases p1 : a.toBitVec.toInt < 0
  · by_cases p2 : b.toBitVec.toInt < 0
    · rw [decide_eq_true p1, decide_eq_true p2] at h
      have h := of_decide_eq_false h
      constructor
      · intro q; exact absurd q h
      · intro q; exact absurd ⟨fun _ => p2, fun _ => p1⟩ q
    · rw [decide_eq_true p1, decide_eq_false p2] at h
      have h := of_decide_eq_true h
      exact ⟨fun _ q => p2 (q.mp p1), fun _ => h⟩
  · by_cases p2 : b.toBitVec.toInt < 0
    · rw [decide_eq_false p1, decide_eq_true p2] at h
      have h := of_decide_eq_true h
      exact ⟨fun _ q => p1 (q.mpr p2), fun _ => h⟩
    · rw [decide_eq_false p1, decide_eq_false p2] at h
      have h := of_decide_eq_false h
      constructor
      · intro q; exact absurd q h
      · intro q; exact absurd ⟨fun r => absurd r p1, fun r => absurd r p2⟩ q
theorem gz_trem {S : am_S} {d : Nat} {t : am_T} {M : am_M} {pc nx a b h : Nat} {la st : List Value} {Q : Option Value × am_M → Prop} {x y : Int} (hl : At t pc (.lrem, nx, a, b, h)) (hx : -9223372036854775808 < x ∧ x < 9223372036854775808) (hy : 0 < y ∧ y < 9223372036854775808) (k : Go S d t (M, nx, la, .long (zL (x - x.tdiv y * y)) :: st) Q) : Go S d t (M, pc, la, .long (zL y) :: .long (zL x) :: st) Q := go_lrem hl (zL_ne0 hy.1 hy.2) (by rw [zL_tdiv hx hy, zL_mul, zL_sub]; exact k)
theorem div_bd {x y B : Int} (hy : 0 < y) (hB : 0 ≤ B) (hx : -B ≤ x ∧ x ≤ B) : -B ≤ x / y ∧ x / y ≤ B := by
  have m1 := Int.mul_le_mul_of_nonneg_left (show 1 ≤ y by omega) hB
  have m2 := Int.mul_le_mul_of_nonneg_left (show 1 ≤ y by omega) (show 0 ≤ B + 1 by omega)
  have a1 : -B ≤ x / y := (Int.le_ediv_iff_mul_le hy).mpr (by rw [Int.neg_mul]; omega)
  have a2 : x / y < B + 1 := Int.ediv_lt_of_lt_mul hy (by omega)
  omega
theorem cmp_lt {a b c d : Int} (hb : 0 < b) (hd : 0 < d) (h : a / b < c / d) : a * d < c * b := by
  have e1 := Int.mul_ediv_add_emod a b
  have e2 := Int.mul_ediv_add_emod c d
  have r1 := Int.emod_lt_of_pos a hb
  have r2 := Int.emod_nonneg c (show d ≠ 0 by omega)
  have m1 := Int.mul_le_mul_of_nonneg_left (show a / b + 1 ≤ c / d by omega) (show 0 ≤ b by omega)
  have e3 : b * (a / b + 1) = b * (a / b) + b := by rw [Int.mul_add, Int.mul_one]
  have k1 : a + 1 ≤ b * (c / d) := by omega
  have m2 := Int.mul_le_mul_of_nonneg_right k1 (show 0 ≤ d by omega)
  have k2 : d * (c / d) ≤ c := by omega
  have m3 := Int.mul_le_mul_of_nonneg_left k2 (show 0 ≤ b by omega)
  have e4 : ∀ q : Int, b * q * d = b * (d * q) := fun q => by grind
  rw [e4, Int.add_mul, Int.one_mul] at m2
  have e6 : b * c = c * b := Int.mul_comm _ _
  omega
theorem cmp_eq {a b c d : Int} (hb : 0 < b) (hd : 0 < d) (h : a / b = c / d) : a * d - c * b = (a % b) * d - (c % d) * b := by
  have e1 := Int.mul_ediv_add_emod a b
  have e2 := Int.mul_ediv_add_emod c d
  rw [h] at e1
  have key : ∀ q r s : Int, b * q + r = a → d * q + s = c → a * d - c * b = r * d - s * b := fun q r s h1 h2 => by
    subst h1
    subst h2
    grind
  exact key _ _ _ e1 e2
theorem em_eq {a b : Int} : a - a / b * b = a % b := by
  have e1 := Int.mul_ediv_add_emod a b
  have e2 : a / b * b = b * (a / b) := Int.mul_comm _ _
  omega
section CMP
variable {S : am_S} {M : am_M} {mI : Nat → Nat → Int32} {mL : Nat → Nat → Int64} {n : Nat} {x y : Int}
theorem sp_J_floorDiv (hx : -4611686018427387904 < x ∧ x < 4611686018427387904) (hy : 0 < y ∧ y < 4611686018427387904) : Sp S 0 tJ_floorDiv M [.long (zL x), .long (zL y)] (fun q => q = (some (.long (zL (x / y))), M)) := by
  obtain ⟨X, hX, hXn, hXb⟩ : ∃ X : Int, zL x ^^^ zL y = zL X ∧ (X < 0 ↔ x < 0) ∧ (-9223372036854775808 ≤ X ∧ X < 9223372036854775808) := by
    refine ⟨(zL x ^^^ zL y).toInt, (zL_of _).symm, ?_, ?_⟩
    · rw [xor_neg, zL_toInt (by omega), zL_toInt (by omega)]
      omega
    · have h1 := Int64.le_toInt (zL x ^^^ zL y)
      have h2 := Int64.toInt_lt (zL x ^^^ zL y)
      omega
  have hc := td_cases (x := x) hy.1
  show Go _ _ tJ_floorDiv (_, 0, [.long (zL x), am_U, .long (zL y), am_U, am_U, am_U], []) _
  by_cases c : x < 0
  · by_cases c2 : x.tdiv y * y = x
    · refine go_lloadn_0 iJ_floorDiv_0 ?_
      refine go_lloadn_2 iJ_floorDiv_1 ?_
      refine gz_tdiv iJ_floorDiv_2 (by omega) (by omega) ?_
      refine go_lstore_4 iJ_floorDiv_3 (by simp [Value.category, am_U]) ?_
      refine go_lloadn_0 iJ_floorDiv_5 ?_
      refine go_lloadn_2 iJ_floorDiv_6 ?_
      refine go_lxor iJ_floorDiv_7 ?_
      rw [hX]
      refine go_lconst (v := zL 0) iJ_floorDiv_8 rfl ?_
      refine gz_lc_ge iJ_floorDiv_9 iJ_floorDiv_10 (by omega) (by omega) (fun c_9 => ?_) (fun c_9 => ?_)
      · (first | omega | exact absurd c_9 (by decide) | (exfalso; simp (disch := omega) only [Int32.lt_iff_toInt_lt, Int32.le_iff_toInt_le, ← Int32.toInt_inj, nI_toInt, i32_m1, i32_0, i32_m20, i32_m40, i32_m30, i32_m9] at *; omega))
      refine go_lload_4 iJ_floorDiv_13 ?_
      refine go_lloadn_2 iJ_floorDiv_15 ?_
      first | refine gz_lmul iJ_floorDiv_16 ?_ | refine go_lmul iJ_floorDiv_16 ?_
      refine go_lloadn_0 iJ_floorDiv_17 ?_
      refine gz_lc_eq iJ_floorDiv_18 iJ_floorDiv_19 (by omega) (by omega) (fun c_18 => ?_) (fun c_18 => ?_)
      rotate_left
      · (first | omega | exact absurd c_18 (by decide) | (exfalso; simp (disch := omega) only [Int32.lt_iff_toInt_lt, Int32.le_iff_toInt_le, ← Int32.toInt_inj, nI_toInt, i32_m1, i32_0, i32_m20, i32_m40, i32_m30, i32_m9] at *; omega))
      refine go_lload_4 iJ_floorDiv_27 ?_
      refine go_lret iJ_floorDiv_29 rfl ?_
      rw [show x.tdiv y = x / y by omega]
    · refine go_lloadn_0 iJ_floorDiv_0 ?_
      refine go_lloadn_2 iJ_floorDiv_1 ?_
      refine gz_tdiv iJ_floorDiv_2 (by omega) (by omega) ?_
      refine go_lstore_4 iJ_floorDiv_3 (by simp [Value.category, am_U]) ?_
      refine go_lloadn_0 iJ_floorDiv_5 ?_
      refine go_lloadn_2 iJ_floorDiv_6 ?_
      refine go_lxor iJ_floorDiv_7 ?_
      rw [hX]
      refine go_lconst (v := zL 0) iJ_floorDiv_8 rfl ?_
      refine gz_lc_ge iJ_floorDiv_9 iJ_floorDiv_10 (by omega) (by omega) (fun c_9 => ?_) (fun c_9 => ?_)
      · (first | omega | exact absurd c_9 (by decide) | (exfalso; simp (disch := omega) only [Int32.lt_iff_toInt_lt, Int32.le_iff_toInt_le, ← Int32.toInt_inj, nI_toInt, i32_m1, i32_0, i32_m20, i32_m40, i32_m30, i32_m9] at *; omega))
      refine go_lload_4 iJ_floorDiv_13 ?_
      refine go_lloadn_2 iJ_floorDiv_15 ?_
      first | refine gz_lmul iJ_floorDiv_16 ?_ | refine go_lmul iJ_floorDiv_16 ?_
      refine go_lloadn_0 iJ_floorDiv_17 ?_
      refine gz_lc_eq iJ_floorDiv_18 iJ_floorDiv_19 (by omega) (by omega) (fun c_18 => ?_) (fun c_18 => ?_)
      · (first | omega | exact absurd c_18 (by decide) | (exfalso; simp (disch := omega) only [Int32.lt_iff_toInt_lt, Int32.le_iff_toInt_le, ← Int32.toInt_inj, nI_toInt, i32_m1, i32_0, i32_m20, i32_m40, i32_m30, i32_m9] at *; omega))
      refine go_lload_4 iJ_floorDiv_22 ?_
      refine go_lconst (v := zL 1) iJ_floorDiv_24 rfl ?_
      first | refine gz_lsub iJ_floorDiv_25 ?_ | refine go_lsub iJ_floorDiv_25 ?_
      refine go_lret iJ_floorDiv_26 rfl ?_
      rw [show x.tdiv y - 1 = x / y by omega]
  · refine go_lloadn_0 iJ_floorDiv_0 ?_
    refine go_lloadn_2 iJ_floorDiv_1 ?_
    refine gz_tdiv iJ_floorDiv_2 (by omega) (by omega) ?_
    refine go_lstore_4 iJ_floorDiv_3 (by simp [Value.category, am_U]) ?_
    refine go_lloadn_0 iJ_floorDiv_5 ?_
    refine go_lloadn_2 iJ_floorDiv_6 ?_
    refine go_lxor iJ_floorDiv_7 ?_
    rw [hX]
    refine go_lconst (v := zL 0) iJ_floorDiv_8 rfl ?_
    refine gz_lc_ge iJ_floorDiv_9 iJ_floorDiv_10 (by omega) (by omega) (fun c_9 => ?_) (fun c_9 => ?_)
    rotate_left
    · (first | omega | exact absurd c_9 (by decide) | (exfalso; simp (disch := omega) only [Int32.lt_iff_toInt_lt, Int32.le_iff_toInt_le, ← Int32.toInt_inj, nI_toInt, i32_m1, i32_0, i32_m20, i32_m40, i32_m30, i32_m9] at *; omega))
    refine go_lload_4 iJ_floorDiv_27 ?_
    refine go_lret iJ_floorDiv_29 rfl ?_
    rw [show x.tdiv y = x / y by omega]
theorem sp_M_floor (hx : -4611686018427387904 < x ∧ x < 4611686018427387904) (hy : 0 < y ∧ y < 4611686018427387904) : Sp S 0 tM_floor M [.long (zL x), .long (zL y)] (fun q => q = (some (.long (zL (x / y))), M)) := by
  have hc := td_cases (x := x) hy.1
  show Go _ _ tM_floor (_, 0, [.long (zL x), am_U, .long (zL y), am_U], []) _
  by_cases c : x - x.tdiv y * y < 0
  · refine go_lloadn_0 iM_floor_0 ?_
    refine go_lloadn_2 iM_floor_1 ?_
    refine gz_trem iM_floor_2 (by omega) (by omega) ?_
    refine go_lconst (v := zL 0) iM_floor_3 rfl ?_
    refine gz_lc_ge iM_floor_4 iM_floor_5 (by omega) (by omega) (fun c_4 => ?_) (fun c_4 => ?_)
    · (first | omega | exact absurd c_4 (by decide) | (exfalso; simp (disch := omega) only [Int32.lt_iff_toInt_lt, Int32.le_iff_toInt_le, ← Int32.toInt_inj, nI_toInt, i32_m1, i32_0, i32_m20, i32_m40, i32_m30, i32_m9] at *; omega))
    refine go_lloadn_0 iM_floor_8 ?_
    refine go_lloadn_2 iM_floor_9 ?_
    refine gz_tdiv iM_floor_10 (by omega) (by omega) ?_
    refine go_lconst (v := zL 1) iM_floor_11 rfl ?_
    first | refine gz_lsub iM_floor_12 ?_ | refine go_lsub iM_floor_12 ?_
    refine go_goto iM_floor_13 ?_
    refine go_lret iM_floor_19 rfl ?_
    rw [show x.tdiv y - 1 = x / y by omega]
  · refine go_lloadn_0 iM_floor_0 ?_
    refine go_lloadn_2 iM_floor_1 ?_
    refine gz_trem iM_floor_2 (by omega) (by omega) ?_
    refine go_lconst (v := zL 0) iM_floor_3 rfl ?_
    refine gz_lc_ge iM_floor_4 iM_floor_5 (by omega) (by omega) (fun c_4 => ?_) (fun c_4 => ?_)
    rotate_left
    · (first | omega | exact absurd c_4 (by decide) | (exfalso; simp (disch := omega) only [Int32.lt_iff_toInt_lt, Int32.le_iff_toInt_le, ← Int32.toInt_inj, nI_toInt, i32_m1, i32_0, i32_m20, i32_m40, i32_m30, i32_m9] at *; omega))
    refine go_lloadn_0 iM_floor_16 ?_
    refine go_lloadn_2 iM_floor_17 ?_
    refine gz_tdiv iM_floor_18 (by omega) (by omega) ?_
    refine go_lret iM_floor_19 rfl ?_
    rw [show x.tdiv y = x / y by omega]
theorem sp_B_isBelow {U W Ub Wb : Int} {v : Nat} (h1 : mL 11 1 = zL Ub) (h2 : mL 11 2 = zL Wb) (hU : -106993205379072 ≤ U ∧ U ≤ 106993205379072) (hUb : -106993205379072 ≤ Ub ∧ Ub ≤ 106993205379072) (hW : 0 < W ∧ W ≤ 1289945088) (hWb : 0 < Wb ∧ Wb ≤ 1289945088) (hv : v = if Ub * W < U * Wb then 1 else 0) : Sp S 1 tB_isBelow (am_sh n, mI, mL, am_mR n) [.ref 11, .long (zL U), .long (zL W)] (fun q => q = (some (.int (nI v)), (am_sh n, mI, mL, am_mR n))) := by
  have hs := sk_11 n
  have d1 := div_bd hW.1 (by decide) hU
  have d2 := div_bd hWb.1 (by decide) hUb
  have a1 := Int.emod_nonneg U (show W ≠ 0 by omega)
  have a2 := Int.emod_lt_of_pos U hW.1
  have a3 := Int.emod_nonneg Ub (show Wb ≠ 0 by omega)
  have a4 := Int.emod_lt_of_pos Ub hWb.1
  have e1 := em_eq (a := U) (b := W)
  have e2 := em_eq (a := Ub) (b := Wb)
  have b1 := Int.mul_le_mul (show Ub % Wb ≤ 1289945088 by omega) hW.2 (by omega) (by omega)
  have b2 := Int.mul_le_mul (show U % W ≤ 1289945088 by omega) hWb.2 (by omega) (by omega)
  have b3 := Int.mul_nonneg a3 (show 0 ≤ W by omega)
  have b4 := Int.mul_nonneg a1 (show 0 ≤ Wb by omega)
  show Go _ _ tB_isBelow (_, 0, [.ref 11, .long (zL U), am_U, .long (zL W), am_U, am_U, am_U, am_U, am_U, am_U, am_U, am_U, am_U], []) _
  by_cases c : U / W = Ub / Wb
  · have ce := cmp_eq hWb.1 hW.1 c.symm
    by_cases c2 : Ub * W < U * Wb
    · obtain rfl : v = 1 := by rw [hv, if_pos c2]
      refine go_lloadn_3 iB_isBelow_0 ?_
      refine go_lconst (v := zL 0) iB_isBelow_1 rfl ?_
      refine gz_lc_le iB_isBelow_2 iB_isBelow_3 (by omega) (by omega) (fun c_2 => ?_) (fun c_2 => ?_)
      · (first | omega | exact absurd c_2 (by decide) | (exfalso; simp (disch := omega) only [Int32.lt_iff_toInt_lt, Int32.le_iff_toInt_le, ← Int32.toInt_inj, nI_toInt, i32_m1, i32_0, i32_m20, i32_m40, i32_m30, i32_m9] at *; omega))
      refine go_aloadn_0 iB_isBelow_6 rfl ?_
      refine go_getL iB_isBelow_7 rfl (by assumption) ?_
      try simp (disch := omega) only [am_u_n, am_u_s, am_u_k, h1, h2]
      refine go_lconst (v := zL 0) iB_isBelow_10 rfl ?_
      refine gz_lc_gt iB_isBelow_11 iB_isBelow_12 (by omega) (by omega) (fun c_11 => ?_) (fun c_11 => ?_)
      rotate_left
      · (first | omega | exact absurd c_11 (by decide) | (exfalso; simp (disch := omega) only [Int32.lt_iff_toInt_lt, Int32.le_iff_toInt_le, ← Int32.toInt_inj, nI_toInt, i32_m1, i32_0, i32_m20, i32_m40, i32_m30, i32_m9] at *; omega))
      refine go_lloadn_1 iB_isBelow_17 ?_
      refine go_lloadn_3 iB_isBelow_18 ?_
      refine gc_S1 iB_isBelow_19 (by decide) rfl rfl (Nat.le_of_ble_eq_true rfl) (Nat.le_of_ble_eq_true rfl) (by decide) (sp_J_floorDiv (by omega) (by omega)) ?_
      refine go_lstore_5 iB_isBelow_22 (by simp [Value.category, am_U]) ?_
      refine go_aloadn_0 iB_isBelow_24 rfl ?_
      refine go_getL iB_isBelow_25 rfl (by assumption) ?_
      try simp (disch := omega) only [am_u_n, am_u_s, am_u_k, h1, h2]
      refine go_aloadn_0 iB_isBelow_28 rfl ?_
      refine go_getL iB_isBelow_29 rfl (by assumption) ?_
      try simp (disch := omega) only [am_u_n, am_u_s, am_u_k, h1, h2]
      refine gc_S1 iB_isBelow_32 (by decide) rfl rfl (Nat.le_of_ble_eq_true rfl) (Nat.le_of_ble_eq_true rfl) (by decide) (sp_J_floorDiv (by omega) (by omega)) ?_
      refine go_lstore_7 iB_isBelow_35 (by simp [Value.category, am_U]) ?_
      refine go_lload_5 iB_isBelow_37 ?_
      refine go_lload_7 iB_isBelow_39 ?_
      refine gz_lc_eq iB_isBelow_41 iB_isBelow_42 (by omega) (by omega) (fun c_41 => ?_) (fun c_41 => ?_)
      rotate_left
      · (first | omega | exact absurd c_41 (by decide) | (exfalso; simp (disch := omega) only [Int32.lt_iff_toInt_lt, Int32.le_iff_toInt_le, ← Int32.toInt_inj, nI_toInt, i32_m1, i32_0, i32_m20, i32_m40, i32_m30, i32_m9] at *; omega))
      refine go_lloadn_1 iB_isBelow_59 ?_
      refine go_lload_5 iB_isBelow_60 ?_
      refine go_lloadn_3 iB_isBelow_62 ?_
      first | refine gz_lmul iB_isBelow_63 ?_ | refine go_lmul iB_isBelow_63 ?_
      first | refine gz_lsub iB_isBelow_64 ?_ | refine go_lsub iB_isBelow_64 ?_
      rw [e1]
      refine go_lstore_9 iB_isBelow_65 (by simp [Value.category, am_U]) ?_
      refine go_aloadn_0 iB_isBelow_67 rfl ?_
      refine go_getL iB_isBelow_68 rfl (by assumption) ?_
      try simp (disch := omega) only [am_u_n, am_u_s, am_u_k, h1, h2]
      refine go_lload_7 iB_isBelow_71 ?_
      refine go_aloadn_0 iB_isBelow_73 rfl ?_
      refine go_getL iB_isBelow_74 rfl (by assumption) ?_
      try simp (disch := omega) only [am_u_n, am_u_s, am_u_k, h1, h2]
      first | refine gz_lmul iB_isBelow_77 ?_ | refine go_lmul iB_isBelow_77 ?_
      first | refine gz_lsub iB_isBelow_78 ?_ | refine go_lsub iB_isBelow_78 ?_
      rw [e2]
      refine go_lstore_11 iB_isBelow_79 (by simp [Value.category, am_U]) ?_
      refine go_lload_11 iB_isBelow_81 ?_
      refine go_lloadn_3 iB_isBelow_83 ?_
      first | refine gz_lmul iB_isBelow_84 ?_ | refine go_lmul iB_isBelow_84 ?_
      refine go_lload_9 iB_isBelow_85 ?_
      refine go_aloadn_0 iB_isBelow_87 rfl ?_
      refine go_getL iB_isBelow_88 rfl (by assumption) ?_
      try simp (disch := omega) only [am_u_n, am_u_s, am_u_k, h1, h2]
      first | refine gz_lmul iB_isBelow_91 ?_ | refine go_lmul iB_isBelow_91 ?_
      refine gz_lc_ge iB_isBelow_92 iB_isBelow_93 (by omega) (by omega) (fun c_92 => ?_) (fun c_92 => ?_)
      · (first | omega | exact absurd c_92 (by decide) | (exfalso; simp (disch := omega) only [Int32.lt_iff_toInt_lt, Int32.le_iff_toInt_le, ← Int32.toInt_inj, nI_toInt, i32_m1, i32_0, i32_m20, i32_m40, i32_m30, i32_m9] at *; omega))
      refine go_iconst (v := nI 1) iB_isBelow_96 rfl ?_
      refine go_goto iB_isBelow_97 ?_
      refine go_zret iB_isBelow_101 rfl (by first | exact Or.inl rfl | exact Or.inr rfl) ?_
      rfl
    · obtain rfl : v = 0 := by rw [hv, if_neg c2]
      refine go_lloadn_3 iB_isBelow_0 ?_
      refine go_lconst (v := zL 0) iB_isBelow_1 rfl ?_
      refine gz_lc_le iB_isBelow_2 iB_isBelow_3 (by omega) (by omega) (fun c_2 => ?_) (fun c_2 => ?_)
      · (first | omega | exact absurd c_2 (by decide) | (exfalso; simp (disch := omega) only [Int32.lt_iff_toInt_lt, Int32.le_iff_toInt_le, ← Int32.toInt_inj, nI_toInt, i32_m1, i32_0, i32_m20, i32_m40, i32_m30, i32_m9] at *; omega))
      refine go_aloadn_0 iB_isBelow_6 rfl ?_
      refine go_getL iB_isBelow_7 rfl (by assumption) ?_
      try simp (disch := omega) only [am_u_n, am_u_s, am_u_k, h1, h2]
      refine go_lconst (v := zL 0) iB_isBelow_10 rfl ?_
      refine gz_lc_gt iB_isBelow_11 iB_isBelow_12 (by omega) (by omega) (fun c_11 => ?_) (fun c_11 => ?_)
      rotate_left
      · (first | omega | exact absurd c_11 (by decide) | (exfalso; simp (disch := omega) only [Int32.lt_iff_toInt_lt, Int32.le_iff_toInt_le, ← Int32.toInt_inj, nI_toInt, i32_m1, i32_0, i32_m20, i32_m40, i32_m30, i32_m9] at *; omega))
      refine go_lloadn_1 iB_isBelow_17 ?_
      refine go_lloadn_3 iB_isBelow_18 ?_
      refine gc_S1 iB_isBelow_19 (by decide) rfl rfl (Nat.le_of_ble_eq_true rfl) (Nat.le_of_ble_eq_true rfl) (by decide) (sp_J_floorDiv (by omega) (by omega)) ?_
      refine go_lstore_5 iB_isBelow_22 (by simp [Value.category, am_U]) ?_
      refine go_aloadn_0 iB_isBelow_24 rfl ?_
      refine go_getL iB_isBelow_25 rfl (by assumption) ?_
      try simp (disch := omega) only [am_u_n, am_u_s, am_u_k, h1, h2]
      refine go_aloadn_0 iB_isBelow_28 rfl ?_
      refine go_getL iB_isBelow_29 rfl (by assumption) ?_
      try simp (disch := omega) only [am_u_n, am_u_s, am_u_k, h1, h2]
      refine gc_S1 iB_isBelow_32 (by decide) rfl rfl (Nat.le_of_ble_eq_true rfl) (Nat.le_of_ble_eq_true rfl) (by decide) (sp_J_floorDiv (by omega) (by omega)) ?_
      refine go_lstore_7 iB_isBelow_35 (by simp [Value.category, am_U]) ?_
      refine go_lload_5 iB_isBelow_37 ?_
      refine go_lload_7 iB_isBelow_39 ?_
      refine gz_lc_eq iB_isBelow_41 iB_isBelow_42 (by omega) (by omega) (fun c_41 => ?_) (fun c_41 => ?_)
      rotate_left
      · (first | omega | exact absurd c_41 (by decide) | (exfalso; simp (disch := omega) only [Int32.lt_iff_toInt_lt, Int32.le_iff_toInt_le, ← Int32.toInt_inj, nI_toInt, i32_m1, i32_0, i32_m20, i32_m40, i32_m30, i32_m9] at *; omega))
      refine go_lloadn_1 iB_isBelow_59 ?_
      refine go_lload_5 iB_isBelow_60 ?_
      refine go_lloadn_3 iB_isBelow_62 ?_
      first | refine gz_lmul iB_isBelow_63 ?_ | refine go_lmul iB_isBelow_63 ?_
      first | refine gz_lsub iB_isBelow_64 ?_ | refine go_lsub iB_isBelow_64 ?_
      rw [e1]
      refine go_lstore_9 iB_isBelow_65 (by simp [Value.category, am_U]) ?_
      refine go_aloadn_0 iB_isBelow_67 rfl ?_
      refine go_getL iB_isBelow_68 rfl (by assumption) ?_
      try simp (disch := omega) only [am_u_n, am_u_s, am_u_k, h1, h2]
      refine go_lload_7 iB_isBelow_71 ?_
      refine go_aloadn_0 iB_isBelow_73 rfl ?_
      refine go_getL iB_isBelow_74 rfl (by assumption) ?_
      try simp (disch := omega) only [am_u_n, am_u_s, am_u_k, h1, h2]
      first | refine gz_lmul iB_isBelow_77 ?_ | refine go_lmul iB_isBelow_77 ?_
      first | refine gz_lsub iB_isBelow_78 ?_ | refine go_lsub iB_isBelow_78 ?_
      rw [e2]
      refine go_lstore_11 iB_isBelow_79 (by simp [Value.category, am_U]) ?_
      refine go_lload_11 iB_isBelow_81 ?_
      refine go_lloadn_3 iB_isBelow_83 ?_
      first | refine gz_lmul iB_isBelow_84 ?_ | refine go_lmul iB_isBelow_84 ?_
      refine go_lload_9 iB_isBelow_85 ?_
      refine go_aloadn_0 iB_isBelow_87 rfl ?_
      refine go_getL iB_isBelow_88 rfl (by assumption) ?_
      try simp (disch := omega) only [am_u_n, am_u_s, am_u_k, h1, h2]
      first | refine gz_lmul iB_isBelow_91 ?_ | refine go_lmul iB_isBelow_91 ?_
      refine gz_lc_ge iB_isBelow_92 iB_isBelow_93 (by omega) (by omega) (fun c_92 => ?_) (fun c_92 => ?_)
      rotate_left
      · (first | omega | exact absurd c_92 (by decide) | (exfalso; simp (disch := omega) only [Int32.lt_iff_toInt_lt, Int32.le_iff_toInt_le, ← Int32.toInt_inj, nI_toInt, i32_m1, i32_0, i32_m20, i32_m40, i32_m30, i32_m9] at *; omega))
      refine go_iconst (v := nI 0) iB_isBelow_100 rfl ?_
      refine go_zret iB_isBelow_101 rfl (by first | exact Or.inl rfl | exact Or.inr rfl) ?_
      rfl
  · by_cases c3 : Ub / Wb < U / W
    · have ce := cmp_lt hWb.1 hW.1 c3
      obtain rfl : v = 1 := by rw [hv, if_pos ce]
      refine go_lloadn_3 iB_isBelow_0 ?_
      refine go_lconst (v := zL 0) iB_isBelow_1 rfl ?_
      refine gz_lc_le iB_isBelow_2 iB_isBelow_3 (by omega) (by omega) (fun c_2 => ?_) (fun c_2 => ?_)
      · (first | omega | exact absurd c_2 (by decide) | (exfalso; simp (disch := omega) only [Int32.lt_iff_toInt_lt, Int32.le_iff_toInt_le, ← Int32.toInt_inj, nI_toInt, i32_m1, i32_0, i32_m20, i32_m40, i32_m30, i32_m9] at *; omega))
      refine go_aloadn_0 iB_isBelow_6 rfl ?_
      refine go_getL iB_isBelow_7 rfl (by assumption) ?_
      try simp (disch := omega) only [am_u_n, am_u_s, am_u_k, h1, h2]
      refine go_lconst (v := zL 0) iB_isBelow_10 rfl ?_
      refine gz_lc_gt iB_isBelow_11 iB_isBelow_12 (by omega) (by omega) (fun c_11 => ?_) (fun c_11 => ?_)
      rotate_left
      · (first | omega | exact absurd c_11 (by decide) | (exfalso; simp (disch := omega) only [Int32.lt_iff_toInt_lt, Int32.le_iff_toInt_le, ← Int32.toInt_inj, nI_toInt, i32_m1, i32_0, i32_m20, i32_m40, i32_m30, i32_m9] at *; omega))
      refine go_lloadn_1 iB_isBelow_17 ?_
      refine go_lloadn_3 iB_isBelow_18 ?_
      refine gc_S1 iB_isBelow_19 (by decide) rfl rfl (Nat.le_of_ble_eq_true rfl) (Nat.le_of_ble_eq_true rfl) (by decide) (sp_J_floorDiv (by omega) (by omega)) ?_
      refine go_lstore_5 iB_isBelow_22 (by simp [Value.category, am_U]) ?_
      refine go_aloadn_0 iB_isBelow_24 rfl ?_
      refine go_getL iB_isBelow_25 rfl (by assumption) ?_
      try simp (disch := omega) only [am_u_n, am_u_s, am_u_k, h1, h2]
      refine go_aloadn_0 iB_isBelow_28 rfl ?_
      refine go_getL iB_isBelow_29 rfl (by assumption) ?_
      try simp (disch := omega) only [am_u_n, am_u_s, am_u_k, h1, h2]
      refine gc_S1 iB_isBelow_32 (by decide) rfl rfl (Nat.le_of_ble_eq_true rfl) (Nat.le_of_ble_eq_true rfl) (by decide) (sp_J_floorDiv (by omega) (by omega)) ?_
      refine go_lstore_7 iB_isBelow_35 (by simp [Value.category, am_U]) ?_
      refine go_lload_5 iB_isBelow_37 ?_
      refine go_lload_7 iB_isBelow_39 ?_
      refine gz_lc_eq iB_isBelow_41 iB_isBelow_42 (by omega) (by omega) (fun c_41 => ?_) (fun c_41 => ?_)
      · (first | omega | exact absurd c_41 (by decide) | (exfalso; simp (disch := omega) only [Int32.lt_iff_toInt_lt, Int32.le_iff_toInt_le, ← Int32.toInt_inj, nI_toInt, i32_m1, i32_0, i32_m20, i32_m40, i32_m30, i32_m9] at *; omega))
      refine go_lload_7 iB_isBelow_45 ?_
      refine go_lload_5 iB_isBelow_47 ?_
      refine gz_lc_ge iB_isBelow_49 iB_isBelow_50 (by omega) (by omega) (fun c_49 => ?_) (fun c_49 => ?_)
      · (first | omega | exact absurd c_49 (by decide) | (exfalso; simp (disch := omega) only [Int32.lt_iff_toInt_lt, Int32.le_iff_toInt_le, ← Int32.toInt_inj, nI_toInt, i32_m1, i32_0, i32_m20, i32_m40, i32_m30, i32_m9] at *; omega))
      refine go_iconst (v := nI 1) iB_isBelow_53 rfl ?_
      refine go_goto iB_isBelow_54 ?_
      refine go_zret iB_isBelow_58 rfl (by first | exact Or.inl rfl | exact Or.inr rfl) ?_
      rfl
    · have ce := cmp_lt hW.1 hWb.1 (show U / W < Ub / Wb by omega)
      obtain rfl : v = 0 := by rw [hv, if_neg (by omega)]
      refine go_lloadn_3 iB_isBelow_0 ?_
      refine go_lconst (v := zL 0) iB_isBelow_1 rfl ?_
      refine gz_lc_le iB_isBelow_2 iB_isBelow_3 (by omega) (by omega) (fun c_2 => ?_) (fun c_2 => ?_)
      · (first | omega | exact absurd c_2 (by decide) | (exfalso; simp (disch := omega) only [Int32.lt_iff_toInt_lt, Int32.le_iff_toInt_le, ← Int32.toInt_inj, nI_toInt, i32_m1, i32_0, i32_m20, i32_m40, i32_m30, i32_m9] at *; omega))
      refine go_aloadn_0 iB_isBelow_6 rfl ?_
      refine go_getL iB_isBelow_7 rfl (by assumption) ?_
      try simp (disch := omega) only [am_u_n, am_u_s, am_u_k, h1, h2]
      refine go_lconst (v := zL 0) iB_isBelow_10 rfl ?_
      refine gz_lc_gt iB_isBelow_11 iB_isBelow_12 (by omega) (by omega) (fun c_11 => ?_) (fun c_11 => ?_)
      rotate_left
      · (first | omega | exact absurd c_11 (by decide) | (exfalso; simp (disch := omega) only [Int32.lt_iff_toInt_lt, Int32.le_iff_toInt_le, ← Int32.toInt_inj, nI_toInt, i32_m1, i32_0, i32_m20, i32_m40, i32_m30, i32_m9] at *; omega))
      refine go_lloadn_1 iB_isBelow_17 ?_
      refine go_lloadn_3 iB_isBelow_18 ?_
      refine gc_S1 iB_isBelow_19 (by decide) rfl rfl (Nat.le_of_ble_eq_true rfl) (Nat.le_of_ble_eq_true rfl) (by decide) (sp_J_floorDiv (by omega) (by omega)) ?_
      refine go_lstore_5 iB_isBelow_22 (by simp [Value.category, am_U]) ?_
      refine go_aloadn_0 iB_isBelow_24 rfl ?_
      refine go_getL iB_isBelow_25 rfl (by assumption) ?_
      try simp (disch := omega) only [am_u_n, am_u_s, am_u_k, h1, h2]
      refine go_aloadn_0 iB_isBelow_28 rfl ?_
      refine go_getL iB_isBelow_29 rfl (by assumption) ?_
      try simp (disch := omega) only [am_u_n, am_u_s, am_u_k, h1, h2]
      refine gc_S1 iB_isBelow_32 (by decide) rfl rfl (Nat.le_of_ble_eq_true rfl) (Nat.le_of_ble_eq_true rfl) (by decide) (sp_J_floorDiv (by omega) (by omega)) ?_
      refine go_lstore_7 iB_isBelow_35 (by simp [Value.category, am_U]) ?_
      refine go_lload_5 iB_isBelow_37 ?_
      refine go_lload_7 iB_isBelow_39 ?_
      refine gz_lc_eq iB_isBelow_41 iB_isBelow_42 (by omega) (by omega) (fun c_41 => ?_) (fun c_41 => ?_)
      · (first | omega | exact absurd c_41 (by decide) | (exfalso; simp (disch := omega) only [Int32.lt_iff_toInt_lt, Int32.le_iff_toInt_le, ← Int32.toInt_inj, nI_toInt, i32_m1, i32_0, i32_m20, i32_m40, i32_m30, i32_m9] at *; omega))
      refine go_lload_7 iB_isBelow_45 ?_
      refine go_lload_5 iB_isBelow_47 ?_
      refine gz_lc_ge iB_isBelow_49 iB_isBelow_50 (by omega) (by omega) (fun c_49 => ?_) (fun c_49 => ?_)
      rotate_left
      · (first | omega | exact absurd c_49 (by decide) | (exfalso; simp (disch := omega) only [Int32.lt_iff_toInt_lt, Int32.le_iff_toInt_le, ← Int32.toInt_inj, nI_toInt, i32_m1, i32_0, i32_m20, i32_m40, i32_m30, i32_m9] at *; omega))
      refine go_iconst (v := nI 0) iB_isBelow_57 rfl ?_
      refine go_zret iB_isBelow_58 rfl (by first | exact Or.inl rfl | exact Or.inr rfl) ?_
      rfl
theorem lo_M_more {v : Nat} : ∀ (k : Nat) (a b c d : Int) (t : Nat) (y1 y2 y3 y4 y5 y6 : Value), b.toNat ≤ k → (0 < b ∧ b < 1125899906842624) → (0 < d ∧ d < 1125899906842624) → (-1125899906842624 < a ∧ a < 1125899906842624) → (-1125899906842624 < c ∧ c < 1125899906842624) → t ≤ 1 → v = (if t = 0 then (if a * d < c * b then 1 else 0) else (if c * b < a * d then 1 else 0)) → Go S 1 tM_isMore (M, 25, [.ref 43, .long (zL a), am_U, .long (zL b), am_U, .long (zL c), am_U, .long (zL d), am_U, .int (nI t), y1, y2, y3, y4, y5, y6], []) (fun q => q = (some (.int (nI v)), M))
  | 0, a, b, c, d, t, y1, y2, y3, y4, y5, y6, hk, hb, hd, ha, hc, ht, hv => by omega
  | k + 1, a, b, c, d, t, y1, y2, y3, y4, y5, y6, hk, hb, hd, ha, hc, ht, hv => by
    have d1 := div_bd hb.1 (show (0 : Int) ≤ 1125899906842624 by decide) (show -1125899906842624 ≤ a ∧ a ≤ 1125899906842624 by omega)
    have d2 := div_bd hd.1 (show (0 : Int) ≤ 1125899906842624 by decide) (show -1125899906842624 ≤ c ∧ c ≤ 1125899906842624 by omega)
    have a1 := Int.emod_nonneg a (show b ≠ 0 by omega)
    have a2 := Int.emod_lt_of_pos a hb.1
    have a3 := Int.emod_nonneg c (show d ≠ 0 by omega)
    have a4 := Int.emod_lt_of_pos c hd.1
    have e1 := em_eq (a := a) (b := b)
    have e2 := em_eq (a := c) (b := d)
    have tt : t = 0 ∨ t = 1 := by omega
    by_cases g : a / b = c / d
    · have ce := cmp_eq hb.1 hd.1 g
      by_cases g1 : a % b = 0
      · rw [g1, Int.zero_mul] at ce
        by_cases g2 : c % d = 0
        · rw [g2, Int.zero_mul] at ce
          obtain rfl : v = 0 := by rw [hv]; rcases tt with rfl | rfl <;> simp <;> omega
          refine go_lloadn_1 iM_isMore_25 ?_
          refine go_lloadn_3 iM_isMore_26 ?_
          refine gc_S1 iM_isMore_27 (by decide) rfl rfl (Nat.le_of_ble_eq_true rfl) (Nat.le_of_ble_eq_true rfl) (by decide) (sp_M_floor (by omega) (by omega)) ?_
          refine go_lstore_10 iM_isMore_30 (by simp [Value.category, am_U]) ?_
          refine go_lload_5 iM_isMore_32 ?_
          refine go_lload_7 iM_isMore_34 ?_
          refine gc_S1 iM_isMore_36 (by decide) rfl rfl (Nat.le_of_ble_eq_true rfl) (Nat.le_of_ble_eq_true rfl) (by decide) (sp_M_floor (by omega) (by omega)) ?_
          refine go_lstore_12 iM_isMore_39 (by simp [Value.category, am_U]) ?_
          refine go_lload_10 iM_isMore_41 ?_
          refine go_lload_12 iM_isMore_43 ?_
          refine gz_lc_eq iM_isMore_45 iM_isMore_46 (by omega) (by omega) (fun c_45 => ?_) (fun c_45 => ?_)
          rotate_left
          · (first | omega | exact absurd c_45 (by decide) | (exfalso; simp (disch := omega) only [Int32.lt_iff_toInt_lt, Int32.le_iff_toInt_le, ← Int32.toInt_inj, nI_toInt, i32_m1, i32_0, i32_m20, i32_m40, i32_m30, i32_m9] at *; omega))
          refine go_lloadn_1 iM_isMore_73 ?_
          refine go_lload_10 iM_isMore_74 ?_
          refine go_lloadn_3 iM_isMore_76 ?_
          first | refine gz_lmul iM_isMore_77 ?_ | refine go_lmul iM_isMore_77 ?_
          first | refine gz_lsub iM_isMore_78 ?_ | refine go_lsub iM_isMore_78 ?_
          rw [e1]
          refine go_lstoren_1 iM_isMore_79 (by simp [Value.category, am_U]) ?_
          refine go_lload_5 iM_isMore_80 ?_
          refine go_lload_12 iM_isMore_82 ?_
          refine go_lload_7 iM_isMore_84 ?_
          first | refine gz_lmul iM_isMore_86 ?_ | refine go_lmul iM_isMore_86 ?_
          first | refine gz_lsub iM_isMore_87 ?_ | refine go_lsub iM_isMore_87 ?_
          rw [e2]
          refine go_lstore_5 iM_isMore_88 (by simp [Value.category, am_U]) ?_
          refine go_lloadn_1 iM_isMore_90 ?_
          refine go_lconst (v := zL 0) iM_isMore_91 rfl ?_
          refine gz_lc_eq iM_isMore_92 iM_isMore_93 (by omega) (by omega) (fun c_92 => ?_) (fun c_92 => ?_)
          rotate_left
          · (first | omega | exact absurd c_92 (by decide) | (exfalso; simp (disch := omega) only [Int32.lt_iff_toInt_lt, Int32.le_iff_toInt_le, ← Int32.toInt_inj, nI_toInt, i32_m1, i32_0, i32_m20, i32_m40, i32_m30, i32_m9] at *; omega))
          refine go_lloadn_1 iM_isMore_103 ?_
          refine go_lconst (v := zL 0) iM_isMore_104 rfl ?_
          refine gz_lc_ne iM_isMore_105 iM_isMore_106 (by omega) (by omega) (fun c_105 => ?_) (fun c_105 => ?_)
          · (first | omega | exact absurd c_105 (by decide) | (exfalso; simp (disch := omega) only [Int32.lt_iff_toInt_lt, Int32.le_iff_toInt_le, ← Int32.toInt_inj, nI_toInt, i32_m1, i32_0, i32_m20, i32_m40, i32_m30, i32_m9] at *; omega))
          refine go_lload_5 iM_isMore_109 ?_
          refine go_lconst (v := zL 0) iM_isMore_111 rfl ?_
          refine gz_lc_eq iM_isMore_112 iM_isMore_113 (by omega) (by omega) (fun c_112 => ?_) (fun c_112 => ?_)
          rotate_left
          · (first | omega | exact absurd c_112 (by decide) | (exfalso; simp (disch := omega) only [Int32.lt_iff_toInt_lt, Int32.le_iff_toInt_le, ← Int32.toInt_inj, nI_toInt, i32_m1, i32_0, i32_m20, i32_m40, i32_m30, i32_m9] at *; omega))
          refine go_iconst (v := nI 0) iM_isMore_125 rfl ?_
          refine go_goto iM_isMore_126 ?_
          refine go_zret iM_isMore_131 rfl (by first | exact Or.inl rfl | exact Or.inr rfl) ?_
          rfl
        · have m1 := Int.mul_pos (show 0 < c % d by omega) hb.1
          rcases tt with rfl | rfl
          · obtain rfl : v = 1 := by rw [hv, if_pos rfl, if_pos (by omega)]
            refine go_lloadn_1 iM_isMore_25 ?_
            refine go_lloadn_3 iM_isMore_26 ?_
            refine gc_S1 iM_isMore_27 (by decide) rfl rfl (Nat.le_of_ble_eq_true rfl) (Nat.le_of_ble_eq_true rfl) (by decide) (sp_M_floor (by omega) (by omega)) ?_
            refine go_lstore_10 iM_isMore_30 (by simp [Value.category, am_U]) ?_
            refine go_lload_5 iM_isMore_32 ?_
            refine go_lload_7 iM_isMore_34 ?_
            refine gc_S1 iM_isMore_36 (by decide) rfl rfl (Nat.le_of_ble_eq_true rfl) (Nat.le_of_ble_eq_true rfl) (by decide) (sp_M_floor (by omega) (by omega)) ?_
            refine go_lstore_12 iM_isMore_39 (by simp [Value.category, am_U]) ?_
            refine go_lload_10 iM_isMore_41 ?_
            refine go_lload_12 iM_isMore_43 ?_
            refine gz_lc_eq iM_isMore_45 iM_isMore_46 (by omega) (by omega) (fun c_45 => ?_) (fun c_45 => ?_)
            rotate_left
            · (first | omega | exact absurd c_45 (by decide) | (exfalso; simp (disch := omega) only [Int32.lt_iff_toInt_lt, Int32.le_iff_toInt_le, ← Int32.toInt_inj, nI_toInt, i32_m1, i32_0, i32_m20, i32_m40, i32_m30, i32_m9] at *; omega))
            refine go_lloadn_1 iM_isMore_73 ?_
            refine go_lload_10 iM_isMore_74 ?_
            refine go_lloadn_3 iM_isMore_76 ?_
            first | refine gz_lmul iM_isMore_77 ?_ | refine go_lmul iM_isMore_77 ?_
            first | refine gz_lsub iM_isMore_78 ?_ | refine go_lsub iM_isMore_78 ?_
            rw [e1]
            refine go_lstoren_1 iM_isMore_79 (by simp [Value.category, am_U]) ?_
            refine go_lload_5 iM_isMore_80 ?_
            refine go_lload_12 iM_isMore_82 ?_
            refine go_lload_7 iM_isMore_84 ?_
            first | refine gz_lmul iM_isMore_86 ?_ | refine go_lmul iM_isMore_86 ?_
            first | refine gz_lsub iM_isMore_87 ?_ | refine go_lsub iM_isMore_87 ?_
            rw [e2]
            refine go_lstore_5 iM_isMore_88 (by simp [Value.category, am_U]) ?_
            refine go_lloadn_1 iM_isMore_90 ?_
            refine go_lconst (v := zL 0) iM_isMore_91 rfl ?_
            refine gz_lc_eq iM_isMore_92 iM_isMore_93 (by omega) (by omega) (fun c_92 => ?_) (fun c_92 => ?_)
            rotate_left
            · (first | omega | exact absurd c_92 (by decide) | (exfalso; simp (disch := omega) only [Int32.lt_iff_toInt_lt, Int32.le_iff_toInt_le, ← Int32.toInt_inj, nI_toInt, i32_m1, i32_0, i32_m20, i32_m40, i32_m30, i32_m9] at *; omega))
            refine go_lloadn_1 iM_isMore_103 ?_
            refine go_lconst (v := zL 0) iM_isMore_104 rfl ?_
            refine gz_lc_ne iM_isMore_105 iM_isMore_106 (by omega) (by omega) (fun c_105 => ?_) (fun c_105 => ?_)
            · (first | omega | exact absurd c_105 (by decide) | (exfalso; simp (disch := omega) only [Int32.lt_iff_toInt_lt, Int32.le_iff_toInt_le, ← Int32.toInt_inj, nI_toInt, i32_m1, i32_0, i32_m20, i32_m40, i32_m30, i32_m9] at *; omega))
            refine go_lload_5 iM_isMore_109 ?_
            refine go_lconst (v := zL 0) iM_isMore_111 rfl ?_
            refine gz_lc_eq iM_isMore_112 iM_isMore_113 (by omega) (by omega) (fun c_112 => ?_) (fun c_112 => ?_)
            · (first | omega | exact absurd c_112 (by decide) | (exfalso; simp (disch := omega) only [Int32.lt_iff_toInt_lt, Int32.le_iff_toInt_le, ← Int32.toInt_inj, nI_toInt, i32_m1, i32_0, i32_m20, i32_m40, i32_m30, i32_m9] at *; omega))
            refine go_iload_9 iM_isMore_116 ?_
            refine go_if_ne iM_isMore_118 (fun c_118 => ?_) (fun c_118 => ?_)
            · (first | omega | exact absurd c_118 (by decide) | (exfalso; simp (disch := omega) only [Int32.lt_iff_toInt_lt, Int32.le_iff_toInt_le, ← Int32.toInt_inj, nI_toInt, i32_m1, i32_0, i32_m20, i32_m40, i32_m30, i32_m9] at *; omega))
            refine go_iconst (v := nI 1) iM_isMore_121 rfl ?_
            refine go_goto iM_isMore_122 ?_
            refine go_zret iM_isMore_131 rfl (by first | exact Or.inl rfl | exact Or.inr rfl) ?_
            rfl
          · obtain rfl : v = 0 := by rw [hv, if_neg (by decide), if_neg (by omega)]
            refine go_lloadn_1 iM_isMore_25 ?_
            refine go_lloadn_3 iM_isMore_26 ?_
            refine gc_S1 iM_isMore_27 (by decide) rfl rfl (Nat.le_of_ble_eq_true rfl) (Nat.le_of_ble_eq_true rfl) (by decide) (sp_M_floor (by omega) (by omega)) ?_
            refine go_lstore_10 iM_isMore_30 (by simp [Value.category, am_U]) ?_
            refine go_lload_5 iM_isMore_32 ?_
            refine go_lload_7 iM_isMore_34 ?_
            refine gc_S1 iM_isMore_36 (by decide) rfl rfl (Nat.le_of_ble_eq_true rfl) (Nat.le_of_ble_eq_true rfl) (by decide) (sp_M_floor (by omega) (by omega)) ?_
            refine go_lstore_12 iM_isMore_39 (by simp [Value.category, am_U]) ?_
            refine go_lload_10 iM_isMore_41 ?_
            refine go_lload_12 iM_isMore_43 ?_
            refine gz_lc_eq iM_isMore_45 iM_isMore_46 (by omega) (by omega) (fun c_45 => ?_) (fun c_45 => ?_)
            rotate_left
            · (first | omega | exact absurd c_45 (by decide) | (exfalso; simp (disch := omega) only [Int32.lt_iff_toInt_lt, Int32.le_iff_toInt_le, ← Int32.toInt_inj, nI_toInt, i32_m1, i32_0, i32_m20, i32_m40, i32_m30, i32_m9] at *; omega))
            refine go_lloadn_1 iM_isMore_73 ?_
            refine go_lload_10 iM_isMore_74 ?_
            refine go_lloadn_3 iM_isMore_76 ?_
            first | refine gz_lmul iM_isMore_77 ?_ | refine go_lmul iM_isMore_77 ?_
            first | refine gz_lsub iM_isMore_78 ?_ | refine go_lsub iM_isMore_78 ?_
            rw [e1]
            refine go_lstoren_1 iM_isMore_79 (by simp [Value.category, am_U]) ?_
            refine go_lload_5 iM_isMore_80 ?_
            refine go_lload_12 iM_isMore_82 ?_
            refine go_lload_7 iM_isMore_84 ?_
            first | refine gz_lmul iM_isMore_86 ?_ | refine go_lmul iM_isMore_86 ?_
            first | refine gz_lsub iM_isMore_87 ?_ | refine go_lsub iM_isMore_87 ?_
            rw [e2]
            refine go_lstore_5 iM_isMore_88 (by simp [Value.category, am_U]) ?_
            refine go_lloadn_1 iM_isMore_90 ?_
            refine go_lconst (v := zL 0) iM_isMore_91 rfl ?_
            refine gz_lc_eq iM_isMore_92 iM_isMore_93 (by omega) (by omega) (fun c_92 => ?_) (fun c_92 => ?_)
            rotate_left
            · (first | omega | exact absurd c_92 (by decide) | (exfalso; simp (disch := omega) only [Int32.lt_iff_toInt_lt, Int32.le_iff_toInt_le, ← Int32.toInt_inj, nI_toInt, i32_m1, i32_0, i32_m20, i32_m40, i32_m30, i32_m9] at *; omega))
            refine go_lloadn_1 iM_isMore_103 ?_
            refine go_lconst (v := zL 0) iM_isMore_104 rfl ?_
            refine gz_lc_ne iM_isMore_105 iM_isMore_106 (by omega) (by omega) (fun c_105 => ?_) (fun c_105 => ?_)
            · (first | omega | exact absurd c_105 (by decide) | (exfalso; simp (disch := omega) only [Int32.lt_iff_toInt_lt, Int32.le_iff_toInt_le, ← Int32.toInt_inj, nI_toInt, i32_m1, i32_0, i32_m20, i32_m40, i32_m30, i32_m9] at *; omega))
            refine go_lload_5 iM_isMore_109 ?_
            refine go_lconst (v := zL 0) iM_isMore_111 rfl ?_
            refine gz_lc_eq iM_isMore_112 iM_isMore_113 (by omega) (by omega) (fun c_112 => ?_) (fun c_112 => ?_)
            · (first | omega | exact absurd c_112 (by decide) | (exfalso; simp (disch := omega) only [Int32.lt_iff_toInt_lt, Int32.le_iff_toInt_le, ← Int32.toInt_inj, nI_toInt, i32_m1, i32_0, i32_m20, i32_m40, i32_m30, i32_m9] at *; omega))
            refine go_iload_9 iM_isMore_116 ?_
            refine go_if_ne iM_isMore_118 (fun c_118 => ?_) (fun c_118 => ?_)
            rotate_left
            · (first | omega | exact absurd c_118 (by decide) | (exfalso; simp (disch := omega) only [Int32.lt_iff_toInt_lt, Int32.le_iff_toInt_le, ← Int32.toInt_inj, nI_toInt, i32_m1, i32_0, i32_m20, i32_m40, i32_m30, i32_m9] at *; omega))
            refine go_iconst (v := nI 0) iM_isMore_125 rfl ?_
            refine go_goto iM_isMore_126 ?_
            refine go_zret iM_isMore_131 rfl (by first | exact Or.inl rfl | exact Or.inr rfl) ?_
            rfl
      · by_cases g2 : c % d = 0
        · rw [g2, Int.zero_mul] at ce
          have m1 := Int.mul_pos (show 0 < a % b by omega) hd.1
          obtain rfl : v = t := by
            rw [hv]
            rcases tt with rfl | rfl
            · rw [if_pos rfl, if_neg (by omega)]
            · rw [if_neg (by decide), if_pos (by omega)]
          refine go_lloadn_1 iM_isMore_25 ?_
          refine go_lloadn_3 iM_isMore_26 ?_
          refine gc_S1 iM_isMore_27 (by decide) rfl rfl (Nat.le_of_ble_eq_true rfl) (Nat.le_of_ble_eq_true rfl) (by decide) (sp_M_floor (by omega) (by omega)) ?_
          refine go_lstore_10 iM_isMore_30 (by simp [Value.category, am_U]) ?_
          refine go_lload_5 iM_isMore_32 ?_
          refine go_lload_7 iM_isMore_34 ?_
          refine gc_S1 iM_isMore_36 (by decide) rfl rfl (Nat.le_of_ble_eq_true rfl) (Nat.le_of_ble_eq_true rfl) (by decide) (sp_M_floor (by omega) (by omega)) ?_
          refine go_lstore_12 iM_isMore_39 (by simp [Value.category, am_U]) ?_
          refine go_lload_10 iM_isMore_41 ?_
          refine go_lload_12 iM_isMore_43 ?_
          refine gz_lc_eq iM_isMore_45 iM_isMore_46 (by omega) (by omega) (fun c_45 => ?_) (fun c_45 => ?_)
          rotate_left
          · (first | omega | exact absurd c_45 (by decide) | (exfalso; simp (disch := omega) only [Int32.lt_iff_toInt_lt, Int32.le_iff_toInt_le, ← Int32.toInt_inj, nI_toInt, i32_m1, i32_0, i32_m20, i32_m40, i32_m30, i32_m9] at *; omega))
          refine go_lloadn_1 iM_isMore_73 ?_
          refine go_lload_10 iM_isMore_74 ?_
          refine go_lloadn_3 iM_isMore_76 ?_
          first | refine gz_lmul iM_isMore_77 ?_ | refine go_lmul iM_isMore_77 ?_
          first | refine gz_lsub iM_isMore_78 ?_ | refine go_lsub iM_isMore_78 ?_
          rw [e1]
          refine go_lstoren_1 iM_isMore_79 (by simp [Value.category, am_U]) ?_
          refine go_lload_5 iM_isMore_80 ?_
          refine go_lload_12 iM_isMore_82 ?_
          refine go_lload_7 iM_isMore_84 ?_
          first | refine gz_lmul iM_isMore_86 ?_ | refine go_lmul iM_isMore_86 ?_
          first | refine gz_lsub iM_isMore_87 ?_ | refine go_lsub iM_isMore_87 ?_
          rw [e2]
          refine go_lstore_5 iM_isMore_88 (by simp [Value.category, am_U]) ?_
          refine go_lloadn_1 iM_isMore_90 ?_
          refine go_lconst (v := zL 0) iM_isMore_91 rfl ?_
          refine gz_lc_eq iM_isMore_92 iM_isMore_93 (by omega) (by omega) (fun c_92 => ?_) (fun c_92 => ?_)
          · (first | omega | exact absurd c_92 (by decide) | (exfalso; simp (disch := omega) only [Int32.lt_iff_toInt_lt, Int32.le_iff_toInt_le, ← Int32.toInt_inj, nI_toInt, i32_m1, i32_0, i32_m20, i32_m40, i32_m30, i32_m9] at *; omega))
          refine go_lload_5 iM_isMore_96 ?_
          refine go_lconst (v := zL 0) iM_isMore_98 rfl ?_
          refine gz_lc_ne iM_isMore_99 iM_isMore_100 (by omega) (by omega) (fun c_99 => ?_) (fun c_99 => ?_)
          · (first | omega | exact absurd c_99 (by decide) | (exfalso; simp (disch := omega) only [Int32.lt_iff_toInt_lt, Int32.le_iff_toInt_le, ← Int32.toInt_inj, nI_toInt, i32_m1, i32_0, i32_m20, i32_m40, i32_m30, i32_m9] at *; omega))
          refine go_lloadn_1 iM_isMore_103 ?_
          refine go_lconst (v := zL 0) iM_isMore_104 rfl ?_
          refine gz_lc_ne iM_isMore_105 iM_isMore_106 (by omega) (by omega) (fun c_105 => ?_) (fun c_105 => ?_)
          rotate_left
          · (first | omega | exact absurd c_105 (by decide) | (exfalso; simp (disch := omega) only [Int32.lt_iff_toInt_lt, Int32.le_iff_toInt_le, ← Int32.toInt_inj, nI_toInt, i32_m1, i32_0, i32_m20, i32_m40, i32_m30, i32_m9] at *; omega))
          refine go_iload_9 iM_isMore_129 ?_
          refine go_zret iM_isMore_131 rfl (by rcases tt with rfl | rfl <;> first | exact Or.inl rfl | exact Or.inr rfl) ?_
          rfl
        · have f1 : d * (a % b) = a % b * d := Int.mul_comm _ _
          have f2 : b * (c % d) = c % d * b := Int.mul_comm _ _
          rcases tt with rfl | rfl
          · have hv2 : v = (if 1 = 0 then (if b * (c % d) < d * (a % b) then 1 else 0) else (if d * (a % b) < b * (c % d) then 1 else 0)) := by
              rw [hv, if_pos rfl, if_neg (show ¬ (1 : Nat) = 0 by decide), f1, f2]
              by_cases q : a * d < c * b
              · rw [if_pos q, if_pos (by omega)]
              · rw [if_neg q, if_neg (by omega)]
            refine go_lloadn_1 iM_isMore_25 ?_
            refine go_lloadn_3 iM_isMore_26 ?_
            refine gc_S1 iM_isMore_27 (by decide) rfl rfl (Nat.le_of_ble_eq_true rfl) (Nat.le_of_ble_eq_true rfl) (by decide) (sp_M_floor (by omega) (by omega)) ?_
            refine go_lstore_10 iM_isMore_30 (by simp [Value.category, am_U]) ?_
            refine go_lload_5 iM_isMore_32 ?_
            refine go_lload_7 iM_isMore_34 ?_
            refine gc_S1 iM_isMore_36 (by decide) rfl rfl (Nat.le_of_ble_eq_true rfl) (Nat.le_of_ble_eq_true rfl) (by decide) (sp_M_floor (by omega) (by omega)) ?_
            refine go_lstore_12 iM_isMore_39 (by simp [Value.category, am_U]) ?_
            refine go_lload_10 iM_isMore_41 ?_
            refine go_lload_12 iM_isMore_43 ?_
            refine gz_lc_eq iM_isMore_45 iM_isMore_46 (by omega) (by omega) (fun c_45 => ?_) (fun c_45 => ?_)
            rotate_left
            · (first | omega | exact absurd c_45 (by decide) | (exfalso; simp (disch := omega) only [Int32.lt_iff_toInt_lt, Int32.le_iff_toInt_le, ← Int32.toInt_inj, nI_toInt, i32_m1, i32_0, i32_m20, i32_m40, i32_m30, i32_m9] at *; omega))
            refine go_lloadn_1 iM_isMore_73 ?_
            refine go_lload_10 iM_isMore_74 ?_
            refine go_lloadn_3 iM_isMore_76 ?_
            first | refine gz_lmul iM_isMore_77 ?_ | refine go_lmul iM_isMore_77 ?_
            first | refine gz_lsub iM_isMore_78 ?_ | refine go_lsub iM_isMore_78 ?_
            rw [e1]
            refine go_lstoren_1 iM_isMore_79 (by simp [Value.category, am_U]) ?_
            refine go_lload_5 iM_isMore_80 ?_
            refine go_lload_12 iM_isMore_82 ?_
            refine go_lload_7 iM_isMore_84 ?_
            first | refine gz_lmul iM_isMore_86 ?_ | refine go_lmul iM_isMore_86 ?_
            first | refine gz_lsub iM_isMore_87 ?_ | refine go_lsub iM_isMore_87 ?_
            rw [e2]
            refine go_lstore_5 iM_isMore_88 (by simp [Value.category, am_U]) ?_
            refine go_lloadn_1 iM_isMore_90 ?_
            refine go_lconst (v := zL 0) iM_isMore_91 rfl ?_
            refine gz_lc_eq iM_isMore_92 iM_isMore_93 (by omega) (by omega) (fun c_92 => ?_) (fun c_92 => ?_)
            · (first | omega | exact absurd c_92 (by decide) | (exfalso; simp (disch := omega) only [Int32.lt_iff_toInt_lt, Int32.le_iff_toInt_le, ← Int32.toInt_inj, nI_toInt, i32_m1, i32_0, i32_m20, i32_m40, i32_m30, i32_m9] at *; omega))
            refine go_lload_5 iM_isMore_96 ?_
            refine go_lconst (v := zL 0) iM_isMore_98 rfl ?_
            refine gz_lc_ne iM_isMore_99 iM_isMore_100 (by omega) (by omega) (fun c_99 => ?_) (fun c_99 => ?_)
            rotate_left
            · (first | omega | exact absurd c_99 (by decide) | (exfalso; simp (disch := omega) only [Int32.lt_iff_toInt_lt, Int32.le_iff_toInt_le, ← Int32.toInt_inj, nI_toInt, i32_m1, i32_0, i32_m20, i32_m40, i32_m30, i32_m9] at *; omega))
            refine go_lloadn_1 iM_isMore_132 ?_
            refine go_lstore_14 iM_isMore_133 (by simp [Value.category, am_U]) ?_
            refine go_lloadn_3 iM_isMore_135 ?_
            refine go_lstoren_1 iM_isMore_136 (by simp [Value.category, am_U]) ?_
            refine go_lload_14 iM_isMore_137 ?_
            refine go_lstoren_3 iM_isMore_139 (by simp [Value.category, am_U]) ?_
            refine go_lload_5 iM_isMore_140 ?_
            refine go_lstore_14 iM_isMore_142 (by simp [Value.category, am_U]) ?_
            refine go_lload_7 iM_isMore_144 ?_
            refine go_lstore_5 iM_isMore_146 (by simp [Value.category, am_U]) ?_
            refine go_lload_14 iM_isMore_148 ?_
            refine go_lstore_7 iM_isMore_150 (by simp [Value.category, am_U]) ?_
            refine go_iload_9 iM_isMore_152 ?_
            refine go_if_ne iM_isMore_154 (fun c_154 => ?_) (fun c_154 => ?_)
            · (first | omega | exact absurd c_154 (by decide) | (exfalso; simp (disch := omega) only [Int32.lt_iff_toInt_lt, Int32.le_iff_toInt_le, ← Int32.toInt_inj, nI_toInt, i32_m1, i32_0, i32_m20, i32_m40, i32_m30, i32_m9] at *; omega))
            refine go_iconst (v := nI 1) iM_isMore_157 rfl ?_
            refine go_goto iM_isMore_158 ?_
            refine go_istore_9 iM_isMore_162 (by simp [Value.category, am_U]) ?_
            refine go_goto iM_isMore_164 ?_
            exact lo_M_more k b (a % b) d (c % d) 1 _ _ _ _ _ _ (by omega) (by omega) (by omega) (by omega) (by omega) (by omega) hv2
          · have hv2 : v = (if 0 = 0 then (if b * (c % d) < d * (a % b) then 1 else 0) else (if d * (a % b) < b * (c % d) then 1 else 0)) := by
              rw [hv, if_neg (show ¬ (1 : Nat) = 0 by decide), if_pos rfl, f1, f2]
              by_cases q : c * b < a * d
              · rw [if_pos q, if_pos (by omega)]
              · rw [if_neg q, if_neg (by omega)]
            refine go_lloadn_1 iM_isMore_25 ?_
            refine go_lloadn_3 iM_isMore_26 ?_
            refine gc_S1 iM_isMore_27 (by decide) rfl rfl (Nat.le_of_ble_eq_true rfl) (Nat.le_of_ble_eq_true rfl) (by decide) (sp_M_floor (by omega) (by omega)) ?_
            refine go_lstore_10 iM_isMore_30 (by simp [Value.category, am_U]) ?_
            refine go_lload_5 iM_isMore_32 ?_
            refine go_lload_7 iM_isMore_34 ?_
            refine gc_S1 iM_isMore_36 (by decide) rfl rfl (Nat.le_of_ble_eq_true rfl) (Nat.le_of_ble_eq_true rfl) (by decide) (sp_M_floor (by omega) (by omega)) ?_
            refine go_lstore_12 iM_isMore_39 (by simp [Value.category, am_U]) ?_
            refine go_lload_10 iM_isMore_41 ?_
            refine go_lload_12 iM_isMore_43 ?_
            refine gz_lc_eq iM_isMore_45 iM_isMore_46 (by omega) (by omega) (fun c_45 => ?_) (fun c_45 => ?_)
            rotate_left
            · (first | omega | exact absurd c_45 (by decide) | (exfalso; simp (disch := omega) only [Int32.lt_iff_toInt_lt, Int32.le_iff_toInt_le, ← Int32.toInt_inj, nI_toInt, i32_m1, i32_0, i32_m20, i32_m40, i32_m30, i32_m9] at *; omega))
            refine go_lloadn_1 iM_isMore_73 ?_
            refine go_lload_10 iM_isMore_74 ?_
            refine go_lloadn_3 iM_isMore_76 ?_
            first | refine gz_lmul iM_isMore_77 ?_ | refine go_lmul iM_isMore_77 ?_
            first | refine gz_lsub iM_isMore_78 ?_ | refine go_lsub iM_isMore_78 ?_
            rw [e1]
            refine go_lstoren_1 iM_isMore_79 (by simp [Value.category, am_U]) ?_
            refine go_lload_5 iM_isMore_80 ?_
            refine go_lload_12 iM_isMore_82 ?_
            refine go_lload_7 iM_isMore_84 ?_
            first | refine gz_lmul iM_isMore_86 ?_ | refine go_lmul iM_isMore_86 ?_
            first | refine gz_lsub iM_isMore_87 ?_ | refine go_lsub iM_isMore_87 ?_
            rw [e2]
            refine go_lstore_5 iM_isMore_88 (by simp [Value.category, am_U]) ?_
            refine go_lloadn_1 iM_isMore_90 ?_
            refine go_lconst (v := zL 0) iM_isMore_91 rfl ?_
            refine gz_lc_eq iM_isMore_92 iM_isMore_93 (by omega) (by omega) (fun c_92 => ?_) (fun c_92 => ?_)
            · (first | omega | exact absurd c_92 (by decide) | (exfalso; simp (disch := omega) only [Int32.lt_iff_toInt_lt, Int32.le_iff_toInt_le, ← Int32.toInt_inj, nI_toInt, i32_m1, i32_0, i32_m20, i32_m40, i32_m30, i32_m9] at *; omega))
            refine go_lload_5 iM_isMore_96 ?_
            refine go_lconst (v := zL 0) iM_isMore_98 rfl ?_
            refine gz_lc_ne iM_isMore_99 iM_isMore_100 (by omega) (by omega) (fun c_99 => ?_) (fun c_99 => ?_)
            rotate_left
            · (first | omega | exact absurd c_99 (by decide) | (exfalso; simp (disch := omega) only [Int32.lt_iff_toInt_lt, Int32.le_iff_toInt_le, ← Int32.toInt_inj, nI_toInt, i32_m1, i32_0, i32_m20, i32_m40, i32_m30, i32_m9] at *; omega))
            refine go_lloadn_1 iM_isMore_132 ?_
            refine go_lstore_14 iM_isMore_133 (by simp [Value.category, am_U]) ?_
            refine go_lloadn_3 iM_isMore_135 ?_
            refine go_lstoren_1 iM_isMore_136 (by simp [Value.category, am_U]) ?_
            refine go_lload_14 iM_isMore_137 ?_
            refine go_lstoren_3 iM_isMore_139 (by simp [Value.category, am_U]) ?_
            refine go_lload_5 iM_isMore_140 ?_
            refine go_lstore_14 iM_isMore_142 (by simp [Value.category, am_U]) ?_
            refine go_lload_7 iM_isMore_144 ?_
            refine go_lstore_5 iM_isMore_146 (by simp [Value.category, am_U]) ?_
            refine go_lload_14 iM_isMore_148 ?_
            refine go_lstore_7 iM_isMore_150 (by simp [Value.category, am_U]) ?_
            refine go_iload_9 iM_isMore_152 ?_
            refine go_if_ne iM_isMore_154 (fun c_154 => ?_) (fun c_154 => ?_)
            rotate_left
            · (first | omega | exact absurd c_154 (by decide) | (exfalso; simp (disch := omega) only [Int32.lt_iff_toInt_lt, Int32.le_iff_toInt_le, ← Int32.toInt_inj, nI_toInt, i32_m1, i32_0, i32_m20, i32_m40, i32_m30, i32_m9] at *; omega))
            refine go_iconst (v := nI 0) iM_isMore_161 rfl ?_
            refine go_istore_9 iM_isMore_162 (by simp [Value.category, am_U]) ?_
            refine go_goto iM_isMore_164 ?_
            exact lo_M_more k b (a % b) d (c % d) 0 _ _ _ _ _ _ (by omega) (by omega) (by omega) (by omega) (by omega) (by omega) hv2
    · by_cases g3 : a / b < c / d
      · have ce := cmp_lt hb.1 hd.1 g3
        rcases tt with rfl | rfl
        · obtain rfl : v = 1 := by rw [hv, if_pos rfl, if_pos ce]
          refine go_lloadn_1 iM_isMore_25 ?_
          refine go_lloadn_3 iM_isMore_26 ?_
          refine gc_S1 iM_isMore_27 (by decide) rfl rfl (Nat.le_of_ble_eq_true rfl) (Nat.le_of_ble_eq_true rfl) (by decide) (sp_M_floor (by omega) (by omega)) ?_
          refine go_lstore_10 iM_isMore_30 (by simp [Value.category, am_U]) ?_
          refine go_lload_5 iM_isMore_32 ?_
          refine go_lload_7 iM_isMore_34 ?_
          refine gc_S1 iM_isMore_36 (by decide) rfl rfl (Nat.le_of_ble_eq_true rfl) (Nat.le_of_ble_eq_true rfl) (by decide) (sp_M_floor (by omega) (by omega)) ?_
          refine go_lstore_12 iM_isMore_39 (by simp [Value.category, am_U]) ?_
          refine go_lload_10 iM_isMore_41 ?_
          refine go_lload_12 iM_isMore_43 ?_
          refine gz_lc_eq iM_isMore_45 iM_isMore_46 (by omega) (by omega) (fun c_45 => ?_) (fun c_45 => ?_)
          · (first | omega | exact absurd c_45 (by decide) | (exfalso; simp (disch := omega) only [Int32.lt_iff_toInt_lt, Int32.le_iff_toInt_le, ← Int32.toInt_inj, nI_toInt, i32_m1, i32_0, i32_m20, i32_m40, i32_m30, i32_m9] at *; omega))
          refine go_lload_10 iM_isMore_49 ?_
          refine go_lload_12 iM_isMore_51 ?_
          refine gz_lc_ge iM_isMore_53 iM_isMore_54 (by omega) (by omega) (fun c_53 => ?_) (fun c_53 => ?_)
          · (first | omega | exact absurd c_53 (by decide) | (exfalso; simp (disch := omega) only [Int32.lt_iff_toInt_lt, Int32.le_iff_toInt_le, ← Int32.toInt_inj, nI_toInt, i32_m1, i32_0, i32_m20, i32_m40, i32_m30, i32_m9] at *; omega))
          refine go_iconst (v := nI 1) iM_isMore_57 rfl ?_
          refine go_goto iM_isMore_58 ?_
          refine go_iload_9 iM_isMore_62 ?_
          first | refine gn_ic_eq iM_isMore_64 (by omega) (by omega) (fun c_64 => ?_) (fun c_64 => ?_) | refine go_ic_eq iM_isMore_64 (fun c_64 => ?_) (fun c_64 => ?_)
          · (first | omega | exact absurd c_64 (by decide) | (exfalso; simp (disch := omega) only [Int32.lt_iff_toInt_lt, Int32.le_iff_toInt_le, ← Int32.toInt_inj, nI_toInt, i32_m1, i32_0, i32_m20, i32_m40, i32_m30, i32_m9] at *; omega))
          refine go_iconst (v := nI 1) iM_isMore_67 rfl ?_
          refine go_goto iM_isMore_68 ?_
          refine go_zret iM_isMore_72 rfl (by first | exact Or.inl rfl | exact Or.inr rfl) ?_
          rfl
        · obtain rfl : v = 0 := by rw [hv, if_neg (by decide), if_neg (by omega)]
          refine go_lloadn_1 iM_isMore_25 ?_
          refine go_lloadn_3 iM_isMore_26 ?_
          refine gc_S1 iM_isMore_27 (by decide) rfl rfl (Nat.le_of_ble_eq_true rfl) (Nat.le_of_ble_eq_true rfl) (by decide) (sp_M_floor (by omega) (by omega)) ?_
          refine go_lstore_10 iM_isMore_30 (by simp [Value.category, am_U]) ?_
          refine go_lload_5 iM_isMore_32 ?_
          refine go_lload_7 iM_isMore_34 ?_
          refine gc_S1 iM_isMore_36 (by decide) rfl rfl (Nat.le_of_ble_eq_true rfl) (Nat.le_of_ble_eq_true rfl) (by decide) (sp_M_floor (by omega) (by omega)) ?_
          refine go_lstore_12 iM_isMore_39 (by simp [Value.category, am_U]) ?_
          refine go_lload_10 iM_isMore_41 ?_
          refine go_lload_12 iM_isMore_43 ?_
          refine gz_lc_eq iM_isMore_45 iM_isMore_46 (by omega) (by omega) (fun c_45 => ?_) (fun c_45 => ?_)
          · (first | omega | exact absurd c_45 (by decide) | (exfalso; simp (disch := omega) only [Int32.lt_iff_toInt_lt, Int32.le_iff_toInt_le, ← Int32.toInt_inj, nI_toInt, i32_m1, i32_0, i32_m20, i32_m40, i32_m30, i32_m9] at *; omega))
          refine go_lload_10 iM_isMore_49 ?_
          refine go_lload_12 iM_isMore_51 ?_
          refine gz_lc_ge iM_isMore_53 iM_isMore_54 (by omega) (by omega) (fun c_53 => ?_) (fun c_53 => ?_)
          · (first | omega | exact absurd c_53 (by decide) | (exfalso; simp (disch := omega) only [Int32.lt_iff_toInt_lt, Int32.le_iff_toInt_le, ← Int32.toInt_inj, nI_toInt, i32_m1, i32_0, i32_m20, i32_m40, i32_m30, i32_m9] at *; omega))
          refine go_iconst (v := nI 1) iM_isMore_57 rfl ?_
          refine go_goto iM_isMore_58 ?_
          refine go_iload_9 iM_isMore_62 ?_
          first | refine gn_ic_eq iM_isMore_64 (by omega) (by omega) (fun c_64 => ?_) (fun c_64 => ?_) | refine go_ic_eq iM_isMore_64 (fun c_64 => ?_) (fun c_64 => ?_)
          rotate_left
          · (first | omega | exact absurd c_64 (by decide) | (exfalso; simp (disch := omega) only [Int32.lt_iff_toInt_lt, Int32.le_iff_toInt_le, ← Int32.toInt_inj, nI_toInt, i32_m1, i32_0, i32_m20, i32_m40, i32_m30, i32_m9] at *; omega))
          refine go_iconst (v := nI 0) iM_isMore_71 rfl ?_
          refine go_zret iM_isMore_72 rfl (by first | exact Or.inl rfl | exact Or.inr rfl) ?_
          rfl
      · have ce := cmp_lt hd.1 hb.1 (show c / d < a / b by omega)
        rcases tt with rfl | rfl
        · obtain rfl : v = 0 := by rw [hv, if_pos rfl, if_neg (by omega)]
          refine go_lloadn_1 iM_isMore_25 ?_
          refine go_lloadn_3 iM_isMore_26 ?_
          refine gc_S1 iM_isMore_27 (by decide) rfl rfl (Nat.le_of_ble_eq_true rfl) (Nat.le_of_ble_eq_true rfl) (by decide) (sp_M_floor (by omega) (by omega)) ?_
          refine go_lstore_10 iM_isMore_30 (by simp [Value.category, am_U]) ?_
          refine go_lload_5 iM_isMore_32 ?_
          refine go_lload_7 iM_isMore_34 ?_
          refine gc_S1 iM_isMore_36 (by decide) rfl rfl (Nat.le_of_ble_eq_true rfl) (Nat.le_of_ble_eq_true rfl) (by decide) (sp_M_floor (by omega) (by omega)) ?_
          refine go_lstore_12 iM_isMore_39 (by simp [Value.category, am_U]) ?_
          refine go_lload_10 iM_isMore_41 ?_
          refine go_lload_12 iM_isMore_43 ?_
          refine gz_lc_eq iM_isMore_45 iM_isMore_46 (by omega) (by omega) (fun c_45 => ?_) (fun c_45 => ?_)
          · (first | omega | exact absurd c_45 (by decide) | (exfalso; simp (disch := omega) only [Int32.lt_iff_toInt_lt, Int32.le_iff_toInt_le, ← Int32.toInt_inj, nI_toInt, i32_m1, i32_0, i32_m20, i32_m40, i32_m30, i32_m9] at *; omega))
          refine go_lload_10 iM_isMore_49 ?_
          refine go_lload_12 iM_isMore_51 ?_
          refine gz_lc_ge iM_isMore_53 iM_isMore_54 (by omega) (by omega) (fun c_53 => ?_) (fun c_53 => ?_)
          rotate_left
          · (first | omega | exact absurd c_53 (by decide) | (exfalso; simp (disch := omega) only [Int32.lt_iff_toInt_lt, Int32.le_iff_toInt_le, ← Int32.toInt_inj, nI_toInt, i32_m1, i32_0, i32_m20, i32_m40, i32_m30, i32_m9] at *; omega))
          refine go_iconst (v := nI 0) iM_isMore_61 rfl ?_
          refine go_iload_9 iM_isMore_62 ?_
          first | refine gn_ic_eq iM_isMore_64 (by omega) (by omega) (fun c_64 => ?_) (fun c_64 => ?_) | refine go_ic_eq iM_isMore_64 (fun c_64 => ?_) (fun c_64 => ?_)
          rotate_left
          · (first | omega | exact absurd c_64 (by decide) | (exfalso; simp (disch := omega) only [Int32.lt_iff_toInt_lt, Int32.le_iff_toInt_le, ← Int32.toInt_inj, nI_toInt, i32_m1, i32_0, i32_m20, i32_m40, i32_m30, i32_m9] at *; omega))
          refine go_iconst (v := nI 0) iM_isMore_71 rfl ?_
          refine go_zret iM_isMore_72 rfl (by first | exact Or.inl rfl | exact Or.inr rfl) ?_
          rfl
        · obtain rfl : v = 1 := by rw [hv, if_neg (by decide), if_pos ce]
          refine go_lloadn_1 iM_isMore_25 ?_
          refine go_lloadn_3 iM_isMore_26 ?_
          refine gc_S1 iM_isMore_27 (by decide) rfl rfl (Nat.le_of_ble_eq_true rfl) (Nat.le_of_ble_eq_true rfl) (by decide) (sp_M_floor (by omega) (by omega)) ?_
          refine go_lstore_10 iM_isMore_30 (by simp [Value.category, am_U]) ?_
          refine go_lload_5 iM_isMore_32 ?_
          refine go_lload_7 iM_isMore_34 ?_
          refine gc_S1 iM_isMore_36 (by decide) rfl rfl (Nat.le_of_ble_eq_true rfl) (Nat.le_of_ble_eq_true rfl) (by decide) (sp_M_floor (by omega) (by omega)) ?_
          refine go_lstore_12 iM_isMore_39 (by simp [Value.category, am_U]) ?_
          refine go_lload_10 iM_isMore_41 ?_
          refine go_lload_12 iM_isMore_43 ?_
          refine gz_lc_eq iM_isMore_45 iM_isMore_46 (by omega) (by omega) (fun c_45 => ?_) (fun c_45 => ?_)
          · (first | omega | exact absurd c_45 (by decide) | (exfalso; simp (disch := omega) only [Int32.lt_iff_toInt_lt, Int32.le_iff_toInt_le, ← Int32.toInt_inj, nI_toInt, i32_m1, i32_0, i32_m20, i32_m40, i32_m30, i32_m9] at *; omega))
          refine go_lload_10 iM_isMore_49 ?_
          refine go_lload_12 iM_isMore_51 ?_
          refine gz_lc_ge iM_isMore_53 iM_isMore_54 (by omega) (by omega) (fun c_53 => ?_) (fun c_53 => ?_)
          rotate_left
          · (first | omega | exact absurd c_53 (by decide) | (exfalso; simp (disch := omega) only [Int32.lt_iff_toInt_lt, Int32.le_iff_toInt_le, ← Int32.toInt_inj, nI_toInt, i32_m1, i32_0, i32_m20, i32_m40, i32_m30, i32_m9] at *; omega))
          refine go_iconst (v := nI 0) iM_isMore_61 rfl ?_
          refine go_iload_9 iM_isMore_62 ?_
          first | refine gn_ic_eq iM_isMore_64 (by omega) (by omega) (fun c_64 => ?_) (fun c_64 => ?_) | refine go_ic_eq iM_isMore_64 (fun c_64 => ?_) (fun c_64 => ?_)
          · (first | omega | exact absurd c_64 (by decide) | (exfalso; simp (disch := omega) only [Int32.lt_iff_toInt_lt, Int32.le_iff_toInt_le, ← Int32.toInt_inj, nI_toInt, i32_m1, i32_0, i32_m20, i32_m40, i32_m30, i32_m9] at *; omega))
          refine go_iconst (v := nI 1) iM_isMore_67 rfl ?_
          refine go_goto iM_isMore_68 ?_
          refine go_zret iM_isMore_72 rfl (by first | exact Or.inl rfl | exact Or.inr rfl) ?_
          rfl
theorem sp_M_isMore {a b c d : Int} {v : Nat} (h1 : mL 43 23 = zL a) (h2 : mL 43 24 = zL b) (h3 : mL 43 21 = zL c) (h4 : mL 43 22 = zL d) (hb : 0 < b ∧ b < 1125899906842624) (hd : 0 < d ∧ d < 1125899906842624) (ha : -1125899906842624 < a ∧ a < 1125899906842624) (hc : -1125899906842624 < c ∧ c < 1125899906842624) (hv : v = if a * d < c * b then 1 else 0) : Sp S 1 tM_isMore (am_sh n, mI, mL, am_mR n) [.ref 43] (fun q => q = (some (.int (nI v)), (am_sh n, mI, mL, am_mR n))) := by
  show Go _ _ tM_isMore (_, 0, [.ref 43, am_U, am_U, am_U, am_U, am_U, am_U, am_U, am_U, am_U, am_U, am_U, am_U, am_U, am_U, am_U], []) _
  refine go_aloadn_0 iM_isMore_0 rfl ?_
  refine go_getL iM_isMore_1 rfl (sk_43 _) ?_
  try simp (disch := omega) only [am_u_n, am_u_s, am_u_k, h1, h2, h3, h4]
  refine go_lstoren_1 iM_isMore_4 (by simp [Value.category, am_U]) ?_
  refine go_aloadn_0 iM_isMore_5 rfl ?_
  refine go_getL iM_isMore_6 rfl (sk_43 _) ?_
  try simp (disch := omega) only [am_u_n, am_u_s, am_u_k, h1, h2, h3, h4]
  refine go_lstoren_3 iM_isMore_9 (by simp [Value.category, am_U]) ?_
  refine go_aloadn_0 iM_isMore_10 rfl ?_
  refine go_getL iM_isMore_11 rfl (sk_43 _) ?_
  try simp (disch := omega) only [am_u_n, am_u_s, am_u_k, h1, h2, h3, h4]
  refine go_lstore_5 iM_isMore_14 (by simp [Value.category, am_U]) ?_
  refine go_aloadn_0 iM_isMore_16 rfl ?_
  refine go_getL iM_isMore_17 rfl (sk_43 _) ?_
  try simp (disch := omega) only [am_u_n, am_u_s, am_u_k, h1, h2, h3, h4]
  refine go_lstore_7 iM_isMore_20 (by simp [Value.category, am_U]) ?_
  refine go_iconst (v := nI 0) iM_isMore_22 rfl ?_
  refine go_istore_9 iM_isMore_23 (by simp [Value.category, am_U]) ?_
  exact lo_M_more b.toNat a b c d 0 _ _ _ _ _ _ (Nat.le_refl _) hb hd ha hc (by omega) (by rw [if_pos rfl]; exact hv)
end CMP
