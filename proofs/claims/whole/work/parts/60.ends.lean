/-! ===== ends ===== -/
def cuW (o : Nat → Nat) (m : Nat) (lo cut : Int) : Nat → Int
  | 0 => 1
  | i + 1 => cuW o m lo cut i * ((if lo + 1 + (i : Int) ≤ cut then 12 - o (rsZ m (lo + 1 + (i : Int))) else o (rsZ m (lo + 1 + (i : Int))) : Nat) : Int)
def cuA (o : Nat → Nat) (m : Nat) (lo : Int) (N : Nat) : Nat → Int
  | 0 => 0
  | j + 1 => cuA o m lo N j + cuW o m lo (lo + (j : Int)) N
def cuR (o : Nat → Nat) (m : Nat) (lo pu : Int) (N : Nat) : Nat → Int
  | 0 => 0
  | j + 1 => cuR o m lo pu N j + (if lo + (j : Int) < pu then cuW o m lo (lo + (j : Int)) N else 0)
theorem cuW_le {o : Nat → Nat} {m : Nat} {lo cut : Int} (hm1 : 1 ≤ m) (hm3 : m ≤ 3) (ho : ∀ j, j < 3 → o j ≤ 12) : ∀ i, 0 ≤ cuW o m lo cut i ∧ cuW o m lo cut i ≤ pw 12 i
  | 0 => by simp [cuW, pw]
  | i + 1 => by
    have ih := cuW_le (lo := lo) (cut := cut) hm1 hm3 ho i
    have h0 := rsZ_lt hm1 (lo + 1 + (i : Int))
    have h1 := ho (rsZ m (lo + 1 + (i : Int))) (by omega)
    obtain ⟨w, hw, e⟩ : ∃ w : Nat, w ≤ 12 ∧ (if lo + 1 + (i : Int) ≤ cut then 12 - o (rsZ m (lo + 1 + (i : Int))) else o (rsZ m (lo + 1 + (i : Int)))) = w := ⟨_, by split <;> omega, rfl⟩
    simp only [cuW, e]
    refine ⟨Int.mul_nonneg ih.1 (by omega), ?_⟩
    rw [pw_s]
    exact Int.mul_le_mul ih.2 (by omega) (by omega) (by omega)
theorem pw12_8 {N : Nat} (h : N ≤ 8) : pw 12 N ≤ 429981696 := by
  have := Nat.pow_le_pow_right (n := 12) (by omega) h
  unfold pw
  omega
theorem cuA_le {o : Nat → Nat} {m N : Nat} {lo pu : Int} (hm1 : 1 ≤ m) (hm3 : m ≤ 3) (hN : N ≤ 8) (ho : ∀ j, j < 3 → o j ≤ 12) : ∀ j : Nat, (0 ≤ cuR o m lo pu N j ∧ cuR o m lo pu N j ≤ cuA o m lo N j) ∧ cuA o m lo N j ≤ (j : Int) * 429981696
  | 0 => by simp [cuA, cuR]
  | j + 1 => by
    have ih := cuA_le (lo := lo) (pu := pu) hm1 hm3 hN ho j
    have h0 := cuW_le (lo := lo) (cut := lo + (j : Int)) hm1 hm3 ho N
    have h1 := pw12_8 hN
    simp only [cuA, cuR]
    split <;> omega
theorem cuW_1 {o : Nat → Nat} {m i : Nat} {lo cut : Int} (h : lo + 1 + (i : Int) ≤ cut) : cuW o m lo cut i * ((12 - o (rsZ m (lo + 1 + (i : Int))) : Nat) : Int) = cuW o m lo cut (i + 1) := by simp only [cuW, h, if_true]
theorem cuW_0 {o : Nat → Nat} {m i : Nat} {lo cut : Int} (h : ¬ lo + 1 + (i : Int) ≤ cut) : cuW o m lo cut i * (o (rsZ m (lo + 1 + (i : Int))) : Int) = cuW o m lo cut (i + 1) := by simp only [cuW, h, if_false]
section END
variable {S : am_S} {M : am_M} {mI : Nat → Nat → Int32} {mL : Nat → Nat → Int64} {n m p N : Nat} {lo pu hi cut : Int}
theorem sp_T_areEnds_t (h1 : -20 ≤ lo) (h2 : hi ≤ 20) (h3 : lo < pu) (h4 : pu < hi) (h5 : hi - lo ≤ 9) : Sp S 1 tT_areEnds M [.int (zI lo), .int (zI pu), .int (zI hi)] (fun q => q = (some (.int (nI 1)), M)) := by
  show Go _ _ tT_areEnds (_, 0, [.int (zI lo), .int (zI pu), .int (zI hi)], []) _
  refine go_iloadn_0 iT_areEnds_0 ?_
  refine gc_S1 iT_areEnds_1 (by decide) rfl rfl (Nat.le_of_ble_eq_true rfl) (Nat.le_of_ble_eq_true rfl) (by decide) (sp_T_isFirstPurse_t (by rw [zI_toInt (by omega)]; omega) (by rw [zI_toInt (by omega)]; omega)) ?_
  refine go_if_eq iT_areEnds_4 (fun c_4 => ?_) (fun c_4 => ?_)
  · (first | omega | exact absurd c_4 (by decide) | (exfalso; simp (disch := omega) only [Int32.lt_iff_toInt_lt, Int32.le_iff_toInt_le, ← Int32.toInt_inj, nI_toInt, i32_m1, i32_0, i32_m20, i32_m40, i32_m30, i32_m9] at *; omega))
  refine go_iloadn_2 iT_areEnds_7 ?_
  refine gc_S1 iT_areEnds_8 (by decide) rfl rfl (Nat.le_of_ble_eq_true rfl) (Nat.le_of_ble_eq_true rfl) (by decide) (sp_T_isFirstPurse_t (by rw [zI_toInt (by omega)]; omega) (by rw [zI_toInt (by omega)]; omega)) ?_
  refine go_if_eq iT_areEnds_11 (fun c_11 => ?_) (fun c_11 => ?_)
  · (first | omega | exact absurd c_11 (by decide) | (exfalso; simp (disch := omega) only [Int32.lt_iff_toInt_lt, Int32.le_iff_toInt_le, ← Int32.toInt_inj, nI_toInt, i32_m1, i32_0, i32_m20, i32_m40, i32_m30, i32_m9] at *; omega))
  refine go_iloadn_0 iT_areEnds_14 ?_
  refine go_iloadn_1 iT_areEnds_15 ?_
  first | refine gn_ic_ge iT_areEnds_16 (by omega) (by omega) (fun c_16 => ?_) (fun c_16 => ?_) | refine gm_ic_ge iT_areEnds_16 (by omega) (by omega) (fun c_16 => ?_) (fun c_16 => ?_) | refine gi_ic_ge iT_areEnds_16 (by omega) (by omega) (fun c_16 => ?_) (fun c_16 => ?_) | refine go_ic_ge iT_areEnds_16 (fun c_16 => ?_) (fun c_16 => ?_)
  · (first | omega | exact absurd c_16 (by decide) | (exfalso; simp (disch := omega) only [Int32.lt_iff_toInt_lt, Int32.le_iff_toInt_le, ← Int32.toInt_inj, nI_toInt, i32_m1, i32_0, i32_m20, i32_m40, i32_m30, i32_m9] at *; omega))
  refine go_iloadn_1 iT_areEnds_19 ?_
  refine go_iloadn_2 iT_areEnds_20 ?_
  first | refine gn_ic_ge iT_areEnds_21 (by omega) (by omega) (fun c_21 => ?_) (fun c_21 => ?_) | refine gm_ic_ge iT_areEnds_21 (by omega) (by omega) (fun c_21 => ?_) (fun c_21 => ?_) | refine gi_ic_ge iT_areEnds_21 (by omega) (by omega) (fun c_21 => ?_) (fun c_21 => ?_) | refine go_ic_ge iT_areEnds_21 (fun c_21 => ?_) (fun c_21 => ?_)
  · (first | omega | exact absurd c_21 (by decide) | (exfalso; simp (disch := omega) only [Int32.lt_iff_toInt_lt, Int32.le_iff_toInt_le, ← Int32.toInt_inj, nI_toInt, i32_m1, i32_0, i32_m20, i32_m40, i32_m30, i32_m9] at *; omega))
  refine go_iloadn_2 iT_areEnds_24 ?_
  refine go_iloadn_0 iT_areEnds_25 ?_
  first | refine gn_isub iT_areEnds_26 (by omega) ?_ | refine gm_isub iT_areEnds_26 ?_ | refine gi_isub iT_areEnds_26 ?_ | refine go_isub iT_areEnds_26 ?_
  refine go_bipush (v := nI 9) iT_areEnds_27 (by decide) ?_
  first | refine gn_ic_gt iT_areEnds_29 (by omega) (by omega) (fun c_29 => ?_) (fun c_29 => ?_) | refine gm_ic_gt iT_areEnds_29 (by omega) (by omega) (fun c_29 => ?_) (fun c_29 => ?_) | refine gi_ic_gt iT_areEnds_29 (by omega) (by omega) (fun c_29 => ?_) (fun c_29 => ?_) | refine go_ic_gt iT_areEnds_29 (fun c_29 => ?_) (fun c_29 => ?_)
  · (first | omega | exact absurd c_29 (by decide) | (exfalso; simp (disch := omega) only [Int32.lt_iff_toInt_lt, Int32.le_iff_toInt_le, ← Int32.toInt_inj, nI_toInt, i32_m1, i32_0, i32_m20, i32_m40, i32_m30, i32_m9] at *; omega))
  refine go_iconst (v := nI 1) iT_areEnds_32 rfl ?_
  refine go_goto iT_areEnds_33 ?_
  refine go_zret iT_areEnds_37 rfl (by first | exact Or.inl rfl | exact Or.inr rfl) ?_
  rfl
theorem sp_T_areEnds_f (b1 : -2147483648 ≤ lo ∧ lo < 2147483648) (b2 : -2147483648 ≤ pu ∧ pu < 2147483648) (b3 : -2147483648 ≤ hi ∧ hi < 2147483648) (h : ¬ (-20 ≤ lo ∧ hi ≤ 20 ∧ lo < pu ∧ pu < hi ∧ hi - lo ≤ 9)) : Sp S 1 tT_areEnds M [.int (zI lo), .int (zI pu), .int (zI hi)] (fun q => q = (some (.int (nI 0)), M)) := by
  show Go _ _ tT_areEnds (_, 0, [.int (zI lo), .int (zI pu), .int (zI hi)], []) _
  by_cases a1 : -20 ≤ lo ∧ lo ≤ 20
  · by_cases a2 : -20 ≤ hi ∧ hi ≤ 20
    · refine go_iloadn_0 iT_areEnds_0 ?_
      refine gc_S1 iT_areEnds_1 (by decide) rfl rfl (Nat.le_of_ble_eq_true rfl) (Nat.le_of_ble_eq_true rfl) (by decide) (sp_T_isFirstPurse_t (by rw [zI_toInt (by omega)]; omega) (by rw [zI_toInt (by omega)]; omega)) ?_
      refine go_if_eq iT_areEnds_4 (fun c_4 => ?_) (fun c_4 => ?_)
      · (first | omega | exact absurd c_4 (by decide) | (exfalso; simp (disch := omega) only [Int32.lt_iff_toInt_lt, Int32.le_iff_toInt_le, ← Int32.toInt_inj, nI_toInt, i32_m1, i32_0, i32_m20, i32_m40, i32_m30, i32_m9] at *; omega))
      refine go_iloadn_2 iT_areEnds_7 ?_
      refine gc_S1 iT_areEnds_8 (by decide) rfl rfl (Nat.le_of_ble_eq_true rfl) (Nat.le_of_ble_eq_true rfl) (by decide) (sp_T_isFirstPurse_t (by rw [zI_toInt (by omega)]; omega) (by rw [zI_toInt (by omega)]; omega)) ?_
      refine go_if_eq iT_areEnds_11 (fun c_11 => ?_) (fun c_11 => ?_)
      · (first | omega | exact absurd c_11 (by decide) | (exfalso; simp (disch := omega) only [Int32.lt_iff_toInt_lt, Int32.le_iff_toInt_le, ← Int32.toInt_inj, nI_toInt, i32_m1, i32_0, i32_m20, i32_m40, i32_m30, i32_m9] at *; omega))
      refine go_iloadn_0 iT_areEnds_14 ?_
      refine go_iloadn_1 iT_areEnds_15 ?_
      first | refine gn_ic_ge iT_areEnds_16 (by omega) (by omega) (fun c_16 => ?_) (fun c_16 => ?_) | refine gm_ic_ge iT_areEnds_16 (by omega) (by omega) (fun c_16 => ?_) (fun c_16 => ?_) | refine gi_ic_ge iT_areEnds_16 (by omega) (by omega) (fun c_16 => ?_) (fun c_16 => ?_) | refine go_ic_ge iT_areEnds_16 (fun c_16 => ?_) (fun c_16 => ?_)
      · refine go_iconst (v := nI 0) iT_areEnds_36 rfl ?_
        refine go_zret iT_areEnds_37 rfl (by first | exact Or.inl rfl | exact Or.inr rfl) ?_
        rfl
      · refine go_iloadn_1 iT_areEnds_19 ?_
        refine go_iloadn_2 iT_areEnds_20 ?_
        first | refine gn_ic_ge iT_areEnds_21 (by omega) (by omega) (fun c_21 => ?_) (fun c_21 => ?_) | refine gm_ic_ge iT_areEnds_21 (by omega) (by omega) (fun c_21 => ?_) (fun c_21 => ?_) | refine gi_ic_ge iT_areEnds_21 (by omega) (by omega) (fun c_21 => ?_) (fun c_21 => ?_) | refine go_ic_ge iT_areEnds_21 (fun c_21 => ?_) (fun c_21 => ?_)
        · refine go_iconst (v := nI 0) iT_areEnds_36 rfl ?_
          refine go_zret iT_areEnds_37 rfl (by first | exact Or.inl rfl | exact Or.inr rfl) ?_
          rfl
        · refine go_iloadn_2 iT_areEnds_24 ?_
          refine go_iloadn_0 iT_areEnds_25 ?_
          first | refine gn_isub iT_areEnds_26 (by omega) ?_ | refine gm_isub iT_areEnds_26 ?_ | refine gi_isub iT_areEnds_26 ?_ | refine go_isub iT_areEnds_26 ?_
          refine go_bipush (v := nI 9) iT_areEnds_27 (by decide) ?_
          first | refine gn_ic_gt iT_areEnds_29 (by omega) (by omega) (fun c_29 => ?_) (fun c_29 => ?_) | refine gm_ic_gt iT_areEnds_29 (by omega) (by omega) (fun c_29 => ?_) (fun c_29 => ?_) | refine gi_ic_gt iT_areEnds_29 (by omega) (by omega) (fun c_29 => ?_) (fun c_29 => ?_) | refine go_ic_gt iT_areEnds_29 (fun c_29 => ?_) (fun c_29 => ?_)
          · refine go_iconst (v := nI 0) iT_areEnds_36 rfl ?_
            refine go_zret iT_areEnds_37 rfl (by first | exact Or.inl rfl | exact Or.inr rfl) ?_
            rfl
          · omega
    · refine go_iloadn_0 iT_areEnds_0 ?_
      refine gc_S1 iT_areEnds_1 (by decide) rfl rfl (Nat.le_of_ble_eq_true rfl) (Nat.le_of_ble_eq_true rfl) (by decide) (sp_T_isFirstPurse_t (by rw [zI_toInt (by omega)]; omega) (by rw [zI_toInt (by omega)]; omega)) ?_
      refine go_if_eq iT_areEnds_4 (fun c_4 => ?_) (fun c_4 => ?_)
      · (first | omega | exact absurd c_4 (by decide) | (exfalso; simp (disch := omega) only [Int32.lt_iff_toInt_lt, Int32.le_iff_toInt_le, ← Int32.toInt_inj, nI_toInt, i32_m1, i32_0, i32_m20, i32_m40, i32_m30, i32_m9] at *; omega))
      refine go_iloadn_2 iT_areEnds_7 ?_
      refine gc_S1 iT_areEnds_8 (by decide) rfl rfl (Nat.le_of_ble_eq_true rfl) (Nat.le_of_ble_eq_true rfl) (by decide) (sp_T_isFirstPurse_f (by rw [zI_toInt (by omega)]; omega)) ?_
      refine go_if_eq iT_areEnds_11 (fun c_11 => ?_) (fun c_11 => ?_)
      rotate_left
      · (first | omega | exact absurd c_11 (by decide) | (exfalso; simp (disch := omega) only [Int32.lt_iff_toInt_lt, Int32.le_iff_toInt_le, ← Int32.toInt_inj, nI_toInt, i32_m1, i32_0, i32_m20, i32_m40, i32_m30, i32_m9] at *; omega))
      refine go_iconst (v := nI 0) iT_areEnds_36 rfl ?_
      refine go_zret iT_areEnds_37 rfl (by first | exact Or.inl rfl | exact Or.inr rfl) ?_
      rfl
  · refine go_iloadn_0 iT_areEnds_0 ?_
    refine gc_S1 iT_areEnds_1 (by decide) rfl rfl (Nat.le_of_ble_eq_true rfl) (Nat.le_of_ble_eq_true rfl) (by decide) (sp_T_isFirstPurse_f (by rw [zI_toInt (by omega)]; omega)) ?_
    refine go_if_eq iT_areEnds_4 (fun c_4 => ?_) (fun c_4 => ?_)
    rotate_left
    · (first | omega | exact absurd c_4 (by decide) | (exfalso; simp (disch := omega) only [Int32.lt_iff_toInt_lt, Int32.le_iff_toInt_le, ← Int32.toInt_inj, nI_toInt, i32_m1, i32_0, i32_m20, i32_m40, i32_m30, i32_m9] at *; omega))
    refine go_iconst (v := nI 0) iT_areEnds_36 rfl ?_
    refine go_zret iT_areEnds_37 rfl (by first | exact Or.inl rfl | exact Or.inr rfl) ?_
    rfl
theorem lo_T_cut (hp : p < n) (hm1 : 1 ≤ m) (hm3 : m ≤ 3) (hN : N ≤ 8) (hmT : mI 0 0 = nI m) (b1 : -20 ≤ lo ∧ lo ≤ 20) (b2 : -20 ≤ cut ∧ cut ≤ 20) (ho : ∀ j, j < 4 → mI (61 + 2 * p) j = nI (odN mI p j) ∧ odN mI p j ≤ 12) : ∀ l i (z : Value), i + l = N → Go S 2 tT_weightOfCut ((am_sh n, mI, mL, am_mR n), 8, [.ref 0, .ref (60 + 2 * p), .int (zI lo), .int (zI cut), .int (zI (lo + 1 + (N : Int))), .long (zL (cuW (odN mI p) m lo cut i)), am_U, .int (zI (lo + 1 + (i : Int))), z], []) (fun q => q = (some (.long (zL (cuW (odN mI p) m lo cut N))), (am_sh n, mI, mL, am_mR n)))
  | 0, i, z, hi => by
    obtain rfl : i = N := by omega
    refine go_iload_7 iT_weightOfCut_8 ?_
    refine go_iload_4 iT_weightOfCut_10 ?_
    first | refine gn_ic_ge iT_weightOfCut_12 (by omega) (by omega) (fun c_12 => ?_) (fun c_12 => ?_) | refine gm_ic_ge iT_weightOfCut_12 (by omega) (by omega) (fun c_12 => ?_) (fun c_12 => ?_) | refine gi_ic_ge iT_weightOfCut_12 (by omega) (by omega) (fun c_12 => ?_) (fun c_12 => ?_) | refine go_ic_ge iT_weightOfCut_12 (fun c_12 => ?_) (fun c_12 => ?_)
    rotate_left
    · (first | omega | exact absurd c_12 (by decide) | (exfalso; simp (disch := omega) only [Int32.lt_iff_toInt_lt, Int32.le_iff_toInt_le, ← Int32.toInt_inj, nI_toInt, i32_m1, i32_0, i32_m20, i32_m40, i32_m30, i32_m9] at *; omega))
    refine go_lload_5 iT_weightOfCut_57 ?_
    refine go_lret iT_weightOfCut_59 rfl ?_
    rfl
  | l + 1, i, z, hi => by
    have h0 := rsZ_lt hm1 (lo + 1 + (i : Int))
    obtain ⟨r1, r2⟩ := ho (rsZ m (lo + 1 + (i : Int))) (by omega)
    have k1 := sk_play hp
    have k3 := mR_wins n hp
    have k5 := sh_wins hp
    have e1 : lo + 1 + (i : Int) + ((1 : Nat) : Int) = lo + 1 + ((i + 1 : Nat) : Int) := by omega
    by_cases c : lo + 1 + (i : Int) ≤ cut
    · have q1 := cuW_1 (o := odN mI p) (m := m) c
      refine go_iload_7 iT_weightOfCut_8 ?_
      refine go_iload_4 iT_weightOfCut_10 ?_
      first | refine gn_ic_ge iT_weightOfCut_12 (by omega) (by omega) (fun c_12 => ?_) (fun c_12 => ?_) | refine gm_ic_ge iT_weightOfCut_12 (by omega) (by omega) (fun c_12 => ?_) (fun c_12 => ?_) | refine gi_ic_ge iT_weightOfCut_12 (by omega) (by omega) (fun c_12 => ?_) (fun c_12 => ?_) | refine go_ic_ge iT_weightOfCut_12 (fun c_12 => ?_) (fun c_12 => ?_)
      · (first | omega | exact absurd c_12 (by decide) | (exfalso; simp (disch := omega) only [Int32.lt_iff_toInt_lt, Int32.le_iff_toInt_le, ← Int32.toInt_inj, nI_toInt, i32_m1, i32_0, i32_m20, i32_m40, i32_m30, i32_m9] at *; omega))
      refine go_aloadn_1 iT_weightOfCut_15 rfl ?_
      refine go_getR iT_weightOfCut_16 rfl (by assumption) (by assumption) ?_
      refine go_aloadn_0 iT_weightOfCut_19 rfl ?_
      refine go_iload_7 iT_weightOfCut_20 ?_
      refine gc_V1 iT_weightOfCut_22 rfl (by decide) (sk_0 _) rfl (Nat.le_of_ble_eq_true rfl) (Nat.le_of_ble_eq_true rfl) (by decide) (sp_T_restOf (by omega) hm1 hm3 hmT) ?_
      refine go_iald iT_weightOfCut_25 (by assumption) rfl (by omega) (by omega) ?_
      try simp (disch := omega) only [am_u_n, am_u_s, am_u_k, r1]
      refine go_istore_8 iT_weightOfCut_26 (by simp [Value.category, am_U]) ?_
      refine go_lload_5 iT_weightOfCut_28 ?_
      refine go_iload_7 iT_weightOfCut_30 ?_
      refine go_iloadn_3 iT_weightOfCut_32 ?_
      first | refine gn_ic_gt iT_weightOfCut_33 (by omega) (by omega) (fun c_33 => ?_) (fun c_33 => ?_) | refine gm_ic_gt iT_weightOfCut_33 (by omega) (by omega) (fun c_33 => ?_) (fun c_33 => ?_) | refine gi_ic_gt iT_weightOfCut_33 (by omega) (by omega) (fun c_33 => ?_) (fun c_33 => ?_) | refine go_ic_gt iT_weightOfCut_33 (fun c_33 => ?_) (fun c_33 => ?_)
      · (first | omega | exact absurd c_33 (by decide) | (exfalso; simp (disch := omega) only [Int32.lt_iff_toInt_lt, Int32.le_iff_toInt_le, ← Int32.toInt_inj, nI_toInt, i32_m1, i32_0, i32_m20, i32_m40, i32_m30, i32_m9] at *; omega))
      refine go_bipush (v := nI 12) iT_weightOfCut_36 (by decide) ?_
      refine go_iload_8 iT_weightOfCut_38 ?_
      first | refine gn_isub iT_weightOfCut_40 (by omega) ?_ | refine gm_isub iT_weightOfCut_40 ?_ | refine gi_isub iT_weightOfCut_40 ?_ | refine go_isub iT_weightOfCut_40 ?_
      first | refine gz_i2l iT_weightOfCut_41 (by omega) ?_ | refine gz_i2lI iT_weightOfCut_41 ?_
      refine go_goto iT_weightOfCut_42 ?_
      first | refine gz_lmul iT_weightOfCut_48 ?_ | refine go_lmul iT_weightOfCut_48 ?_
      rw [q1]
      refine go_lstore_5 iT_weightOfCut_49 (by simp [Value.category, am_U]) ?_
      first | refine go_iinc_7 iT_weightOfCut_51 (ni_inc _ 1) (by simp [Value.category, am_U]) ?_ | refine go_iinc_7 iT_weightOfCut_51 (zi_inc _ 1) (by simp [Value.category, am_U]) ?_
      refine go_goto iT_weightOfCut_54 ?_
      rw [e1]
      exact lo_T_cut hp hm1 hm3 hN hmT b1 b2 ho l (i + 1) _ (by omega)
    · have q1 := cuW_0 (o := odN mI p) (m := m) c
      refine go_iload_7 iT_weightOfCut_8 ?_
      refine go_iload_4 iT_weightOfCut_10 ?_
      first | refine gn_ic_ge iT_weightOfCut_12 (by omega) (by omega) (fun c_12 => ?_) (fun c_12 => ?_) | refine gm_ic_ge iT_weightOfCut_12 (by omega) (by omega) (fun c_12 => ?_) (fun c_12 => ?_) | refine gi_ic_ge iT_weightOfCut_12 (by omega) (by omega) (fun c_12 => ?_) (fun c_12 => ?_) | refine go_ic_ge iT_weightOfCut_12 (fun c_12 => ?_) (fun c_12 => ?_)
      · (first | omega | exact absurd c_12 (by decide) | (exfalso; simp (disch := omega) only [Int32.lt_iff_toInt_lt, Int32.le_iff_toInt_le, ← Int32.toInt_inj, nI_toInt, i32_m1, i32_0, i32_m20, i32_m40, i32_m30, i32_m9] at *; omega))
      refine go_aloadn_1 iT_weightOfCut_15 rfl ?_
      refine go_getR iT_weightOfCut_16 rfl (by assumption) (by assumption) ?_
      refine go_aloadn_0 iT_weightOfCut_19 rfl ?_
      refine go_iload_7 iT_weightOfCut_20 ?_
      refine gc_V1 iT_weightOfCut_22 rfl (by decide) (sk_0 _) rfl (Nat.le_of_ble_eq_true rfl) (Nat.le_of_ble_eq_true rfl) (by decide) (sp_T_restOf (by omega) hm1 hm3 hmT) ?_
      refine go_iald iT_weightOfCut_25 (by assumption) rfl (by omega) (by omega) ?_
      try simp (disch := omega) only [am_u_n, am_u_s, am_u_k, r1]
      refine go_istore_8 iT_weightOfCut_26 (by simp [Value.category, am_U]) ?_
      refine go_lload_5 iT_weightOfCut_28 ?_
      refine go_iload_7 iT_weightOfCut_30 ?_
      refine go_iloadn_3 iT_weightOfCut_32 ?_
      first | refine gn_ic_gt iT_weightOfCut_33 (by omega) (by omega) (fun c_33 => ?_) (fun c_33 => ?_) | refine gm_ic_gt iT_weightOfCut_33 (by omega) (by omega) (fun c_33 => ?_) (fun c_33 => ?_) | refine gi_ic_gt iT_weightOfCut_33 (by omega) (by omega) (fun c_33 => ?_) (fun c_33 => ?_) | refine go_ic_gt iT_weightOfCut_33 (fun c_33 => ?_) (fun c_33 => ?_)
      rotate_left
      · (first | omega | exact absurd c_33 (by decide) | (exfalso; simp (disch := omega) only [Int32.lt_iff_toInt_lt, Int32.le_iff_toInt_le, ← Int32.toInt_inj, nI_toInt, i32_m1, i32_0, i32_m20, i32_m40, i32_m30, i32_m9] at *; omega))
      refine go_iload_8 iT_weightOfCut_45 ?_
      first | refine gz_i2l iT_weightOfCut_47 (by omega) ?_ | refine gz_i2lI iT_weightOfCut_47 ?_
      first | refine gz_lmul iT_weightOfCut_48 ?_ | refine go_lmul iT_weightOfCut_48 ?_
      rw [q1]
      refine go_lstore_5 iT_weightOfCut_49 (by simp [Value.category, am_U]) ?_
      first | refine go_iinc_7 iT_weightOfCut_51 (ni_inc _ 1) (by simp [Value.category, am_U]) ?_ | refine go_iinc_7 iT_weightOfCut_51 (zi_inc _ 1) (by simp [Value.category, am_U]) ?_
      refine go_goto iT_weightOfCut_54 ?_
      rw [e1]
      exact lo_T_cut hp hm1 hm3 hN hmT b1 b2 ho l (i + 1) _ (by omega)
theorem sp_T_cut (hp : p < n) (hm1 : 1 ≤ m) (hm3 : m ≤ 3) (hN : N ≤ 8) (hmT : mI 0 0 = nI m) (b1 : -20 ≤ lo ∧ lo ≤ 20) (b2 : -20 ≤ cut ∧ cut ≤ 20) (ho : ∀ j, j < 4 → mI (61 + 2 * p) j = nI (odN mI p j) ∧ odN mI p j ≤ 12) : Sp S 2 tT_weightOfCut (am_sh n, mI, mL, am_mR n) [.ref 0, .ref (60 + 2 * p), .int (zI lo), .int (zI cut), .int (zI (lo + 1 + (N : Int)))] (fun q => q = (some (.long (zL (cuW (odN mI p) m lo cut N))), (am_sh n, mI, mL, am_mR n))) := by
  have e0 : lo + ((1 : Nat) : Int) = lo + 1 + ((0 : Nat) : Int) := by omega
  show Go _ _ tT_weightOfCut (_, 0, [.ref 0, .ref (60 + 2 * p), .int (zI lo), .int (zI cut), .int (zI (lo + 1 + (N : Int))), am_U, am_U, am_U, am_U], []) _
  refine go_lconst (v := zL 1) iT_weightOfCut_0 rfl ?_
  refine go_lstore_5 iT_weightOfCut_1 (by simp [Value.category, am_U]) ?_
  refine go_iloadn_2 iT_weightOfCut_3 ?_
  refine go_iconst (v := nI 1) iT_weightOfCut_4 rfl ?_
  first | refine gn_iadd iT_weightOfCut_5 ?_ | refine gm_iadd iT_weightOfCut_5 ?_ | refine gi_iadd iT_weightOfCut_5 ?_ | refine go_iadd iT_weightOfCut_5 ?_
  refine go_istore_7 iT_weightOfCut_6 (by simp [Value.category, am_U]) ?_
  rw [e0]
  exact lo_T_cut hp hm1 hm3 hN hmT b1 b2 ho N 0 _ (by omega)
theorem lo_T_ends (hp : p < n) (hm1 : 1 ≤ m) (hm3 : m ≤ 3) (hN : N ≤ 8) (hmT : mI 0 0 = nI m) (b1 : -20 ≤ lo) (b2 : lo + 1 + (N : Int) ≤ 20) (b3 : -20 ≤ pu ∧ pu ≤ 20) (ho : ∀ j, j < 4 → mI (61 + 2 * p) j = nI (odN mI p j) ∧ odN mI p j ≤ 12) {Q : Option Value × am_M → Prop} (kq : ∀ y z w, Go S 3 tT_ends ((am_sh n, mI, mL, am_mR n), 94, [.ref 0, .int (nI p), .int (zI lo), .int (zI pu), .int (zI (lo + 1 + (N : Int))), .ref (60 + 2 * p), .long (zL (cuR (odN mI p) m lo pu N (N + 1))), am_U, .long (zL (cuA (odN mI p) m lo N (N + 1))), am_U, w, y, z], []) Q) : ∀ l j (y z : Value), j + l = N + 1 → Go S 3 tT_ends ((am_sh n, mI, mL, am_mR n), 48, [.ref 0, .int (nI p), .int (zI lo), .int (zI pu), .int (zI (lo + 1 + (N : Int))), .ref (60 + 2 * p), .long (zL (cuR (odN mI p) m lo pu N j)), am_U, .long (zL (cuA (odN mI p) m lo N j)), am_U, .int (zI (lo + (j : Int))), y, z], []) Q
  | 0, j, y, z, hi => by
    obtain rfl : j = N + 1 := by omega
    refine go_iload_10 iT_ends_48 ?_
    refine go_iload_4 iT_ends_50 ?_
    first | refine gn_ic_ge iT_ends_52 (by omega) (by omega) (fun c_52 => ?_) (fun c_52 => ?_) | refine gm_ic_ge iT_ends_52 (by omega) (by omega) (fun c_52 => ?_) (fun c_52 => ?_) | refine gi_ic_ge iT_ends_52 (by omega) (by omega) (fun c_52 => ?_) (fun c_52 => ?_) | refine go_ic_ge iT_ends_52 (fun c_52 => ?_) (fun c_52 => ?_)
    rotate_left
    · (first | omega | exact absurd c_52 (by decide) | (exfalso; simp (disch := omega) only [Int32.lt_iff_toInt_lt, Int32.le_iff_toInt_le, ← Int32.toInt_inj, nI_toInt, i32_m1, i32_0, i32_m20, i32_m40, i32_m30, i32_m9] at *; omega))
    exact kq _ _ _
  | l + 1, j, y, z, hi => by
    have e1 : lo + (j : Int) + ((1 : Nat) : Int) = lo + ((j + 1 : Nat) : Int) := by omega
    by_cases c : lo + (j : Int) < pu
    · have q1 : cuR (odN mI p) m lo pu N j + cuW (odN mI p) m lo (lo + (j : Int)) N = cuR (odN mI p) m lo pu N (j + 1) := by simp only [cuR, c, if_true]
      refine go_iload_10 iT_ends_48 ?_
      refine go_iload_4 iT_ends_50 ?_
      first | refine gn_ic_ge iT_ends_52 (by omega) (by omega) (fun c_52 => ?_) (fun c_52 => ?_) | refine gm_ic_ge iT_ends_52 (by omega) (by omega) (fun c_52 => ?_) (fun c_52 => ?_) | refine gi_ic_ge iT_ends_52 (by omega) (by omega) (fun c_52 => ?_) (fun c_52 => ?_) | refine go_ic_ge iT_ends_52 (fun c_52 => ?_) (fun c_52 => ?_)
      · (first | omega | exact absurd c_52 (by decide) | (exfalso; simp (disch := omega) only [Int32.lt_iff_toInt_lt, Int32.le_iff_toInt_le, ← Int32.toInt_inj, nI_toInt, i32_m1, i32_0, i32_m20, i32_m40, i32_m30, i32_m9] at *; omega))
      refine go_aloadn_0 iT_ends_55 rfl ?_
      refine go_aload_5 iT_ends_56 rfl ?_
      refine go_iloadn_2 iT_ends_58 ?_
      refine go_iload_10 iT_ends_59 ?_
      refine go_iload_4 iT_ends_61 ?_
      refine gc_V1 iT_ends_63 rfl (by decide) (sk_0 _) rfl (Nat.le_of_ble_eq_true rfl) (Nat.le_of_ble_eq_true rfl) (by decide) (sp_T_cut hp hm1 hm3 hN hmT (by omega) (by omega) ho) ?_
      refine go_lstore_11 iT_ends_66 (by simp [Value.category, am_U]) ?_
      refine go_lload_8 iT_ends_68 ?_
      refine go_lload_11 iT_ends_70 ?_
      first | refine gz_ladd iT_ends_72 ?_ | refine go_ladd iT_ends_72 ?_
      refine go_lstore_8 iT_ends_73 (by simp [Value.category, am_U]) ?_
      refine go_iload_10 iT_ends_75 ?_
      refine go_iloadn_3 iT_ends_77 ?_
      first | refine gn_ic_ge iT_ends_78 (by omega) (by omega) (fun c_78 => ?_) (fun c_78 => ?_) | refine gm_ic_ge iT_ends_78 (by omega) (by omega) (fun c_78 => ?_) (fun c_78 => ?_) | refine gi_ic_ge iT_ends_78 (by omega) (by omega) (fun c_78 => ?_) (fun c_78 => ?_) | refine go_ic_ge iT_ends_78 (fun c_78 => ?_) (fun c_78 => ?_)
      · (first | omega | exact absurd c_78 (by decide) | (exfalso; simp (disch := omega) only [Int32.lt_iff_toInt_lt, Int32.le_iff_toInt_le, ← Int32.toInt_inj, nI_toInt, i32_m1, i32_0, i32_m20, i32_m40, i32_m30, i32_m9] at *; omega))
      refine go_lload_6 iT_ends_81 ?_
      refine go_lload_11 iT_ends_83 ?_
      first | refine gz_ladd iT_ends_85 ?_ | refine go_ladd iT_ends_85 ?_
      rw [q1]
      refine go_lstore_6 iT_ends_86 (by simp [Value.category, am_U]) ?_
      first | refine go_iinc_10 iT_ends_88 (ni_inc _ 1) (by simp [Value.category, am_U]) ?_ | refine go_iinc_10 iT_ends_88 (zi_inc _ 1) (by simp [Value.category, am_U]) ?_
      refine go_goto iT_ends_91 ?_
      rw [e1]
      exact lo_T_ends hp hm1 hm3 hN hmT b1 b2 b3 ho kq l (j + 1) _ _ (by omega)
    · have q1 : cuR (odN mI p) m lo pu N j = cuR (odN mI p) m lo pu N (j + 1) := by simp only [cuR, c, if_false, Int.add_zero]
      refine go_iload_10 iT_ends_48 ?_
      refine go_iload_4 iT_ends_50 ?_
      first | refine gn_ic_ge iT_ends_52 (by omega) (by omega) (fun c_52 => ?_) (fun c_52 => ?_) | refine gm_ic_ge iT_ends_52 (by omega) (by omega) (fun c_52 => ?_) (fun c_52 => ?_) | refine gi_ic_ge iT_ends_52 (by omega) (by omega) (fun c_52 => ?_) (fun c_52 => ?_) | refine go_ic_ge iT_ends_52 (fun c_52 => ?_) (fun c_52 => ?_)
      · (first | omega | exact absurd c_52 (by decide) | (exfalso; simp (disch := omega) only [Int32.lt_iff_toInt_lt, Int32.le_iff_toInt_le, ← Int32.toInt_inj, nI_toInt, i32_m1, i32_0, i32_m20, i32_m40, i32_m30, i32_m9] at *; omega))
      refine go_aloadn_0 iT_ends_55 rfl ?_
      refine go_aload_5 iT_ends_56 rfl ?_
      refine go_iloadn_2 iT_ends_58 ?_
      refine go_iload_10 iT_ends_59 ?_
      refine go_iload_4 iT_ends_61 ?_
      refine gc_V1 iT_ends_63 rfl (by decide) (sk_0 _) rfl (Nat.le_of_ble_eq_true rfl) (Nat.le_of_ble_eq_true rfl) (by decide) (sp_T_cut hp hm1 hm3 hN hmT (by omega) (by omega) ho) ?_
      refine go_lstore_11 iT_ends_66 (by simp [Value.category, am_U]) ?_
      refine go_lload_8 iT_ends_68 ?_
      refine go_lload_11 iT_ends_70 ?_
      first | refine gz_ladd iT_ends_72 ?_ | refine go_ladd iT_ends_72 ?_
      refine go_lstore_8 iT_ends_73 (by simp [Value.category, am_U]) ?_
      refine go_iload_10 iT_ends_75 ?_
      refine go_iloadn_3 iT_ends_77 ?_
      first | refine gn_ic_ge iT_ends_78 (by omega) (by omega) (fun c_78 => ?_) (fun c_78 => ?_) | refine gm_ic_ge iT_ends_78 (by omega) (by omega) (fun c_78 => ?_) (fun c_78 => ?_) | refine gi_ic_ge iT_ends_78 (by omega) (by omega) (fun c_78 => ?_) (fun c_78 => ?_) | refine go_ic_ge iT_ends_78 (fun c_78 => ?_) (fun c_78 => ?_)
      rotate_left
      · (first | omega | exact absurd c_78 (by decide) | (exfalso; simp (disch := omega) only [Int32.lt_iff_toInt_lt, Int32.le_iff_toInt_le, ← Int32.toInt_inj, nI_toInt, i32_m1, i32_0, i32_m20, i32_m40, i32_m30, i32_m9] at *; omega))
      first | refine go_iinc_10 iT_ends_88 (ni_inc _ 1) (by simp [Value.category, am_U]) ?_ | refine go_iinc_10 iT_ends_88 (zi_inc _ 1) (by simp [Value.category, am_U]) ?_
      refine go_goto iT_ends_91 ?_
      rw [e1, q1]
      exact lo_T_ends hp hm1 hm3 hN hmT b1 b2 b3 ho kq l (j + 1) _ _ (by omega)
theorem lo_M_cut (hp : p < 8) (hm1 : 1 ≤ m) (hm3 : m ≤ 3) (hN : N ≤ 8) (hmM : mI 43 4 = nI m) (b1 : -20 ≤ lo ∧ lo ≤ 20) (b2 : -20 ≤ cut ∧ cut ≤ 20) {o : Nat → Nat} (ho : ∀ j, j < 3 → mI 46 (4 * p + j) = nI (o j) ∧ o j ≤ 12) {v2 v3 x3 x5 x7 : Value} {Q : Option Value × am_M → Prop} (kq : ∀ z, Go S 2 tM_ends ((am_sh n, mI, mL, am_mR n), 159, [.ref 43, .int (nI p), .int (zI lo), x3, .int (zI (lo + 1 + (N : Int))), x5, v2, x7, v3, .int (zI cut), .long (zL (cuW o m lo cut N)), am_U, .int (zI (lo + 1 + (N : Int))), z], []) Q) : ∀ l i (z : Value), i + l = N → Go S 2 tM_ends ((am_sh n, mI, mL, am_mR n), 105, [.ref 43, .int (nI p), .int (zI lo), x3, .int (zI (lo + 1 + (N : Int))), x5, v2, x7, v3, .int (zI cut), .long (zL (cuW o m lo cut i)), am_U, .int (zI (lo + 1 + (i : Int))), z], []) Q
  | 0, i, z, hi => by
    obtain rfl : i = N := by omega
    refine go_iload_12 iM_ends_105 ?_
    refine go_iload_4 iM_ends_107 ?_
    first | refine gn_ic_ge iM_ends_109 (by omega) (by omega) (fun c_109 => ?_) (fun c_109 => ?_) | refine gm_ic_ge iM_ends_109 (by omega) (by omega) (fun c_109 => ?_) (fun c_109 => ?_) | refine gi_ic_ge iM_ends_109 (by omega) (by omega) (fun c_109 => ?_) (fun c_109 => ?_) | refine go_ic_ge iM_ends_109 (fun c_109 => ?_) (fun c_109 => ?_)
    rotate_left
    · (first | omega | exact absurd c_109 (by decide) | (exfalso; simp (disch := omega) only [Int32.lt_iff_toInt_lt, Int32.le_iff_toInt_le, ← Int32.toInt_inj, nI_toInt, i32_m1, i32_0, i32_m20, i32_m40, i32_m30, i32_m9] at *; omega))
    exact kq _
  | l + 1, i, z, hi => by
    have h0 := rsZ_lt hm1 (lo + 1 + (i : Int))
    obtain ⟨r1, r2⟩ := ho (rsZ m (lo + 1 + (i : Int))) (by omega)
    have e1 : lo + 1 + (i : Int) + ((1 : Nat) : Int) = lo + 1 + ((i + 1 : Nat) : Int) := by omega
    have hA := sh_46 n
    by_cases c : lo + 1 + (i : Int) ≤ cut
    · have q1 := cuW_1 (o := o) (m := m) c
      refine go_iload_12 iM_ends_105 ?_
      refine go_iload_4 iM_ends_107 ?_
      first | refine gn_ic_ge iM_ends_109 (by omega) (by omega) (fun c_109 => ?_) (fun c_109 => ?_) | refine gm_ic_ge iM_ends_109 (by omega) (by omega) (fun c_109 => ?_) (fun c_109 => ?_) | refine gi_ic_ge iM_ends_109 (by omega) (by omega) (fun c_109 => ?_) (fun c_109 => ?_) | refine go_ic_ge iM_ends_109 (fun c_109 => ?_) (fun c_109 => ?_)
      · (first | omega | exact absurd c_109 (by decide) | (exfalso; simp (disch := omega) only [Int32.lt_iff_toInt_lt, Int32.le_iff_toInt_le, ← Int32.toInt_inj, nI_toInt, i32_m1, i32_0, i32_m20, i32_m40, i32_m30, i32_m9] at *; omega))
      refine go_aloadn_0 iM_ends_112 rfl ?_
      refine go_getR iM_ends_113 rfl (sk_43 _) (mR_43_7 _) ?_
      refine go_iconst (v := nI 4) iM_ends_116 rfl ?_
      refine go_iloadn_1 iM_ends_117 ?_
      first | refine gn_imul iM_ends_118 ?_ | refine go_imul iM_ends_118 ?_
      refine go_aloadn_0 iM_ends_119 rfl ?_
      refine go_iload_12 iM_ends_120 ?_
      refine gc_V1 iM_ends_122 rfl (by decide) (sk_43 _) rfl (Nat.le_of_ble_eq_true rfl) (Nat.le_of_ble_eq_true rfl) (by decide) (sp_M_restOf (by omega) hm1 hm3 hmM) ?_
      first | refine gn_iadd iM_ends_125 ?_ | refine gm_iadd iM_ends_125 ?_ | refine gi_iadd iM_ends_125 ?_ | refine go_iadd iM_ends_125 ?_
      refine go_iald iM_ends_126 (by assumption) rfl (by omega) (by omega) ?_
      try simp (disch := omega) only [am_u_n, am_u_s, am_u_k, r1]
      refine go_istore_13 iM_ends_127 (by simp [Value.category, am_U]) ?_
      refine go_lload_10 iM_ends_129 ?_
      refine go_iload_12 iM_ends_131 ?_
      refine go_iload_9 iM_ends_133 ?_
      first | refine gn_ic_gt iM_ends_135 (by omega) (by omega) (fun c_135 => ?_) (fun c_135 => ?_) | refine gm_ic_gt iM_ends_135 (by omega) (by omega) (fun c_135 => ?_) (fun c_135 => ?_) | refine gi_ic_gt iM_ends_135 (by omega) (by omega) (fun c_135 => ?_) (fun c_135 => ?_) | refine go_ic_gt iM_ends_135 (fun c_135 => ?_) (fun c_135 => ?_)
      · (first | omega | exact absurd c_135 (by decide) | (exfalso; simp (disch := omega) only [Int32.lt_iff_toInt_lt, Int32.le_iff_toInt_le, ← Int32.toInt_inj, nI_toInt, i32_m1, i32_0, i32_m20, i32_m40, i32_m30, i32_m9] at *; omega))
      refine go_bipush (v := nI 12) iM_ends_138 (by decide) ?_
      refine go_iload_13 iM_ends_140 ?_
      first | refine gn_isub iM_ends_142 (by omega) ?_ | refine gm_isub iM_ends_142 ?_ | refine gi_isub iM_ends_142 ?_ | refine go_isub iM_ends_142 ?_
      first | refine gz_i2l iM_ends_143 (by omega) ?_ | refine gz_i2lI iM_ends_143 ?_
      refine go_goto iM_ends_144 ?_
      first | refine gz_lmul iM_ends_150 ?_ | refine go_lmul iM_ends_150 ?_
      rw [q1]
      refine go_lstore_10 iM_ends_151 (by simp [Value.category, am_U]) ?_
      first | refine go_iinc_12 iM_ends_153 (ni_inc _ 1) (by simp [Value.category, am_U]) ?_ | refine go_iinc_12 iM_ends_153 (zi_inc _ 1) (by simp [Value.category, am_U]) ?_
      refine go_goto iM_ends_156 ?_
      rw [e1]
      exact lo_M_cut hp hm1 hm3 hN hmM b1 b2 ho kq l (i + 1) _ (by omega)
    · have q1 := cuW_0 (o := o) (m := m) c
      refine go_iload_12 iM_ends_105 ?_
      refine go_iload_4 iM_ends_107 ?_
      first | refine gn_ic_ge iM_ends_109 (by omega) (by omega) (fun c_109 => ?_) (fun c_109 => ?_) | refine gm_ic_ge iM_ends_109 (by omega) (by omega) (fun c_109 => ?_) (fun c_109 => ?_) | refine gi_ic_ge iM_ends_109 (by omega) (by omega) (fun c_109 => ?_) (fun c_109 => ?_) | refine go_ic_ge iM_ends_109 (fun c_109 => ?_) (fun c_109 => ?_)
      · (first | omega | exact absurd c_109 (by decide) | (exfalso; simp (disch := omega) only [Int32.lt_iff_toInt_lt, Int32.le_iff_toInt_le, ← Int32.toInt_inj, nI_toInt, i32_m1, i32_0, i32_m20, i32_m40, i32_m30, i32_m9] at *; omega))
      refine go_aloadn_0 iM_ends_112 rfl ?_
      refine go_getR iM_ends_113 rfl (sk_43 _) (mR_43_7 _) ?_
      refine go_iconst (v := nI 4) iM_ends_116 rfl ?_
      refine go_iloadn_1 iM_ends_117 ?_
      first | refine gn_imul iM_ends_118 ?_ | refine go_imul iM_ends_118 ?_
      refine go_aloadn_0 iM_ends_119 rfl ?_
      refine go_iload_12 iM_ends_120 ?_
      refine gc_V1 iM_ends_122 rfl (by decide) (sk_43 _) rfl (Nat.le_of_ble_eq_true rfl) (Nat.le_of_ble_eq_true rfl) (by decide) (sp_M_restOf (by omega) hm1 hm3 hmM) ?_
      first | refine gn_iadd iM_ends_125 ?_ | refine gm_iadd iM_ends_125 ?_ | refine gi_iadd iM_ends_125 ?_ | refine go_iadd iM_ends_125 ?_
      refine go_iald iM_ends_126 (by assumption) rfl (by omega) (by omega) ?_
      try simp (disch := omega) only [am_u_n, am_u_s, am_u_k, r1]
      refine go_istore_13 iM_ends_127 (by simp [Value.category, am_U]) ?_
      refine go_lload_10 iM_ends_129 ?_
      refine go_iload_12 iM_ends_131 ?_
      refine go_iload_9 iM_ends_133 ?_
      first | refine gn_ic_gt iM_ends_135 (by omega) (by omega) (fun c_135 => ?_) (fun c_135 => ?_) | refine gm_ic_gt iM_ends_135 (by omega) (by omega) (fun c_135 => ?_) (fun c_135 => ?_) | refine gi_ic_gt iM_ends_135 (by omega) (by omega) (fun c_135 => ?_) (fun c_135 => ?_) | refine go_ic_gt iM_ends_135 (fun c_135 => ?_) (fun c_135 => ?_)
      rotate_left
      · (first | omega | exact absurd c_135 (by decide) | (exfalso; simp (disch := omega) only [Int32.lt_iff_toInt_lt, Int32.le_iff_toInt_le, ← Int32.toInt_inj, nI_toInt, i32_m1, i32_0, i32_m20, i32_m40, i32_m30, i32_m9] at *; omega))
      refine go_iload_13 iM_ends_147 ?_
      first | refine gz_i2l iM_ends_149 (by omega) ?_ | refine gz_i2lI iM_ends_149 ?_
      first | refine gz_lmul iM_ends_150 ?_ | refine go_lmul iM_ends_150 ?_
      rw [q1]
      refine go_lstore_10 iM_ends_151 (by simp [Value.category, am_U]) ?_
      first | refine go_iinc_12 iM_ends_153 (ni_inc _ 1) (by simp [Value.category, am_U]) ?_ | refine go_iinc_12 iM_ends_153 (zi_inc _ 1) (by simp [Value.category, am_U]) ?_
      refine go_goto iM_ends_156 ?_
      rw [e1]
      exact lo_M_cut hp hm1 hm3 hN hmM b1 b2 ho kq l (i + 1) _ (by omega)
theorem lo_M_ends (hp : p < 8) (hm1 : 1 ≤ m) (hm3 : m ≤ 3) (hN : N ≤ 8) (hmM : mI 43 4 = nI m) (b1 : -20 ≤ lo) (b2 : lo + 1 + (N : Int) ≤ 20) (b3 : -20 ≤ pu ∧ pu ≤ 20) {o : Nat → Nat} (ho : ∀ j, j < 3 → mI 46 (4 * p + j) = nI (o j) ∧ o j ≤ 12) {Q : Option Value × am_M → Prop} (kq : ∀ w y1 y2 y3 y4, Go S 2 tM_ends ((am_sh n, mI, mL, am_mR n), 189, [.ref 43, .int (nI p), .int (zI lo), .int (zI pu), .int (zI (lo + 1 + (N : Int))), .long (zL (cuR o m lo pu N (N + 1))), am_U, .long (zL (cuA o m lo N (N + 1))), am_U, w, y1, y2, y3, y4], []) Q) : ∀ l j (y1 y2 y3 y4 : Value), j + l = N + 1 → Go S 2 tM_ends ((am_sh n, mI, mL, am_mR n), 90, [.ref 43, .int (nI p), .int (zI lo), .int (zI pu), .int (zI (lo + 1 + (N : Int))), .long (zL (cuR o m lo pu N j)), am_U, .long (zL (cuA o m lo N j)), am_U, .int (zI (lo + (j : Int))), y1, y2, y3, y4], []) Q
  | 0, j, y1, y2, y3, y4, hi => by
    obtain rfl : j = N + 1 := by omega
    refine go_iload_9 iM_ends_90 ?_
    refine go_iload_4 iM_ends_92 ?_
    first | refine gn_ic_ge iM_ends_94 (by omega) (by omega) (fun c_94 => ?_) (fun c_94 => ?_) | refine gm_ic_ge iM_ends_94 (by omega) (by omega) (fun c_94 => ?_) (fun c_94 => ?_) | refine gi_ic_ge iM_ends_94 (by omega) (by omega) (fun c_94 => ?_) (fun c_94 => ?_) | refine go_ic_ge iM_ends_94 (fun c_94 => ?_) (fun c_94 => ?_)
    rotate_left
    · (first | omega | exact absurd c_94 (by decide) | (exfalso; simp (disch := omega) only [Int32.lt_iff_toInt_lt, Int32.le_iff_toInt_le, ← Int32.toInt_inj, nI_toInt, i32_m1, i32_0, i32_m20, i32_m40, i32_m30, i32_m9] at *; omega))
    exact kq _ _ _ _ _
  | l + 1, j, y1, y2, y3, y4, hi => by
    have e0 : lo + ((1 : Nat) : Int) = lo + 1 + ((0 : Nat) : Int) := by omega
    have e1 : lo + (j : Int) + ((1 : Nat) : Int) = lo + ((j + 1 : Nat) : Int) := by omega
    refine go_iload_9 iM_ends_90 ?_
    refine go_iload_4 iM_ends_92 ?_
    first | refine gn_ic_ge iM_ends_94 (by omega) (by omega) (fun c_94 => ?_) (fun c_94 => ?_) | refine gm_ic_ge iM_ends_94 (by omega) (by omega) (fun c_94 => ?_) (fun c_94 => ?_) | refine gi_ic_ge iM_ends_94 (by omega) (by omega) (fun c_94 => ?_) (fun c_94 => ?_) | refine go_ic_ge iM_ends_94 (fun c_94 => ?_) (fun c_94 => ?_)
    · (first | omega | exact absurd c_94 (by decide) | (exfalso; simp (disch := omega) only [Int32.lt_iff_toInt_lt, Int32.le_iff_toInt_le, ← Int32.toInt_inj, nI_toInt, i32_m1, i32_0, i32_m20, i32_m40, i32_m30, i32_m9] at *; omega))
    refine go_lconst (v := zL 1) iM_ends_97 rfl ?_
    refine go_lstore_10 iM_ends_98 (by simp [Value.category, am_U]) ?_
    refine go_iloadn_2 iM_ends_100 ?_
    refine go_iconst (v := nI 1) iM_ends_101 rfl ?_
    first | refine gn_iadd iM_ends_102 ?_ | refine gm_iadd iM_ends_102 ?_ | refine gi_iadd iM_ends_102 ?_ | refine go_iadd iM_ends_102 ?_
    refine go_istore_12 iM_ends_103 (by simp [Value.category, am_U]) ?_
    rw [e0]
    refine lo_M_cut hp hm1 hm3 hN hmM (by omega) (by omega) ho (fun z => ?_) N 0 _ (by omega)
    by_cases c : lo + (j : Int) < pu
    · have q1 : cuR o m lo pu N j + cuW o m lo (lo + (j : Int)) N = cuR o m lo pu N (j + 1) := by simp only [cuR, c, if_true]
      refine go_lload_7 iM_ends_159 ?_
      refine go_lload_10 iM_ends_161 ?_
      first | refine gz_ladd iM_ends_163 ?_ | refine go_ladd iM_ends_163 ?_
      refine go_lstore_7 iM_ends_164 (by simp [Value.category, am_U]) ?_
      refine go_lload_5 iM_ends_166 ?_
      refine go_iload_9 iM_ends_168 ?_
      refine go_iloadn_3 iM_ends_170 ?_
      first | refine gn_ic_ge iM_ends_171 (by omega) (by omega) (fun c_171 => ?_) (fun c_171 => ?_) | refine gm_ic_ge iM_ends_171 (by omega) (by omega) (fun c_171 => ?_) (fun c_171 => ?_) | refine gi_ic_ge iM_ends_171 (by omega) (by omega) (fun c_171 => ?_) (fun c_171 => ?_) | refine go_ic_ge iM_ends_171 (fun c_171 => ?_) (fun c_171 => ?_)
      · (first | omega | exact absurd c_171 (by decide) | (exfalso; simp (disch := omega) only [Int32.lt_iff_toInt_lt, Int32.le_iff_toInt_le, ← Int32.toInt_inj, nI_toInt, i32_m1, i32_0, i32_m20, i32_m40, i32_m30, i32_m9] at *; omega))
      refine go_lload_10 iM_ends_174 ?_
      refine go_goto iM_ends_176 ?_
      first | refine gz_ladd iM_ends_180 ?_ | refine go_ladd iM_ends_180 ?_
      rw [q1]
      refine go_lstore_5 iM_ends_181 (by simp [Value.category, am_U]) ?_
      first | refine go_iinc_9 iM_ends_183 (ni_inc _ 1) (by simp [Value.category, am_U]) ?_ | refine go_iinc_9 iM_ends_183 (zi_inc _ 1) (by simp [Value.category, am_U]) ?_
      refine go_goto iM_ends_186 ?_
      rw [e1]
      exact lo_M_ends hp hm1 hm3 hN hmM b1 b2 b3 ho kq l (j + 1) _ _ _ _ (by omega)
    · have q1 : cuR o m lo pu N j + 0 = cuR o m lo pu N (j + 1) := by simp only [cuR, c, if_false, Int.add_zero]
      refine go_lload_7 iM_ends_159 ?_
      refine go_lload_10 iM_ends_161 ?_
      first | refine gz_ladd iM_ends_163 ?_ | refine go_ladd iM_ends_163 ?_
      refine go_lstore_7 iM_ends_164 (by simp [Value.category, am_U]) ?_
      refine go_lload_5 iM_ends_166 ?_
      refine go_iload_9 iM_ends_168 ?_
      refine go_iloadn_3 iM_ends_170 ?_
      first | refine gn_ic_ge iM_ends_171 (by omega) (by omega) (fun c_171 => ?_) (fun c_171 => ?_) | refine gm_ic_ge iM_ends_171 (by omega) (by omega) (fun c_171 => ?_) (fun c_171 => ?_) | refine gi_ic_ge iM_ends_171 (by omega) (by omega) (fun c_171 => ?_) (fun c_171 => ?_) | refine go_ic_ge iM_ends_171 (fun c_171 => ?_) (fun c_171 => ?_)
      rotate_left
      · (first | omega | exact absurd c_171 (by decide) | (exfalso; simp (disch := omega) only [Int32.lt_iff_toInt_lt, Int32.le_iff_toInt_le, ← Int32.toInt_inj, nI_toInt, i32_m1, i32_0, i32_m20, i32_m40, i32_m30, i32_m9] at *; omega))
      refine go_lconst (v := zL 0) iM_ends_179 rfl ?_
      first | refine gz_ladd iM_ends_180 ?_ | refine go_ladd iM_ends_180 ?_
      rw [q1]
      refine go_lstore_5 iM_ends_181 (by simp [Value.category, am_U]) ?_
      first | refine go_iinc_9 iM_ends_183 (ni_inc _ 1) (by simp [Value.category, am_U]) ?_ | refine go_iinc_9 iM_ends_183 (zi_inc _ 1) (by simp [Value.category, am_U]) ?_
      refine go_goto iM_ends_186 ?_
      rw [e1]
      exact lo_M_ends hp hm1 hm3 hN hmM b1 b2 b3 ho kq l (j + 1) _ _ _ _ (by omega)
theorem lo_T_ends0 (hp : p < n) (hm1 : 1 ≤ m) (hm3 : m ≤ 3) (hN : N ≤ 8) (hmT : mI 0 0 = nI m) (b1 : -20 ≤ lo) (b2 : lo + 1 + (N : Int) ≤ 20) (b3 : -20 ≤ pu ∧ pu ≤ 20) (ho : ∀ j, j < 4 → mI (61 + 2 * p) j = nI (odN mI p j) ∧ odN mI p j ≤ 12) {Q : Option Value × am_M → Prop} (kq : ∀ y z w, Go S 3 tT_ends ((am_sh n, mI, mL, am_mR n), 94, [.ref 0, .int (nI p), .int (zI lo), .int (zI pu), .int (zI (lo + 1 + (N : Int))), .ref (60 + 2 * p), .long (zL (cuR (odN mI p) m lo pu N (N + 1))), am_U, .long (zL (cuA (odN mI p) m lo N (N + 1))), am_U, w, y, z], []) Q) (y z : Value) : Go S 3 tT_ends ((am_sh n, mI, mL, am_mR n), 48, [.ref 0, .int (nI p), .int (zI lo), .int (zI pu), .int (zI (lo + 1 + (N : Int))), .ref (60 + 2 * p), .long (zL 0), am_U, .long (zL 0), am_U, .int (zI lo), y, z], []) Q := by
  have h := lo_T_ends hp hm1 hm3 hN hmT b1 b2 b3 ho kq (N + 1) 0 y z (by omega)
  rw [show lo + ((0 : Nat) : Int) = lo by omega] at h
  exact h
theorem lo_M_ends0 (hp : p < 8) (hm1 : 1 ≤ m) (hm3 : m ≤ 3) (hN : N ≤ 8) (hmM : mI 43 4 = nI m) (b1 : -20 ≤ lo) (b2 : lo + 1 + (N : Int) ≤ 20) (b3 : -20 ≤ pu ∧ pu ≤ 20) {o : Nat → Nat} (ho : ∀ j, j < 3 → mI 46 (4 * p + j) = nI (o j) ∧ o j ≤ 12) {Q : Option Value × am_M → Prop} (kq : ∀ w y1 y2 y3 y4, Go S 2 tM_ends ((am_sh n, mI, mL, am_mR n), 189, [.ref 43, .int (nI p), .int (zI lo), .int (zI pu), .int (zI (lo + 1 + (N : Int))), .long (zL (cuR o m lo pu N (N + 1))), am_U, .long (zL (cuA o m lo N (N + 1))), am_U, w, y1, y2, y3, y4], []) Q) (y1 y2 y3 y4 : Value) : Go S 2 tM_ends ((am_sh n, mI, mL, am_mR n), 90, [.ref 43, .int (nI p), .int (zI lo), .int (zI pu), .int (zI (lo + 1 + (N : Int))), .long (zL 0), am_U, .long (zL 0), am_U, .int (zI lo), y1, y2, y3, y4], []) Q := by
  have h := lo_M_ends hp hm1 hm3 hN hmM b1 b2 b3 ho kq (N + 1) 0 y1 y2 y3 y4 (by omega)
  rw [show lo + ((0 : Nat) : Int) = lo by omega] at h
  exact h
theorem pr_ends (x y z e : Int32) (hR : Rel n mI mL) : Pair S tT_ends tM_ends [.int x, .int y, .int z, .int e] n mI mL := by
  have hR0 := hR
  obtain ⟨h8, ⟨m, hm1, hm3, hmT, hmM⟩, hcT, hcM, hpl, hro, hfi, hfs, hu, hl, hch⟩ := hR
  obtain ⟨lo, b1, rfl⟩ := zI_ex y
  obtain ⟨pu, b2, rfl⟩ := zI_ex z
  obtain ⟨hi, b3, rfl⟩ := zI_ex e
  rcases pl_cases x n h8 with ⟨p, hp, rfl⟩ | hx
  · have kp := sk_play hp
    by_cases c : -20 ≤ lo ∧ hi ≤ 20 ∧ lo < pu ∧ pu < hi ∧ hi - lo ≤ 9
    · obtain ⟨c1, c2, c3, c4, c5⟩ := c
      obtain ⟨N, hN, hh⟩ : ∃ N : Nat, N ≤ 8 ∧ hi = lo + 1 + (N : Int) := ⟨(hi - lo - 1).toNat, by omega, by omega⟩
      subst hh
      obtain ⟨kd, hkd, hkT, hkM, hsz, hw, ho, ho3⟩ := hpl p hp
      have hod := odN_ok (hpl p hp)
      by_cases ck : kd = 1 ∨ kd = 3
      · have hb := cuA_le (lo := lo) (pu := pu) (o := odN mI p) hm1 hm3 hN (fun j hj => (hod.1 j (by omega)).2) (N + 1)
        have hb2 : cuA (odN mI p) m lo N (N + 1) ≤ 3869835264 := by omega
        have ho2 : ∀ j, j < 3 → mI 46 (4 * p + j) = nI (odN mI p j) ∧ odN mI p j ≤ 12 := fun j hj => ⟨hod.2 j hj, (hod.1 j (by omega)).2⟩
        by_cases c0 : cuA (odN mI p) m lo N (N + 1) = 0
        · refine Pair.same (h1 := 3) (h2 := 2) (v := .int (-4)) hR0 ?_ ?_
          · show Go _ _ tT_ends (_, 0, [.ref 0, .int (nI p), .int (zI lo), .int (zI pu), .int (zI (lo + 1 + (N : Int))), am_U, am_U, am_U, am_U, am_U, am_U, am_U, am_U], []) _
            refine go_aloadn_0 iT_ends_0 rfl ?_
            refine go_iloadn_1 iT_ends_1 ?_
            refine gc_V1 iT_ends_2 rfl (by decide) (sk_0 _) rfl (Nat.le_of_ble_eq_true rfl) (Nat.le_of_ble_eq_true rfl) (by decide) (sp_T_playAt_t h8 hcT hp) ?_
            refine go_astore_5 iT_ends_5 rfl (by simp [Value.category, am_U]) ?_
            refine go_aload_5 iT_ends_7 rfl ?_
            refine go_nulR iT_ends_9 ?_
            refine go_iloadn_2 iT_ends_12 ?_
            refine go_iloadn_3 iT_ends_13 ?_
            refine go_iload_4 iT_ends_14 ?_
            refine gc_S1 iT_ends_16 (by decide) rfl rfl (Nat.le_of_ble_eq_true rfl) (Nat.le_of_ble_eq_true rfl) (by decide) (sp_T_areEnds_t c1 c2 c3 c4 c5) ?_
            refine go_if_ne iT_ends_19 (fun c_19 => ?_) (fun c_19 => ?_)
            rotate_left
            · (first | omega | exact absurd c_19 (by decide) | (exfalso; simp (disch := omega) only [Int32.lt_iff_toInt_lt, Int32.le_iff_toInt_le, ← Int32.toInt_inj, nI_toInt, i32_m1, i32_0, i32_m20, i32_m40, i32_m30, i32_m9] at *; omega))
            refine go_aload_5 iT_ends_24 rfl ?_
            refine go_iconst (v := nI 1) iT_ends_26 rfl ?_
            refine gc_V1 iT_ends_27 rfl (by decide) (by assumption) rfl (Nat.le_of_ble_eq_true rfl) (Nat.le_of_ble_eq_true rfl) (by decide) (sp_P_isOf_t hp hkT hkd (by omega) (by omega)) ?_
            refine go_if_ne iT_ends_30 (fun c_30 => ?_) (fun c_30 => ?_)
            rotate_left
            · (first | omega | exact absurd c_30 (by decide) | (exfalso; simp (disch := omega) only [Int32.lt_iff_toInt_lt, Int32.le_iff_toInt_le, ← Int32.toInt_inj, nI_toInt, i32_m1, i32_0, i32_m20, i32_m40, i32_m30, i32_m9] at *; omega))
            refine go_lconst (v := zL 0) iT_ends_39 rfl ?_
            refine go_lstore_6 iT_ends_40 (by simp [Value.category, am_U]) ?_
            refine go_lconst (v := zL 0) iT_ends_42 rfl ?_
            refine go_lstore_8 iT_ends_43 (by simp [Value.category, am_U]) ?_
            refine go_iloadn_2 iT_ends_45 ?_
            refine go_istore_10 iT_ends_46 (by simp [Value.category, am_U]) ?_
            refine lo_T_ends0 hp hm1 hm3 hN hmT c1 c2 (by omega) hod.1 (fun y z w => ?_) _ _
            refine go_lload_8 iT_ends_94 ?_
            refine go_lconst (v := zL 0) iT_ends_96 rfl ?_
            refine gz_lc_ne iT_ends_97 iT_ends_98 (by omega) (by omega) (fun c_97 => ?_) (fun c_97 => ?_)
            · (first | omega | exact absurd c_97 (by decide) | (exfalso; simp (disch := omega) only [Int32.lt_iff_toInt_lt, Int32.le_iff_toInt_le, ← Int32.toInt_inj, nI_toInt, i32_m1, i32_0, i32_m20, i32_m40, i32_m30, i32_m9] at *; omega))
            refine go_bipush (v := (-4)) iT_ends_101 (by decide) ?_
            refine go_iret iT_ends_103 rfl ?_
            rfl
          · show Go _ _ tM_ends (_, 0, [.ref 43, .int (nI p), .int (zI lo), .int (zI pu), .int (zI (lo + 1 + (N : Int))), am_U, am_U, am_U, am_U, am_U, am_U, am_U, am_U, am_U], []) _
            rcases ck with ck | ck
            · refine go_aloadn_0 iM_ends_0 rfl ?_
              refine go_iloadn_1 iM_ends_1 ?_
              refine gc_V1 iM_ends_2 rfl (by decide) (sk_43 _) rfl (Nat.le_of_ble_eq_true rfl) (Nat.le_of_ble_eq_true rfl) (by decide) (sp_M_isPlay_t h8 hcM hp) ?_
              refine go_if_eq iM_ends_5 (fun c_5 => ?_) (fun c_5 => ?_)
              · (first | omega | exact absurd c_5 (by decide) | (exfalso; simp (disch := omega) only [Int32.lt_iff_toInt_lt, Int32.le_iff_toInt_le, ← Int32.toInt_inj, nI_toInt, i32_m1, i32_0, i32_m20, i32_m40, i32_m30, i32_m9] at *; omega))
              refine go_iloadn_2 iM_ends_8 ?_
              refine go_bipush (v := (-20)) iM_ends_9 (by decide) ?_
              refine go_bipush (v := nI 20) iM_ends_11 (by decide) ?_
              refine gc_S1 iM_ends_13 (by decide) rfl rfl (Nat.le_of_ble_eq_true rfl) (Nat.le_of_ble_eq_true rfl) (by decide) (sp_M_in_t (by simp (disch := omega) only [nI_toInt, zI_toInt, i32_m20, i32_m40, i32_m30, i32_0, i32_m1]; omega) (by simp (disch := omega) only [nI_toInt, zI_toInt, i32_m20, i32_m40, i32_m30, i32_0, i32_m1]; omega)) ?_
              refine go_if_eq iM_ends_16 (fun c_16 => ?_) (fun c_16 => ?_)
              · (first | omega | exact absurd c_16 (by decide) | (exfalso; simp (disch := omega) only [Int32.lt_iff_toInt_lt, Int32.le_iff_toInt_le, ← Int32.toInt_inj, nI_toInt, i32_m1, i32_0, i32_m20, i32_m40, i32_m30, i32_m9] at *; omega))
              refine go_iloadn_3 iM_ends_19 ?_
              refine go_iloadn_2 iM_ends_20 ?_
              refine go_iconst (v := nI 1) iM_ends_21 rfl ?_
              first | refine gn_iadd iM_ends_22 ?_ | refine gm_iadd iM_ends_22 ?_ | refine gi_iadd iM_ends_22 ?_ | refine go_iadd iM_ends_22 ?_
              refine go_bipush (v := nI 20) iM_ends_23 (by decide) ?_
              refine gc_S1 iM_ends_25 (by decide) rfl rfl (Nat.le_of_ble_eq_true rfl) (Nat.le_of_ble_eq_true rfl) (by decide) (sp_M_in_t (by simp (disch := omega) only [nI_toInt, zI_toInt, i32_m20, i32_m40, i32_m30, i32_0, i32_m1]; omega) (by simp (disch := omega) only [nI_toInt, zI_toInt, i32_m20, i32_m40, i32_m30, i32_0, i32_m1]; omega)) ?_
              refine go_if_eq iM_ends_28 (fun c_28 => ?_) (fun c_28 => ?_)
              · (first | omega | exact absurd c_28 (by decide) | (exfalso; simp (disch := omega) only [Int32.lt_iff_toInt_lt, Int32.le_iff_toInt_le, ← Int32.toInt_inj, nI_toInt, i32_m1, i32_0, i32_m20, i32_m40, i32_m30, i32_m9] at *; omega))
              refine go_iload_4 iM_ends_31 ?_
              refine go_iloadn_3 iM_ends_33 ?_
              refine go_iconst (v := nI 1) iM_ends_34 rfl ?_
              first | refine gn_iadd iM_ends_35 ?_ | refine gm_iadd iM_ends_35 ?_ | refine gi_iadd iM_ends_35 ?_ | refine go_iadd iM_ends_35 ?_
              refine go_bipush (v := nI 20) iM_ends_36 (by decide) ?_
              refine gc_S1 iM_ends_38 (by decide) rfl rfl (Nat.le_of_ble_eq_true rfl) (Nat.le_of_ble_eq_true rfl) (by decide) (sp_M_in_t (by simp (disch := omega) only [nI_toInt, zI_toInt, i32_m20, i32_m40, i32_m30, i32_0, i32_m1]; omega) (by simp (disch := omega) only [nI_toInt, zI_toInt, i32_m20, i32_m40, i32_m30, i32_0, i32_m1]; omega)) ?_
              refine go_if_eq iM_ends_41 (fun c_41 => ?_) (fun c_41 => ?_)
              · (first | omega | exact absurd c_41 (by decide) | (exfalso; simp (disch := omega) only [Int32.lt_iff_toInt_lt, Int32.le_iff_toInt_le, ← Int32.toInt_inj, nI_toInt, i32_m1, i32_0, i32_m20, i32_m40, i32_m30, i32_m9] at *; omega))
              refine go_iload_4 iM_ends_44 ?_
              refine go_iloadn_2 iM_ends_46 ?_
              first | refine gn_isub iM_ends_47 (by omega) ?_ | refine gm_isub iM_ends_47 ?_ | refine gi_isub iM_ends_47 ?_ | refine go_isub iM_ends_47 ?_
              refine go_bipush (v := nI 9) iM_ends_48 (by decide) ?_
              first | refine gn_ic_le iM_ends_50 (by omega) (by omega) (fun c_50 => ?_) (fun c_50 => ?_) | refine gm_ic_le iM_ends_50 (by omega) (by omega) (fun c_50 => ?_) (fun c_50 => ?_) | refine gi_ic_le iM_ends_50 (by omega) (by omega) (fun c_50 => ?_) (fun c_50 => ?_) | refine go_ic_le iM_ends_50 (fun c_50 => ?_) (fun c_50 => ?_)
              rotate_left
              · (first | omega | exact absurd c_50 (by decide) | (exfalso; simp (disch := omega) only [Int32.lt_iff_toInt_lt, Int32.le_iff_toInt_le, ← Int32.toInt_inj, nI_toInt, i32_m1, i32_0, i32_m20, i32_m40, i32_m30, i32_m9] at *; omega))
              refine go_aloadn_0 iM_ends_55 rfl ?_
              refine go_getR iM_ends_56 rfl (sk_43 _) (mR_43_6 _) ?_
              refine go_iloadn_1 iM_ends_59 ?_
              refine go_iald iM_ends_60 (sh_45 _) rfl (by omega) (by omega) ?_
              try simp (disch := omega) only [am_u_n, am_u_s, am_u_k, hkM]
              refine go_iconst (v := nI 1) iM_ends_61 rfl ?_
              first | refine gn_ic_eq iM_ends_62 (by omega) (by omega) (fun c_62 => ?_) (fun c_62 => ?_) | refine gm_ic_eq iM_ends_62 (by omega) (by omega) (fun c_62 => ?_) (fun c_62 => ?_) | refine gi_ic_eq iM_ends_62 (by omega) (by omega) (fun c_62 => ?_) (fun c_62 => ?_) | refine go_ic_eq iM_ends_62 (fun c_62 => ?_) (fun c_62 => ?_)
              rotate_left
              · (first | omega | exact absurd c_62 (by decide) | (exfalso; simp (disch := omega) only [Int32.lt_iff_toInt_lt, Int32.le_iff_toInt_le, ← Int32.toInt_inj, nI_toInt, i32_m1, i32_0, i32_m20, i32_m40, i32_m30, i32_m9] at *; omega))
              refine go_lconst (v := zL 0) iM_ends_81 rfl ?_
              refine go_lstore_5 iM_ends_82 (by simp [Value.category, am_U]) ?_
              refine go_lconst (v := zL 0) iM_ends_84 rfl ?_
              refine go_lstore_7 iM_ends_85 (by simp [Value.category, am_U]) ?_
              refine go_iloadn_2 iM_ends_87 ?_
              refine go_istore_9 iM_ends_88 (by simp [Value.category, am_U]) ?_
              refine lo_M_ends0 (by omega) hm1 hm3 hN hmM c1 c2 (by omega) ho2 (fun w y1 y2 y3 y4 => ?_) _ _ _ _
              refine go_lload_7 iM_ends_189 ?_
              refine go_lconst (v := zL 0) iM_ends_191 rfl ?_
              refine gz_lc_ne iM_ends_192 iM_ends_193 (by omega) (by omega) (fun c_192 => ?_) (fun c_192 => ?_)
              · (first | omega | exact absurd c_192 (by decide) | (exfalso; simp (disch := omega) only [Int32.lt_iff_toInt_lt, Int32.le_iff_toInt_le, ← Int32.toInt_inj, nI_toInt, i32_m1, i32_0, i32_m20, i32_m40, i32_m30, i32_m9] at *; omega))
              refine go_bipush (v := (-4)) iM_ends_196 (by decide) ?_
              refine go_goto iM_ends_198 ?_
              refine go_iret iM_ends_210 rfl ?_
              rfl
            · refine go_aloadn_0 iM_ends_0 rfl ?_
              refine go_iloadn_1 iM_ends_1 ?_
              refine gc_V1 iM_ends_2 rfl (by decide) (sk_43 _) rfl (Nat.le_of_ble_eq_true rfl) (Nat.le_of_ble_eq_true rfl) (by decide) (sp_M_isPlay_t h8 hcM hp) ?_
              refine go_if_eq iM_ends_5 (fun c_5 => ?_) (fun c_5 => ?_)
              · (first | omega | exact absurd c_5 (by decide) | (exfalso; simp (disch := omega) only [Int32.lt_iff_toInt_lt, Int32.le_iff_toInt_le, ← Int32.toInt_inj, nI_toInt, i32_m1, i32_0, i32_m20, i32_m40, i32_m30, i32_m9] at *; omega))
              refine go_iloadn_2 iM_ends_8 ?_
              refine go_bipush (v := (-20)) iM_ends_9 (by decide) ?_
              refine go_bipush (v := nI 20) iM_ends_11 (by decide) ?_
              refine gc_S1 iM_ends_13 (by decide) rfl rfl (Nat.le_of_ble_eq_true rfl) (Nat.le_of_ble_eq_true rfl) (by decide) (sp_M_in_t (by simp (disch := omega) only [nI_toInt, zI_toInt, i32_m20, i32_m40, i32_m30, i32_0, i32_m1]; omega) (by simp (disch := omega) only [nI_toInt, zI_toInt, i32_m20, i32_m40, i32_m30, i32_0, i32_m1]; omega)) ?_
              refine go_if_eq iM_ends_16 (fun c_16 => ?_) (fun c_16 => ?_)
              · (first | omega | exact absurd c_16 (by decide) | (exfalso; simp (disch := omega) only [Int32.lt_iff_toInt_lt, Int32.le_iff_toInt_le, ← Int32.toInt_inj, nI_toInt, i32_m1, i32_0, i32_m20, i32_m40, i32_m30, i32_m9] at *; omega))
              refine go_iloadn_3 iM_ends_19 ?_
              refine go_iloadn_2 iM_ends_20 ?_
              refine go_iconst (v := nI 1) iM_ends_21 rfl ?_
              first | refine gn_iadd iM_ends_22 ?_ | refine gm_iadd iM_ends_22 ?_ | refine gi_iadd iM_ends_22 ?_ | refine go_iadd iM_ends_22 ?_
              refine go_bipush (v := nI 20) iM_ends_23 (by decide) ?_
              refine gc_S1 iM_ends_25 (by decide) rfl rfl (Nat.le_of_ble_eq_true rfl) (Nat.le_of_ble_eq_true rfl) (by decide) (sp_M_in_t (by simp (disch := omega) only [nI_toInt, zI_toInt, i32_m20, i32_m40, i32_m30, i32_0, i32_m1]; omega) (by simp (disch := omega) only [nI_toInt, zI_toInt, i32_m20, i32_m40, i32_m30, i32_0, i32_m1]; omega)) ?_
              refine go_if_eq iM_ends_28 (fun c_28 => ?_) (fun c_28 => ?_)
              · (first | omega | exact absurd c_28 (by decide) | (exfalso; simp (disch := omega) only [Int32.lt_iff_toInt_lt, Int32.le_iff_toInt_le, ← Int32.toInt_inj, nI_toInt, i32_m1, i32_0, i32_m20, i32_m40, i32_m30, i32_m9] at *; omega))
              refine go_iload_4 iM_ends_31 ?_
              refine go_iloadn_3 iM_ends_33 ?_
              refine go_iconst (v := nI 1) iM_ends_34 rfl ?_
              first | refine gn_iadd iM_ends_35 ?_ | refine gm_iadd iM_ends_35 ?_ | refine gi_iadd iM_ends_35 ?_ | refine go_iadd iM_ends_35 ?_
              refine go_bipush (v := nI 20) iM_ends_36 (by decide) ?_
              refine gc_S1 iM_ends_38 (by decide) rfl rfl (Nat.le_of_ble_eq_true rfl) (Nat.le_of_ble_eq_true rfl) (by decide) (sp_M_in_t (by simp (disch := omega) only [nI_toInt, zI_toInt, i32_m20, i32_m40, i32_m30, i32_0, i32_m1]; omega) (by simp (disch := omega) only [nI_toInt, zI_toInt, i32_m20, i32_m40, i32_m30, i32_0, i32_m1]; omega)) ?_
              refine go_if_eq iM_ends_41 (fun c_41 => ?_) (fun c_41 => ?_)
              · (first | omega | exact absurd c_41 (by decide) | (exfalso; simp (disch := omega) only [Int32.lt_iff_toInt_lt, Int32.le_iff_toInt_le, ← Int32.toInt_inj, nI_toInt, i32_m1, i32_0, i32_m20, i32_m40, i32_m30, i32_m9] at *; omega))
              refine go_iload_4 iM_ends_44 ?_
              refine go_iloadn_2 iM_ends_46 ?_
              first | refine gn_isub iM_ends_47 (by omega) ?_ | refine gm_isub iM_ends_47 ?_ | refine gi_isub iM_ends_47 ?_ | refine go_isub iM_ends_47 ?_
              refine go_bipush (v := nI 9) iM_ends_48 (by decide) ?_
              first | refine gn_ic_le iM_ends_50 (by omega) (by omega) (fun c_50 => ?_) (fun c_50 => ?_) | refine gm_ic_le iM_ends_50 (by omega) (by omega) (fun c_50 => ?_) (fun c_50 => ?_) | refine gi_ic_le iM_ends_50 (by omega) (by omega) (fun c_50 => ?_) (fun c_50 => ?_) | refine go_ic_le iM_ends_50 (fun c_50 => ?_) (fun c_50 => ?_)
              rotate_left
              · (first | omega | exact absurd c_50 (by decide) | (exfalso; simp (disch := omega) only [Int32.lt_iff_toInt_lt, Int32.le_iff_toInt_le, ← Int32.toInt_inj, nI_toInt, i32_m1, i32_0, i32_m20, i32_m40, i32_m30, i32_m9] at *; omega))
              refine go_aloadn_0 iM_ends_55 rfl ?_
              refine go_getR iM_ends_56 rfl (sk_43 _) (mR_43_6 _) ?_
              refine go_iloadn_1 iM_ends_59 ?_
              refine go_iald iM_ends_60 (sh_45 _) rfl (by omega) (by omega) ?_
              try simp (disch := omega) only [am_u_n, am_u_s, am_u_k, hkM]
              refine go_iconst (v := nI 1) iM_ends_61 rfl ?_
              first | refine gn_ic_eq iM_ends_62 (by omega) (by omega) (fun c_62 => ?_) (fun c_62 => ?_) | refine gm_ic_eq iM_ends_62 (by omega) (by omega) (fun c_62 => ?_) (fun c_62 => ?_) | refine gi_ic_eq iM_ends_62 (by omega) (by omega) (fun c_62 => ?_) (fun c_62 => ?_) | refine go_ic_eq iM_ends_62 (fun c_62 => ?_) (fun c_62 => ?_)
              · (first | omega | exact absurd c_62 (by decide) | (exfalso; simp (disch := omega) only [Int32.lt_iff_toInt_lt, Int32.le_iff_toInt_le, ← Int32.toInt_inj, nI_toInt, i32_m1, i32_0, i32_m20, i32_m40, i32_m30, i32_m9] at *; omega))
              refine go_aloadn_0 iM_ends_65 rfl ?_
              refine go_getR iM_ends_66 rfl (sk_43 _) (mR_43_6 _) ?_
              refine go_iloadn_1 iM_ends_69 ?_
              refine go_iald iM_ends_70 (sh_45 _) rfl (by omega) (by omega) ?_
              try simp (disch := omega) only [am_u_n, am_u_s, am_u_k, hkM]
              refine go_iconst (v := nI 3) iM_ends_71 rfl ?_
              first | refine gn_ic_eq iM_ends_72 (by omega) (by omega) (fun c_72 => ?_) (fun c_72 => ?_) | refine gm_ic_eq iM_ends_72 (by omega) (by omega) (fun c_72 => ?_) (fun c_72 => ?_) | refine gi_ic_eq iM_ends_72 (by omega) (by omega) (fun c_72 => ?_) (fun c_72 => ?_) | refine go_ic_eq iM_ends_72 (fun c_72 => ?_) (fun c_72 => ?_)
              rotate_left
              · (first | omega | exact absurd c_72 (by decide) | (exfalso; simp (disch := omega) only [Int32.lt_iff_toInt_lt, Int32.le_iff_toInt_le, ← Int32.toInt_inj, nI_toInt, i32_m1, i32_0, i32_m20, i32_m40, i32_m30, i32_m9] at *; omega))
              refine go_lconst (v := zL 0) iM_ends_81 rfl ?_
              refine go_lstore_5 iM_ends_82 (by simp [Value.category, am_U]) ?_
              refine go_lconst (v := zL 0) iM_ends_84 rfl ?_
              refine go_lstore_7 iM_ends_85 (by simp [Value.category, am_U]) ?_
              refine go_iloadn_2 iM_ends_87 ?_
              refine go_istore_9 iM_ends_88 (by simp [Value.category, am_U]) ?_
              refine lo_M_ends0 (by omega) hm1 hm3 hN hmM c1 c2 (by omega) ho2 (fun w y1 y2 y3 y4 => ?_) _ _ _ _
              refine go_lload_7 iM_ends_189 ?_
              refine go_lconst (v := zL 0) iM_ends_191 rfl ?_
              refine gz_lc_ne iM_ends_192 iM_ends_193 (by omega) (by omega) (fun c_192 => ?_) (fun c_192 => ?_)
              · (first | omega | exact absurd c_192 (by decide) | (exfalso; simp (disch := omega) only [Int32.lt_iff_toInt_lt, Int32.le_iff_toInt_le, ← Int32.toInt_inj, nI_toInt, i32_m1, i32_0, i32_m20, i32_m40, i32_m30, i32_m9] at *; omega))
              refine go_bipush (v := (-4)) iM_ends_196 (by decide) ?_
              refine go_goto iM_ends_198 ?_
              refine go_iret iM_ends_210 rfl ?_
              rfl
        · have l0 : 0 < (cuA (odN mI p) m lo N (N + 1)).toNat := by omega
          have lW : zL (cuA (odN mI p) m lo N (N + 1)) = zL ((cuA (odN mI p) m lo N (N + 1)).toNat : Int) := by congr 1; omega
          refine Pair.ex (h1 := 3) (h2 := 2) (v := .int (nI 1)) (P := fun mI1 mL1 => FrC mI mI1 mL mL1 ∧ mL1 4 0 = zL (fU (cuR (odN mI p) m lo pu N (N + 1)) (cuA (odN mI p) m lo N (N + 1)).toNat) ∧ mL1 4 1 = zL (fL (cuR (odN mI p) m lo pu N (N + 1)) (cuA (odN mI p) m lo N (N + 1)).toNat)) ?_ (fun mI1 mL1 hP => ?_)
          · unfold Ex
            show Go _ _ tT_ends (_, 0, [.ref 0, .int (nI p), .int (zI lo), .int (zI pu), .int (zI (lo + 1 + (N : Int))), am_U, am_U, am_U, am_U, am_U, am_U, am_U, am_U], []) _
            refine go_aloadn_0 iT_ends_0 rfl ?_
            refine go_iloadn_1 iT_ends_1 ?_
            refine gc_V1 iT_ends_2 rfl (by decide) (sk_0 _) rfl (Nat.le_of_ble_eq_true rfl) (Nat.le_of_ble_eq_true rfl) (by decide) (sp_T_playAt_t h8 hcT hp) ?_
            refine go_astore_5 iT_ends_5 rfl (by simp [Value.category, am_U]) ?_
            refine go_aload_5 iT_ends_7 rfl ?_
            refine go_nulR iT_ends_9 ?_
            refine go_iloadn_2 iT_ends_12 ?_
            refine go_iloadn_3 iT_ends_13 ?_
            refine go_iload_4 iT_ends_14 ?_
            refine gc_S1 iT_ends_16 (by decide) rfl rfl (Nat.le_of_ble_eq_true rfl) (Nat.le_of_ble_eq_true rfl) (by decide) (sp_T_areEnds_t c1 c2 c3 c4 c5) ?_
            refine go_if_ne iT_ends_19 (fun c_19 => ?_) (fun c_19 => ?_)
            rotate_left
            · (first | omega | exact absurd c_19 (by decide) | (exfalso; simp (disch := omega) only [Int32.lt_iff_toInt_lt, Int32.le_iff_toInt_le, ← Int32.toInt_inj, nI_toInt, i32_m1, i32_0, i32_m20, i32_m40, i32_m30, i32_m9] at *; omega))
            refine go_aload_5 iT_ends_24 rfl ?_
            refine go_iconst (v := nI 1) iT_ends_26 rfl ?_
            refine gc_V1 iT_ends_27 rfl (by decide) (by assumption) rfl (Nat.le_of_ble_eq_true rfl) (Nat.le_of_ble_eq_true rfl) (by decide) (sp_P_isOf_t hp hkT hkd (by omega) (by omega)) ?_
            refine go_if_ne iT_ends_30 (fun c_30 => ?_) (fun c_30 => ?_)
            rotate_left
            · (first | omega | exact absurd c_30 (by decide) | (exfalso; simp (disch := omega) only [Int32.lt_iff_toInt_lt, Int32.le_iff_toInt_le, ← Int32.toInt_inj, nI_toInt, i32_m1, i32_0, i32_m20, i32_m40, i32_m30, i32_m9] at *; omega))
            refine go_lconst (v := zL 0) iT_ends_39 rfl ?_
            refine go_lstore_6 iT_ends_40 (by simp [Value.category, am_U]) ?_
            refine go_lconst (v := zL 0) iT_ends_42 rfl ?_
            refine go_lstore_8 iT_ends_43 (by simp [Value.category, am_U]) ?_
            refine go_iloadn_2 iT_ends_45 ?_
            refine go_istore_10 iT_ends_46 (by simp [Value.category, am_U]) ?_
            refine lo_T_ends0 hp hm1 hm3 hN hmT c1 c2 (by omega) hod.1 (fun y z w => ?_) _ _
            refine go_lload_8 iT_ends_94 ?_
            refine go_lconst (v := zL 0) iT_ends_96 rfl ?_
            refine gz_lc_ne iT_ends_97 iT_ends_98 (by omega) (by omega) (fun c_97 => ?_) (fun c_97 => ?_)
            rotate_left
            · (first | omega | exact absurd c_97 (by decide) | (exfalso; simp (disch := omega) only [Int32.lt_iff_toInt_lt, Int32.le_iff_toInt_le, ← Int32.toInt_inj, nI_toInt, i32_m1, i32_0, i32_m20, i32_m40, i32_m30, i32_m9] at *; omega))
            refine go_aloadn_0 iT_ends_104 rfl ?_
            refine go_getR iT_ends_105 rfl (sk_0 _) (mR_0_6 _) ?_
            refine go_lload_6 iT_ends_108 ?_
            refine go_lload_8 iT_ends_110 ?_
            rw [lW]
            refine gc_V0 iT_ends_112 rfl (by decide) (sk_4 _) rfl (Nat.le_of_ble_eq_true rfl) (Nat.le_of_ble_eq_true rfl) (by decide) (sp_F_tell (u := cuR (odN mI p) m lo pu N (N + 1)) (l := (cuA (odN mI p) m lo N (N + 1)).toNat) (by omega) l0 (by omega)) ?_
            refine go_iconst (v := nI 1) iT_ends_115 rfl ?_
            refine go_iret iT_ends_116 rfl ?_
            refine ex_i ⟨⟨fun a _ => rfl, fun a h1 h4 => ?_⟩, ?_, ?_⟩
            · rw [am_u_r h4, am_u_r h4]
            · rw [am_u_k (by decide), am_u_s]
            · rw [am_u_s]
          · obtain ⟨k1, k2, k3⟩ := hP
            have hq : ∀ a, 42 < a → mI1 a = mI a := fun a ha => k1.1 a (by omega)
            have hkM2 : mI1 45 p = nI kd := by rw [hq 45 (by omega)]; exact hkM
            have hmM2 : mI1 43 4 = nI m := by rw [hq 43 (by omega)]; exact hmM
            have ho4 : ∀ j, j < 3 → mI1 46 (4 * p + j) = nI (odN mI p j) ∧ odN mI p j ≤ 12 := fun j hj => by rw [hq 46 (by omega)]; exact ho2 j hj
            unfold Ex
            show Go _ _ tM_ends (_, 0, [.ref 43, .int (nI p), .int (zI lo), .int (zI pu), .int (zI (lo + 1 + (N : Int))), am_U, am_U, am_U, am_U, am_U, am_U, am_U, am_U, am_U], []) _
            have kk : ∀ w y1 y2 y3 y4 : Value, Go S 2 tM_ends ((am_sh n, mI1, mL1, am_mR n), 189, [.ref 43, .int (nI p), .int (zI lo), .int (zI pu), .int (zI (lo + 1 + (N : Int))), .long (zL (cuR (odN mI p) m lo pu N (N + 1))), am_U, .long (zL (cuA (odN mI p) m lo N (N + 1))), am_U, w, y1, y2, y3, y4], []) (fun r => ∃ mI' mL', r = (some (.int (nI 1)), (am_sh n, mI', mL', am_mR n)) ∧ Rel n mI' mL') := by
              intro w y1 y2 y3 y4
              refine go_lload_7 iM_ends_189 ?_
              refine go_lconst (v := zL 0) iM_ends_191 rfl ?_
              refine gz_lc_ne iM_ends_192 iM_ends_193 (by omega) (by omega) (fun c_192 => ?_) (fun c_192 => ?_)
              rotate_left
              · (first | omega | exact absurd c_192 (by decide) | (exfalso; simp (disch := omega) only [Int32.lt_iff_toInt_lt, Int32.le_iff_toInt_le, ← Int32.toInt_inj, nI_toInt, i32_m1, i32_0, i32_m20, i32_m40, i32_m30, i32_m9] at *; omega))
              refine go_aloadn_0 iM_ends_201 rfl ?_
              refine go_lload_5 iM_ends_202 ?_
              refine go_lload_7 iM_ends_204 ?_
              refine go_iconst (v := nI 1) iM_ends_206 rfl ?_
              rw [lW]
              refine gc_V1 iM_ends_207 rfl (by decide) (sk_43 _) rfl (Nat.le_of_ble_eq_true rfl) (Nat.le_of_ble_eq_true rfl) (by decide) (sp_M_tell (u := cuR (odN mI p) m lo pu N (N + 1)) (l := (cuA (odN mI p) m lo N (N + 1)).toNat) (by omega) l0 (by omega)) ?_
              refine go_iret iM_ends_210 rfl ?_
              refine ex_i (hR0.keep k1 ⟨fun a _ _ _ => rfl, fun y _ => rfl, fun a ha => ?_⟩ ?_ ?_)
              · rw [am_u_r (by omega), am_u_r (by omega)]
              · rw [am_u_k (by decide), am_u_s]; exact k2
              · rw [am_u_s]; exact k3
            rcases ck with ck | ck
            · refine go_aloadn_0 iM_ends_0 rfl ?_
              refine go_iloadn_1 iM_ends_1 ?_
              refine gc_V1 iM_ends_2 rfl (by decide) (sk_43 _) rfl (Nat.le_of_ble_eq_true rfl) (Nat.le_of_ble_eq_true rfl) (by decide) (sp_M_isPlay_t h8 (by rw [hq 43 (by omega)]; exact hcM) hp) ?_
              refine go_if_eq iM_ends_5 (fun c_5 => ?_) (fun c_5 => ?_)
              · (first | omega | exact absurd c_5 (by decide) | (exfalso; simp (disch := omega) only [Int32.lt_iff_toInt_lt, Int32.le_iff_toInt_le, ← Int32.toInt_inj, nI_toInt, i32_m1, i32_0, i32_m20, i32_m40, i32_m30, i32_m9] at *; omega))
              refine go_iloadn_2 iM_ends_8 ?_
              refine go_bipush (v := (-20)) iM_ends_9 (by decide) ?_
              refine go_bipush (v := nI 20) iM_ends_11 (by decide) ?_
              refine gc_S1 iM_ends_13 (by decide) rfl rfl (Nat.le_of_ble_eq_true rfl) (Nat.le_of_ble_eq_true rfl) (by decide) (sp_M_in_t (by simp (disch := omega) only [nI_toInt, zI_toInt, i32_m20, i32_m40, i32_m30, i32_0, i32_m1]; omega) (by simp (disch := omega) only [nI_toInt, zI_toInt, i32_m20, i32_m40, i32_m30, i32_0, i32_m1]; omega)) ?_
              refine go_if_eq iM_ends_16 (fun c_16 => ?_) (fun c_16 => ?_)
              · (first | omega | exact absurd c_16 (by decide) | (exfalso; simp (disch := omega) only [Int32.lt_iff_toInt_lt, Int32.le_iff_toInt_le, ← Int32.toInt_inj, nI_toInt, i32_m1, i32_0, i32_m20, i32_m40, i32_m30, i32_m9] at *; omega))
              refine go_iloadn_3 iM_ends_19 ?_
              refine go_iloadn_2 iM_ends_20 ?_
              refine go_iconst (v := nI 1) iM_ends_21 rfl ?_
              first | refine gn_iadd iM_ends_22 ?_ | refine gm_iadd iM_ends_22 ?_ | refine gi_iadd iM_ends_22 ?_ | refine go_iadd iM_ends_22 ?_
              refine go_bipush (v := nI 20) iM_ends_23 (by decide) ?_
              refine gc_S1 iM_ends_25 (by decide) rfl rfl (Nat.le_of_ble_eq_true rfl) (Nat.le_of_ble_eq_true rfl) (by decide) (sp_M_in_t (by simp (disch := omega) only [nI_toInt, zI_toInt, i32_m20, i32_m40, i32_m30, i32_0, i32_m1]; omega) (by simp (disch := omega) only [nI_toInt, zI_toInt, i32_m20, i32_m40, i32_m30, i32_0, i32_m1]; omega)) ?_
              refine go_if_eq iM_ends_28 (fun c_28 => ?_) (fun c_28 => ?_)
              · (first | omega | exact absurd c_28 (by decide) | (exfalso; simp (disch := omega) only [Int32.lt_iff_toInt_lt, Int32.le_iff_toInt_le, ← Int32.toInt_inj, nI_toInt, i32_m1, i32_0, i32_m20, i32_m40, i32_m30, i32_m9] at *; omega))
              refine go_iload_4 iM_ends_31 ?_
              refine go_iloadn_3 iM_ends_33 ?_
              refine go_iconst (v := nI 1) iM_ends_34 rfl ?_
              first | refine gn_iadd iM_ends_35 ?_ | refine gm_iadd iM_ends_35 ?_ | refine gi_iadd iM_ends_35 ?_ | refine go_iadd iM_ends_35 ?_
              refine go_bipush (v := nI 20) iM_ends_36 (by decide) ?_
              refine gc_S1 iM_ends_38 (by decide) rfl rfl (Nat.le_of_ble_eq_true rfl) (Nat.le_of_ble_eq_true rfl) (by decide) (sp_M_in_t (by simp (disch := omega) only [nI_toInt, zI_toInt, i32_m20, i32_m40, i32_m30, i32_0, i32_m1]; omega) (by simp (disch := omega) only [nI_toInt, zI_toInt, i32_m20, i32_m40, i32_m30, i32_0, i32_m1]; omega)) ?_
              refine go_if_eq iM_ends_41 (fun c_41 => ?_) (fun c_41 => ?_)
              · (first | omega | exact absurd c_41 (by decide) | (exfalso; simp (disch := omega) only [Int32.lt_iff_toInt_lt, Int32.le_iff_toInt_le, ← Int32.toInt_inj, nI_toInt, i32_m1, i32_0, i32_m20, i32_m40, i32_m30, i32_m9] at *; omega))
              refine go_iload_4 iM_ends_44 ?_
              refine go_iloadn_2 iM_ends_46 ?_
              first | refine gn_isub iM_ends_47 (by omega) ?_ | refine gm_isub iM_ends_47 ?_ | refine gi_isub iM_ends_47 ?_ | refine go_isub iM_ends_47 ?_
              refine go_bipush (v := nI 9) iM_ends_48 (by decide) ?_
              first | refine gn_ic_le iM_ends_50 (by omega) (by omega) (fun c_50 => ?_) (fun c_50 => ?_) | refine gm_ic_le iM_ends_50 (by omega) (by omega) (fun c_50 => ?_) (fun c_50 => ?_) | refine gi_ic_le iM_ends_50 (by omega) (by omega) (fun c_50 => ?_) (fun c_50 => ?_) | refine go_ic_le iM_ends_50 (fun c_50 => ?_) (fun c_50 => ?_)
              rotate_left
              · (first | omega | exact absurd c_50 (by decide) | (exfalso; simp (disch := omega) only [Int32.lt_iff_toInt_lt, Int32.le_iff_toInt_le, ← Int32.toInt_inj, nI_toInt, i32_m1, i32_0, i32_m20, i32_m40, i32_m30, i32_m9] at *; omega))
              refine go_aloadn_0 iM_ends_55 rfl ?_
              refine go_getR iM_ends_56 rfl (sk_43 _) (mR_43_6 _) ?_
              refine go_iloadn_1 iM_ends_59 ?_
              refine go_iald iM_ends_60 (sh_45 _) rfl (by omega) (by omega) ?_
              try simp (disch := omega) only [am_u_n, am_u_s, am_u_k, hkM2]
              refine go_iconst (v := nI 1) iM_ends_61 rfl ?_
              first | refine gn_ic_eq iM_ends_62 (by omega) (by omega) (fun c_62 => ?_) (fun c_62 => ?_) | refine gm_ic_eq iM_ends_62 (by omega) (by omega) (fun c_62 => ?_) (fun c_62 => ?_) | refine gi_ic_eq iM_ends_62 (by omega) (by omega) (fun c_62 => ?_) (fun c_62 => ?_) | refine go_ic_eq iM_ends_62 (fun c_62 => ?_) (fun c_62 => ?_)
              rotate_left
              · (first | omega | exact absurd c_62 (by decide) | (exfalso; simp (disch := omega) only [Int32.lt_iff_toInt_lt, Int32.le_iff_toInt_le, ← Int32.toInt_inj, nI_toInt, i32_m1, i32_0, i32_m20, i32_m40, i32_m30, i32_m9] at *; omega))
              refine go_lconst (v := zL 0) iM_ends_81 rfl ?_
              refine go_lstore_5 iM_ends_82 (by simp [Value.category, am_U]) ?_
              refine go_lconst (v := zL 0) iM_ends_84 rfl ?_
              refine go_lstore_7 iM_ends_85 (by simp [Value.category, am_U]) ?_
              refine go_iloadn_2 iM_ends_87 ?_
              refine go_istore_9 iM_ends_88 (by simp [Value.category, am_U]) ?_
              exact lo_M_ends0 (by omega) hm1 hm3 hN hmM2 c1 c2 (by omega) ho4 kk _ _ _ _
            · refine go_aloadn_0 iM_ends_0 rfl ?_
              refine go_iloadn_1 iM_ends_1 ?_
              refine gc_V1 iM_ends_2 rfl (by decide) (sk_43 _) rfl (Nat.le_of_ble_eq_true rfl) (Nat.le_of_ble_eq_true rfl) (by decide) (sp_M_isPlay_t h8 (by rw [hq 43 (by omega)]; exact hcM) hp) ?_
              refine go_if_eq iM_ends_5 (fun c_5 => ?_) (fun c_5 => ?_)
              · (first | omega | exact absurd c_5 (by decide) | (exfalso; simp (disch := omega) only [Int32.lt_iff_toInt_lt, Int32.le_iff_toInt_le, ← Int32.toInt_inj, nI_toInt, i32_m1, i32_0, i32_m20, i32_m40, i32_m30, i32_m9] at *; omega))
              refine go_iloadn_2 iM_ends_8 ?_
              refine go_bipush (v := (-20)) iM_ends_9 (by decide) ?_
              refine go_bipush (v := nI 20) iM_ends_11 (by decide) ?_
              refine gc_S1 iM_ends_13 (by decide) rfl rfl (Nat.le_of_ble_eq_true rfl) (Nat.le_of_ble_eq_true rfl) (by decide) (sp_M_in_t (by simp (disch := omega) only [nI_toInt, zI_toInt, i32_m20, i32_m40, i32_m30, i32_0, i32_m1]; omega) (by simp (disch := omega) only [nI_toInt, zI_toInt, i32_m20, i32_m40, i32_m30, i32_0, i32_m1]; omega)) ?_
              refine go_if_eq iM_ends_16 (fun c_16 => ?_) (fun c_16 => ?_)
              · (first | omega | exact absurd c_16 (by decide) | (exfalso; simp (disch := omega) only [Int32.lt_iff_toInt_lt, Int32.le_iff_toInt_le, ← Int32.toInt_inj, nI_toInt, i32_m1, i32_0, i32_m20, i32_m40, i32_m30, i32_m9] at *; omega))
              refine go_iloadn_3 iM_ends_19 ?_
              refine go_iloadn_2 iM_ends_20 ?_
              refine go_iconst (v := nI 1) iM_ends_21 rfl ?_
              first | refine gn_iadd iM_ends_22 ?_ | refine gm_iadd iM_ends_22 ?_ | refine gi_iadd iM_ends_22 ?_ | refine go_iadd iM_ends_22 ?_
              refine go_bipush (v := nI 20) iM_ends_23 (by decide) ?_
              refine gc_S1 iM_ends_25 (by decide) rfl rfl (Nat.le_of_ble_eq_true rfl) (Nat.le_of_ble_eq_true rfl) (by decide) (sp_M_in_t (by simp (disch := omega) only [nI_toInt, zI_toInt, i32_m20, i32_m40, i32_m30, i32_0, i32_m1]; omega) (by simp (disch := omega) only [nI_toInt, zI_toInt, i32_m20, i32_m40, i32_m30, i32_0, i32_m1]; omega)) ?_
              refine go_if_eq iM_ends_28 (fun c_28 => ?_) (fun c_28 => ?_)
              · (first | omega | exact absurd c_28 (by decide) | (exfalso; simp (disch := omega) only [Int32.lt_iff_toInt_lt, Int32.le_iff_toInt_le, ← Int32.toInt_inj, nI_toInt, i32_m1, i32_0, i32_m20, i32_m40, i32_m30, i32_m9] at *; omega))
              refine go_iload_4 iM_ends_31 ?_
              refine go_iloadn_3 iM_ends_33 ?_
              refine go_iconst (v := nI 1) iM_ends_34 rfl ?_
              first | refine gn_iadd iM_ends_35 ?_ | refine gm_iadd iM_ends_35 ?_ | refine gi_iadd iM_ends_35 ?_ | refine go_iadd iM_ends_35 ?_
              refine go_bipush (v := nI 20) iM_ends_36 (by decide) ?_
              refine gc_S1 iM_ends_38 (by decide) rfl rfl (Nat.le_of_ble_eq_true rfl) (Nat.le_of_ble_eq_true rfl) (by decide) (sp_M_in_t (by simp (disch := omega) only [nI_toInt, zI_toInt, i32_m20, i32_m40, i32_m30, i32_0, i32_m1]; omega) (by simp (disch := omega) only [nI_toInt, zI_toInt, i32_m20, i32_m40, i32_m30, i32_0, i32_m1]; omega)) ?_
              refine go_if_eq iM_ends_41 (fun c_41 => ?_) (fun c_41 => ?_)
              · (first | omega | exact absurd c_41 (by decide) | (exfalso; simp (disch := omega) only [Int32.lt_iff_toInt_lt, Int32.le_iff_toInt_le, ← Int32.toInt_inj, nI_toInt, i32_m1, i32_0, i32_m20, i32_m40, i32_m30, i32_m9] at *; omega))
              refine go_iload_4 iM_ends_44 ?_
              refine go_iloadn_2 iM_ends_46 ?_
              first | refine gn_isub iM_ends_47 (by omega) ?_ | refine gm_isub iM_ends_47 ?_ | refine gi_isub iM_ends_47 ?_ | refine go_isub iM_ends_47 ?_
              refine go_bipush (v := nI 9) iM_ends_48 (by decide) ?_
              first | refine gn_ic_le iM_ends_50 (by omega) (by omega) (fun c_50 => ?_) (fun c_50 => ?_) | refine gm_ic_le iM_ends_50 (by omega) (by omega) (fun c_50 => ?_) (fun c_50 => ?_) | refine gi_ic_le iM_ends_50 (by omega) (by omega) (fun c_50 => ?_) (fun c_50 => ?_) | refine go_ic_le iM_ends_50 (fun c_50 => ?_) (fun c_50 => ?_)
              rotate_left
              · (first | omega | exact absurd c_50 (by decide) | (exfalso; simp (disch := omega) only [Int32.lt_iff_toInt_lt, Int32.le_iff_toInt_le, ← Int32.toInt_inj, nI_toInt, i32_m1, i32_0, i32_m20, i32_m40, i32_m30, i32_m9] at *; omega))
              refine go_aloadn_0 iM_ends_55 rfl ?_
              refine go_getR iM_ends_56 rfl (sk_43 _) (mR_43_6 _) ?_
              refine go_iloadn_1 iM_ends_59 ?_
              refine go_iald iM_ends_60 (sh_45 _) rfl (by omega) (by omega) ?_
              try simp (disch := omega) only [am_u_n, am_u_s, am_u_k, hkM2]
              refine go_iconst (v := nI 1) iM_ends_61 rfl ?_
              first | refine gn_ic_eq iM_ends_62 (by omega) (by omega) (fun c_62 => ?_) (fun c_62 => ?_) | refine gm_ic_eq iM_ends_62 (by omega) (by omega) (fun c_62 => ?_) (fun c_62 => ?_) | refine gi_ic_eq iM_ends_62 (by omega) (by omega) (fun c_62 => ?_) (fun c_62 => ?_) | refine go_ic_eq iM_ends_62 (fun c_62 => ?_) (fun c_62 => ?_)
              · (first | omega | exact absurd c_62 (by decide) | (exfalso; simp (disch := omega) only [Int32.lt_iff_toInt_lt, Int32.le_iff_toInt_le, ← Int32.toInt_inj, nI_toInt, i32_m1, i32_0, i32_m20, i32_m40, i32_m30, i32_m9] at *; omega))
              refine go_aloadn_0 iM_ends_65 rfl ?_
              refine go_getR iM_ends_66 rfl (sk_43 _) (mR_43_6 _) ?_
              refine go_iloadn_1 iM_ends_69 ?_
              refine go_iald iM_ends_70 (sh_45 _) rfl (by omega) (by omega) ?_
              try simp (disch := omega) only [am_u_n, am_u_s, am_u_k, hkM2]
              refine go_iconst (v := nI 3) iM_ends_71 rfl ?_
              first | refine gn_ic_eq iM_ends_72 (by omega) (by omega) (fun c_72 => ?_) (fun c_72 => ?_) | refine gm_ic_eq iM_ends_72 (by omega) (by omega) (fun c_72 => ?_) (fun c_72 => ?_) | refine gi_ic_eq iM_ends_72 (by omega) (by omega) (fun c_72 => ?_) (fun c_72 => ?_) | refine go_ic_eq iM_ends_72 (fun c_72 => ?_) (fun c_72 => ?_)
              rotate_left
              · (first | omega | exact absurd c_72 (by decide) | (exfalso; simp (disch := omega) only [Int32.lt_iff_toInt_lt, Int32.le_iff_toInt_le, ← Int32.toInt_inj, nI_toInt, i32_m1, i32_0, i32_m20, i32_m40, i32_m30, i32_m9] at *; omega))
              refine go_lconst (v := zL 0) iM_ends_81 rfl ?_
              refine go_lstore_5 iM_ends_82 (by simp [Value.category, am_U]) ?_
              refine go_lconst (v := zL 0) iM_ends_84 rfl ?_
              refine go_lstore_7 iM_ends_85 (by simp [Value.category, am_U]) ?_
              refine go_iloadn_2 iM_ends_87 ?_
              refine go_istore_9 iM_ends_88 (by simp [Value.category, am_U]) ?_
              exact lo_M_ends0 (by omega) hm1 hm3 hN hmM2 c1 c2 (by omega) ho4 kk _ _ _ _
      · refine Pair.refuse (h1 := 3) (h2 := 2) (f := 3) hR0 (by decide) ?_ ?_
        · show Go _ _ tT_ends (_, 0, [.ref 0, .int (nI p), .int (zI lo), .int (zI pu), .int (zI (lo + 1 + (N : Int))), am_U, am_U, am_U, am_U, am_U, am_U, am_U, am_U], []) _
          refine go_aloadn_0 iT_ends_0 rfl ?_
          refine go_iloadn_1 iT_ends_1 ?_
          refine gc_V1 iT_ends_2 rfl (by decide) (sk_0 _) rfl (Nat.le_of_ble_eq_true rfl) (Nat.le_of_ble_eq_true rfl) (by decide) (sp_T_playAt_t h8 hcT hp) ?_
          refine go_astore_5 iT_ends_5 rfl (by simp [Value.category, am_U]) ?_
          refine go_aload_5 iT_ends_7 rfl ?_
          refine go_nulR iT_ends_9 ?_
          refine go_iloadn_2 iT_ends_12 ?_
          refine go_iloadn_3 iT_ends_13 ?_
          refine go_iload_4 iT_ends_14 ?_
          refine gc_S1 iT_ends_16 (by decide) rfl rfl (Nat.le_of_ble_eq_true rfl) (Nat.le_of_ble_eq_true rfl) (by decide) (sp_T_areEnds_t c1 c2 c3 c4 c5) ?_
          refine go_if_ne iT_ends_19 (fun c_19 => ?_) (fun c_19 => ?_)
          rotate_left
          · (first | omega | exact absurd c_19 (by decide) | (exfalso; simp (disch := omega) only [Int32.lt_iff_toInt_lt, Int32.le_iff_toInt_le, ← Int32.toInt_inj, nI_toInt, i32_m1, i32_0, i32_m20, i32_m40, i32_m30, i32_m9] at *; omega))
          refine go_aload_5 iT_ends_24 rfl ?_
          refine go_iconst (v := nI 1) iT_ends_26 rfl ?_
          refine gc_V1 iT_ends_27 rfl (by decide) (by assumption) rfl (Nat.le_of_ble_eq_true rfl) (Nat.le_of_ble_eq_true rfl) (by decide) (sp_P_isOf_f hp hkT hkd (by omega) (by omega)) ?_
          refine go_if_ne iT_ends_30 (fun c_30 => ?_) (fun c_30 => ?_)
          · (first | omega | exact absurd c_30 (by decide) | (exfalso; simp (disch := omega) only [Int32.lt_iff_toInt_lt, Int32.le_iff_toInt_le, ← Int32.toInt_inj, nI_toInt, i32_m1, i32_0, i32_m20, i32_m40, i32_m30, i32_m9] at *; omega))
          refine go_aloadn_0 iT_ends_33 rfl ?_
          refine go_iconst (v := nI 3) iT_ends_34 rfl ?_
          refine gc_V1 iT_ends_35 rfl (by decide) (sk_0 _) rfl (Nat.le_of_ble_eq_true rfl) (Nat.le_of_ble_eq_true rfl) (by decide) (sp_T_refuse (by decide)) ?_
          refine go_iret iT_ends_38 rfl ?_
          rfl
        · have hq : ∀ a, 42 < a → rfI mI 3 a = mI a := fun a ha => rfI_r (by omega) (by omega)
          have hkM2 : rfI mI 3 45 p = nI kd := by rw [hq 45 (by omega)]; exact hkM
          show Go _ _ tM_ends (_, 0, [.ref 43, .int (nI p), .int (zI lo), .int (zI pu), .int (zI (lo + 1 + (N : Int))), am_U, am_U, am_U, am_U, am_U, am_U, am_U, am_U, am_U], []) _
          refine go_aloadn_0 iM_ends_0 rfl ?_
          refine go_iloadn_1 iM_ends_1 ?_
          refine gc_V1 iM_ends_2 rfl (by decide) (sk_43 _) rfl (Nat.le_of_ble_eq_true rfl) (Nat.le_of_ble_eq_true rfl) (by decide) (sp_M_isPlay_t h8 (by rw [hq 43 (by omega)]; exact hcM) hp) ?_
          refine go_if_eq iM_ends_5 (fun c_5 => ?_) (fun c_5 => ?_)
          · (first | omega | exact absurd c_5 (by decide) | (exfalso; simp (disch := omega) only [Int32.lt_iff_toInt_lt, Int32.le_iff_toInt_le, ← Int32.toInt_inj, nI_toInt, i32_m1, i32_0, i32_m20, i32_m40, i32_m30, i32_m9] at *; omega))
          refine go_iloadn_2 iM_ends_8 ?_
          refine go_bipush (v := (-20)) iM_ends_9 (by decide) ?_
          refine go_bipush (v := nI 20) iM_ends_11 (by decide) ?_
          refine gc_S1 iM_ends_13 (by decide) rfl rfl (Nat.le_of_ble_eq_true rfl) (Nat.le_of_ble_eq_true rfl) (by decide) (sp_M_in_t (by simp (disch := omega) only [nI_toInt, zI_toInt, i32_m20, i32_m40, i32_m30, i32_0, i32_m1]; omega) (by simp (disch := omega) only [nI_toInt, zI_toInt, i32_m20, i32_m40, i32_m30, i32_0, i32_m1]; omega)) ?_
          refine go_if_eq iM_ends_16 (fun c_16 => ?_) (fun c_16 => ?_)
          · (first | omega | exact absurd c_16 (by decide) | (exfalso; simp (disch := omega) only [Int32.lt_iff_toInt_lt, Int32.le_iff_toInt_le, ← Int32.toInt_inj, nI_toInt, i32_m1, i32_0, i32_m20, i32_m40, i32_m30, i32_m9] at *; omega))
          refine go_iloadn_3 iM_ends_19 ?_
          refine go_iloadn_2 iM_ends_20 ?_
          refine go_iconst (v := nI 1) iM_ends_21 rfl ?_
          first | refine gn_iadd iM_ends_22 ?_ | refine gm_iadd iM_ends_22 ?_ | refine gi_iadd iM_ends_22 ?_ | refine go_iadd iM_ends_22 ?_
          refine go_bipush (v := nI 20) iM_ends_23 (by decide) ?_
          refine gc_S1 iM_ends_25 (by decide) rfl rfl (Nat.le_of_ble_eq_true rfl) (Nat.le_of_ble_eq_true rfl) (by decide) (sp_M_in_t (by simp (disch := omega) only [nI_toInt, zI_toInt, i32_m20, i32_m40, i32_m30, i32_0, i32_m1]; omega) (by simp (disch := omega) only [nI_toInt, zI_toInt, i32_m20, i32_m40, i32_m30, i32_0, i32_m1]; omega)) ?_
          refine go_if_eq iM_ends_28 (fun c_28 => ?_) (fun c_28 => ?_)
          · (first | omega | exact absurd c_28 (by decide) | (exfalso; simp (disch := omega) only [Int32.lt_iff_toInt_lt, Int32.le_iff_toInt_le, ← Int32.toInt_inj, nI_toInt, i32_m1, i32_0, i32_m20, i32_m40, i32_m30, i32_m9] at *; omega))
          refine go_iload_4 iM_ends_31 ?_
          refine go_iloadn_3 iM_ends_33 ?_
          refine go_iconst (v := nI 1) iM_ends_34 rfl ?_
          first | refine gn_iadd iM_ends_35 ?_ | refine gm_iadd iM_ends_35 ?_ | refine gi_iadd iM_ends_35 ?_ | refine go_iadd iM_ends_35 ?_
          refine go_bipush (v := nI 20) iM_ends_36 (by decide) ?_
          refine gc_S1 iM_ends_38 (by decide) rfl rfl (Nat.le_of_ble_eq_true rfl) (Nat.le_of_ble_eq_true rfl) (by decide) (sp_M_in_t (by simp (disch := omega) only [nI_toInt, zI_toInt, i32_m20, i32_m40, i32_m30, i32_0, i32_m1]; omega) (by simp (disch := omega) only [nI_toInt, zI_toInt, i32_m20, i32_m40, i32_m30, i32_0, i32_m1]; omega)) ?_
          refine go_if_eq iM_ends_41 (fun c_41 => ?_) (fun c_41 => ?_)
          · (first | omega | exact absurd c_41 (by decide) | (exfalso; simp (disch := omega) only [Int32.lt_iff_toInt_lt, Int32.le_iff_toInt_le, ← Int32.toInt_inj, nI_toInt, i32_m1, i32_0, i32_m20, i32_m40, i32_m30, i32_m9] at *; omega))
          refine go_iload_4 iM_ends_44 ?_
          refine go_iloadn_2 iM_ends_46 ?_
          first | refine gn_isub iM_ends_47 (by omega) ?_ | refine gm_isub iM_ends_47 ?_ | refine gi_isub iM_ends_47 ?_ | refine go_isub iM_ends_47 ?_
          refine go_bipush (v := nI 9) iM_ends_48 (by decide) ?_
          first | refine gn_ic_le iM_ends_50 (by omega) (by omega) (fun c_50 => ?_) (fun c_50 => ?_) | refine gm_ic_le iM_ends_50 (by omega) (by omega) (fun c_50 => ?_) (fun c_50 => ?_) | refine gi_ic_le iM_ends_50 (by omega) (by omega) (fun c_50 => ?_) (fun c_50 => ?_) | refine go_ic_le iM_ends_50 (fun c_50 => ?_) (fun c_50 => ?_)
          rotate_left
          · (first | omega | exact absurd c_50 (by decide) | (exfalso; simp (disch := omega) only [Int32.lt_iff_toInt_lt, Int32.le_iff_toInt_le, ← Int32.toInt_inj, nI_toInt, i32_m1, i32_0, i32_m20, i32_m40, i32_m30, i32_m9] at *; omega))
          refine go_aloadn_0 iM_ends_55 rfl ?_
          refine go_getR iM_ends_56 rfl (sk_43 _) (mR_43_6 _) ?_
          refine go_iloadn_1 iM_ends_59 ?_
          refine go_iald iM_ends_60 (sh_45 _) rfl (by omega) (by omega) ?_
          try simp (disch := omega) only [am_u_n, am_u_s, am_u_k, hkM2]
          refine go_iconst (v := nI 1) iM_ends_61 rfl ?_
          first | refine gn_ic_eq iM_ends_62 (by omega) (by omega) (fun c_62 => ?_) (fun c_62 => ?_) | refine gm_ic_eq iM_ends_62 (by omega) (by omega) (fun c_62 => ?_) (fun c_62 => ?_) | refine gi_ic_eq iM_ends_62 (by omega) (by omega) (fun c_62 => ?_) (fun c_62 => ?_) | refine go_ic_eq iM_ends_62 (fun c_62 => ?_) (fun c_62 => ?_)
          · (first | omega | exact absurd c_62 (by decide) | (exfalso; simp (disch := omega) only [Int32.lt_iff_toInt_lt, Int32.le_iff_toInt_le, ← Int32.toInt_inj, nI_toInt, i32_m1, i32_0, i32_m20, i32_m40, i32_m30, i32_m9] at *; omega))
          refine go_aloadn_0 iM_ends_65 rfl ?_
          refine go_getR iM_ends_66 rfl (sk_43 _) (mR_43_6 _) ?_
          refine go_iloadn_1 iM_ends_69 ?_
          refine go_iald iM_ends_70 (sh_45 _) rfl (by omega) (by omega) ?_
          try simp (disch := omega) only [am_u_n, am_u_s, am_u_k, hkM2]
          refine go_iconst (v := nI 3) iM_ends_71 rfl ?_
          first | refine gn_ic_eq iM_ends_72 (by omega) (by omega) (fun c_72 => ?_) (fun c_72 => ?_) | refine gm_ic_eq iM_ends_72 (by omega) (by omega) (fun c_72 => ?_) (fun c_72 => ?_) | refine gi_ic_eq iM_ends_72 (by omega) (by omega) (fun c_72 => ?_) (fun c_72 => ?_) | refine go_ic_eq iM_ends_72 (fun c_72 => ?_) (fun c_72 => ?_)
          · (first | omega | exact absurd c_72 (by decide) | (exfalso; simp (disch := omega) only [Int32.lt_iff_toInt_lt, Int32.le_iff_toInt_le, ← Int32.toInt_inj, nI_toInt, i32_m1, i32_0, i32_m20, i32_m40, i32_m30, i32_m9] at *; omega))
          refine go_aloadn_0 iM_ends_75 rfl ?_
          refine go_iconst (v := nI 3) iM_ends_76 rfl ?_
          refine gc_V1 iM_ends_77 rfl (by decide) (sk_43 _) rfl (Nat.le_of_ble_eq_true rfl) (Nat.le_of_ble_eq_true rfl) (by decide) (sp_M_meets (by decide)) ?_
          refine go_iret iM_ends_80 rfl ?_
          rfl
    · refine Pair.same (h1 := 3) (h2 := 2) (v := .int (-1)) hR0 ?_ ?_
      · show Go _ _ tT_ends (_, 0, [.ref 0, .int (nI p), .int (zI lo), .int (zI pu), .int (zI hi), am_U, am_U, am_U, am_U, am_U, am_U, am_U, am_U], []) _
        refine go_aloadn_0 iT_ends_0 rfl ?_
        refine go_iloadn_1 iT_ends_1 ?_
        refine gc_V1 iT_ends_2 rfl (by decide) (sk_0 _) rfl (Nat.le_of_ble_eq_true rfl) (Nat.le_of_ble_eq_true rfl) (by decide) (sp_T_playAt_t h8 hcT hp) ?_
        refine go_astore_5 iT_ends_5 rfl (by simp [Value.category, am_U]) ?_
        refine go_aload_5 iT_ends_7 rfl ?_
        refine go_nulR iT_ends_9 ?_
        refine go_iloadn_2 iT_ends_12 ?_
        refine go_iloadn_3 iT_ends_13 ?_
        refine go_iload_4 iT_ends_14 ?_
        refine gc_S1 iT_ends_16 (by decide) rfl rfl (Nat.le_of_ble_eq_true rfl) (Nat.le_of_ble_eq_true rfl) (by decide) (sp_T_areEnds_f b1 b2 b3 c) ?_
        refine go_if_ne iT_ends_19 (fun c_19 => ?_) (fun c_19 => ?_)
        · (first | omega | exact absurd c_19 (by decide) | (exfalso; simp (disch := omega) only [Int32.lt_iff_toInt_lt, Int32.le_iff_toInt_le, ← Int32.toInt_inj, nI_toInt, i32_m1, i32_0, i32_m20, i32_m40, i32_m30, i32_m9] at *; omega))
        refine go_iconst (v := (-1)) iT_ends_22 rfl ?_
        refine go_iret iT_ends_23 rfl ?_
        rfl
      · show Go _ _ tM_ends (_, 0, [.ref 43, .int (nI p), .int (zI lo), .int (zI pu), .int (zI hi), am_U, am_U, am_U, am_U, am_U, am_U, am_U, am_U, am_U], []) _
        by_cases a1 : -20 ≤ lo ∧ lo ≤ 20
        · by_cases a2 : lo + 1 ≤ pu ∧ pu ≤ 20
          · by_cases a3 : pu + 1 ≤ hi ∧ hi ≤ 20
            · refine go_aloadn_0 iM_ends_0 rfl ?_
              refine go_iloadn_1 iM_ends_1 ?_
              refine gc_V1 iM_ends_2 rfl (by decide) (sk_43 _) rfl (Nat.le_of_ble_eq_true rfl) (Nat.le_of_ble_eq_true rfl) (by decide) (sp_M_isPlay_t h8 hcM hp) ?_
              refine go_if_eq iM_ends_5 (fun c_5 => ?_) (fun c_5 => ?_)
              · (first | omega | exact absurd c_5 (by decide) | (exfalso; simp (disch := omega) only [Int32.lt_iff_toInt_lt, Int32.le_iff_toInt_le, ← Int32.toInt_inj, nI_toInt, i32_m1, i32_0, i32_m20, i32_m40, i32_m30, i32_m9] at *; omega))
              refine go_iloadn_2 iM_ends_8 ?_
              refine go_bipush (v := (-20)) iM_ends_9 (by decide) ?_
              refine go_bipush (v := nI 20) iM_ends_11 (by decide) ?_
              refine gc_S1 iM_ends_13 (by decide) rfl rfl (Nat.le_of_ble_eq_true rfl) (Nat.le_of_ble_eq_true rfl) (by decide) (sp_M_in_t (by simp (disch := omega) only [nI_toInt, zI_toInt, i32_m20, i32_m40, i32_m30, i32_0, i32_m1]; omega) (by simp (disch := omega) only [nI_toInt, zI_toInt, i32_m20, i32_m40, i32_m30, i32_0, i32_m1]; omega)) ?_
              refine go_if_eq iM_ends_16 (fun c_16 => ?_) (fun c_16 => ?_)
              · (first | omega | exact absurd c_16 (by decide) | (exfalso; simp (disch := omega) only [Int32.lt_iff_toInt_lt, Int32.le_iff_toInt_le, ← Int32.toInt_inj, nI_toInt, i32_m1, i32_0, i32_m20, i32_m40, i32_m30, i32_m9] at *; omega))
              refine go_iloadn_3 iM_ends_19 ?_
              refine go_iloadn_2 iM_ends_20 ?_
              refine go_iconst (v := nI 1) iM_ends_21 rfl ?_
              first | refine gn_iadd iM_ends_22 ?_ | refine gm_iadd iM_ends_22 ?_ | refine gi_iadd iM_ends_22 ?_ | refine go_iadd iM_ends_22 ?_
              refine go_bipush (v := nI 20) iM_ends_23 (by decide) ?_
              refine gc_S1 iM_ends_25 (by decide) rfl rfl (Nat.le_of_ble_eq_true rfl) (Nat.le_of_ble_eq_true rfl) (by decide) (sp_M_in_t (by simp (disch := omega) only [nI_toInt, zI_toInt, i32_m20, i32_m40, i32_m30, i32_0, i32_m1]; omega) (by simp (disch := omega) only [nI_toInt, zI_toInt, i32_m20, i32_m40, i32_m30, i32_0, i32_m1]; omega)) ?_
              refine go_if_eq iM_ends_28 (fun c_28 => ?_) (fun c_28 => ?_)
              · (first | omega | exact absurd c_28 (by decide) | (exfalso; simp (disch := omega) only [Int32.lt_iff_toInt_lt, Int32.le_iff_toInt_le, ← Int32.toInt_inj, nI_toInt, i32_m1, i32_0, i32_m20, i32_m40, i32_m30, i32_m9] at *; omega))
              refine go_iload_4 iM_ends_31 ?_
              refine go_iloadn_3 iM_ends_33 ?_
              refine go_iconst (v := nI 1) iM_ends_34 rfl ?_
              first | refine gn_iadd iM_ends_35 ?_ | refine gm_iadd iM_ends_35 ?_ | refine gi_iadd iM_ends_35 ?_ | refine go_iadd iM_ends_35 ?_
              refine go_bipush (v := nI 20) iM_ends_36 (by decide) ?_
              refine gc_S1 iM_ends_38 (by decide) rfl rfl (Nat.le_of_ble_eq_true rfl) (Nat.le_of_ble_eq_true rfl) (by decide) (sp_M_in_t (by simp (disch := omega) only [nI_toInt, zI_toInt, i32_m20, i32_m40, i32_m30, i32_0, i32_m1]; omega) (by simp (disch := omega) only [nI_toInt, zI_toInt, i32_m20, i32_m40, i32_m30, i32_0, i32_m1]; omega)) ?_
              refine go_if_eq iM_ends_41 (fun c_41 => ?_) (fun c_41 => ?_)
              · (first | omega | exact absurd c_41 (by decide) | (exfalso; simp (disch := omega) only [Int32.lt_iff_toInt_lt, Int32.le_iff_toInt_le, ← Int32.toInt_inj, nI_toInt, i32_m1, i32_0, i32_m20, i32_m40, i32_m30, i32_m9] at *; omega))
              refine go_iload_4 iM_ends_44 ?_
              refine go_iloadn_2 iM_ends_46 ?_
              first | refine gn_isub iM_ends_47 (by omega) ?_ | refine gm_isub iM_ends_47 ?_ | refine gi_isub iM_ends_47 ?_ | refine go_isub iM_ends_47 ?_
              refine go_bipush (v := nI 9) iM_ends_48 (by decide) ?_
              first | refine gn_ic_le iM_ends_50 (by omega) (by omega) (fun c_50 => ?_) (fun c_50 => ?_) | refine gm_ic_le iM_ends_50 (by omega) (by omega) (fun c_50 => ?_) (fun c_50 => ?_) | refine gi_ic_le iM_ends_50 (by omega) (by omega) (fun c_50 => ?_) (fun c_50 => ?_) | refine go_ic_le iM_ends_50 (fun c_50 => ?_) (fun c_50 => ?_)
              · (first | omega | exact absurd c_50 (by decide) | (exfalso; simp (disch := omega) only [Int32.lt_iff_toInt_lt, Int32.le_iff_toInt_le, ← Int32.toInt_inj, nI_toInt, i32_m1, i32_0, i32_m20, i32_m40, i32_m30, i32_m9] at *; omega))
              refine go_iconst (v := (-1)) iM_ends_53 rfl ?_
              refine go_iret iM_ends_54 rfl ?_
              rfl
            · refine go_aloadn_0 iM_ends_0 rfl ?_
              refine go_iloadn_1 iM_ends_1 ?_
              refine gc_V1 iM_ends_2 rfl (by decide) (sk_43 _) rfl (Nat.le_of_ble_eq_true rfl) (Nat.le_of_ble_eq_true rfl) (by decide) (sp_M_isPlay_t h8 hcM hp) ?_
              refine go_if_eq iM_ends_5 (fun c_5 => ?_) (fun c_5 => ?_)
              · (first | omega | exact absurd c_5 (by decide) | (exfalso; simp (disch := omega) only [Int32.lt_iff_toInt_lt, Int32.le_iff_toInt_le, ← Int32.toInt_inj, nI_toInt, i32_m1, i32_0, i32_m20, i32_m40, i32_m30, i32_m9] at *; omega))
              refine go_iloadn_2 iM_ends_8 ?_
              refine go_bipush (v := (-20)) iM_ends_9 (by decide) ?_
              refine go_bipush (v := nI 20) iM_ends_11 (by decide) ?_
              refine gc_S1 iM_ends_13 (by decide) rfl rfl (Nat.le_of_ble_eq_true rfl) (Nat.le_of_ble_eq_true rfl) (by decide) (sp_M_in_t (by simp (disch := omega) only [nI_toInt, zI_toInt, i32_m20, i32_m40, i32_m30, i32_0, i32_m1]; omega) (by simp (disch := omega) only [nI_toInt, zI_toInt, i32_m20, i32_m40, i32_m30, i32_0, i32_m1]; omega)) ?_
              refine go_if_eq iM_ends_16 (fun c_16 => ?_) (fun c_16 => ?_)
              · (first | omega | exact absurd c_16 (by decide) | (exfalso; simp (disch := omega) only [Int32.lt_iff_toInt_lt, Int32.le_iff_toInt_le, ← Int32.toInt_inj, nI_toInt, i32_m1, i32_0, i32_m20, i32_m40, i32_m30, i32_m9] at *; omega))
              refine go_iloadn_3 iM_ends_19 ?_
              refine go_iloadn_2 iM_ends_20 ?_
              refine go_iconst (v := nI 1) iM_ends_21 rfl ?_
              first | refine gn_iadd iM_ends_22 ?_ | refine gm_iadd iM_ends_22 ?_ | refine gi_iadd iM_ends_22 ?_ | refine go_iadd iM_ends_22 ?_
              refine go_bipush (v := nI 20) iM_ends_23 (by decide) ?_
              refine gc_S1 iM_ends_25 (by decide) rfl rfl (Nat.le_of_ble_eq_true rfl) (Nat.le_of_ble_eq_true rfl) (by decide) (sp_M_in_t (by simp (disch := omega) only [nI_toInt, zI_toInt, i32_m20, i32_m40, i32_m30, i32_0, i32_m1]; omega) (by simp (disch := omega) only [nI_toInt, zI_toInt, i32_m20, i32_m40, i32_m30, i32_0, i32_m1]; omega)) ?_
              refine go_if_eq iM_ends_28 (fun c_28 => ?_) (fun c_28 => ?_)
              · (first | omega | exact absurd c_28 (by decide) | (exfalso; simp (disch := omega) only [Int32.lt_iff_toInt_lt, Int32.le_iff_toInt_le, ← Int32.toInt_inj, nI_toInt, i32_m1, i32_0, i32_m20, i32_m40, i32_m30, i32_m9] at *; omega))
              refine go_iload_4 iM_ends_31 ?_
              refine go_iloadn_3 iM_ends_33 ?_
              refine go_iconst (v := nI 1) iM_ends_34 rfl ?_
              first | refine gn_iadd iM_ends_35 ?_ | refine gm_iadd iM_ends_35 ?_ | refine gi_iadd iM_ends_35 ?_ | refine go_iadd iM_ends_35 ?_
              refine go_bipush (v := nI 20) iM_ends_36 (by decide) ?_
              refine gc_S1 iM_ends_38 (by decide) rfl rfl (Nat.le_of_ble_eq_true rfl) (Nat.le_of_ble_eq_true rfl) (by decide) (sp_M_in_f (by simp (disch := omega) only [nI_toInt, zI_toInt, i32_m20, i32_m40, i32_m30, i32_0, i32_m1]; omega)) ?_
              refine go_if_eq iM_ends_41 (fun c_41 => ?_) (fun c_41 => ?_)
              rotate_left
              · (first | omega | exact absurd c_41 (by decide) | (exfalso; simp (disch := omega) only [Int32.lt_iff_toInt_lt, Int32.le_iff_toInt_le, ← Int32.toInt_inj, nI_toInt, i32_m1, i32_0, i32_m20, i32_m40, i32_m30, i32_m9] at *; omega))
              refine go_iconst (v := (-1)) iM_ends_53 rfl ?_
              refine go_iret iM_ends_54 rfl ?_
              rfl
          · refine go_aloadn_0 iM_ends_0 rfl ?_
            refine go_iloadn_1 iM_ends_1 ?_
            refine gc_V1 iM_ends_2 rfl (by decide) (sk_43 _) rfl (Nat.le_of_ble_eq_true rfl) (Nat.le_of_ble_eq_true rfl) (by decide) (sp_M_isPlay_t h8 hcM hp) ?_
            refine go_if_eq iM_ends_5 (fun c_5 => ?_) (fun c_5 => ?_)
            · (first | omega | exact absurd c_5 (by decide) | (exfalso; simp (disch := omega) only [Int32.lt_iff_toInt_lt, Int32.le_iff_toInt_le, ← Int32.toInt_inj, nI_toInt, i32_m1, i32_0, i32_m20, i32_m40, i32_m30, i32_m9] at *; omega))
            refine go_iloadn_2 iM_ends_8 ?_
            refine go_bipush (v := (-20)) iM_ends_9 (by decide) ?_
            refine go_bipush (v := nI 20) iM_ends_11 (by decide) ?_
            refine gc_S1 iM_ends_13 (by decide) rfl rfl (Nat.le_of_ble_eq_true rfl) (Nat.le_of_ble_eq_true rfl) (by decide) (sp_M_in_t (by simp (disch := omega) only [nI_toInt, zI_toInt, i32_m20, i32_m40, i32_m30, i32_0, i32_m1]; omega) (by simp (disch := omega) only [nI_toInt, zI_toInt, i32_m20, i32_m40, i32_m30, i32_0, i32_m1]; omega)) ?_
            refine go_if_eq iM_ends_16 (fun c_16 => ?_) (fun c_16 => ?_)
            · (first | omega | exact absurd c_16 (by decide) | (exfalso; simp (disch := omega) only [Int32.lt_iff_toInt_lt, Int32.le_iff_toInt_le, ← Int32.toInt_inj, nI_toInt, i32_m1, i32_0, i32_m20, i32_m40, i32_m30, i32_m9] at *; omega))
            refine go_iloadn_3 iM_ends_19 ?_
            refine go_iloadn_2 iM_ends_20 ?_
            refine go_iconst (v := nI 1) iM_ends_21 rfl ?_
            first | refine gn_iadd iM_ends_22 ?_ | refine gm_iadd iM_ends_22 ?_ | refine gi_iadd iM_ends_22 ?_ | refine go_iadd iM_ends_22 ?_
            refine go_bipush (v := nI 20) iM_ends_23 (by decide) ?_
            refine gc_S1 iM_ends_25 (by decide) rfl rfl (Nat.le_of_ble_eq_true rfl) (Nat.le_of_ble_eq_true rfl) (by decide) (sp_M_in_f (by simp (disch := omega) only [nI_toInt, zI_toInt, i32_m20, i32_m40, i32_m30, i32_0, i32_m1]; omega)) ?_
            refine go_if_eq iM_ends_28 (fun c_28 => ?_) (fun c_28 => ?_)
            rotate_left
            · (first | omega | exact absurd c_28 (by decide) | (exfalso; simp (disch := omega) only [Int32.lt_iff_toInt_lt, Int32.le_iff_toInt_le, ← Int32.toInt_inj, nI_toInt, i32_m1, i32_0, i32_m20, i32_m40, i32_m30, i32_m9] at *; omega))
            refine go_iconst (v := (-1)) iM_ends_53 rfl ?_
            refine go_iret iM_ends_54 rfl ?_
            rfl
        · refine go_aloadn_0 iM_ends_0 rfl ?_
          refine go_iloadn_1 iM_ends_1 ?_
          refine gc_V1 iM_ends_2 rfl (by decide) (sk_43 _) rfl (Nat.le_of_ble_eq_true rfl) (Nat.le_of_ble_eq_true rfl) (by decide) (sp_M_isPlay_t h8 hcM hp) ?_
          refine go_if_eq iM_ends_5 (fun c_5 => ?_) (fun c_5 => ?_)
          · (first | omega | exact absurd c_5 (by decide) | (exfalso; simp (disch := omega) only [Int32.lt_iff_toInt_lt, Int32.le_iff_toInt_le, ← Int32.toInt_inj, nI_toInt, i32_m1, i32_0, i32_m20, i32_m40, i32_m30, i32_m9] at *; omega))
          refine go_iloadn_2 iM_ends_8 ?_
          refine go_bipush (v := (-20)) iM_ends_9 (by decide) ?_
          refine go_bipush (v := nI 20) iM_ends_11 (by decide) ?_
          refine gc_S1 iM_ends_13 (by decide) rfl rfl (Nat.le_of_ble_eq_true rfl) (Nat.le_of_ble_eq_true rfl) (by decide) (sp_M_in_f (by simp (disch := omega) only [nI_toInt, zI_toInt, i32_m20, i32_m40, i32_m30, i32_0, i32_m1]; omega)) ?_
          refine go_if_eq iM_ends_16 (fun c_16 => ?_) (fun c_16 => ?_)
          rotate_left
          · (first | omega | exact absurd c_16 (by decide) | (exfalso; simp (disch := omega) only [Int32.lt_iff_toInt_lt, Int32.le_iff_toInt_le, ← Int32.toInt_inj, nI_toInt, i32_m1, i32_0, i32_m20, i32_m40, i32_m30, i32_m9] at *; omega))
          refine go_iconst (v := (-1)) iM_ends_53 rfl ?_
          refine go_iret iM_ends_54 rfl ?_
          rfl
  · refine Pair.same (h1 := 3) (h2 := 2) (v := .int (-1)) hR0 ?_ ?_
    · show Go _ _ tT_ends (_, 0, [.ref 0, .int x, .int (zI lo), .int (zI pu), .int (zI hi), am_U, am_U, am_U, am_U, am_U, am_U, am_U, am_U], []) _
      refine go_aloadn_0 iT_ends_0 rfl ?_
      refine go_iloadn_1 iT_ends_1 ?_
      refine gc_V1 iT_ends_2 rfl (by decide) (sk_0 _) rfl (Nat.le_of_ble_eq_true rfl) (Nat.le_of_ble_eq_true rfl) (by decide) (sp_T_playAt_f h8 hcT hx) ?_
      refine go_astore_5 iT_ends_5 rfl (by simp [Value.category, am_U]) ?_
      refine go_aload_5 iT_ends_7 rfl ?_
      refine go_nulN iT_ends_9 ?_
      refine go_iconst (v := (-1)) iT_ends_22 rfl ?_
      refine go_iret iT_ends_23 rfl ?_
      rfl
    · show Go _ _ tM_ends (_, 0, [.ref 43, .int x, .int (zI lo), .int (zI pu), .int (zI hi), am_U, am_U, am_U, am_U, am_U, am_U, am_U, am_U, am_U], []) _
      refine go_aloadn_0 iM_ends_0 rfl ?_
      refine go_iloadn_1 iM_ends_1 ?_
      refine gc_V1 iM_ends_2 rfl (by decide) (sk_43 _) rfl (Nat.le_of_ble_eq_true rfl) (Nat.le_of_ble_eq_true rfl) (by decide) (sp_M_isPlay_f h8 hcM hx) ?_
      refine go_if_eq iM_ends_5 (fun c_5 => ?_) (fun c_5 => ?_)
      rotate_left
      · (first | omega | exact absurd c_5 (by decide) | (exfalso; simp (disch := omega) only [Int32.lt_iff_toInt_lt, Int32.le_iff_toInt_le, ← Int32.toInt_inj, nI_toInt, i32_m1, i32_0, i32_m20, i32_m40, i32_m30, i32_m9] at *; omega))
      refine go_iconst (v := (-1)) iM_ends_53 rfl ?_
      refine go_iret iM_ends_54 rfl ?_
      rfl
end END
