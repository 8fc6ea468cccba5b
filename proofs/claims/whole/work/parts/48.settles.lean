/-! ===== Round.settles, gainScale, outcome ===== -/
def SeI (mL0 mL : Nat → Nat → Int64) (k m : Nat) (A : Nat → Nat → Int) (G : Nat → Int) (r : Nat) : Prop := (∀ a, a ≠ 23 + 4 * k → a ≠ 26 + 4 * k → mL a = mL0 a) ∧ (∀ y, y ≠ 6 → y ≠ 7 → mL (23 + 4 * k) y = mL0 (23 + 4 * k) y) ∧ mL (23 + 4 * k) 6 = zL (wsZ m A r) ∧ mL (23 + 4 * k) 7 = zL (gsZ m A G r) ∧ ∀ g, g < r → mL (26 + 4 * k) g = zL (wtZ m A g)
section SET
variable {S : am_S} {mI : Nat → Nat → Int32} {mL mL0 : Nat → Nat → Int64} {n k m T : Nat} {s : Int} {A : Nat → Nat → Int} {G : Nat → Int}
theorem sp_R_weight {r : Nat} (hk : k < 5) (h1 : 1 ≤ m) (hm3 : m ≤ 3) (hr : r < m) (hR : RdI mI mL k m T s A G) : Sp S 1 tR_weightOf (am_sh n, mI, mL, am_mR n) [.ref (23 + 4 * k), .int (nI r)] (fun q => q = (some (.long (zL (wtZ m A r))), (am_sh n, mI, mL, am_mR n))) := by
  have hs := sk_rnd n hk
  obtain ⟨a1, a2, a3, a4, a5⟩ := hR
  have e : m = 1 ∨ m = 2 ∨ m = 3 := by omega
  have b1 : (r + 1) % m < m := Nat.mod_lt _ (by omega)
  have b2 : (r + 2) % m < m := Nat.mod_lt _ (by omega)
  have q1 := a4 _ _ b1 hr
  have q2 := a4 _ _ b2 hr
  have q3 := a4 _ _ b1 b2
  have q4 := a4 _ _ b2 b1
  show Go _ _ tR_weightOf (_, 0, [.ref (23 + 4 * k), .int (nI r), am_U, am_U], []) _
  by_cases c1 : m = 1
  · rw [show wtZ m A r = 1 by unfold wtZ; rw [if_pos c1]]
    refine go_aloadn_0 iR_weightOf_0 rfl ?_
    refine go_getI iR_weightOf_1 (Or.inl rfl) (by assumption) ?_
    try simp (disch := omega) only [am_u_n, am_u_s, am_u_k, a1]
    refine go_iconst (v := nI 2) iR_weightOf_4 rfl ?_
    first | refine gn_ic_ge iR_weightOf_5 (by omega) (by omega) (fun c_5 => ?_) (fun c_5 => ?_) | refine go_ic_ge iR_weightOf_5 (fun c_5 => ?_) (fun c_5 => ?_)
    · (first | omega | exact absurd c_5 (by decide) | (exfalso; simp (disch := omega) only [Int32.lt_iff_toInt_lt, Int32.le_iff_toInt_le, ← Int32.toInt_inj, nI_toInt, i32_m1, i32_0, i32_m20, i32_m40, i32_m30, i32_m9] at *; omega))
    refine go_lconst (v := 1) iR_weightOf_8 rfl ?_
    refine go_lret iR_weightOf_9 rfl ?_
    rfl
  · by_cases c2 : m = 2
    · rw [show wtZ m A r = A ((r + 1) % m) r by unfold wtZ; rw [if_neg c1, if_pos c2]]
      refine go_aloadn_0 iR_weightOf_0 rfl ?_
      refine go_getI iR_weightOf_1 (Or.inl rfl) (by assumption) ?_
      try simp (disch := omega) only [am_u_n, am_u_s, am_u_k, a1]
      refine go_iconst (v := nI 2) iR_weightOf_4 rfl ?_
      first | refine gn_ic_ge iR_weightOf_5 (by omega) (by omega) (fun c_5 => ?_) (fun c_5 => ?_) | refine go_ic_ge iR_weightOf_5 (fun c_5 => ?_) (fun c_5 => ?_)
      rotate_left
      · (first | omega | exact absurd c_5 (by decide) | (exfalso; simp (disch := omega) only [Int32.lt_iff_toInt_lt, Int32.le_iff_toInt_le, ← Int32.toInt_inj, nI_toInt, i32_m1, i32_0, i32_m20, i32_m40, i32_m30, i32_m9] at *; omega))
      refine go_iloadn_1 iR_weightOf_10 ?_
      refine go_iconst (v := nI 1) iR_weightOf_11 rfl ?_
      first | refine gn_iadd iR_weightOf_12 ?_ | refine go_iadd iR_weightOf_12 ?_
      refine go_aloadn_0 iR_weightOf_13 rfl ?_
      refine go_getI iR_weightOf_14 (Or.inl rfl) (by assumption) ?_
      try simp (disch := omega) only [am_u_n, am_u_s, am_u_k, a1]
      refine gn_irem iR_weightOf_17 (by omega) (by omega) (by omega) ?_
      refine go_istoren_2 iR_weightOf_18 (by simp [Value.category, am_U]) ?_
      refine go_aloadn_0 iR_weightOf_19 rfl ?_
      refine go_getI iR_weightOf_20 (Or.inl rfl) (by assumption) ?_
      try simp (disch := omega) only [am_u_n, am_u_s, am_u_k, a1]
      refine go_iconst (v := nI 2) iR_weightOf_23 rfl ?_
      first | refine gn_ic_ne iR_weightOf_24 (by omega) (by omega) (fun c_24 => ?_) (fun c_24 => ?_) | refine go_ic_ne iR_weightOf_24 (fun c_24 => ?_) (fun c_24 => ?_)
      · (first | omega | exact absurd c_24 (by decide) | (exfalso; simp (disch := omega) only [Int32.lt_iff_toInt_lt, Int32.le_iff_toInt_le, ← Int32.toInt_inj, nI_toInt, i32_m1, i32_0, i32_m20, i32_m40, i32_m30, i32_m9] at *; omega))
      refine go_aloadn_0 iR_weightOf_27 rfl ?_
      refine go_iloadn_2 iR_weightOf_28 ?_
      refine go_iloadn_1 iR_weightOf_29 ?_
      refine gc_V1 iR_weightOf_30 rfl (by decide) hs rfl (Nat.le_of_ble_eq_true rfl) (Nat.le_of_ble_eq_true rfl) (by decide) (sp_R_chance hk (by omega) (by omega)) ?_
      refine go_lret iR_weightOf_33 rfl ?_
      rw [q1]
    · rw [show wtZ m A r = A ((r + 1) % m) r * A ((r + 2) % m) r + A ((r + 1) % m) ((r + 2) % m) * A ((r + 2) % m) r + A ((r + 2) % m) ((r + 1) % m) * A ((r + 1) % m) r by unfold wtZ; rw [if_neg c1, if_neg c2]]
      refine go_aloadn_0 iR_weightOf_0 rfl ?_
      refine go_getI iR_weightOf_1 (Or.inl rfl) (by assumption) ?_
      try simp (disch := omega) only [am_u_n, am_u_s, am_u_k, a1]
      refine go_iconst (v := nI 2) iR_weightOf_4 rfl ?_
      first | refine gn_ic_ge iR_weightOf_5 (by omega) (by omega) (fun c_5 => ?_) (fun c_5 => ?_) | refine go_ic_ge iR_weightOf_5 (fun c_5 => ?_) (fun c_5 => ?_)
      rotate_left
      · (first | omega | exact absurd c_5 (by decide) | (exfalso; simp (disch := omega) only [Int32.lt_iff_toInt_lt, Int32.le_iff_toInt_le, ← Int32.toInt_inj, nI_toInt, i32_m1, i32_0, i32_m20, i32_m40, i32_m30, i32_m9] at *; omega))
      refine go_iloadn_1 iR_weightOf_10 ?_
      refine go_iconst (v := nI 1) iR_weightOf_11 rfl ?_
      first | refine gn_iadd iR_weightOf_12 ?_ | refine go_iadd iR_weightOf_12 ?_
      refine go_aloadn_0 iR_weightOf_13 rfl ?_
      refine go_getI iR_weightOf_14 (Or.inl rfl) (by assumption) ?_
      try simp (disch := omega) only [am_u_n, am_u_s, am_u_k, a1]
      refine gn_irem iR_weightOf_17 (by omega) (by omega) (by omega) ?_
      refine go_istoren_2 iR_weightOf_18 (by simp [Value.category, am_U]) ?_
      refine go_aloadn_0 iR_weightOf_19 rfl ?_
      refine go_getI iR_weightOf_20 (Or.inl rfl) (by assumption) ?_
      try simp (disch := omega) only [am_u_n, am_u_s, am_u_k, a1]
      refine go_iconst (v := nI 2) iR_weightOf_23 rfl ?_
      first | refine gn_ic_ne iR_weightOf_24 (by omega) (by omega) (fun c_24 => ?_) (fun c_24 => ?_) | refine go_ic_ne iR_weightOf_24 (fun c_24 => ?_) (fun c_24 => ?_)
      rotate_left
      · (first | omega | exact absurd c_24 (by decide) | (exfalso; simp (disch := omega) only [Int32.lt_iff_toInt_lt, Int32.le_iff_toInt_le, ← Int32.toInt_inj, nI_toInt, i32_m1, i32_0, i32_m20, i32_m40, i32_m30, i32_m9] at *; omega))
      refine go_iloadn_1 iR_weightOf_34 ?_
      refine go_iconst (v := nI 2) iR_weightOf_35 rfl ?_
      first | refine gn_iadd iR_weightOf_36 ?_ | refine go_iadd iR_weightOf_36 ?_
      refine go_aloadn_0 iR_weightOf_37 rfl ?_
      refine go_getI iR_weightOf_38 (Or.inl rfl) (by assumption) ?_
      try simp (disch := omega) only [am_u_n, am_u_s, am_u_k, a1]
      refine gn_irem iR_weightOf_41 (by omega) (by omega) (by omega) ?_
      refine go_istoren_3 iR_weightOf_42 (by simp [Value.category, am_U]) ?_
      refine go_aloadn_0 iR_weightOf_43 rfl ?_
      refine go_iloadn_2 iR_weightOf_44 ?_
      refine go_iloadn_1 iR_weightOf_45 ?_
      refine gc_V1 iR_weightOf_46 rfl (by decide) (by assumption) rfl (Nat.le_of_ble_eq_true rfl) (Nat.le_of_ble_eq_true rfl) (by decide) (sp_R_chance hk (by omega) (by omega)) ?_
      refine go_aloadn_0 iR_weightOf_49 rfl ?_
      refine go_iloadn_3 iR_weightOf_50 ?_
      refine go_iloadn_1 iR_weightOf_51 ?_
      refine gc_V1 iR_weightOf_52 rfl (by decide) (by assumption) rfl (Nat.le_of_ble_eq_true rfl) (Nat.le_of_ble_eq_true rfl) (by decide) (sp_R_chance hk (by omega) (by omega)) ?_
      refine go_lmul iR_weightOf_55 ?_
      refine go_aloadn_0 iR_weightOf_56 rfl ?_
      refine go_iloadn_2 iR_weightOf_57 ?_
      refine go_iloadn_3 iR_weightOf_58 ?_
      refine gc_V1 iR_weightOf_59 rfl (by decide) (by assumption) rfl (Nat.le_of_ble_eq_true rfl) (Nat.le_of_ble_eq_true rfl) (by decide) (sp_R_chance hk (by omega) (by omega)) ?_
      refine go_aloadn_0 iR_weightOf_62 rfl ?_
      refine go_iloadn_3 iR_weightOf_63 ?_
      refine go_iloadn_1 iR_weightOf_64 ?_
      refine gc_V1 iR_weightOf_65 rfl (by decide) (by assumption) rfl (Nat.le_of_ble_eq_true rfl) (Nat.le_of_ble_eq_true rfl) (by decide) (sp_R_chance hk (by omega) (by omega)) ?_
      refine go_lmul iR_weightOf_68 ?_
      refine go_ladd iR_weightOf_69 ?_
      refine go_aloadn_0 iR_weightOf_70 rfl ?_
      refine go_iloadn_3 iR_weightOf_71 ?_
      refine go_iloadn_2 iR_weightOf_72 ?_
      refine gc_V1 iR_weightOf_73 rfl (by decide) (by assumption) rfl (Nat.le_of_ble_eq_true rfl) (Nat.le_of_ble_eq_true rfl) (by decide) (sp_R_chance hk (by omega) (by omega)) ?_
      refine go_aloadn_0 iR_weightOf_76 rfl ?_
      refine go_iloadn_2 iR_weightOf_77 ?_
      refine go_iloadn_1 iR_weightOf_78 ?_
      refine gc_V1 iR_weightOf_79 rfl (by decide) (by assumption) rfl (Nat.le_of_ble_eq_true rfl) (Nat.le_of_ble_eq_true rfl) (by decide) (sp_R_chance hk (by omega) (by omega)) ?_
      refine go_lmul iR_weightOf_82 ?_
      refine go_ladd iR_weightOf_83 ?_
      refine go_lret iR_weightOf_84 rfl ?_
      simp only [q1, q2, q3, q4, zL_mul, zL_add]
theorem lo_R_set {v : Nat} {Q : Option Value × am_M → Prop} (hk : k < 5) (h1 : 1 ≤ m) (hm3 : m ≤ 3) (hW : -9223372036854775808 ≤ wsZ m A m ∧ wsZ m A m < 9223372036854775808) (hv : v = if 0 < wsZ m A m then 1 else 0) (hR0 : RdI mI mL0 k m T s A G) (kq : ∀ mL, SeI mL0 mL k m A G m → Q (some (.int (nI v)), (am_sh n, mI, mL, am_mR n))) : ∀ l i (mL : Nat → Nat → Int64), i + l = m → SeI mL0 mL k m A G i → Go S 2 tR_settles ((am_sh n, mI, mL, am_mR n), 12, [.ref (23 + 4 * k), .int (nI i)], []) Q
  | 0, i, mL, hi, hF => by
    obtain rfl : i = m := by omega
    have hs := sk_rnd n hk
    have a1 := hR0.1
    have hw := hF.2.2.1
    have c1 : ∀ c : 0 < wsZ i A i, nI 1 = nI v := fun c => by rw [hv, if_pos c]
    have c0 : ∀ c : wsZ i A i ≤ 0, nI 0 = nI v := fun c => by rw [hv, if_neg (by omega)]
    refine go_iloadn_1 iR_settles_12 ?_
    refine go_aloadn_0 iR_settles_13 rfl ?_
    refine go_getI iR_settles_14 (Or.inl rfl) (by assumption) ?_
    try simp (disch := omega) only [am_u_n, am_u_s, am_u_k, a1, hw]
    first | refine gn_ic_ge iR_settles_17 (by omega) (by omega) (fun c_17 => ?_) (fun c_17 => ?_) | refine go_ic_ge iR_settles_17 (fun c_17 => ?_) (fun c_17 => ?_)
    rotate_left
    · (first | omega | exact absurd c_17 (by decide) | (exfalso; simp (disch := omega) only [Int32.lt_iff_toInt_lt, Int32.le_iff_toInt_le, ← Int32.toInt_inj, nI_toInt, i32_m1, i32_0, i32_m20, i32_m40, i32_m30, i32_m9] at *; omega))
    refine go_aloadn_0 iR_settles_74 rfl ?_
    refine go_getL iR_settles_75 rfl (by assumption) ?_
    try simp (disch := omega) only [am_u_n, am_u_s, am_u_k, a1, hw]
    refine go_lconst (v := zL 0) iR_settles_78 rfl ?_
    refine gz_lc_le iR_settles_79 iR_settles_80 (by omega) (by omega) (fun c_79 => ?_) (fun c_79 => ?_)
    · refine go_iconst (v := nI 0) iR_settles_87 rfl ?_
      refine go_zret iR_settles_88 rfl (by first | exact Or.inl rfl | exact Or.inr rfl) ?_
      first | (rw [c1 c_79]; exact kq _ hF) | (rw [c0 c_79]; exact kq _ hF)
    · refine go_iconst (v := nI 1) iR_settles_83 rfl ?_
      refine go_goto iR_settles_84 ?_
      refine go_zret iR_settles_88 rfl (by first | exact Or.inl rfl | exact Or.inr rfl) ?_
      first | (rw [c1 c_79]; exact kq _ hF) | (rw [c0 c_79]; exact kq _ hF)
  | l + 1, i, mL, hi, hF => by
    have hs := sk_rnd n hk
    obtain ⟨⟨g1, g2, g3, g4⟩, g5, g6, g7, g8⟩ := sh_rnd n hk
    obtain ⟨f1, f2, f3, f4, f5⟩ := hF
    have hR : RdI mI mL k m T s A G := hR0.of rfl (f2 2 (by decide) (by decide)) (f1 _ (by omega) (by omega)) (f1 _ (by omega) (by omega))
    have a1 := hR0.1
    have a5 := hR.2.2.2.2 i (by omega)
    refine go_iloadn_1 iR_settles_12 ?_
    refine go_aloadn_0 iR_settles_13 rfl ?_
    refine go_getI iR_settles_14 (Or.inl rfl) (by assumption) ?_
    try simp (disch := omega) only [am_u_n, am_u_s, am_u_k, a1, f3, f4, a5]
    first | refine gn_ic_ge iR_settles_17 (by omega) (by omega) (fun c_17 => ?_) (fun c_17 => ?_) | refine go_ic_ge iR_settles_17 (fun c_17 => ?_) (fun c_17 => ?_)
    · (first | omega | exact absurd c_17 (by decide) | (exfalso; simp (disch := omega) only [Int32.lt_iff_toInt_lt, Int32.le_iff_toInt_le, ← Int32.toInt_inj, nI_toInt, i32_m1, i32_0, i32_m20, i32_m40, i32_m30, i32_m9] at *; omega))
    refine go_aloadn_0 iR_settles_20 rfl ?_
    refine go_getR iR_settles_21 rfl (by assumption) (by assumption) ?_
    refine go_iloadn_1 iR_settles_24 ?_
    refine go_aloadn_0 iR_settles_25 rfl ?_
    refine go_iloadn_1 iR_settles_26 ?_
    refine gc_V1 iR_settles_27 rfl (by decide) hs rfl (Nat.le_of_ble_eq_true rfl) (Nat.le_of_ble_eq_true rfl) (by decide) (sp_R_weight hk h1 hm3 (by omega) hR) ?_
    refine go_last iR_settles_30 (by assumption) rfl (by omega) (by omega) ?_
    refine go_aloadn_0 iR_settles_31 rfl ?_
    refine go_dup iR_settles_32 rfl ?_
    refine go_getL iR_settles_33 rfl (by assumption) ?_
    try simp (disch := omega) only [am_u_n, am_u_s, am_u_k, a1, f3, f4, a5]
    refine go_aloadn_0 iR_settles_36 rfl ?_
    refine go_getR iR_settles_37 rfl (by assumption) (by assumption) ?_
    refine go_iloadn_1 iR_settles_40 ?_
    refine go_lald iR_settles_41 (by assumption) rfl (by omega) (by omega) ?_
    try simp (disch := omega) only [am_u_n, am_u_s, am_u_k, a1, f3, f4, a5]
    first | refine gz_ladd iR_settles_42 ?_ | refine go_ladd iR_settles_42 ?_
    refine go_putL iR_settles_43 rfl (by assumption) ?_
    refine go_aloadn_0 iR_settles_46 rfl ?_
    refine go_dup iR_settles_47 rfl ?_
    refine go_getL iR_settles_48 rfl (by assumption) ?_
    try simp (disch := omega) only [am_u_n, am_u_s, am_u_k, a1, f3, f4, a5]
    refine go_aloadn_0 iR_settles_51 rfl ?_
    refine go_getR iR_settles_52 rfl (by assumption) (by assumption) ?_
    refine go_iloadn_1 iR_settles_55 ?_
    refine go_lald iR_settles_56 (by assumption) rfl (by omega) (by omega) ?_
    try simp (disch := omega) only [am_u_n, am_u_s, am_u_k, a1, f3, f4, a5]
    refine go_aloadn_0 iR_settles_57 rfl ?_
    refine go_getR iR_settles_58 rfl (by assumption) (by assumption) ?_
    refine go_iloadn_1 iR_settles_61 ?_
    refine go_lald iR_settles_62 (by assumption) rfl (by omega) (by omega) ?_
    try simp (disch := omega) only [am_u_n, am_u_s, am_u_k, a1, f3, f4, a5]
    first | refine gz_lmul iR_settles_63 ?_ | refine go_lmul iR_settles_63 ?_
    first | refine gz_ladd iR_settles_64 ?_ | refine go_ladd iR_settles_64 ?_
    refine go_putL iR_settles_65 rfl (by assumption) ?_
    first | refine go_iinc_1 iR_settles_68 (ni_inc _ 1) (by simp [Value.category, am_U]) ?_ | refine go_iinc_1 iR_settles_68 rfl (by simp [Value.category, am_U]) ?_
    refine go_goto iR_settles_71 ?_
    refine lo_R_set hk h1 hm3 hW hv hR0 kq l (i + 1) _ (by omega) ⟨fun a b1 b2 => ?_, fun y b1 b2 => ?_, ?_, ?_, fun g hg => ?_⟩
    · rw [am_u_r b1, am_u_r b1, am_u_r b2]; exact f1 a b1 b2
    · rw [am_u_k b2, am_u_k b1, am_u_n (by omega)]; exact f2 y b1 b2
    · rw [am_u_k (by decide), am_u_s]; rfl
    · rw [am_u_s]; rfl
    · rw [am_u_n (by omega), am_u_n (by omega)]
      by_cases e : g = i
      · rw [e, am_u_s]
      · rw [am_u_k e]; exact f5 g (by omega)
theorem ex_R_settles (hk : k < 5) (h1 : 1 ≤ m) (hm3 : m ≤ 3) (hW : -9223372036854775808 ≤ wsZ m A m ∧ wsZ m A m < 9223372036854775808) (hR : RdI mI mL k m T s A G) : Ex S 2 tR_settles n mI mL [.ref (23 + 4 * k)] (some (.int (nI (if 0 < wsZ m A m then 1 else 0)))) (fun mI' mL' => mI' = mI ∧ RdI mI' mL' k m T s A G ∧ FrK k mI mI' mL mL' ∧ mL' (23 + 4 * k) 6 = zL (wsZ m A m) ∧ mL' (23 + 4 * k) 7 = zL (gsZ m A G m) ∧ ∀ g, g < m → mL' (26 + 4 * k) g = zL (wtZ m A g)) := by
  have hs := sk_rnd n hk
  unfold Ex
  show Go _ _ tR_settles (_, 0, [.ref (23 + 4 * k), am_U], []) _
  refine go_aloadn_0 iR_settles_0 rfl ?_
  refine go_lconst (v := zL 0) iR_settles_1 rfl ?_
  refine go_putL iR_settles_2 rfl (by assumption) ?_
  refine go_aloadn_0 iR_settles_5 rfl ?_
  refine go_lconst (v := zL 0) iR_settles_6 rfl ?_
  refine go_putL iR_settles_7 rfl (by assumption) ?_
  refine go_iconst (v := nI 0) iR_settles_10 rfl ?_
  refine go_istoren_1 iR_settles_11 (by simp [Value.category, am_U]) ?_
  refine lo_R_set (mL0 := mL) hk h1 hm3 hW rfl hR (fun mL2 hF => ?_) m 0 _ (by omega) ⟨fun a b1 b2 => ?_, fun y b1 b2 => ?_, ?_, ?_, fun g hg => by omega⟩
  · obtain ⟨f1, f2, f3, f4, f5⟩ := hF
    refine ex_i ⟨rfl, hR.of rfl (f2 2 (by decide) (by decide)) (f1 _ (by omega) (by omega)) (f1 _ (by omega) (by omega)), ⟨fun a _ => rfl, fun a h1 h2 h3 h4 => f1 a h1 h4⟩, f3, f4, f5⟩
  · rw [am_u_r b1, am_u_r b1]
  · rw [am_u_k b2, am_u_k b1]
  · rw [am_u_k (by decide), am_u_s]; rfl
  · rw [am_u_s]; rfl
theorem sp_R_gainScale {W : Int} (hk : k < 5) (hT : T ≤ 4) (hR : RdI mI mL k m T s A G) (h6 : mL (23 + 4 * k) 6 = zL W) : Sp S 0 tR_gainScale (am_sh n, mI, mL, am_mR n) [.ref (23 + 4 * k)] (fun q => q = (some (.long (zL (W * s * (T : Int)))), (am_sh n, mI, mL, am_mR n))) := by
  have hs := sk_rnd n hk
  obtain ⟨a1, a2, a3, a4, a5⟩ := hR
  show Go _ _ tR_gainScale (_, 0, [.ref (23 + 4 * k)], []) _
  refine go_aloadn_0 iR_gainScale_0 rfl ?_
  refine go_getL iR_gainScale_1 rfl (by assumption) ?_
  try simp (disch := omega) only [am_u_n, am_u_s, am_u_k, h6, a2, a3]
  refine go_aloadn_0 iR_gainScale_4 rfl ?_
  refine go_getL iR_gainScale_5 rfl (by assumption) ?_
  try simp (disch := omega) only [am_u_n, am_u_s, am_u_k, h6, a2, a3]
  first | refine gz_lmul iR_gainScale_8 ?_ | refine go_lmul iR_gainScale_8 ?_
  refine go_aloadn_0 iR_gainScale_9 rfl ?_
  refine go_getI iR_gainScale_10 (Or.inl rfl) (by assumption) ?_
  try simp (disch := omega) only [am_u_n, am_u_s, am_u_k, h6, a2, a3]
  first | refine gz_i2l iR_gainScale_13 (by omega) ?_ | refine gz_i2lI iR_gainScale_13 ?_
  first | refine gz_lmul iR_gainScale_14 ?_ | refine go_lmul iR_gainScale_14 ?_
  refine go_lret iR_gainScale_15 rfl ?_
  rfl
theorem sp_R_outcome {U : Int} (hk : k < 5) (hU : -9223372036854775808 ≤ U ∧ U < 9223372036854775808) (h7 : mL (23 + 4 * k) 7 = zL U) : Sp S 0 tR_outcome (am_sh n, mI, mL, am_mR n) [.ref (23 + 4 * k)] (fun q => q = (some (.int (nI (if 0 < U then 1 else if U < 0 then 2 else 0))), (am_sh n, mI, mL, am_mR n))) := by
  have hs := sk_rnd n hk
  show Go _ _ tR_outcome (_, 0, [.ref (23 + 4 * k)], []) _
  by_cases c1 : 0 < U
  · rw [if_pos c1]
    refine go_aloadn_0 iR_outcome_0 rfl ?_
    refine go_getL iR_outcome_1 rfl (by assumption) ?_
    try simp (disch := omega) only [am_u_n, am_u_s, am_u_k, h7]
    refine go_lconst (v := zL 0) iR_outcome_4 rfl ?_
    refine gz_lc_le iR_outcome_5 iR_outcome_6 (by omega) (by omega) (fun c_5 => ?_) (fun c_5 => ?_)
    · (first | omega | exact absurd c_5 (by decide) | (exfalso; simp (disch := omega) only [Int32.lt_iff_toInt_lt, Int32.le_iff_toInt_le, ← Int32.toInt_inj, nI_toInt, i32_m1, i32_0, i32_m20, i32_m40, i32_m30, i32_m9] at *; omega))
    refine go_iconst (v := nI 1) iR_outcome_9 rfl ?_
    refine go_iret iR_outcome_10 rfl ?_
    rfl
  · rw [if_neg c1]
    by_cases c2 : U < 0
    · rw [if_pos c2]
      refine go_aloadn_0 iR_outcome_0 rfl ?_
      refine go_getL iR_outcome_1 rfl (by assumption) ?_
      try simp (disch := omega) only [am_u_n, am_u_s, am_u_k, h7]
      refine go_lconst (v := zL 0) iR_outcome_4 rfl ?_
      refine gz_lc_le iR_outcome_5 iR_outcome_6 (by omega) (by omega) (fun c_5 => ?_) (fun c_5 => ?_)
      rotate_left
      · (first | omega | exact absurd c_5 (by decide) | (exfalso; simp (disch := omega) only [Int32.lt_iff_toInt_lt, Int32.le_iff_toInt_le, ← Int32.toInt_inj, nI_toInt, i32_m1, i32_0, i32_m20, i32_m40, i32_m30, i32_m9] at *; omega))
      refine go_aloadn_0 iR_outcome_11 rfl ?_
      refine go_getL iR_outcome_12 rfl (by assumption) ?_
      try simp (disch := omega) only [am_u_n, am_u_s, am_u_k, h7]
      refine go_lconst (v := zL 0) iR_outcome_15 rfl ?_
      refine gz_lc_ge iR_outcome_16 iR_outcome_17 (by omega) (by omega) (fun c_16 => ?_) (fun c_16 => ?_)
      · (first | omega | exact absurd c_16 (by decide) | (exfalso; simp (disch := omega) only [Int32.lt_iff_toInt_lt, Int32.le_iff_toInt_le, ← Int32.toInt_inj, nI_toInt, i32_m1, i32_0, i32_m20, i32_m40, i32_m30, i32_m9] at *; omega))
      refine go_iconst (v := nI 2) iR_outcome_20 rfl ?_
      refine go_goto iR_outcome_21 ?_
      refine go_iret iR_outcome_25 rfl ?_
      rfl
    · rw [if_neg c2]
      refine go_aloadn_0 iR_outcome_0 rfl ?_
      refine go_getL iR_outcome_1 rfl (by assumption) ?_
      try simp (disch := omega) only [am_u_n, am_u_s, am_u_k, h7]
      refine go_lconst (v := zL 0) iR_outcome_4 rfl ?_
      refine gz_lc_le iR_outcome_5 iR_outcome_6 (by omega) (by omega) (fun c_5 => ?_) (fun c_5 => ?_)
      rotate_left
      · (first | omega | exact absurd c_5 (by decide) | (exfalso; simp (disch := omega) only [Int32.lt_iff_toInt_lt, Int32.le_iff_toInt_le, ← Int32.toInt_inj, nI_toInt, i32_m1, i32_0, i32_m20, i32_m40, i32_m30, i32_m9] at *; omega))
      refine go_aloadn_0 iR_outcome_11 rfl ?_
      refine go_getL iR_outcome_12 rfl (by assumption) ?_
      try simp (disch := omega) only [am_u_n, am_u_s, am_u_k, h7]
      refine go_lconst (v := zL 0) iR_outcome_15 rfl ?_
      refine gz_lc_ge iR_outcome_16 iR_outcome_17 (by omega) (by omega) (fun c_16 => ?_) (fun c_16 => ?_)
      rotate_left
      · (first | omega | exact absurd c_16 (by decide) | (exfalso; simp (disch := omega) only [Int32.lt_iff_toInt_lt, Int32.le_iff_toInt_le, ← Int32.toInt_inj, nI_toInt, i32_m1, i32_0, i32_m20, i32_m40, i32_m30, i32_m9] at *; omega))
      refine go_iconst (v := nI 0) iR_outcome_24 rfl ?_
      refine go_iret iR_outcome_25 rfl ?_
      rfl
end SET
