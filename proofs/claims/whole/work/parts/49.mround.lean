/-! ===== the reference's rounds ===== -/
/-- all but the rows 52, 53, 54 -/
def FrT3 (mL mL' : Nat → Nat → Int64) : Prop := ∀ a, a ≠ 52 → a ≠ 53 → a ≠ 54 → mL' a = mL a
def TuI (mL0 mL : Nat → Nat → Int64) (m B f : Nat) (w : Nat → Nat) (v : Nat → Int) (G h : Int) (i : Nat) : Prop := (∀ a, a ≠ 52 → a ≠ 54 → mL a = mL0 a) ∧ (∀ x, x ≠ f → mL 52 x = mL0 52 x) ∧ mL 52 f = zL (G + gP B w v i * h) ∧ ∀ x, x < m → mL 54 x = zL (stP m B w v i x)
theorem win2 (v : Int) {b w : Nat} (h : w ≤ b) (k : Int) : v * (2 * (w : Int) - (b : Int)) * k = (v * (w : Int) - v * ((b - w : Nat) : Int)) * k := by
  congr 1
  rw [← Int.mul_sub]
  congr 1
  omega
section MRD
variable {S : am_S} {mI : Nat → Nat → Int32} {mL mL0 : Nat → Nat → Int64} {n m B f t : Nat} {w : Nat → Nat} {v : Nat → Int} {G h : Int}
theorem TuI.step {i : Nat} (hi : i < m) (hwB : w i ≤ B) (hF : TuI mL0 mL m B f w v G h i) : TuI mL0 (am_u (am_u (am_u mL 52 f (zL (G + gP B w v i * h + v i * (2 * (w i : Int) - (B : Int)) * h))) 54 (upR m i) (zL (stP m B w v i (upR m i) + v i * (w i : Int)))) 54 (dnR m i) (zL ((if dnR m i = upR m i then stP m B w v i (upR m i) + v i * (w i : Int) else stP m B w v i (dnR m i)) + v i * ((B : Int) - (w i : Int))))) m B f w v G h (i + 1) := by
  obtain ⟨f1, f2, f3, f4⟩ := hF
  have hB : (B : Int) - (w i : Int) = ((B - w i : Nat) : Int) := by omega
  refine ⟨fun a a1 a2 => ?_, fun x hx => ?_, ?_, fun x hx => ?_⟩
  · rw [am_u_r a2, am_u_r a2, am_u_r a1, f1 a a1 a2]
  · rw [am_u_n (by omega), am_u_n (by omega), am_u_k hx, f2 x hx]
  · rw [am_u_n (by omega), am_u_n (by omega), am_u_s]
    congr 1
    rw [win2 _ hwB]
    simp only [gP, Int.add_mul, Int.add_assoc]
  · by_cases e1 : x = dnR m i
    · subst e1
      rw [am_u_s, hB]
      congr 1
      by_cases e2 : dnR m i = upR m i
      · simp only [stP, e2, if_true]
      · simp only [stP, e2, if_true, if_false, Int.add_zero]
    · rw [am_u_k e1]
      by_cases e2 : x = upR m i
      · subst e2
        rw [am_u_s]
        congr 1
        simp only [stP, e1, if_true, if_false, Int.add_zero]
      · rw [am_u_k e2, am_u_n (by omega), f4 x hx]
        congr 1
        simp only [stP, e1, e2, if_false, Int.add_zero]
theorem lo_M_tu0 {Q : Option Value × am_M → Prop} (hm3 : m ≤ 3) (hmM : mI 43 4 = nI m) {z z' : Value} (kq : ∀ mL, ((∀ a, a ≠ 54 → mL a = mL0 a) ∧ ∀ x, x < m → mL 54 x = zL 0) → Go S 0 tM_turn ((am_sh n, mI, mL, am_mR n), 26, [.ref 43, .int (nI t), .int (nI f), .long (zL h), am_U, .int (nI m), z, z'], []) Q) : ∀ l i (mL : Nat → Nat → Int64), i + l = m → ((∀ a, a ≠ 54 → mL a = mL0 a) ∧ ∀ x, x < i → mL 54 x = zL 0) → Go S 0 tM_turn ((am_sh n, mI, mL, am_mR n), 3, [.ref 43, .int (nI t), .int (nI f), .long (zL h), am_U, .int (nI i), z, z'], []) Q
  | 0, i, mL, hi, hF => by
    obtain rfl : i = m := by omega
    refine go_iload_5 iM_turn_3 ?_
    refine go_aloadn_0 iM_turn_5 rfl ?_
    refine go_getI iM_turn_6 (Or.inl rfl) (sk_43 _) ?_
    try simp (disch := omega) only [am_u_n, am_u_s, am_u_k, hmM]
    first | refine gn_ic_ge iM_turn_9 (by omega) (by omega) (fun c_9 => ?_) (fun c_9 => ?_) | refine go_ic_ge iM_turn_9 (fun c_9 => ?_) (fun c_9 => ?_)
    rotate_left
    · (first | omega | exact absurd c_9 (by decide) | (exfalso; simp (disch := omega) only [Int32.lt_iff_toInt_lt, Int32.le_iff_toInt_le, ← Int32.toInt_inj, nI_toInt, i32_m1, i32_0, i32_m20, i32_m40, i32_m30, i32_m9] at *; omega))
    exact kq _ hF
  | l + 1, i, mL, hi, hF => by
    refine go_iload_5 iM_turn_3 ?_
    refine go_aloadn_0 iM_turn_5 rfl ?_
    refine go_getI iM_turn_6 (Or.inl rfl) (sk_43 _) ?_
    try simp (disch := omega) only [am_u_n, am_u_s, am_u_k, hmM]
    first | refine gn_ic_ge iM_turn_9 (by omega) (by omega) (fun c_9 => ?_) (fun c_9 => ?_) | refine go_ic_ge iM_turn_9 (fun c_9 => ?_) (fun c_9 => ?_)
    · (first | omega | exact absurd c_9 (by decide) | (exfalso; simp (disch := omega) only [Int32.lt_iff_toInt_lt, Int32.le_iff_toInt_le, ← Int32.toInt_inj, nI_toInt, i32_m1, i32_0, i32_m20, i32_m40, i32_m30, i32_m9] at *; omega))
    refine go_aloadn_0 iM_turn_12 rfl ?_
    refine go_getR iM_turn_13 rfl (sk_43 _) (mR_43_18 _) ?_
    refine go_iload_5 iM_turn_16 ?_
    refine go_lconst (v := zL 0) iM_turn_18 rfl ?_
    refine go_last iM_turn_19 (sh_54 _) rfl (by omega) (by omega) ?_
    first | refine go_iinc_5 iM_turn_20 (ni_inc _ 1) (by simp [Value.category, am_U]) ?_ | refine go_iinc_5 iM_turn_20 rfl (by simp [Value.category, am_U]) ?_
    refine go_goto iM_turn_23 ?_
    refine lo_M_tu0 hm3 hmM kq l (i + 1) _ (by omega) ⟨fun a ha => by rw [am_u_r ha]; exact hF.1 a ha, fun x hx => ?_⟩
    by_cases e : x = i
    · rw [e, am_u_s]
    · rw [am_u_k e]; exact hF.2 x (by omega)
theorem lo_M_tu1 {Q : Option Value × am_M → Prop} (h1 : 1 ≤ m) (hm3 : m ≤ 3) (hf : f < 3) (ht : t < 4) (hB : B ≤ 144) (hmM : mI 43 4 = nI m) (hwh : mL0 43 12 = zL B) (hw : ∀ i, i < m → mL0 50 (3 * t + i) = zL (w i)) (hwB : ∀ i, i < m → w i ≤ B) (hv : ∀ i, i < m → mL0 53 i = zL (v i)) (kq : ∀ mL z z', TuI mL0 mL m B f w v G h m → Go S 0 tM_turn ((am_sh n, mI, mL, am_mR n), 151, [.ref 43, .int (nI t), .int (nI f), .long (zL h), am_U, .int (nI m), z, z'], []) Q) : ∀ l i (mL : Nat → Nat → Int64) (z z' : Value), i + l = m → TuI mL0 mL m B f w v G h i → Go S 0 tM_turn ((am_sh n, mI, mL, am_mR n), 29, [.ref 43, .int (nI t), .int (nI f), .long (zL h), am_U, .int (nI i), z, z'], []) Q
  | 0, i, mL, z, z', hi, hF => by
    obtain rfl : i = m := by omega
    refine go_iload_5 iM_turn_29 ?_
    refine go_aloadn_0 iM_turn_31 rfl ?_
    refine go_getI iM_turn_32 (Or.inl rfl) (sk_43 _) ?_
    try simp (disch := omega) only [am_u_n, am_u_s, am_u_k, hmM]
    first | refine gn_ic_ge iM_turn_35 (by omega) (by omega) (fun c_35 => ?_) (fun c_35 => ?_) | refine go_ic_ge iM_turn_35 (fun c_35 => ?_) (fun c_35 => ?_)
    rotate_left
    · (first | omega | exact absurd c_35 (by decide) | (exfalso; simp (disch := omega) only [Int32.lt_iff_toInt_lt, Int32.le_iff_toInt_le, ← Int32.toInt_inj, nI_toInt, i32_m1, i32_0, i32_m20, i32_m40, i32_m30, i32_m9] at *; omega))
    exact kq _ _ _ hF
  | l + 1, i, mL, z, z', hi, hF => by
    have hiM : i < m := by omega
    have hFF := hF
    obtain ⟨f1, f2, f3, f4⟩ := hF
    have hu := upR_lt (m := m) (i := i) (by omega)
    have hd := dnR_lt hiM
    have r1 := hw i hiM
    have r2 := hv i hiM
    have r3 := f4 _ hu
    have r4 := f4 _ hd
    rw [← f1 50 (by decide) (by decide)] at r1
    rw [← f1 53 (by decide) (by decide)] at r2
    rw [← f1 43 (by decide) (by decide)] at hwh
    have hA := sh_54 n
    refine go_iload_5 iM_turn_29 ?_
    refine go_aloadn_0 iM_turn_31 rfl ?_
    refine go_getI iM_turn_32 (Or.inl rfl) (sk_43 _) ?_
    try simp (disch := omega) only [am_u_n, am_u_s, am_u_k, hmM, hwh, r1, r2, f3, r3]
    first | refine gn_ic_ge iM_turn_35 (by omega) (by omega) (fun c_35 => ?_) (fun c_35 => ?_) | refine go_ic_ge iM_turn_35 (fun c_35 => ?_) (fun c_35 => ?_)
    · (first | omega | exact absurd c_35 (by decide) | (exfalso; simp (disch := omega) only [Int32.lt_iff_toInt_lt, Int32.le_iff_toInt_le, ← Int32.toInt_inj, nI_toInt, i32_m1, i32_0, i32_m20, i32_m40, i32_m30, i32_m9] at *; omega))
    refine go_aloadn_0 iM_turn_38 rfl ?_
    refine go_getR iM_turn_39 rfl (sk_43 _) (mR_43_13 _) ?_
    refine go_iconst (v := nI 3) iM_turn_42 rfl ?_
    refine go_iloadn_1 iM_turn_43 ?_
    first | refine gn_imul iM_turn_44 ?_ | refine go_imul iM_turn_44 ?_
    refine go_iload_5 iM_turn_45 ?_
    first | refine gn_iadd iM_turn_47 ?_ | refine go_iadd iM_turn_47 ?_
    refine go_lald iM_turn_48 (sh_50 _) rfl (by omega) (by omega) ?_
    try simp (disch := omega) only [am_u_n, am_u_s, am_u_k, hmM, hwh, r1, r2, f3, r3]
    refine go_lstore_6 iM_turn_49 (by simp [Value.category, am_U]) ?_
    refine go_aloadn_0 iM_turn_51 rfl ?_
    refine go_getR iM_turn_52 rfl (sk_43 _) (mR_43_16 _) ?_
    refine go_iloadn_2 iM_turn_55 ?_
    refine go_dup2 iM_turn_56 ⟨rfl, rfl⟩ ?_
    refine go_lald iM_turn_57 (sh_52 _) rfl (by omega) (by omega) ?_
    try simp (disch := omega) only [am_u_n, am_u_s, am_u_k, hmM, hwh, r1, r2, f3, r3]
    refine go_aloadn_0 iM_turn_58 rfl ?_
    refine go_getR iM_turn_59 rfl (sk_43 _) (mR_43_17 _) ?_
    refine go_iload_5 iM_turn_62 ?_
    refine go_lald iM_turn_64 (sh_53 _) rfl (by omega) (by omega) ?_
    try simp (disch := omega) only [am_u_n, am_u_s, am_u_k, hmM, hwh, r1, r2, f3, r3]
    refine go_ldc2 (v := zL 2) iM_turn_65 rfl ?_
    refine go_lload_6 iM_turn_68 ?_
    first | refine gz_lmul iM_turn_70 ?_ | refine go_lmul iM_turn_70 ?_
    refine go_aloadn_0 iM_turn_71 rfl ?_
    refine go_getL iM_turn_72 rfl (sk_43 _) ?_
    try simp (disch := omega) only [am_u_n, am_u_s, am_u_k, hmM, hwh, r1, r2, f3, r3]
    first | refine gz_lsub iM_turn_75 ?_ | refine go_lsub iM_turn_75 ?_
    first | refine gz_lmul iM_turn_76 ?_ | refine go_lmul iM_turn_76 ?_
    refine go_lloadn_3 iM_turn_77 ?_
    first | refine gz_lmul iM_turn_78 ?_ | refine go_lmul iM_turn_78 ?_
    first | refine gz_ladd iM_turn_79 ?_ | refine go_ladd iM_turn_79 ?_
    refine go_last iM_turn_80 (sh_52 _) rfl (by omega) (by omega) ?_
    refine go_aloadn_0 iM_turn_81 rfl ?_
    refine go_getR iM_turn_82 rfl (sk_43 _) (mR_43_18 _) ?_
    refine go_iload_5 iM_turn_85 ?_
    refine go_iconst (v := nI 1) iM_turn_87 rfl ?_
    first | refine gn_iadd iM_turn_88 ?_ | refine go_iadd iM_turn_88 ?_
    refine go_aloadn_0 iM_turn_89 rfl ?_
    refine go_getI iM_turn_90 (Or.inl rfl) (sk_43 _) ?_
    try simp (disch := omega) only [am_u_n, am_u_s, am_u_k, hmM, hwh, r1, r2, f3, r3]
    refine gn_irem iM_turn_93 (by omega) (by omega) (by omega) ?_
    rw [upR_mod hiM]
    refine go_dup2 iM_turn_94 ⟨rfl, rfl⟩ ?_
    refine go_lald iM_turn_95 (by assumption) rfl (by omega) (by omega) ?_
    try simp (disch := omega) only [am_u_n, am_u_s, am_u_k, hmM, hwh, r1, r2, f3, r3]
    refine go_aloadn_0 iM_turn_96 rfl ?_
    refine go_getR iM_turn_97 rfl (sk_43 _) (mR_43_17 _) ?_
    refine go_iload_5 iM_turn_100 ?_
    refine go_lald iM_turn_102 (sh_53 _) rfl (by omega) (by omega) ?_
    try simp (disch := omega) only [am_u_n, am_u_s, am_u_k, hmM, hwh, r1, r2, f3, r3]
    refine go_lload_6 iM_turn_103 ?_
    first | refine gz_lmul iM_turn_105 ?_ | refine go_lmul iM_turn_105 ?_
    first | refine gz_ladd iM_turn_106 ?_ | refine go_ladd iM_turn_106 ?_
    refine go_last iM_turn_107 (by assumption) rfl (by omega) (by omega) ?_
    refine go_aloadn_0 iM_turn_108 rfl ?_
    refine go_getR iM_turn_109 rfl (sk_43 _) (mR_43_18 _) ?_
    refine go_iload_5 iM_turn_112 ?_
    refine go_aloadn_0 iM_turn_114 rfl ?_
    refine go_getI iM_turn_115 (Or.inl rfl) (sk_43 _) ?_
    try simp (disch := omega) only [am_u_n, am_u_s, am_u_k, hmM, hwh, r1, r2, f3, r3]
    first | refine gn_iadd iM_turn_118 ?_ | refine go_iadd iM_turn_118 ?_
    refine go_iconst (v := nI 1) iM_turn_119 rfl ?_
    first | refine gn_isub iM_turn_120 (by omega) ?_ | refine go_isub iM_turn_120 ?_
    refine go_aloadn_0 iM_turn_121 rfl ?_
    refine go_getI iM_turn_122 (Or.inl rfl) (sk_43 _) ?_
    try simp (disch := omega) only [am_u_n, am_u_s, am_u_k, hmM, hwh, r1, r2, f3, r3]
    refine gn_irem iM_turn_125 (by omega) (by omega) (by omega) ?_
    rw [dnR_mod hiM]
    refine go_dup2 iM_turn_126 ⟨rfl, rfl⟩ ?_
    refine go_lald iM_turn_127 (by assumption) rfl (by omega) (by omega) ?_
    try simp (disch := omega) only [am_u_n, am_u_s, am_u_k, hmM, hwh, r1, r2, f3, r3]
    rw [show am_u (am_u mL 52 f (zL (G + gP B w v i * h + v i * (2 * (w i : Int) - (B : Int)) * h))) 54 (upR m i) (zL (stP m B w v i (upR m i) + v i * (w i : Int))) 54 (dnR m i) = zL (if dnR m i = upR m i then stP m B w v i (upR m i) + v i * (w i : Int) else stP m B w v i (dnR m i)) by
      by_cases e : dnR m i = upR m i
      · rw [if_pos e, e, am_u_s]
      · rw [if_neg e, am_u_k e, am_u_n (by decide), r4]]
    refine go_aloadn_0 iM_turn_128 rfl ?_
    refine go_getR iM_turn_129 rfl (sk_43 _) (mR_43_17 _) ?_
    refine go_iload_5 iM_turn_132 ?_
    refine go_lald iM_turn_134 (sh_53 _) rfl (by omega) (by omega) ?_
    try simp (disch := omega) only [am_u_n, am_u_s, am_u_k, hmM, hwh, r1, r2, f3, r3]
    refine go_aloadn_0 iM_turn_135 rfl ?_
    refine go_getL iM_turn_136 rfl (sk_43 _) ?_
    try simp (disch := omega) only [am_u_n, am_u_s, am_u_k, hmM, hwh, r1, r2, f3, r3]
    refine go_lload_6 iM_turn_139 ?_
    first | refine gz_lsub iM_turn_141 ?_ | refine go_lsub iM_turn_141 ?_
    first | refine gz_lmul iM_turn_142 ?_ | refine go_lmul iM_turn_142 ?_
    first | refine gz_ladd iM_turn_143 ?_ | refine go_ladd iM_turn_143 ?_
    refine go_last iM_turn_144 (by assumption) rfl (by omega) (by omega) ?_
    first | refine go_iinc_5 iM_turn_145 (ni_inc _ 1) (by simp [Value.category, am_U]) ?_ | refine go_iinc_5 iM_turn_145 rfl (by simp [Value.category, am_U]) ?_
    refine go_goto iM_turn_148 ?_
    exact lo_M_tu1 h1 hm3 hf ht hB hmM (by rw [f1 43 (by decide) (by decide)] at hwh; exact hwh) hw hwB hv kq l (i + 1) _ _ _ (by omega) (hFF.step hiM (hwB i hiM))
theorem lo_M_tu2 {u : Nat → Int} {z z' : Value} {Q : Option Value × am_M → Prop} (hm3 : m ≤ 3) (hmM : mI 43 4 = nI m) (hu : ∀ x, x < m → mL0 54 x = zL (u x)) (kq : ∀ mL, ((∀ a, a ≠ 53 → mL a = mL0 a) ∧ ∀ x, x < m → mL 53 x = zL (u x)) → Q (none, (am_sh n, mI, mL, am_mR n))) : ∀ l i (mL : Nat → Nat → Int64), i + l = m → ((∀ a, a ≠ 53 → mL a = mL0 a) ∧ ∀ x, x < i → mL 53 x = zL (u x)) → Go S 0 tM_turn ((am_sh n, mI, mL, am_mR n), 154, [.ref 43, .int (nI t), .int (nI f), .long (zL h), am_U, .int (nI i), z, z'], []) Q
  | 0, i, mL, hi, hF => by
    obtain rfl : i = m := by omega
    refine go_iload_5 iM_turn_154 ?_
    refine go_aloadn_0 iM_turn_156 rfl ?_
    refine go_getI iM_turn_157 (Or.inl rfl) (sk_43 _) ?_
    try simp (disch := omega) only [am_u_n, am_u_s, am_u_k, hmM]
    first | refine gn_ic_ge iM_turn_160 (by omega) (by omega) (fun c_160 => ?_) (fun c_160 => ?_) | refine go_ic_ge iM_turn_160 (fun c_160 => ?_) (fun c_160 => ?_)
    rotate_left
    · (first | omega | exact absurd c_160 (by decide) | (exfalso; simp (disch := omega) only [Int32.lt_iff_toInt_lt, Int32.le_iff_toInt_le, ← Int32.toInt_inj, nI_toInt, i32_m1, i32_0, i32_m20, i32_m40, i32_m30, i32_m9] at *; omega))
    refine go_vret iM_turn_183 rfl ?_
    exact kq _ hF
  | l + 1, i, mL, hi, hF => by
    have r1 := hu i (by omega)
    rw [← hF.1 54 (by decide)] at r1
    refine go_iload_5 iM_turn_154 ?_
    refine go_aloadn_0 iM_turn_156 rfl ?_
    refine go_getI iM_turn_157 (Or.inl rfl) (sk_43 _) ?_
    try simp (disch := omega) only [am_u_n, am_u_s, am_u_k, hmM, r1]
    first | refine gn_ic_ge iM_turn_160 (by omega) (by omega) (fun c_160 => ?_) (fun c_160 => ?_) | refine go_ic_ge iM_turn_160 (fun c_160 => ?_) (fun c_160 => ?_)
    · (first | omega | exact absurd c_160 (by decide) | (exfalso; simp (disch := omega) only [Int32.lt_iff_toInt_lt, Int32.le_iff_toInt_le, ← Int32.toInt_inj, nI_toInt, i32_m1, i32_0, i32_m20, i32_m40, i32_m30, i32_m9] at *; omega))
    refine go_aloadn_0 iM_turn_163 rfl ?_
    refine go_getR iM_turn_164 rfl (sk_43 _) (mR_43_17 _) ?_
    refine go_iload_5 iM_turn_167 ?_
    refine go_aloadn_0 iM_turn_169 rfl ?_
    refine go_getR iM_turn_170 rfl (sk_43 _) (mR_43_18 _) ?_
    refine go_iload_5 iM_turn_173 ?_
    refine go_lald iM_turn_175 (sh_54 _) rfl (by omega) (by omega) ?_
    try simp (disch := omega) only [am_u_n, am_u_s, am_u_k, hmM, r1]
    refine go_last iM_turn_176 (sh_53 _) rfl (by omega) (by omega) ?_
    first | refine go_iinc_5 iM_turn_177 (ni_inc _ 1) (by simp [Value.category, am_U]) ?_ | refine go_iinc_5 iM_turn_177 rfl (by simp [Value.category, am_U]) ?_
    refine go_goto iM_turn_180 ?_
    refine lo_M_tu2 hm3 hmM hu kq l (i + 1) _ (by omega) ⟨fun a ha => by rw [am_u_r ha]; exact hF.1 a ha, fun x hx => ?_⟩
    by_cases e : x = i
    · rw [e, am_u_s]
    · rw [am_u_k e]; exact hF.2 x (by omega)
theorem ex_M_turn (h1 : 1 ≤ m) (hm3 : m ≤ 3) (hf : f < 3) (ht : t < 4) (hB : B ≤ 144) (hmM : mI 43 4 = nI m) (hwh : mL 43 12 = zL B) (hw : ∀ i, i < m → mL 50 (3 * t + i) = zL (w i)) (hwB : ∀ i, i < m → w i ≤ B) (hv : ∀ i, i < m → mL 53 i = zL (v i)) (hG : mL 52 f = zL G) : Ex S 0 tM_turn n mI mL [.ref 43, .int (nI t), .int (nI f), .long (zL h)] none (fun mI' mL' => mI' = mI ∧ FrT3 mL mL' ∧ (∀ x, x ≠ f → mL' 52 x = mL 52 x) ∧ mL' 52 f = zL (G + gP B w v m * h) ∧ ∀ x, x < m → mL' 53 x = zL (stP m B w v m x)) := by
  unfold Ex
  show Go _ _ tM_turn (_, 0, [.ref 43, .int (nI t), .int (nI f), .long (zL h), am_U, am_U, am_U, am_U], []) _
  refine go_iconst (v := nI 0) iM_turn_0 rfl ?_
  refine go_istore_5 iM_turn_1 (by simp [Value.category, am_U]) ?_
  refine lo_M_tu0 (mL0 := mL) hm3 hmM (fun mL1 hF1 => ?_) m 0 _ (by omega) ⟨fun a _ => rfl, fun x hx => by omega⟩
  refine go_iconst (v := nI 0) iM_turn_26 rfl ?_
  refine go_istore_5 iM_turn_27 (by simp [Value.category, am_U]) ?_
  refine lo_M_tu1 (mL0 := mL1) (w := w) (v := v) (G := G) (B := B) h1 hm3 hf ht hB hmM (by rw [hF1.1 43 (by decide)]; exact hwh) (fun i hi => by rw [hF1.1 50 (by decide)]; exact hw i hi) hwB (fun i hi => by rw [hF1.1 53 (by decide)]; exact hv i hi) (fun mL2 z z2 hF2 => ?_) m 0 _ _ _ (by omega) ⟨fun a _ _ => rfl, fun x _ => rfl, by rw [hF1.1 52 (by decide), hG]; congr 1; simp only [gP, Int.zero_mul, Int.add_zero], fun x hx => hF1.2 x hx⟩
  obtain ⟨f1, f2, f3, f4⟩ := hF2
  refine go_iconst (v := nI 0) iM_turn_151 rfl ?_
  refine go_istore_5 iM_turn_152 (by simp [Value.category, am_U]) ?_
  refine lo_M_tu2 (mL0 := mL2) (u := stP m B w v m) hm3 hmM f4 (fun mL3 hF3 => ?_) m 0 _ (by omega) ⟨fun a _ => rfl, fun x hx => by omega⟩
  exact ex_i ⟨rfl, fun a a1 a2 a3 => by rw [hF3.1 a a2, f1 a a1 a3, hF1.1 a a3], fun x hx => by rw [hF3.1 52 (by decide), f2 x hx, hF1.1 52 (by decide)], by rw [hF3.1 52 (by decide)]; exact f3, hF3.2⟩
end MRD
