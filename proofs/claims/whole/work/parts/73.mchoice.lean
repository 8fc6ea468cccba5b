/-! ===== the reference's search of choices ===== -/
def chN (o : Nat → Nat → Nat) (m k : Nat) : Nat → Nat := fun c => Lz m 12 1 (wE o k m c)
def ChM (o : Nat → Nat → Nat) (m k : Nat) (mI : Nat → Nat → Int32) (mL : Nat → Nat → Int64) (b : Option Nat) : Prop := BsM (chU o m k) (chN o m k) m (dg k m) mI mL b
theorem ch_some {kd : Nat → Nat} {o : Nat → Nat → Nat} {m n c b : Nat} (h1 : 1 ≤ m) (hm3 : m ≤ 3) (hk : 0 < n) (ho : ∀ p i, p < n → i < 3 → o p i ≤ 12) (h : choF kd o m n c = some b) : Gm m 12 1 (wE o n m b) ∧ 0 < Wz m 12 1 (wE o n m b) := ⟨Gm_ch h1 hm3 hk ho, (ch_bd h1 hm3 hk ho h).1.1⟩
def BcC (mI1 mI : Nat → Nat → Int32) (mL1 mL : Nat → Nat → Int64) (n m c : Nat) (o : Nat → Nat → Nat) (t : Nat) : Prop := (∀ a, a ≠ 49 → mI a = mI1 a) ∧ (∀ a, a ≠ 50 → mL a = mL1 a) ∧ (∀ s, s < t → mI 49 s = nI (dg n m c s)) ∧ ∀ s, s < t → mL 50 s = zL (o (dg n m c s) s)
section MCH
variable {S : am_S} {mI mI1 : Nat → Nat → Int32} {mL mL1 : Nat → Nat → Int64} {n m c : Nat} {o : Nat → Nat → Nat} {kd : Nat → Nat} {x2 : Int32}
theorem lo_M_bcA (h8 : n ≤ 8) (hm3 : m ≤ 3) (hmM : mI 43 4 = nI m) (hcM : mI 43 5 = nI n) {y1 y2 y3 y4 y5 y6 : Value} {Q : Option Value × am_M → Prop} (kq : Go S 4 tM_bestChoice ((am_sh n, mI, mL, am_mR n), 25, [.ref 43, .int (nI (n ^ m)), .int (nI m), y1, y2, y3, y4, y5, y6], []) Q) : ∀ l i, i + l = m → Go S 4 tM_bestChoice ((am_sh n, mI, mL, am_mR n), 4, [.ref 43, .int (nI (n ^ i)), .int (nI i), y1, y2, y3, y4, y5, y6], []) Q
  | 0, i, hi => by
    obtain rfl : i = m := by omega
    refine go_iloadn_2 iM_bestChoice_4 ?_
    refine go_aloadn_0 iM_bestChoice_5 rfl ?_
    refine go_getI iM_bestChoice_6 (Or.inl rfl) (sk_43 _) ?_
    try simp (disch := omega) only [am_u_n, am_u_s, am_u_k, hmM]
    first | refine gn_ic_ge iM_bestChoice_9 (by omega) (by omega) (fun c_9 => ?_) (fun c_9 => ?_) | refine go_ic_ge iM_bestChoice_9 (fun c_9 => ?_) (fun c_9 => ?_)
    rotate_left
    · (first | omega | exact absurd c_9 (by decide) | (exfalso; simp (disch := omega) only [Int32.lt_iff_toInt_lt, Int32.le_iff_toInt_le, ← Int32.toInt_inj, nI_toInt, i32_m1, i32_0, i32_m20, i32_m40, i32_m30, i32_m9] at *; omega))
    exact kq
  | l + 1, i, hi => by
    refine go_iloadn_2 iM_bestChoice_4 ?_
    refine go_aloadn_0 iM_bestChoice_5 rfl ?_
    refine go_getI iM_bestChoice_6 (Or.inl rfl) (sk_43 _) ?_
    try simp (disch := omega) only [am_u_n, am_u_s, am_u_k, hmM, hcM]
    first | refine gn_ic_ge iM_bestChoice_9 (by omega) (by omega) (fun c_9 => ?_) (fun c_9 => ?_) | refine go_ic_ge iM_bestChoice_9 (fun c_9 => ?_) (fun c_9 => ?_)
    · (first | omega | exact absurd c_9 (by decide) | (exfalso; simp (disch := omega) only [Int32.lt_iff_toInt_lt, Int32.le_iff_toInt_le, ← Int32.toInt_inj, nI_toInt, i32_m1, i32_0, i32_m20, i32_m40, i32_m30, i32_m9] at *; omega))
    refine go_iloadn_1 iM_bestChoice_12 ?_
    refine go_aloadn_0 iM_bestChoice_13 rfl ?_
    refine go_getI iM_bestChoice_14 (Or.inl rfl) (sk_43 _) ?_
    try simp (disch := omega) only [am_u_n, am_u_s, am_u_k, hmM, hcM]
    first | refine gn_imul iM_bestChoice_17 ?_ | refine go_imul iM_bestChoice_17 ?_
    refine go_istoren_1 iM_bestChoice_18 (by simp [Value.category, am_U]) ?_
    first | refine go_iinc_2 iM_bestChoice_19 (ni_inc _ 1) (by simp [Value.category, am_U]) ?_ | refine go_iinc_2 iM_bestChoice_19 rfl (by simp [Value.category, am_U]) ?_
    refine go_goto iM_bestChoice_22 ?_
    rw [show n ^ i * n = n ^ (i + 1) from rfl]
    exact lo_M_bcA h8 hm3 hmM hcM kq l (i + 1) (by omega)
theorem lo_M_bcC (hn : 0 < n) (h8 : n ≤ 8) (hm3 : m ≤ 3) (hmM : mI1 43 4 = nI m) (hcM : mI1 43 5 = nI n) (hpl : ∀ p, p < n → PlR mI1 p) (hod : odN mI1 = o) (hkd : kdN mI1 = kd) {Q : Option Value × am_M → Prop} (kq : ∀ mI' mL' z, BcC mI1 mI' mL1 mL' n m c o m → Go S 4 tM_bestChoice ((am_sh n, mI', mL', am_mR n), 148, [.ref 43, .int (nI (n ^ m)), .int x2, .int (nI c), .int (nI (c % n ^ (m - m))), .int (nI (n ^ (m - m))), .int (nI (if gdR kd n m c m = true then 1 else 0)), .int (nI m), z], []) Q) : ∀ l t (mI' : Nat → Nat → Int32) (mL' : Nat → Nat → Int64) (z : Value), t + l = m → BcC mI1 mI' mL1 mL' n m c o t → Go S 4 tM_bestChoice ((am_sh n, mI', mL', am_mR n), 58, [.ref 43, .int (nI (n ^ m)), .int x2, .int (nI c), .int (nI (c % n ^ (m - t))), .int (nI (n ^ (m - t))), .int (nI (if gdR kd n m c t = true then 1 else 0)), .int (nI t), z], []) Q
  | 0, t, mI', mL', z, hi, hF => by
    have q0 := hmM
    rw [← hF.1 43 (by decide)] at q0
    obtain rfl : t = m := by omega
    refine go_iload_7 iM_bestChoice_58 ?_
    refine go_aloadn_0 iM_bestChoice_60 rfl ?_
    refine go_getI iM_bestChoice_61 (Or.inl rfl) (sk_43 _) ?_
    try simp (disch := omega) only [am_u_n, am_u_s, am_u_k, q0]
    first | refine gn_ic_ge iM_bestChoice_64 (by omega) (by omega) (fun c_64 => ?_) (fun c_64 => ?_) | refine go_ic_ge iM_bestChoice_64 (fun c_64 => ?_) (fun c_64 => ?_)
    rotate_left
    · (first | omega | exact absurd c_64 (by decide) | (exfalso; simp (disch := omega) only [Int32.lt_iff_toInt_lt, Int32.le_iff_toInt_le, ← Int32.toInt_inj, nI_toInt, i32_m1, i32_0, i32_m20, i32_m40, i32_m30, i32_m9] at *; omega))
    exact kq _ _ _ hF
  | l + 1, t, mI', mL', z, hi, hF => by
    obtain ⟨f1, f2, f3, f4⟩ := hF
    have hpn := dg_lt (d := m) (P := c) (t := t) hn
    obtain ⟨k0, hk0, _, hkM, _⟩ := hpl _ hpn
    have hkk := kdN_of hkM hk0
    rw [hkd] at hkk
    have ho := odN_ok (hpl _ hpn)
    rw [hod] at ho
    have r1 := ho.2 t (by omega)
    have r2 := (ho.1 t (by omega)).2
    rw [← f1 46 (by decide)] at r1
    have q0 := hmM
    rw [← f1 43 (by decide)] at q0
    have q1 := hcM
    rw [← f1 43 (by decide)] at q1
    rw [← f1 45 (by decide)] at hkM
    obtain ⟨e, he⟩ : ∃ e, m - t = e + 1 := ⟨m - t - 1, by omega⟩
    have he2 : m - (t + 1) = e := by omega
    have hb1 := pow_bd h8 (show e + 1 ≤ 4 by omega)
    have hb2 := pow_bd h8 (show e ≤ 4 by omega)
    have hb3 : 0 < n ^ e := Nat.pow_pos hn
    have hb4 : c % n ^ (e + 1) < n ^ (e + 1) := Nat.mod_lt _ (Nat.pow_pos hn)
    have v1 : n ^ (e + 1) / n = n ^ e := by rw [Nat.pow_succ, Nat.mul_div_cancel _ hn]
    have v2 : c % n ^ (e + 1) / n ^ e = dg n m c t := by
      rw [Nat.pow_succ, Nat.mod_mul_right_div_self]
      unfold dg
      rw [show m - 1 - t = e by omega]
    have v3 : c % n ^ (e + 1) % n ^ e = c % n ^ e := Nat.mod_mod_of_dvd c ⟨n, rfl⟩
    have nx : ∀ (g : Nat) (z : Value), g = (if gdR kd n m c (t + 1) = true then 1 else 0) → Go S 4 tM_bestChoice ((am_sh n, am_u mI' 49 t (nI (dg n m c t)), am_u mL' 50 t (zL (o (dg n m c t) t)), am_mR n), 58, [.ref 43, .int (nI (n ^ m)), .int x2, .int (nI c), .int (nI (c % n ^ e)), .int (nI (n ^ e)), .int (nI g), .int (nI (t + 1)), z], []) Q := by
      intro g z hg
      have hI : BcC mI1 (am_u mI' 49 t (nI (dg n m c t))) mL1 (am_u mL' 50 t (zL (o (dg n m c t) t))) n m c o (t + 1) := by
        refine ⟨fun a ha => by rw [am_u_r ha]; exact f1 a ha, fun a ha => by rw [am_u_r ha]; exact f2 a ha, fun s hs => ?_, fun s hs => ?_⟩
        · by_cases q : s = t
          · rw [q, am_u_s]
          · rw [am_u_k q]; exact f3 s (by omega)
        · by_cases q : s = t
          · rw [q, am_u_s]
          · rw [am_u_k q]; exact f4 s (by omega)
      have h := lo_M_bcC hn h8 hm3 hmM hcM hpl hod hkd kq l (t + 1) _ _ z (by omega) hI
      rw [he2, ← hg] at h
      exact h
    rw [he]
    by_cases g1 : gdR kd n m c t = true
    · rw [if_pos g1]
      by_cases g2 : k0 = 2
      · refine go_iload_7 iM_bestChoice_58 ?_
        refine go_aloadn_0 iM_bestChoice_60 rfl ?_
        refine go_getI iM_bestChoice_61 (Or.inl rfl) (sk_43 _) ?_
        try simp (disch := omega) only [am_u_n, am_u_s, am_u_k, q0, q1, hkM, r1]
        first | refine gn_ic_ge iM_bestChoice_64 (by omega) (by omega) (fun c_64 => ?_) (fun c_64 => ?_) | refine go_ic_ge iM_bestChoice_64 (fun c_64 => ?_) (fun c_64 => ?_)
        · (first | omega | exact absurd c_64 (by decide) | (exfalso; simp (disch := omega) only [Int32.lt_iff_toInt_lt, Int32.le_iff_toInt_le, ← Int32.toInt_inj, nI_toInt, i32_m1, i32_0, i32_m20, i32_m40, i32_m30, i32_m9] at *; omega))
        refine go_iload_5 iM_bestChoice_67 ?_
        refine go_aloadn_0 iM_bestChoice_69 rfl ?_
        refine go_getI iM_bestChoice_70 (Or.inl rfl) (sk_43 _) ?_
        try simp (disch := omega) only [am_u_n, am_u_s, am_u_k, q0, q1, hkM, r1]
        refine gn_idiv iM_bestChoice_73 (by omega) (by omega) (by omega) ?_
        rw [v1]
        refine go_istore_5 iM_bestChoice_74 (by simp [Value.category, am_U]) ?_
        refine go_iload_4 iM_bestChoice_76 ?_
        refine go_iload_5 iM_bestChoice_78 ?_
        refine gn_idiv iM_bestChoice_80 (by omega) (by omega) (by omega) ?_
        rw [v2]
        refine go_istore_8 iM_bestChoice_81 (by simp [Value.category, am_U]) ?_
        refine go_iload_4 iM_bestChoice_83 ?_
        refine go_iload_5 iM_bestChoice_85 ?_
        refine gn_irem iM_bestChoice_87 (by omega) (by omega) (by omega) ?_
        rw [v3]
        refine go_istore_4 iM_bestChoice_88 (by simp [Value.category, am_U]) ?_
        refine go_iload_6 iM_bestChoice_90 ?_
        refine go_if_eq iM_bestChoice_92 (fun c_92 => ?_) (fun c_92 => ?_)
        · (first | omega | exact absurd c_92 (by decide) | (exfalso; simp (disch := omega) only [Int32.lt_iff_toInt_lt, Int32.le_iff_toInt_le, ← Int32.toInt_inj, nI_toInt, i32_m1, i32_0, i32_m20, i32_m40, i32_m30, i32_m9] at *; omega))
        refine go_aloadn_0 iM_bestChoice_95 rfl ?_
        refine go_getR iM_bestChoice_96 rfl (sk_43 _) (mR_43_6 _) ?_
        refine go_iload_8 iM_bestChoice_99 ?_
        refine go_iald iM_bestChoice_101 (sh_45 _) rfl (by omega) (by omega) ?_
        try simp (disch := omega) only [am_u_n, am_u_s, am_u_k, q0, q1, hkM, r1]
        refine go_iconst (v := nI 2) iM_bestChoice_102 rfl ?_
        first | refine gn_ic_eq iM_bestChoice_103 (by omega) (by omega) (fun c_103 => ?_) (fun c_103 => ?_) | refine go_ic_eq iM_bestChoice_103 (fun c_103 => ?_) (fun c_103 => ?_)
        rotate_left
        · (first | omega | exact absurd c_103 (by decide) | (exfalso; simp (disch := omega) only [Int32.lt_iff_toInt_lt, Int32.le_iff_toInt_le, ← Int32.toInt_inj, nI_toInt, i32_m1, i32_0, i32_m20, i32_m40, i32_m30, i32_m9] at *; omega))
        refine go_iconst (v := nI 0) iM_bestChoice_110 rfl ?_
        refine go_istore_6 iM_bestChoice_111 (by simp [Value.category, am_U]) ?_
        refine go_aloadn_0 iM_bestChoice_113 rfl ?_
        refine go_getR iM_bestChoice_114 rfl (sk_43 _) (mR_43_13 _) ?_
        refine go_iload_7 iM_bestChoice_117 ?_
        refine go_aloadn_0 iM_bestChoice_119 rfl ?_
        refine go_getR iM_bestChoice_120 rfl (sk_43 _) (mR_43_7 _) ?_
        refine go_iconst (v := nI 4) iM_bestChoice_123 rfl ?_
        refine go_iload_8 iM_bestChoice_124 ?_
        first | refine gn_imul iM_bestChoice_126 ?_ | refine go_imul iM_bestChoice_126 ?_
        refine go_iload_7 iM_bestChoice_127 ?_
        first | refine gn_iadd iM_bestChoice_129 ?_ | refine go_iadd iM_bestChoice_129 ?_
        refine go_iald iM_bestChoice_130 (sh_46 _) rfl (by omega) (by omega) ?_
        try simp (disch := omega) only [am_u_n, am_u_s, am_u_k, q0, q1, hkM, r1]
        first | refine gz_i2l iM_bestChoice_131 (by omega) ?_ | refine gz_i2lI iM_bestChoice_131 ?_
        refine go_last iM_bestChoice_132 (sh_50 _) rfl (by omega) (by omega) ?_
        refine go_aloadn_0 iM_bestChoice_133 rfl ?_
        refine go_getR iM_bestChoice_134 rfl (sk_43 _) (mR_43_10 _) ?_
        refine go_iload_7 iM_bestChoice_137 ?_
        refine go_iload_8 iM_bestChoice_139 ?_
        refine go_iast iM_bestChoice_141 (sh_49 _) rfl (by omega) (by omega) ?_
        first | refine go_iinc_7 iM_bestChoice_142 (ni_inc _ 1) (by simp [Value.category, am_U]) ?_ | refine go_iinc_7 iM_bestChoice_142 rfl (by simp [Value.category, am_U]) ?_
        refine go_goto iM_bestChoice_145 ?_
        exact nx 0 _ (by show 0 = (if (gdR kd n m c t && decide (kd (dg n m c t) ≠ 2)) = true then 1 else 0); rw [hkk, g2]; simp)
      · refine go_iload_7 iM_bestChoice_58 ?_
        refine go_aloadn_0 iM_bestChoice_60 rfl ?_
        refine go_getI iM_bestChoice_61 (Or.inl rfl) (sk_43 _) ?_
        try simp (disch := omega) only [am_u_n, am_u_s, am_u_k, q0, q1, hkM, r1]
        first | refine gn_ic_ge iM_bestChoice_64 (by omega) (by omega) (fun c_64 => ?_) (fun c_64 => ?_) | refine go_ic_ge iM_bestChoice_64 (fun c_64 => ?_) (fun c_64 => ?_)
        · (first | omega | exact absurd c_64 (by decide) | (exfalso; simp (disch := omega) only [Int32.lt_iff_toInt_lt, Int32.le_iff_toInt_le, ← Int32.toInt_inj, nI_toInt, i32_m1, i32_0, i32_m20, i32_m40, i32_m30, i32_m9] at *; omega))
        refine go_iload_5 iM_bestChoice_67 ?_
        refine go_aloadn_0 iM_bestChoice_69 rfl ?_
        refine go_getI iM_bestChoice_70 (Or.inl rfl) (sk_43 _) ?_
        try simp (disch := omega) only [am_u_n, am_u_s, am_u_k, q0, q1, hkM, r1]
        refine gn_idiv iM_bestChoice_73 (by omega) (by omega) (by omega) ?_
        rw [v1]
        refine go_istore_5 iM_bestChoice_74 (by simp [Value.category, am_U]) ?_
        refine go_iload_4 iM_bestChoice_76 ?_
        refine go_iload_5 iM_bestChoice_78 ?_
        refine gn_idiv iM_bestChoice_80 (by omega) (by omega) (by omega) ?_
        rw [v2]
        refine go_istore_8 iM_bestChoice_81 (by simp [Value.category, am_U]) ?_
        refine go_iload_4 iM_bestChoice_83 ?_
        refine go_iload_5 iM_bestChoice_85 ?_
        refine gn_irem iM_bestChoice_87 (by omega) (by omega) (by omega) ?_
        rw [v3]
        refine go_istore_4 iM_bestChoice_88 (by simp [Value.category, am_U]) ?_
        refine go_iload_6 iM_bestChoice_90 ?_
        refine go_if_eq iM_bestChoice_92 (fun c_92 => ?_) (fun c_92 => ?_)
        · (first | omega | exact absurd c_92 (by decide) | (exfalso; simp (disch := omega) only [Int32.lt_iff_toInt_lt, Int32.le_iff_toInt_le, ← Int32.toInt_inj, nI_toInt, i32_m1, i32_0, i32_m20, i32_m40, i32_m30, i32_m9] at *; omega))
        refine go_aloadn_0 iM_bestChoice_95 rfl ?_
        refine go_getR iM_bestChoice_96 rfl (sk_43 _) (mR_43_6 _) ?_
        refine go_iload_8 iM_bestChoice_99 ?_
        refine go_iald iM_bestChoice_101 (sh_45 _) rfl (by omega) (by omega) ?_
        try simp (disch := omega) only [am_u_n, am_u_s, am_u_k, q0, q1, hkM, r1]
        refine go_iconst (v := nI 2) iM_bestChoice_102 rfl ?_
        first | refine gn_ic_eq iM_bestChoice_103 (by omega) (by omega) (fun c_103 => ?_) (fun c_103 => ?_) | refine go_ic_eq iM_bestChoice_103 (fun c_103 => ?_) (fun c_103 => ?_)
        · (first | omega | exact absurd c_103 (by decide) | (exfalso; simp (disch := omega) only [Int32.lt_iff_toInt_lt, Int32.le_iff_toInt_le, ← Int32.toInt_inj, nI_toInt, i32_m1, i32_0, i32_m20, i32_m40, i32_m30, i32_m9] at *; omega))
        refine go_iconst (v := nI 1) iM_bestChoice_106 rfl ?_
        refine go_goto iM_bestChoice_107 ?_
        refine go_istore_6 iM_bestChoice_111 (by simp [Value.category, am_U]) ?_
        refine go_aloadn_0 iM_bestChoice_113 rfl ?_
        refine go_getR iM_bestChoice_114 rfl (sk_43 _) (mR_43_13 _) ?_
        refine go_iload_7 iM_bestChoice_117 ?_
        refine go_aloadn_0 iM_bestChoice_119 rfl ?_
        refine go_getR iM_bestChoice_120 rfl (sk_43 _) (mR_43_7 _) ?_
        refine go_iconst (v := nI 4) iM_bestChoice_123 rfl ?_
        refine go_iload_8 iM_bestChoice_124 ?_
        first | refine gn_imul iM_bestChoice_126 ?_ | refine go_imul iM_bestChoice_126 ?_
        refine go_iload_7 iM_bestChoice_127 ?_
        first | refine gn_iadd iM_bestChoice_129 ?_ | refine go_iadd iM_bestChoice_129 ?_
        refine go_iald iM_bestChoice_130 (sh_46 _) rfl (by omega) (by omega) ?_
        try simp (disch := omega) only [am_u_n, am_u_s, am_u_k, q0, q1, hkM, r1]
        first | refine gz_i2l iM_bestChoice_131 (by omega) ?_ | refine gz_i2lI iM_bestChoice_131 ?_
        refine go_last iM_bestChoice_132 (sh_50 _) rfl (by omega) (by omega) ?_
        refine go_aloadn_0 iM_bestChoice_133 rfl ?_
        refine go_getR iM_bestChoice_134 rfl (sk_43 _) (mR_43_10 _) ?_
        refine go_iload_7 iM_bestChoice_137 ?_
        refine go_iload_8 iM_bestChoice_139 ?_
        refine go_iast iM_bestChoice_141 (sh_49 _) rfl (by omega) (by omega) ?_
        first | refine go_iinc_7 iM_bestChoice_142 (ni_inc _ 1) (by simp [Value.category, am_U]) ?_ | refine go_iinc_7 iM_bestChoice_142 rfl (by simp [Value.category, am_U]) ?_
        refine go_goto iM_bestChoice_145 ?_
        exact nx 1 _ (by show 1 = (if (gdR kd n m c t && decide (kd (dg n m c t) ≠ 2)) = true then 1 else 0); rw [hkk, g1]; simp [g2])
    · rw [if_neg g1]
      refine go_iload_7 iM_bestChoice_58 ?_
      refine go_aloadn_0 iM_bestChoice_60 rfl ?_
      refine go_getI iM_bestChoice_61 (Or.inl rfl) (sk_43 _) ?_
      try simp (disch := omega) only [am_u_n, am_u_s, am_u_k, q0, q1, hkM, r1]
      first | refine gn_ic_ge iM_bestChoice_64 (by omega) (by omega) (fun c_64 => ?_) (fun c_64 => ?_) | refine go_ic_ge iM_bestChoice_64 (fun c_64 => ?_) (fun c_64 => ?_)
      · (first | omega | exact absurd c_64 (by decide) | (exfalso; simp (disch := omega) only [Int32.lt_iff_toInt_lt, Int32.le_iff_toInt_le, ← Int32.toInt_inj, nI_toInt, i32_m1, i32_0, i32_m20, i32_m40, i32_m30, i32_m9] at *; omega))
      refine go_iload_5 iM_bestChoice_67 ?_
      refine go_aloadn_0 iM_bestChoice_69 rfl ?_
      refine go_getI iM_bestChoice_70 (Or.inl rfl) (sk_43 _) ?_
      try simp (disch := omega) only [am_u_n, am_u_s, am_u_k, q0, q1, hkM, r1]
      refine gn_idiv iM_bestChoice_73 (by omega) (by omega) (by omega) ?_
      rw [v1]
      refine go_istore_5 iM_bestChoice_74 (by simp [Value.category, am_U]) ?_
      refine go_iload_4 iM_bestChoice_76 ?_
      refine go_iload_5 iM_bestChoice_78 ?_
      refine gn_idiv iM_bestChoice_80 (by omega) (by omega) (by omega) ?_
      rw [v2]
      refine go_istore_8 iM_bestChoice_81 (by simp [Value.category, am_U]) ?_
      refine go_iload_4 iM_bestChoice_83 ?_
      refine go_iload_5 iM_bestChoice_85 ?_
      refine gn_irem iM_bestChoice_87 (by omega) (by omega) (by omega) ?_
      rw [v3]
      refine go_istore_4 iM_bestChoice_88 (by simp [Value.category, am_U]) ?_
      refine go_iload_6 iM_bestChoice_90 ?_
      refine go_if_eq iM_bestChoice_92 (fun c_92 => ?_) (fun c_92 => ?_)
      rotate_left
      · (first | omega | exact absurd c_92 (by decide) | (exfalso; simp (disch := omega) only [Int32.lt_iff_toInt_lt, Int32.le_iff_toInt_le, ← Int32.toInt_inj, nI_toInt, i32_m1, i32_0, i32_m20, i32_m40, i32_m30, i32_m9] at *; omega))
      refine go_iconst (v := nI 0) iM_bestChoice_110 rfl ?_
      refine go_istore_6 iM_bestChoice_111 (by simp [Value.category, am_U]) ?_
      refine go_aloadn_0 iM_bestChoice_113 rfl ?_
      refine go_getR iM_bestChoice_114 rfl (sk_43 _) (mR_43_13 _) ?_
      refine go_iload_7 iM_bestChoice_117 ?_
      refine go_aloadn_0 iM_bestChoice_119 rfl ?_
      refine go_getR iM_bestChoice_120 rfl (sk_43 _) (mR_43_7 _) ?_
      refine go_iconst (v := nI 4) iM_bestChoice_123 rfl ?_
      refine go_iload_8 iM_bestChoice_124 ?_
      first | refine gn_imul iM_bestChoice_126 ?_ | refine go_imul iM_bestChoice_126 ?_
      refine go_iload_7 iM_bestChoice_127 ?_
      first | refine gn_iadd iM_bestChoice_129 ?_ | refine go_iadd iM_bestChoice_129 ?_
      refine go_iald iM_bestChoice_130 (sh_46 _) rfl (by omega) (by omega) ?_
      try simp (disch := omega) only [am_u_n, am_u_s, am_u_k, q0, q1, hkM, r1]
      first | refine gz_i2l iM_bestChoice_131 (by omega) ?_ | refine gz_i2lI iM_bestChoice_131 ?_
      refine go_last iM_bestChoice_132 (sh_50 _) rfl (by omega) (by omega) ?_
      refine go_aloadn_0 iM_bestChoice_133 rfl ?_
      refine go_getR iM_bestChoice_134 rfl (sk_43 _) (mR_43_10 _) ?_
      refine go_iload_7 iM_bestChoice_137 ?_
      refine go_iload_8 iM_bestChoice_139 ?_
      refine go_iast iM_bestChoice_141 (sh_49 _) rfl (by omega) (by omega) ?_
      first | refine go_iinc_7 iM_bestChoice_142 (ni_inc _ 1) (by simp [Value.category, am_U]) ?_ | refine go_iinc_7 iM_bestChoice_142 rfl (by simp [Value.category, am_U]) ?_
      refine go_goto iM_bestChoice_145 ?_
      exact nx 0 _ (by show 0 = (if (gdR kd n m c t && decide (kd (dg n m c t) ≠ 2)) = true then 1 else 0); rw [Bool.not_eq_true] at g1; rw [g1]; simp)
theorem lo_M_bcC0 (hn : 0 < n) (h8 : n ≤ 8) (hm3 : m ≤ 3) (hc : c < n ^ m) (hmM : mI1 43 4 = nI m) (hcM : mI1 43 5 = nI n) (hpl : ∀ p, p < n → PlR mI1 p) (hod : odN mI1 = o) (hkd : kdN mI1 = kd) {z : Value} {Q : Option Value × am_M → Prop} (kq : ∀ mI' mL' x6 x7 z, BcC mI1 mI' mL1 mL' n m c o m → Go S 4 tM_bestChoice ((am_sh n, mI', mL', am_mR n), 148, [.ref 43, .int (nI (n ^ m)), .int x2, .int (nI c), .int x6, .int x7, .int (nI (if gdR kd n m c m = true then 1 else 0)), .int (nI m), z], []) Q) : Go S 4 tM_bestChoice ((am_sh n, mI1, mL1, am_mR n), 58, [.ref 43, .int (nI (n ^ m)), .int x2, .int (nI c), .int (nI c), .int (nI (n ^ m)), .int (nI 1), .int (nI 0), z], []) Q := by
  have h := lo_M_bcC (S := S) (mI1 := mI1) (mL1 := mL1) (x2 := x2) hn h8 hm3 hmM hcM hpl hod hkd (fun mI' mL' z hF => kq mI' mL' _ _ z hF) m 0 mI1 mL1 z (by omega) ⟨fun a _ => rfl, fun a _ => rfl, fun s hs => by omega, fun s hs => by omega⟩
  rw [Nat.sub_zero, Nat.mod_eq_of_lt hc, if_pos (show gdR kd n m c 0 = true from rfl)] at h
  exact h
theorem lo_M_bcD {f : Nat → Nat} (hm3 : m ≤ 3) (hmM : mI1 43 4 = nI m) (hf : ∀ s, s < m → mI1 49 s = nI (f s)) {x1 x3 x4 x5 x6 : Int32} {z : Value} {Q : Option Value × am_M → Prop} (kq : ∀ mI', ((∀ a, a ≠ 56 → mI' a = mI1 a) ∧ ∀ s, s < m → mI' 56 s = nI (f s)) → Go S 4 tM_bestChoice ((am_sh n, mI', mL, am_mR n), 221, [.ref 43, .int x1, .int x2, .int x3, .int x4, .int x5, .int x6, .int (nI m), z], []) Q) : ∀ l t (mI' : Nat → Nat → Int32), t + l = m → ((∀ a, a ≠ 56 → mI' a = mI1 a) ∧ ∀ s, s < t → mI' 56 s = nI (f s)) → Go S 4 tM_bestChoice ((am_sh n, mI', mL, am_mR n), 192, [.ref 43, .int x1, .int x2, .int x3, .int x4, .int x5, .int x6, .int (nI t), z], []) Q
  | 0, t, mI', hi, hF => by
    have q0 := hmM
    rw [← hF.1 43 (by decide)] at q0
    obtain rfl : t = m := by omega
    refine go_iload_7 iM_bestChoice_192 ?_
    refine go_aloadn_0 iM_bestChoice_194 rfl ?_
    refine go_getI iM_bestChoice_195 (Or.inl rfl) (sk_43 _) ?_
    try simp (disch := omega) only [am_u_n, am_u_s, am_u_k, q0]
    first | refine gn_ic_ge iM_bestChoice_198 (by omega) (by omega) (fun c_198 => ?_) (fun c_198 => ?_) | refine go_ic_ge iM_bestChoice_198 (fun c_198 => ?_) (fun c_198 => ?_)
    rotate_left
    · (first | omega | exact absurd c_198 (by decide) | (exfalso; simp (disch := omega) only [Int32.lt_iff_toInt_lt, Int32.le_iff_toInt_le, ← Int32.toInt_inj, nI_toInt, i32_m1, i32_0, i32_m20, i32_m40, i32_m30, i32_m9] at *; omega))
    exact kq _ hF
  | l + 1, t, mI', hi, hF => by
    have q0 := hmM
    rw [← hF.1 43 (by decide)] at q0
    have r1 := hf t (by omega)
    rw [← hF.1 49 (by decide)] at r1
    refine go_iload_7 iM_bestChoice_192 ?_
    refine go_aloadn_0 iM_bestChoice_194 rfl ?_
    refine go_getI iM_bestChoice_195 (Or.inl rfl) (sk_43 _) ?_
    try simp (disch := omega) only [am_u_n, am_u_s, am_u_k, q0, r1]
    first | refine gn_ic_ge iM_bestChoice_198 (by omega) (by omega) (fun c_198 => ?_) (fun c_198 => ?_) | refine go_ic_ge iM_bestChoice_198 (fun c_198 => ?_) (fun c_198 => ?_)
    · (first | omega | exact absurd c_198 (by decide) | (exfalso; simp (disch := omega) only [Int32.lt_iff_toInt_lt, Int32.le_iff_toInt_le, ← Int32.toInt_inj, nI_toInt, i32_m1, i32_0, i32_m20, i32_m40, i32_m30, i32_m9] at *; omega))
    refine go_aloadn_0 iM_bestChoice_201 rfl ?_
    refine go_getR iM_bestChoice_202 rfl (sk_43 _) (mR_43_25 _) ?_
    refine go_iload_7 iM_bestChoice_205 ?_
    refine go_aloadn_0 iM_bestChoice_207 rfl ?_
    refine go_getR iM_bestChoice_208 rfl (sk_43 _) (mR_43_10 _) ?_
    refine go_iload_7 iM_bestChoice_211 ?_
    refine go_iald iM_bestChoice_213 (sh_49 _) rfl (by omega) (by omega) ?_
    try simp (disch := omega) only [am_u_n, am_u_s, am_u_k, q0, r1]
    refine go_iast iM_bestChoice_214 (sh_56 _) rfl (by omega) (by omega) ?_
    first | refine go_iinc_7 iM_bestChoice_215 (ni_inc _ 1) (by simp [Value.category, am_U]) ?_ | refine go_iinc_7 iM_bestChoice_215 rfl (by simp [Value.category, am_U]) ?_
    refine go_goto iM_bestChoice_218 ?_
    refine lo_M_bcD hm3 hmM hf kq l (t + 1) _ (by omega) ⟨fun a ha => by rw [am_u_r ha]; exact hF.1 a ha, fun s hs => ?_⟩
    by_cases q : s = t
    · rw [q, am_u_s]
    · rw [am_u_k q]; exact hF.2 s (by omega)
theorem lo_M_bcB (hn : 0 < n) (h8 : n ≤ 8) (hm1 : 1 ≤ m) (hm3 : m ≤ 3) (hmM : mI 43 4 = nI m) (hcM : mI 43 5 = nI n) (hpl : ∀ p, p < n → PlR mI p) (hod : odN mI = o) (hkd : kdN mI = kd) {Q : Option Value × am_M → Prop} (kq : ∀ mI' mL' z3 z4 z5 z6 z7 z8, FrN mI mI' mL mL' → ChM o m n mI' mL' (choF kd o m n (n ^ m)) → Go S 4 tM_bestChoice ((am_sh n, mI', mL', am_mR n), 227, [.ref 43, .int (nI (n ^ m)), .int (nI (anyN (choF kd o m n (n ^ m)))), z3, z4, z5, z6, z7, z8], []) Q) : ∀ l c (mI' : Nat → Nat → Int32) (mL' : Nat → Nat → Int64) (y4 y5 y6 y7 y8 : Value), c + l = n ^ m → FrN mI mI' mL mL' → ChM o m n mI' mL' (choF kd o m n c) → Go S 4 tM_bestChoice ((am_sh n, mI', mL', am_mR n), 29, [.ref 43, .int (nI (n ^ m)), .int (nI (anyN (choF kd o m n c))), .int (nI c), y4, y5, y6, y7, y8], []) Q
  | 0, c, mI', mL', y4, y5, y6, y7, y8, hi, hF, hB => by
    have hbd := pow_bd h8 (show m ≤ 4 by omega)
    have hcc : c = n ^ m := by omega
    rw [hcc] at hB ⊢
    refine go_iloadn_3 iM_bestChoice_29 ?_
    refine go_iloadn_1 iM_bestChoice_30 ?_
    first | refine gn_ic_ge iM_bestChoice_31 (by omega) (by omega) (fun c_31 => ?_) (fun c_31 => ?_) | refine go_ic_ge iM_bestChoice_31 (fun c_31 => ?_) (fun c_31 => ?_)
    rotate_left
    · (first | omega | exact absurd c_31 (by decide) | (exfalso; simp (disch := omega) only [Int32.lt_iff_toInt_lt, Int32.le_iff_toInt_le, ← Int32.toInt_inj, nI_toInt, i32_m1, i32_0, i32_m20, i32_m40, i32_m30, i32_m9] at *; omega))
    exact kq _ _ _ _ _ _ _ _ hF hB
  | l + 1, c, mI', mL', y4, y5, y6, y7, y8, hi, hF, hB => by
    have hbd := pow_bd h8 (show m ≤ 4 by omega)
    have ho12 : ∀ p i, p < n → i < 3 → o p i ≤ 12 := fun p i hp hi => by rw [← hod]; exact ((odN_ok (hpl p hp)).1 i (by omega)).2
    have hG : Gm m 12 1 (wE o n m c) := Gm_ch hm1 hm3 hn ho12
    have ha1 := anyN_le (choF kd o m n c)
    have nx : ∀ (mI2 : Nat → Nat → Int32) (mL2 : Nat → Nat → Int64) (y4 y5 y6 y7 y8 : Value), FrN mI mI2 mL mL2 → ChM o m n mI2 mL2 (choF kd o m n (c + 1)) → Go S 4 tM_bestChoice ((am_sh n, mI2, mL2, am_mR n), 29, [.ref 43, .int (nI (n ^ m)), .int (nI (anyN (choF kd o m n (c + 1)))), .int (nI (c + 1)), y4, y5, y6, y7, y8], []) Q := fun mI2 mL2 y4 y5 y6 y7 y8 h1 h2 => lo_M_bcB hn h8 hm1 hm3 hmM hcM hpl hod hkd kq l (c + 1) mI2 mL2 y4 y5 y6 y7 y8 (by omega) h1 h2
    have hokc : chO kd o m n c = (gdR kd n m c m && decide (0 < chW o m n c)) := rfl
    have fr0 : FrN mI (am_u mI' 43 11 (nI 1)) mL (am_u mL' 43 12 (zL 12)) := hF.trans ⟨⟨fun a e1 e2 e3 => by rw [am_u_r e1], fun y hy => by rw [am_u_k hy], fun a ha => by rw [am_u_r (by omega)]⟩, by rw [am_u_k (by decide)], by rw [am_u_k (by decide)]⟩
    have hB0 : ChM o m n (am_u mI' 43 11 (nI 1)) (am_u mL' 43 12 (zL 12)) (choF kd o m n c) := BsM.of hB (by rw [am_u_r (by decide)]) (by rw [am_u_k (by decide)]) (by rw [am_u_k (by decide)])
    refine go_iloadn_3 iM_bestChoice_29 ?_
    refine go_iloadn_1 iM_bestChoice_30 ?_
    first | refine gn_ic_ge iM_bestChoice_31 (by omega) (by omega) (fun c_31 => ?_) (fun c_31 => ?_) | refine go_ic_ge iM_bestChoice_31 (fun c_31 => ?_) (fun c_31 => ?_)
    · (first | omega | exact absurd c_31 (by decide) | (exfalso; simp (disch := omega) only [Int32.lt_iff_toInt_lt, Int32.le_iff_toInt_le, ← Int32.toInt_inj, nI_toInt, i32_m1, i32_0, i32_m20, i32_m40, i32_m30, i32_m9] at *; omega))
    refine go_iloadn_3 iM_bestChoice_34 ?_
    refine go_istore_4 iM_bestChoice_35 (by simp [Value.category, am_U]) ?_
    refine go_iloadn_1 iM_bestChoice_37 ?_
    refine go_istore_5 iM_bestChoice_38 (by simp [Value.category, am_U]) ?_
    refine go_iconst (v := nI 1) iM_bestChoice_40 rfl ?_
    refine go_istore_6 iM_bestChoice_41 (by simp [Value.category, am_U]) ?_
    refine go_aloadn_0 iM_bestChoice_43 rfl ?_
    refine go_iconst (v := nI 1) iM_bestChoice_44 rfl ?_
    refine go_putI iM_bestChoice_45 rfl (sk_43 _) ?_
    refine go_aloadn_0 iM_bestChoice_48 rfl ?_
    refine go_ldc2 (v := zL 12) iM_bestChoice_49 rfl ?_
    refine go_putL iM_bestChoice_52 rfl (sk_43 _) ?_
    refine go_iconst (v := nI 0) iM_bestChoice_55 rfl ?_
    refine go_istore_7 iM_bestChoice_56 (by simp [Value.category, am_U]) ?_
    refine lo_M_bcC0 (o := o) (kd := kd) hn h8 hm3 (by omega) (by rw [fr0.1.2.1 4 (by decide)]; exact hmM) (by rw [fr0.1.2.1 5 (by decide)]; exact hcM) (fun p hp => fr0.plr (hpl p hp)) (by rw [fr0.od]; exact hod) (by rw [← hkd]; funext p; unfold kdN; rw [fr0.1.1 45 (by decide) (by decide) (by decide)]) (fun mI2 mL2 x6 x7 z8 hC => ?_)
    obtain ⟨f1, f2, f3, f4⟩ := hC
    have fr2 : FrN mI mI2 mL mL2 := fr0.trans ⟨⟨fun a e1 e2 e3 => f1 a e2, fun y hy => by rw [f1 43 (by decide)], fun a ha => f2 a (by omega)⟩, by rw [f2 43 (by decide)], by rw [f2 43 (by decide)]⟩
    have hB2 : ChM o m n mI2 mL2 (choF kd o m n c) := BsM.of hB0 (f1 56 (by decide)) (by rw [f2 43 (by decide)]) (by rw [f2 43 (by decide)])
    have hmM2 : mI2 43 4 = nI m := by rw [fr2.1.2.1 4 (by decide)]; exact hmM
    by_cases g1 : gdR kd n m c m = true
    · rw [if_pos g1]
      have hgn := ex_M_hasGain (S := S) (n := n) (mI := mI2) (mL := mL2) hG hmM2 (by rw [f1 43 (by decide), am_u_s]) (by rw [f2 43 (by decide)]; exact am_u_s) (fun t i ht hi => by
        obtain rfl : t = 0 := by omega
        rw [show 3 * 0 + i = i by omega]
        exact f4 i hi)
      by_cases g2 : 0 < Wz m 12 1 (wE o n m c)
      · rw [if_pos g2] at hgn
        have hokt : chO kd o m n c = true := by rw [hokc, g1, decide_eq_true (show 0 < chW o m n c from g2)]; rfl
        obtain ⟨⟨u1, u2⟩, u3, u4⟩ := hG.f g2
        have take : ∀ mL3 : Nat → Nat → Int64, FrM mL2 mL3 → mL3 43 21 = zL (fU (chU o m n c) (chN o m n c)) → mL3 43 22 = zL (fL (chU o m n c) (chN o m n c)) → choF kd o m n (c + 1) = some c → Go S 4 tM_bestChoice ((am_sh n, mI2, mL3, am_mR n), 171, [.ref 43, .int (nI (n ^ m)), .int (nI (anyN (choF kd o m n c))), .int (nI c), .int x6, .int x7, .int (nI 1), .int (nI m), z8], []) Q := by
          intro mL3 m1 m2 m3 hs
          rw [hs] at nx
          refine go_iconst (v := nI 1) iM_bestChoice_171 rfl ?_
          refine go_istoren_2 iM_bestChoice_172 (by simp [Value.category, am_U]) ?_
          refine go_aloadn_0 iM_bestChoice_173 rfl ?_
          refine go_aloadn_0 iM_bestChoice_174 rfl ?_
          refine go_getL iM_bestChoice_175 rfl (sk_43 _) ?_
          try simp (disch := omega) only [am_u_n, am_u_s, am_u_k, m2, m3]
          refine go_putL iM_bestChoice_178 rfl (sk_43 _) ?_
          refine go_aloadn_0 iM_bestChoice_181 rfl ?_
          refine go_aloadn_0 iM_bestChoice_182 rfl ?_
          refine go_getL iM_bestChoice_183 rfl (sk_43 _) ?_
          try simp (disch := omega) only [am_u_n, am_u_s, am_u_k, m2, m3]
          refine go_putL iM_bestChoice_186 rfl (sk_43 _) ?_
          refine go_iconst (v := nI 0) iM_bestChoice_189 rfl ?_
          refine go_istore_7 iM_bestChoice_190 (by simp [Value.category, am_U]) ?_
          refine lo_M_bcD (f := dg n m c) hm3 hmM2 f3 (fun mI4 h4 => ?_) m 0 _ (by omega) ⟨fun a _ => rfl, fun s hs => by omega⟩
          first | refine go_iinc_3 iM_bestChoice_221 (ni_inc _ 1) (by simp [Value.category, am_U]) ?_ | refine go_iinc_3 iM_bestChoice_221 rfl (by simp [Value.category, am_U]) ?_
          refine go_goto iM_bestChoice_224 ?_
          refine nx _ _ _ _ _ _ _ (fr2.trans ⟨⟨fun a e1 e2 e3 => h4.1 a e3, fun y hy => by rw [h4.1 43 (by decide)], fun a ha => ?_⟩, ?_, ?_⟩) ⟨?_, ?_, h4.2⟩
          · rw [am_u_r (by omega), am_u_r (by omega)]; exact m1.1 a (by omega) (by omega) (by omega) (by omega) (by omega) (by omega)
          · rw [am_u_k (by decide), am_u_k (by decide)]; exact m1.2 2 (by decide) (by decide) (by decide) (by decide)
          · rw [am_u_k (by decide), am_u_k (by decide)]; exact m1.2 3 (by decide) (by decide) (by decide) (by decide)
          · rw [am_u_k (by decide), am_u_s]
          · rw [am_u_s]
        have keep : ∀ mL3 : Nat → Nat → Int64, FrM mL2 mL3 → FrN mI mI2 mL mL3 ∧ ChM o m n mI2 mL3 (choF kd o m n c) := fun mL3 m1 => ⟨fr2.trans ⟨⟨fun a _ _ _ => rfl, fun y _ => rfl, fun a ha => m1.1 a (by omega) (by omega) (by omega) (by omega) (by omega) (by omega)⟩, m1.2 2 (by decide) (by decide) (by decide) (by decide), m1.2 3 (by decide) (by decide) (by decide) (by decide)⟩, BsM.of hB2 rfl (m1.2 23 (by decide) (by decide) (by decide) (by decide)) (m1.2 24 (by decide) (by decide) (by decide) (by decide))⟩
        cases hs : choF kd o m n c with
        | none =>
          have hs1 : choF kd o m n (c + 1) = some c := by
            show bsN (chO kd o m n) (chU o m n) (chW o m n) (choF kd o m n c) c = some c
            rw [hs]
            exact if_pos hokt
          rw [hs] at take
          rw [show anyN none = 0 from rfl]
          refine go_iload_6 iM_bestChoice_148 ?_
          refine go_if_eq iM_bestChoice_150 (fun c_150 => ?_) (fun c_150 => ?_)
          · (first | omega | exact absurd c_150 (by decide) | (exfalso; simp (disch := omega) only [Int32.lt_iff_toInt_lt, Int32.le_iff_toInt_le, ← Int32.toInt_inj, nI_toInt, i32_m1, i32_0, i32_m20, i32_m40, i32_m30, i32_m9] at *; omega))
          refine go_aloadn_0 iM_bestChoice_153 rfl ?_
          refine gx_V1 iM_bestChoice_154 rfl (by decide) (sk_43 _) rfl (Nat.le_of_ble_eq_true rfl) (Nat.le_of_ble_eq_true rfl) (by decide) hgn (fun mI154_ mL154_ h154_ => ?_)
          obtain ⟨b0, b1, b2⟩ := h154_
          subst mI154_
          obtain ⟨b3, b4⟩ := b2 g2
          refine go_if_eq iM_bestChoice_157 (fun c_157 => ?_) (fun c_157 => ?_)
          · (first | omega | exact absurd c_157 (by decide) | (exfalso; simp (disch := omega) only [Int32.lt_iff_toInt_lt, Int32.le_iff_toInt_le, ← Int32.toInt_inj, nI_toInt, i32_m1, i32_0, i32_m20, i32_m40, i32_m30, i32_m9] at *; omega))
          refine go_iloadn_2 iM_bestChoice_160 ?_
          refine go_if_eq iM_bestChoice_161 (fun c_161 => ?_) (fun c_161 => ?_)
          rotate_left
          · (first | omega | exact absurd c_161 (by decide) | (exfalso; simp (disch := omega) only [Int32.lt_iff_toInt_lt, Int32.le_iff_toInt_le, ← Int32.toInt_inj, nI_toInt, i32_m1, i32_0, i32_m20, i32_m40, i32_m30, i32_m9] at *; omega))
          exact take _ b1 b3 b4 hs1
        | some b =>
          obtain ⟨hGb, hWb⟩ := ch_some hm1 hm3 hn ho12 hs
          obtain ⟨⟨v1, v2⟩, v3, v4⟩ := hGb.f hWb
          have hiff := more_iff hGb hG hWb g2
          rw [hs] at take keep hB2
          rw [show anyN (some b) = 1 from rfl]
          obtain ⟨k1, k2, k3⟩ := hB2
          by_cases g3 : chU o m n b * chW o m n c < chU o m n c * chW o m n b
          · have hs1 : choF kd o m n (c + 1) = some c := by
              show bsN (chO kd o m n) (chU o m n) (chW o m n) (choF kd o m n c) c = some c
              rw [hs]
              exact if_pos ⟨hokt, g3⟩
            refine go_iload_6 iM_bestChoice_148 ?_
            refine go_if_eq iM_bestChoice_150 (fun c_150 => ?_) (fun c_150 => ?_)
            · (first | omega | exact absurd c_150 (by decide) | (exfalso; simp (disch := omega) only [Int32.lt_iff_toInt_lt, Int32.le_iff_toInt_le, ← Int32.toInt_inj, nI_toInt, i32_m1, i32_0, i32_m20, i32_m40, i32_m30, i32_m9] at *; omega))
            refine go_aloadn_0 iM_bestChoice_153 rfl ?_
            refine gx_V1 iM_bestChoice_154 rfl (by decide) (sk_43 _) rfl (Nat.le_of_ble_eq_true rfl) (Nat.le_of_ble_eq_true rfl) (by decide) hgn (fun mI154_ mL154_ h154_ => ?_)
            obtain ⟨b0, b1, b2⟩ := h154_
            subst mI154_
            obtain ⟨b3, b4⟩ := b2 g2
            obtain ⟨j1, j2, j3⟩ := (keep _ b1).2
            refine go_if_eq iM_bestChoice_157 (fun c_157 => ?_) (fun c_157 => ?_)
            · (first | omega | exact absurd c_157 (by decide) | (exfalso; simp (disch := omega) only [Int32.lt_iff_toInt_lt, Int32.le_iff_toInt_le, ← Int32.toInt_inj, nI_toInt, i32_m1, i32_0, i32_m20, i32_m40, i32_m30, i32_m9] at *; omega))
            refine go_iloadn_2 iM_bestChoice_160 ?_
            refine go_if_eq iM_bestChoice_161 (fun c_161 => ?_) (fun c_161 => ?_)
            · (first | omega | exact absurd c_161 (by decide) | (exfalso; simp (disch := omega) only [Int32.lt_iff_toInt_lt, Int32.le_iff_toInt_le, ← Int32.toInt_inj, nI_toInt, i32_m1, i32_0, i32_m20, i32_m40, i32_m30, i32_m9] at *; omega))
            refine go_aloadn_0 iM_bestChoice_164 rfl ?_
            refine gc_V1 iM_bestChoice_165 rfl (by decide) (sk_43 _) rfl (Nat.le_of_ble_eq_true rfl) (Nat.le_of_ble_eq_true rfl) (by decide) (sp_M_isMore (v := 1) j1 j2 b3 b4 ⟨v1, v2⟩ ⟨u1, u2⟩ ⟨v3, v4⟩ ⟨u3, u4⟩ (if_pos (hiff.mpr g3)).symm) ?_
            refine go_if_eq iM_bestChoice_168 (fun c_168 => ?_) (fun c_168 => ?_)
            · (first | omega | exact absurd c_168 (by decide) | (exfalso; simp (disch := omega) only [Int32.lt_iff_toInt_lt, Int32.le_iff_toInt_le, ← Int32.toInt_inj, nI_toInt, i32_m1, i32_0, i32_m20, i32_m40, i32_m30, i32_m9] at *; omega))
            exact take _ b1 b3 b4 hs1
          · have hs1 : choF kd o m n (c + 1) = some b := by
              show bsN (chO kd o m n) (chU o m n) (chW o m n) (choF kd o m n c) c = some b
              rw [hs]
              exact if_neg (fun z => g3 z.2)
            rw [hs1] at nx
            refine go_iload_6 iM_bestChoice_148 ?_
            refine go_if_eq iM_bestChoice_150 (fun c_150 => ?_) (fun c_150 => ?_)
            · (first | omega | exact absurd c_150 (by decide) | (exfalso; simp (disch := omega) only [Int32.lt_iff_toInt_lt, Int32.le_iff_toInt_le, ← Int32.toInt_inj, nI_toInt, i32_m1, i32_0, i32_m20, i32_m40, i32_m30, i32_m9] at *; omega))
            refine go_aloadn_0 iM_bestChoice_153 rfl ?_
            refine gx_V1 iM_bestChoice_154 rfl (by decide) (sk_43 _) rfl (Nat.le_of_ble_eq_true rfl) (Nat.le_of_ble_eq_true rfl) (by decide) hgn (fun mI154_ mL154_ h154_ => ?_)
            obtain ⟨b0, b1, b2⟩ := h154_
            subst mI154_
            obtain ⟨b3, b4⟩ := b2 g2
            obtain ⟨j1, j2, j3⟩ := (keep _ b1).2
            refine go_if_eq iM_bestChoice_157 (fun c_157 => ?_) (fun c_157 => ?_)
            · (first | omega | exact absurd c_157 (by decide) | (exfalso; simp (disch := omega) only [Int32.lt_iff_toInt_lt, Int32.le_iff_toInt_le, ← Int32.toInt_inj, nI_toInt, i32_m1, i32_0, i32_m20, i32_m40, i32_m30, i32_m9] at *; omega))
            refine go_iloadn_2 iM_bestChoice_160 ?_
            refine go_if_eq iM_bestChoice_161 (fun c_161 => ?_) (fun c_161 => ?_)
            · (first | omega | exact absurd c_161 (by decide) | (exfalso; simp (disch := omega) only [Int32.lt_iff_toInt_lt, Int32.le_iff_toInt_le, ← Int32.toInt_inj, nI_toInt, i32_m1, i32_0, i32_m20, i32_m40, i32_m30, i32_m9] at *; omega))
            refine go_aloadn_0 iM_bestChoice_164 rfl ?_
            refine gc_V1 iM_bestChoice_165 rfl (by decide) (sk_43 _) rfl (Nat.le_of_ble_eq_true rfl) (Nat.le_of_ble_eq_true rfl) (by decide) (sp_M_isMore (v := 0) j1 j2 b3 b4 ⟨v1, v2⟩ ⟨u1, u2⟩ ⟨v3, v4⟩ ⟨u3, u4⟩ (if_neg (fun z => g3 (hiff.mp z))).symm) ?_
            refine go_if_eq iM_bestChoice_168 (fun c_168 => ?_) (fun c_168 => ?_)
            rotate_left
            · (first | omega | exact absurd c_168 (by decide) | (exfalso; simp (disch := omega) only [Int32.lt_iff_toInt_lt, Int32.le_iff_toInt_le, ← Int32.toInt_inj, nI_toInt, i32_m1, i32_0, i32_m20, i32_m40, i32_m30, i32_m9] at *; omega))
            first | refine go_iinc_3 iM_bestChoice_221 (ni_inc _ 1) (by simp [Value.category, am_U]) ?_ | refine go_iinc_3 iM_bestChoice_221 rfl (by simp [Value.category, am_U]) ?_
            refine go_goto iM_bestChoice_224 ?_
            exact nx _ _ _ _ _ _ _ (keep _ b1).1 (keep _ b1).2
      · rw [if_neg g2] at hgn
        have hokf : chO kd o m n c = false := by rw [hokc, g1, decide_eq_false (show ¬ 0 < chW o m n c from g2)]; rfl
        have hs1 : choF kd o m n (c + 1) = choF kd o m n c := bsN_f hokf _
        rw [hs1] at nx
        refine go_iload_6 iM_bestChoice_148 ?_
        refine go_if_eq iM_bestChoice_150 (fun c_150 => ?_) (fun c_150 => ?_)
        · (first | omega | exact absurd c_150 (by decide) | (exfalso; simp (disch := omega) only [Int32.lt_iff_toInt_lt, Int32.le_iff_toInt_le, ← Int32.toInt_inj, nI_toInt, i32_m1, i32_0, i32_m20, i32_m40, i32_m30, i32_m9] at *; omega))
        refine go_aloadn_0 iM_bestChoice_153 rfl ?_
        refine gx_V1 iM_bestChoice_154 rfl (by decide) (sk_43 _) rfl (Nat.le_of_ble_eq_true rfl) (Nat.le_of_ble_eq_true rfl) (by decide) hgn (fun mI154_ mL154_ h154_ => ?_)
        obtain ⟨b0, b1, b2⟩ := h154_
        subst mI154_
        refine go_if_eq iM_bestChoice_157 (fun c_157 => ?_) (fun c_157 => ?_)
        rotate_left
        · (first | omega | exact absurd c_157 (by decide) | (exfalso; simp (disch := omega) only [Int32.lt_iff_toInt_lt, Int32.le_iff_toInt_le, ← Int32.toInt_inj, nI_toInt, i32_m1, i32_0, i32_m20, i32_m40, i32_m30, i32_m9] at *; omega))
        first | refine go_iinc_3 iM_bestChoice_221 (ni_inc _ 1) (by simp [Value.category, am_U]) ?_ | refine go_iinc_3 iM_bestChoice_221 rfl (by simp [Value.category, am_U]) ?_
        refine go_goto iM_bestChoice_224 ?_
        refine nx _ _ _ _ _ _ _ (fr2.trans ⟨⟨fun a _ _ _ => rfl, fun y _ => rfl, fun a ha => b1.1 a (by omega) (by omega) (by omega) (by omega) (by omega) (by omega)⟩, b1.2 2 (by decide) (by decide) (by decide) (by decide), b1.2 3 (by decide) (by decide) (by decide) (by decide)⟩) (BsM.of hB2 rfl (b1.2 23 (by decide) (by decide) (by decide) (by decide)) (b1.2 24 (by decide) (by decide) (by decide) (by decide)))
    · rw [if_neg g1]
      have g1f : gdR kd n m c m = false := by rw [Bool.not_eq_true] at g1; exact g1
      have hokf : chO kd o m n c = false := by rw [hokc, g1f, Bool.false_and]
      have hs1 : choF kd o m n (c + 1) = choF kd o m n c := bsN_f hokf _
      rw [hs1] at nx
      refine go_iload_6 iM_bestChoice_148 ?_
      refine go_if_eq iM_bestChoice_150 (fun c_150 => ?_) (fun c_150 => ?_)
      rotate_left
      · (first | omega | exact absurd c_150 (by decide) | (exfalso; simp (disch := omega) only [Int32.lt_iff_toInt_lt, Int32.le_iff_toInt_le, ← Int32.toInt_inj, nI_toInt, i32_m1, i32_0, i32_m20, i32_m40, i32_m30, i32_m9] at *; omega))
      first | refine go_iinc_3 iM_bestChoice_221 (ni_inc _ 1) (by simp [Value.category, am_U]) ?_ | refine go_iinc_3 iM_bestChoice_221 rfl (by simp [Value.category, am_U]) ?_
      refine go_goto iM_bestChoice_224 ?_
      exact nx _ _ _ _ _ _ _ fr2 hB2
end MCH
