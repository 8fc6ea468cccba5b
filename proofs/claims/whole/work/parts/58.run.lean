/-! ===== run ===== -/
theorem and1 (y : Int32) : y &&& nI 1 = nI 0 ∨ y &&& nI 1 = nI 1 := by
  have h : (y &&& nI 1).toBitVec = BitVec.setWidth 32 (BitVec.ofBool (y.toBitVec.getLsbD 0)) := by
    rw [Int32.toBitVec_and, show (nI 1).toBitVec = 1#32 from rfl]
    exact BitVec.and_one_eq_setWidth_ofBool_getLsbD
  cases hb : y.toBitVec.getLsbD 0 with
  | false =>
    rw [hb] at h
    exact Or.inl (Int32.toBitVec_inj.mp (h.trans rfl))
  | true =>
    rw [hb] at h
    exact Or.inr (Int32.toBitVec_inj.mp (h.trans rfl))
/-- how the end number i is -/
def en (x : Int32) (i : Nat) : Nat := if (x >>> (nI i &&& 31)) &&& nI 1 = nI 1 then 1 else 0
theorem en_le (x : Int32) (i : Nat) : en x i ≤ 1 := by unfold en; split <;> omega
theorem en_eq (x : Int32) (i : Nat) : (x >>> (nI i &&& 31)) &&& nI 1 = nI (en x i) := by
  unfold en
  rcases and1 (x >>> (nI i &&& 31)) with h | h
  · rw [h, if_neg (by decide)]
  · rw [h, if_pos rfl]
theorem stT8 : ∀ s, s < 4 → ∀ e, e < 2 → ((nI s <<< (nI 1 &&& 31)) &&& nI 3) ||| nI e = nI ((2 * s + e) % 4) := by decide
theorem stM8 : ∀ s, s < 4 → ∀ e, e < 2 → nI (2 * s + e) &&& nI 3 = nI ((2 * s + e) % 4) := by decide
theorem shl13 : ∀ k, k < 13 → nI 1 <<< (nI k &&& 31) = nI (2 ^ k) ∧ 1 ≤ 2 ^ k ∧ 2 ^ k ≤ 4096 := by decide
def rnS (b : Nat) (x : Int32) : Nat → Nat
  | 0 => b
  | i + 1 => (2 * rnS b x i + en x i) % 4
def rnC (o : Nat → Nat) (b : Nat) (x : Int32) : Nat → Int
  | 0 => 1
  | i + 1 => rnC o b x i * ((if en x i = 1 then o (rnS b x i) else 12 - o (rnS b x i) : Nat) : Int)
theorem rnS_lt {b : Nat} {x : Int32} (hb : b < 4) : ∀ i, rnS b x i < 4
  | 0 => hb
  | i + 1 => Nat.mod_lt _ (by omega)
theorem rnC_le {o : Nat → Nat} {b : Nat} {x : Int32} (hb : b < 4) (ho : ∀ j, j < 4 → o j ≤ 12) : ∀ i, 0 ≤ rnC o b x i ∧ rnC o b x i ≤ pw 12 i
  | 0 => by simp [rnC, pw]
  | i + 1 => by
    have ih := rnC_le (x := x) hb ho i
    have h1 := ho _ (rnS_lt (x := x) hb i)
    obtain ⟨w, hw, e⟩ : ∃ w : Nat, w ≤ 12 ∧ (if en x i = 1 then o (rnS b x i) else 12 - o (rnS b x i)) = w := ⟨_, by split <;> omega, rfl⟩
    simp only [rnC, e]
    refine ⟨Int.mul_nonneg ih.1 (by omega), ?_⟩
    rw [pw_s]
    exact Int.mul_le_mul ih.2 (by omega) (by omega) (by omega)
theorem rnC_1 {o : Nat → Nat} {b i : Nat} {x : Int32} (h : en x i = 1) : rnC o b x i * (o (rnS b x i) : Int) = rnC o b x (i + 1) := by simp only [rnC, h, if_true]
theorem rnC_0 {o : Nat → Nat} {b i : Nat} {x : Int32} (h : ¬ en x i = 1) : rnC o b x i * ((12 - o (rnS b x i) : Nat) : Int) = rnC o b x (i + 1) := by simp only [rnC, h, if_false]
theorem pw12 (i : Nat) : pw 12 i * 12 = pw 12 (i + 1) := (pw_s 12 i).symm
theorem pw12_le {k : Nat} (h : k ≤ 12) : 12 ^ k ≤ 8916100448256 := Nat.pow_le_pow_right (n := 12) (by omega) h
section RUN
variable {S : am_S} {mI : Nat → Nat → Int32} {mL : Nat → Nat → Int64} {n p b k : Nat} {x : Int32}
theorem lo_T_run (hk : k ≤ 12) (hb : b < 4) (hp : p < n) (ho : ∀ j, j < 4 → mI (61 + 2 * p) j = nI (odN mI p j) ∧ odN mI p j ≤ 12) : ∀ l i (y z : Value), i + l = k → Go S 2 tT_run ((am_sh n, mI, mL, am_mR n), 76, [.ref 0, .int (nI p), .int (nI b), .int (nI k), .int x, .ref (60 + 2 * p), .long (zL (rnC (odN mI p) b x i)), am_U, .long (zL (pw 12 i)), am_U, .int (nI (rnS b x i)), .int (nI i), y, z], []) (fun r => ∃ mI' mL', r = (some (.int (nI 1)), (am_sh n, mI', mL', am_mR n)) ∧ (FrC mI mI' mL mL' ∧ mL' 4 0 = zL (fU (rnC (odN mI p) b x k) (12 ^ k)) ∧ mL' 4 1 = zL (fL (rnC (odN mI p) b x k) (12 ^ k))))
  | 0, i, y, z, hi => by
    obtain rfl : i = k := by omega
    have hc := rnC_le (x := x) hb (fun j hj => (ho j hj).2) i
    have hl := pw12_le hk
    have l0 : 0 < 12 ^ i := Nat.pow_pos (by omega)
    have hpw : pw 12 i = ((12 ^ i : Nat) : Int) := rfl
    refine go_iload_11 iT_run_76 ?_
    refine go_iloadn_3 iT_run_78 ?_
    first | refine gn_ic_ge iT_run_79 (by omega) (by omega) (fun c_79 => ?_) (fun c_79 => ?_) | refine go_ic_ge iT_run_79 (fun c_79 => ?_) (fun c_79 => ?_)
    rotate_left
    · (first | omega | exact absurd c_79 (by decide) | (exfalso; simp (disch := omega) only [Int32.lt_iff_toInt_lt, Int32.le_iff_toInt_le, ← Int32.toInt_inj, nI_toInt, i32_m1, i32_0, i32_m20, i32_m40, i32_m30, i32_m9] at *; omega))
    refine go_aloadn_0 iT_run_149 rfl ?_
    refine go_getR iT_run_150 rfl (sk_0 _) (mR_0_6 _) ?_
    refine go_lload_6 iT_run_153 ?_
    refine go_lload_8 iT_run_155 ?_
    refine gc_V0 iT_run_157 rfl (by decide) (sk_4 _) rfl (Nat.le_of_ble_eq_true rfl) (Nat.le_of_ble_eq_true rfl) (by decide) (sp_F_tell (u := rnC (odN mI p) b x i) (l := 12 ^ i) (by omega) l0 (by omega)) ?_
    refine go_iconst (v := nI 1) iT_run_160 rfl ?_
    refine go_iret iT_run_161 rfl ?_
    refine ex_i ⟨⟨fun a _ => rfl, fun a h1 h4 => ?_⟩, ?_, ?_⟩
    · rw [am_u_r h4, am_u_r h4]
    · rw [am_u_k (by decide), am_u_s]
    · rw [am_u_s]
  | l + 1, i, y, z, hi => by
    have hs := rnS_lt (x := x) hb i
    obtain ⟨r1, r2⟩ := ho _ hs
    have k1 := sk_play hp
    have k3 := mR_wins n hp
    have k5 := sh_wins hp
    have he := en_le x i
    by_cases c : en x i = 1
    · have q1 := rnC_1 (o := odN mI p) (b := b) c
      refine go_iload_11 iT_run_76 ?_
      refine go_iloadn_3 iT_run_78 ?_
      first | refine gn_ic_ge iT_run_79 (by omega) (by omega) (fun c_79 => ?_) (fun c_79 => ?_) | refine go_ic_ge iT_run_79 (fun c_79 => ?_) (fun c_79 => ?_)
      · (first | omega | exact absurd c_79 (by decide) | (exfalso; simp (disch := omega) only [Int32.lt_iff_toInt_lt, Int32.le_iff_toInt_le, ← Int32.toInt_inj, nI_toInt, i32_m1, i32_0, i32_m20, i32_m40, i32_m30, i32_m9] at *; omega))
      refine go_iload_4 iT_run_82 ?_
      refine go_iload_11 iT_run_84 ?_
      refine go_ishr iT_run_86 ?_
      refine go_iconst (v := nI 1) iT_run_87 rfl ?_
      refine go_iand iT_run_88 ?_
      rw [en_eq]
      refine go_istore_12 iT_run_89 (by simp [Value.category, am_U]) ?_
      refine go_aload_5 iT_run_91 rfl ?_
      refine go_getR iT_run_93 rfl (by assumption) (by assumption) ?_
      refine go_iload_10 iT_run_96 ?_
      refine go_iald iT_run_98 (by assumption) rfl (by omega) (by omega) ?_
      try simp (disch := omega) only [am_u_n, am_u_s, am_u_k, r1]
      refine go_istore_13 iT_run_99 (by simp [Value.category, am_U]) ?_
      refine go_lload_6 iT_run_101 ?_
      refine go_iload_12 iT_run_103 ?_
      refine go_iconst (v := nI 1) iT_run_105 rfl ?_
      first | refine gn_ic_ne iT_run_106 (by omega) (by omega) (fun c_106 => ?_) (fun c_106 => ?_) | refine go_ic_ne iT_run_106 (fun c_106 => ?_) (fun c_106 => ?_)
      · (first | omega | exact absurd c_106 (by decide) | (exfalso; simp (disch := omega) only [Int32.lt_iff_toInt_lt, Int32.le_iff_toInt_le, ← Int32.toInt_inj, nI_toInt, i32_m1, i32_0, i32_m20, i32_m40, i32_m30, i32_m9] at *; omega))
      refine go_iload_13 iT_run_109 ?_
      first | refine gz_i2l iT_run_111 (by omega) ?_ | refine gz_i2lI iT_run_111 ?_
      refine go_goto iT_run_112 ?_
      first | refine gz_lmul iT_run_121 ?_ | refine go_lmul iT_run_121 ?_
      rw [q1]
      refine go_lstore_6 iT_run_122 (by simp [Value.category, am_U]) ?_
      refine go_lload_8 iT_run_124 ?_
      refine go_ldc2 (v := zL 12) iT_run_126 rfl ?_
      first | refine gz_lmul iT_run_129 ?_ | refine go_lmul iT_run_129 ?_
      rw [pw12]
      refine go_lstore_8 iT_run_130 (by simp [Value.category, am_U]) ?_
      refine go_iload_10 iT_run_132 ?_
      refine go_iconst (v := nI 1) iT_run_134 rfl ?_
      refine go_ishl iT_run_135 ?_
      refine go_iconst (v := nI 3) iT_run_136 rfl ?_
      refine go_iand iT_run_137 ?_
      refine go_iload_12 iT_run_138 ?_
      refine go_ior iT_run_140 ?_
      rw [stT8 _ hs _ (by omega)]
      refine go_istore_10 iT_run_141 (by simp [Value.category, am_U]) ?_
      first | refine go_iinc_11 iT_run_143 (ni_inc _ 1) (by simp [Value.category, am_U]) ?_ | refine go_iinc_11 iT_run_143 rfl (by simp [Value.category, am_U]) ?_
      refine go_goto iT_run_146 ?_
      exact lo_T_run hk hb hp ho l (i + 1) _ _ (by omega)
    · have q1 := rnC_0 (o := odN mI p) (b := b) c
      refine go_iload_11 iT_run_76 ?_
      refine go_iloadn_3 iT_run_78 ?_
      first | refine gn_ic_ge iT_run_79 (by omega) (by omega) (fun c_79 => ?_) (fun c_79 => ?_) | refine go_ic_ge iT_run_79 (fun c_79 => ?_) (fun c_79 => ?_)
      · (first | omega | exact absurd c_79 (by decide) | (exfalso; simp (disch := omega) only [Int32.lt_iff_toInt_lt, Int32.le_iff_toInt_le, ← Int32.toInt_inj, nI_toInt, i32_m1, i32_0, i32_m20, i32_m40, i32_m30, i32_m9] at *; omega))
      refine go_iload_4 iT_run_82 ?_
      refine go_iload_11 iT_run_84 ?_
      refine go_ishr iT_run_86 ?_
      refine go_iconst (v := nI 1) iT_run_87 rfl ?_
      refine go_iand iT_run_88 ?_
      rw [en_eq]
      refine go_istore_12 iT_run_89 (by simp [Value.category, am_U]) ?_
      refine go_aload_5 iT_run_91 rfl ?_
      refine go_getR iT_run_93 rfl (by assumption) (by assumption) ?_
      refine go_iload_10 iT_run_96 ?_
      refine go_iald iT_run_98 (by assumption) rfl (by omega) (by omega) ?_
      try simp (disch := omega) only [am_u_n, am_u_s, am_u_k, r1]
      refine go_istore_13 iT_run_99 (by simp [Value.category, am_U]) ?_
      refine go_lload_6 iT_run_101 ?_
      refine go_iload_12 iT_run_103 ?_
      refine go_iconst (v := nI 1) iT_run_105 rfl ?_
      first | refine gn_ic_ne iT_run_106 (by omega) (by omega) (fun c_106 => ?_) (fun c_106 => ?_) | refine go_ic_ne iT_run_106 (fun c_106 => ?_) (fun c_106 => ?_)
      rotate_left
      · (first | omega | exact absurd c_106 (by decide) | (exfalso; simp (disch := omega) only [Int32.lt_iff_toInt_lt, Int32.le_iff_toInt_le, ← Int32.toInt_inj, nI_toInt, i32_m1, i32_0, i32_m20, i32_m40, i32_m30, i32_m9] at *; omega))
      refine go_bipush (v := nI 12) iT_run_115 (by decide) ?_
      refine go_iload_13 iT_run_117 ?_
      first | refine gn_isub iT_run_119 (by omega) ?_ | refine go_isub iT_run_119 ?_
      first | refine gz_i2l iT_run_120 (by omega) ?_ | refine gz_i2lI iT_run_120 ?_
      first | refine gz_lmul iT_run_121 ?_ | refine go_lmul iT_run_121 ?_
      rw [q1]
      refine go_lstore_6 iT_run_122 (by simp [Value.category, am_U]) ?_
      refine go_lload_8 iT_run_124 ?_
      refine go_ldc2 (v := zL 12) iT_run_126 rfl ?_
      first | refine gz_lmul iT_run_129 ?_ | refine go_lmul iT_run_129 ?_
      rw [pw12]
      refine go_lstore_8 iT_run_130 (by simp [Value.category, am_U]) ?_
      refine go_iload_10 iT_run_132 ?_
      refine go_iconst (v := nI 1) iT_run_134 rfl ?_
      refine go_ishl iT_run_135 ?_
      refine go_iconst (v := nI 3) iT_run_136 rfl ?_
      refine go_iand iT_run_137 ?_
      refine go_iload_12 iT_run_138 ?_
      refine go_ior iT_run_140 ?_
      rw [stT8 _ hs _ (by omega)]
      refine go_istore_10 iT_run_141 (by simp [Value.category, am_U]) ?_
      first | refine go_iinc_11 iT_run_143 (ni_inc _ 1) (by simp [Value.category, am_U]) ?_ | refine go_iinc_11 iT_run_143 rfl (by simp [Value.category, am_U]) ?_
      refine go_goto iT_run_146 ?_
      exact lo_T_run hk hb hp ho l (i + 1) _ _ (by omega)
theorem lo_M_run (hk : k ≤ 12) (hb : b < 4) (hp : p < 8) {o : Nat → Nat} (ho : ∀ j, j < 4 → mI 46 (4 * p + j) = nI (o j) ∧ o j ≤ 12) : ∀ l i (y z : Value), i + l = k → Go S 2 tM_run ((am_sh n, mI, mL, am_mR n), 71, [.ref 43, .int (nI p), .int (nI b), .int (nI k), .int x, .long (zL (rnC o b x i)), am_U, .long (zL (pw 12 i)), am_U, .int (nI (rnS b x i)), .int (nI i), y, z], []) (fun r => r = (some (.int (nI 1)), (am_sh n, mI, am_u (am_u mL 43 2 (zL (fU (rnC o b x k) (12 ^ k)))) 43 3 (zL (fL (rnC o b x k) (12 ^ k))), am_mR n)))
  | 0, i, y, z, hi => by
    obtain rfl : i = k := by omega
    have hc := rnC_le (x := x) hb (fun j hj => (ho j hj).2) i
    have hl := pw12_le hk
    have l0 : 0 < 12 ^ i := Nat.pow_pos (by omega)
    have hpw : pw 12 i = ((12 ^ i : Nat) : Int) := rfl
    refine go_iload_10 iM_run_71 ?_
    refine go_iloadn_3 iM_run_73 ?_
    first | refine gn_ic_ge iM_run_74 (by omega) (by omega) (fun c_74 => ?_) (fun c_74 => ?_) | refine go_ic_ge iM_run_74 (fun c_74 => ?_) (fun c_74 => ?_)
    rotate_left
    · (first | omega | exact absurd c_74 (by decide) | (exfalso; simp (disch := omega) only [Int32.lt_iff_toInt_lt, Int32.le_iff_toInt_le, ← Int32.toInt_inj, nI_toInt, i32_m1, i32_0, i32_m20, i32_m40, i32_m30, i32_m9] at *; omega))
    refine go_aloadn_0 iM_run_147 rfl ?_
    refine go_lload_5 iM_run_148 ?_
    refine go_lload_7 iM_run_150 ?_
    refine go_iconst (v := nI 1) iM_run_152 rfl ?_
    refine gc_V1 iM_run_153 rfl (by decide) (sk_43 _) rfl (Nat.le_of_ble_eq_true rfl) (Nat.le_of_ble_eq_true rfl) (by decide) (sp_M_tell (u := rnC o b x i) (l := 12 ^ i) (by omega) l0 (by omega)) ?_
    refine go_iret iM_run_156 rfl ?_
    rfl
  | l + 1, i, y, z, hi => by
    have hs := rnS_lt (x := x) hb i
    obtain ⟨r1, r2⟩ := ho _ hs
    have he := en_le x i
    by_cases c : en x i = 1
    · have q1 := rnC_1 (o := o) (b := b) c
      refine go_iload_10 iM_run_71 ?_
      refine go_iloadn_3 iM_run_73 ?_
      first | refine gn_ic_ge iM_run_74 (by omega) (by omega) (fun c_74 => ?_) (fun c_74 => ?_) | refine go_ic_ge iM_run_74 (fun c_74 => ?_) (fun c_74 => ?_)
      · (first | omega | exact absurd c_74 (by decide) | (exfalso; simp (disch := omega) only [Int32.lt_iff_toInt_lt, Int32.le_iff_toInt_le, ← Int32.toInt_inj, nI_toInt, i32_m1, i32_0, i32_m20, i32_m40, i32_m30, i32_m9] at *; omega))
      refine go_iload_4 iM_run_77 ?_
      refine go_iload_10 iM_run_79 ?_
      refine go_ishr iM_run_81 ?_
      refine go_iconst (v := nI 1) iM_run_82 rfl ?_
      refine go_iand iM_run_83 ?_
      rw [en_eq]
      refine go_istore_11 iM_run_84 (by simp [Value.category, am_U]) ?_
      refine go_aloadn_0 iM_run_86 rfl ?_
      refine go_getR iM_run_87 rfl (sk_43 _) (mR_43_7 _) ?_
      refine go_iconst (v := nI 4) iM_run_90 rfl ?_
      refine go_iloadn_1 iM_run_91 ?_
      first | refine gn_imul iM_run_92 ?_ | refine go_imul iM_run_92 ?_
      refine go_iload_9 iM_run_93 ?_
      first | refine gn_iadd iM_run_95 ?_ | refine go_iadd iM_run_95 ?_
      refine go_iald iM_run_96 (sh_46 _) rfl (by omega) (by omega) ?_
      try simp (disch := omega) only [am_u_n, am_u_s, am_u_k, r1]
      refine go_istore_12 iM_run_97 (by simp [Value.category, am_U]) ?_
      refine go_lload_5 iM_run_99 ?_
      refine go_iload_11 iM_run_101 ?_
      refine go_iconst (v := nI 1) iM_run_103 rfl ?_
      first | refine gn_ic_ne iM_run_104 (by omega) (by omega) (fun c_104 => ?_) (fun c_104 => ?_) | refine go_ic_ne iM_run_104 (fun c_104 => ?_) (fun c_104 => ?_)
      · (first | omega | exact absurd c_104 (by decide) | (exfalso; simp (disch := omega) only [Int32.lt_iff_toInt_lt, Int32.le_iff_toInt_le, ← Int32.toInt_inj, nI_toInt, i32_m1, i32_0, i32_m20, i32_m40, i32_m30, i32_m9] at *; omega))
      refine go_iload_12 iM_run_107 ?_
      first | refine gz_i2l iM_run_109 (by omega) ?_ | refine gz_i2lI iM_run_109 ?_
      refine go_goto iM_run_110 ?_
      first | refine gz_lmul iM_run_119 ?_ | refine go_lmul iM_run_119 ?_
      rw [q1]
      refine go_lstore_5 iM_run_120 (by simp [Value.category, am_U]) ?_
      refine go_lload_7 iM_run_122 ?_
      refine go_ldc2 (v := zL 12) iM_run_124 rfl ?_
      first | refine gz_lmul iM_run_127 ?_ | refine go_lmul iM_run_127 ?_
      rw [pw12]
      refine go_lstore_7 iM_run_128 (by simp [Value.category, am_U]) ?_
      refine go_iconst (v := nI 2) iM_run_130 rfl ?_
      refine go_iload_9 iM_run_131 ?_
      first | refine gn_imul iM_run_133 ?_ | refine go_imul iM_run_133 ?_
      refine go_iload_11 iM_run_134 ?_
      first | refine gn_iadd iM_run_136 ?_ | refine go_iadd iM_run_136 ?_
      refine go_iconst (v := nI 3) iM_run_137 rfl ?_
      refine go_iand iM_run_138 ?_
      rw [stM8 _ hs _ (by omega)]
      refine go_istore_9 iM_run_139 (by simp [Value.category, am_U]) ?_
      first | refine go_iinc_10 iM_run_141 (ni_inc _ 1) (by simp [Value.category, am_U]) ?_ | refine go_iinc_10 iM_run_141 rfl (by simp [Value.category, am_U]) ?_
      refine go_goto iM_run_144 ?_
      exact lo_M_run hk hb hp ho l (i + 1) _ _ (by omega)
    · have q1 := rnC_0 (o := o) (b := b) c
      refine go_iload_10 iM_run_71 ?_
      refine go_iloadn_3 iM_run_73 ?_
      first | refine gn_ic_ge iM_run_74 (by omega) (by omega) (fun c_74 => ?_) (fun c_74 => ?_) | refine go_ic_ge iM_run_74 (fun c_74 => ?_) (fun c_74 => ?_)
      · (first | omega | exact absurd c_74 (by decide) | (exfalso; simp (disch := omega) only [Int32.lt_iff_toInt_lt, Int32.le_iff_toInt_le, ← Int32.toInt_inj, nI_toInt, i32_m1, i32_0, i32_m20, i32_m40, i32_m30, i32_m9] at *; omega))
      refine go_iload_4 iM_run_77 ?_
      refine go_iload_10 iM_run_79 ?_
      refine go_ishr iM_run_81 ?_
      refine go_iconst (v := nI 1) iM_run_82 rfl ?_
      refine go_iand iM_run_83 ?_
      rw [en_eq]
      refine go_istore_11 iM_run_84 (by simp [Value.category, am_U]) ?_
      refine go_aloadn_0 iM_run_86 rfl ?_
      refine go_getR iM_run_87 rfl (sk_43 _) (mR_43_7 _) ?_
      refine go_iconst (v := nI 4) iM_run_90 rfl ?_
      refine go_iloadn_1 iM_run_91 ?_
      first | refine gn_imul iM_run_92 ?_ | refine go_imul iM_run_92 ?_
      refine go_iload_9 iM_run_93 ?_
      first | refine gn_iadd iM_run_95 ?_ | refine go_iadd iM_run_95 ?_
      refine go_iald iM_run_96 (sh_46 _) rfl (by omega) (by omega) ?_
      try simp (disch := omega) only [am_u_n, am_u_s, am_u_k, r1]
      refine go_istore_12 iM_run_97 (by simp [Value.category, am_U]) ?_
      refine go_lload_5 iM_run_99 ?_
      refine go_iload_11 iM_run_101 ?_
      refine go_iconst (v := nI 1) iM_run_103 rfl ?_
      first | refine gn_ic_ne iM_run_104 (by omega) (by omega) (fun c_104 => ?_) (fun c_104 => ?_) | refine go_ic_ne iM_run_104 (fun c_104 => ?_) (fun c_104 => ?_)
      rotate_left
      · (first | omega | exact absurd c_104 (by decide) | (exfalso; simp (disch := omega) only [Int32.lt_iff_toInt_lt, Int32.le_iff_toInt_le, ← Int32.toInt_inj, nI_toInt, i32_m1, i32_0, i32_m20, i32_m40, i32_m30, i32_m9] at *; omega))
      refine go_bipush (v := nI 12) iM_run_113 (by decide) ?_
      refine go_iload_12 iM_run_115 ?_
      first | refine gn_isub iM_run_117 (by omega) ?_ | refine go_isub iM_run_117 ?_
      first | refine gz_i2l iM_run_118 (by omega) ?_ | refine gz_i2lI iM_run_118 ?_
      first | refine gz_lmul iM_run_119 ?_ | refine go_lmul iM_run_119 ?_
      rw [q1]
      refine go_lstore_5 iM_run_120 (by simp [Value.category, am_U]) ?_
      refine go_lload_7 iM_run_122 ?_
      refine go_ldc2 (v := zL 12) iM_run_124 rfl ?_
      first | refine gz_lmul iM_run_127 ?_ | refine go_lmul iM_run_127 ?_
      rw [pw12]
      refine go_lstore_7 iM_run_128 (by simp [Value.category, am_U]) ?_
      refine go_iconst (v := nI 2) iM_run_130 rfl ?_
      refine go_iload_9 iM_run_131 ?_
      first | refine gn_imul iM_run_133 ?_ | refine go_imul iM_run_133 ?_
      refine go_iload_11 iM_run_134 ?_
      first | refine gn_iadd iM_run_136 ?_ | refine go_iadd iM_run_136 ?_
      refine go_iconst (v := nI 3) iM_run_137 rfl ?_
      refine go_iand iM_run_138 ?_
      rw [stM8 _ hs _ (by omega)]
      refine go_istore_9 iM_run_139 (by simp [Value.category, am_U]) ?_
      first | refine go_iinc_10 iM_run_141 (ni_inc _ 1) (by simp [Value.category, am_U]) ?_ | refine go_iinc_10 iM_run_141 rfl (by simp [Value.category, am_U]) ?_
      refine go_goto iM_run_144 ?_
      exact lo_M_run hk hb hp ho l (i + 1) _ _ (by omega)
theorem pr_run (x y z e : Int32) (hR : Rel n mI mL) : Pair S tT_run tM_run [.int x, .int y, .int z, .int e] n mI mL := by
  have hR0 := hR
  obtain ⟨h8, ⟨m, hm1, hm3, hmT, hmM⟩, hcT, hcM, hpl, hro, hfi, hfs, hu, hl, hch⟩ := hR
  rcases pl_cases x n h8 with ⟨p, hp, rfl⟩ | hx
  · have kp := sk_play hp
    rcases int_cases y 3 (by decide) with ⟨b, hb, rfl⟩ | hy
    · rcases int_cases z 12 (by decide) with ⟨k, hk, rfl⟩ | hz
      · obtain ⟨v1, v2, v3⟩ := shl13 k (by omega)
        by_cases hk1 : 1 ≤ k
        · rcases int_cases e (2 ^ k - 1) (by omega) with ⟨f, hf, rfl⟩ | he
          · obtain ⟨kd, hkd, hkT, hkM, hsz, hw, ho, ho3⟩ := hpl p hp
            by_cases ck : kd = 2
            · subst ck
              have hod := odN_ok (hpl p hp)
              have ho4 : ∀ j, j < 4 → mI 46 (4 * p + j) = nI (odN mI p j) ∧ odN mI p j ≤ 12 := fun j hj => by
                by_cases c3 : j = 3
                · subst c3; rw [ho3 rfl]; exact hod.1 3 hj
                · exact ⟨hod.2 j (by omega), (hod.1 j hj).2⟩
              refine Pair.ex (h1 := 2) (h2 := 2) (v := .int (nI 1)) (P := fun mI1 mL1 => FrC mI mI1 mL mL1 ∧ mL1 4 0 = zL (fU (rnC (odN mI p) b (nI f) k) (12 ^ k)) ∧ mL1 4 1 = zL (fL (rnC (odN mI p) b (nI f) k) (12 ^ k))) ?_ (fun mI1 mL1 hP => ?_)
              · unfold Ex
                show Go _ _ tT_run (_, 0, [.ref 0, .int (nI p), .int (nI b), .int (nI k), .int (nI f), am_U, am_U, am_U, am_U, am_U, am_U, am_U, am_U, am_U], []) _
                refine go_aloadn_0 iT_run_0 rfl ?_
                refine go_iloadn_1 iT_run_1 ?_
                refine gc_V1 iT_run_2 rfl (by decide) (sk_0 _) rfl (Nat.le_of_ble_eq_true rfl) (Nat.le_of_ble_eq_true rfl) (by decide) (sp_T_playAt_t h8 hcT hp) ?_
                refine go_astore_5 iT_run_5 rfl (by simp [Value.category, am_U]) ?_
                refine go_aload_5 iT_run_7 rfl ?_
                refine go_nulR iT_run_9 ?_
                refine go_iloadn_2 iT_run_12 ?_
                refine go_if_lt iT_run_13 (fun c_13 => ?_) (fun c_13 => ?_)
                · (first | omega | exact absurd c_13 (by decide) | (exfalso; simp (disch := omega) only [Int32.lt_iff_toInt_lt, Int32.le_iff_toInt_le, ← Int32.toInt_inj, nI_toInt, i32_m1, i32_0, i32_m20, i32_m40, i32_m30, i32_m9] at *; omega))
                refine go_iloadn_2 iT_run_16 ?_
                refine go_iconst (v := nI 3) iT_run_17 rfl ?_
                first | refine gn_ic_gt iT_run_18 (by omega) (by omega) (fun c_18 => ?_) (fun c_18 => ?_) | refine go_ic_gt iT_run_18 (fun c_18 => ?_) (fun c_18 => ?_)
                · (first | omega | exact absurd c_18 (by decide) | (exfalso; simp (disch := omega) only [Int32.lt_iff_toInt_lt, Int32.le_iff_toInt_le, ← Int32.toInt_inj, nI_toInt, i32_m1, i32_0, i32_m20, i32_m40, i32_m30, i32_m9] at *; omega))
                refine go_iloadn_3 iT_run_21 ?_
                refine go_iconst (v := nI 1) iT_run_22 rfl ?_
                first | refine gn_ic_lt iT_run_23 (by omega) (by omega) (fun c_23 => ?_) (fun c_23 => ?_) | refine go_ic_lt iT_run_23 (fun c_23 => ?_) (fun c_23 => ?_)
                · (first | omega | exact absurd c_23 (by decide) | (exfalso; simp (disch := omega) only [Int32.lt_iff_toInt_lt, Int32.le_iff_toInt_le, ← Int32.toInt_inj, nI_toInt, i32_m1, i32_0, i32_m20, i32_m40, i32_m30, i32_m9] at *; omega))
                refine go_iloadn_3 iT_run_26 ?_
                refine go_bipush (v := nI 12) iT_run_27 (by decide) ?_
                first | refine gn_ic_le iT_run_29 (by omega) (by omega) (fun c_29 => ?_) (fun c_29 => ?_) | refine go_ic_le iT_run_29 (fun c_29 => ?_) (fun c_29 => ?_)
                rotate_left
                · (first | omega | exact absurd c_29 (by decide) | (exfalso; simp (disch := omega) only [Int32.lt_iff_toInt_lt, Int32.le_iff_toInt_le, ← Int32.toInt_inj, nI_toInt, i32_m1, i32_0, i32_m20, i32_m40, i32_m30, i32_m9] at *; omega))
                refine go_iload_4 iT_run_34 ?_
                refine go_if_lt iT_run_36 (fun c_36 => ?_) (fun c_36 => ?_)
                · (first | omega | exact absurd c_36 (by decide) | (exfalso; simp (disch := omega) only [Int32.lt_iff_toInt_lt, Int32.le_iff_toInt_le, ← Int32.toInt_inj, nI_toInt, i32_m1, i32_0, i32_m20, i32_m40, i32_m30, i32_m9] at *; omega))
                refine go_iload_4 iT_run_39 ?_
                refine go_iconst (v := nI 1) iT_run_41 rfl ?_
                refine go_iloadn_3 iT_run_42 ?_
                refine go_ishl iT_run_43 ?_
                rw [v1]
                first | refine gn_ic_lt iT_run_44 (by omega) (by omega) (fun c_44 => ?_) (fun c_44 => ?_) | refine go_ic_lt iT_run_44 (fun c_44 => ?_) (fun c_44 => ?_)
                rotate_left
                · (first | omega | exact absurd c_44 (by decide) | (exfalso; simp (disch := omega) only [Int32.lt_iff_toInt_lt, Int32.le_iff_toInt_le, ← Int32.toInt_inj, nI_toInt, i32_m1, i32_0, i32_m20, i32_m40, i32_m30, i32_m9] at *; omega))
                refine go_aload_5 iT_run_49 rfl ?_
                refine go_getI iT_run_51 (Or.inl rfl) (by assumption) ?_
                try simp (disch := omega) only [am_u_n, am_u_s, am_u_k, hkT]
                refine go_iconst (v := nI 2) iT_run_54 rfl ?_
                first | refine gn_ic_eq iT_run_55 (by omega) (by omega) (fun c_55 => ?_) (fun c_55 => ?_) | refine go_ic_eq iT_run_55 (fun c_55 => ?_) (fun c_55 => ?_)
                rotate_left
                · (first | omega | exact absurd c_55 (by decide) | (exfalso; simp (disch := omega) only [Int32.lt_iff_toInt_lt, Int32.le_iff_toInt_le, ← Int32.toInt_inj, nI_toInt, i32_m1, i32_0, i32_m20, i32_m40, i32_m30, i32_m9] at *; omega))
                refine go_lconst (v := zL 1) iT_run_64 rfl ?_
                refine go_lstore_6 iT_run_65 (by simp [Value.category, am_U]) ?_
                refine go_lconst (v := zL 1) iT_run_67 rfl ?_
                refine go_lstore_8 iT_run_68 (by simp [Value.category, am_U]) ?_
                refine go_iloadn_2 iT_run_70 ?_
                refine go_istore_10 iT_run_71 (by simp [Value.category, am_U]) ?_
                refine go_iconst (v := nI 0) iT_run_73 rfl ?_
                refine go_istore_11 iT_run_74 (by simp [Value.category, am_U]) ?_
                exact lo_T_run hk (by omega) hp hod.1 k 0 _ _ (by omega)
              · obtain ⟨k1, k2, k3⟩ := hP
                have hq : ∀ a, 42 < a → mI1 a = mI a := fun a ha => k1.1 a (by omega)
                have hkM2 : mI1 45 p = nI 2 := by rw [hq 45 (by omega)]; exact hkM
                unfold Ex
                show Go _ _ tM_run (_, 0, [.ref 43, .int (nI p), .int (nI b), .int (nI k), .int (nI f), am_U, am_U, am_U, am_U, am_U, am_U, am_U, am_U], []) _
                refine go_aloadn_0 iM_run_0 rfl ?_
                refine go_iloadn_1 iM_run_1 ?_
                refine gc_V1 iM_run_2 rfl (by decide) (sk_43 _) rfl (Nat.le_of_ble_eq_true rfl) (Nat.le_of_ble_eq_true rfl) (by decide) (sp_M_isPlay_t h8 (by rw [hq 43 (by omega)]; exact hcM) hp) ?_
                refine go_if_eq iM_run_5 (fun c_5 => ?_) (fun c_5 => ?_)
                · (first | omega | exact absurd c_5 (by decide) | (exfalso; simp (disch := omega) only [Int32.lt_iff_toInt_lt, Int32.le_iff_toInt_le, ← Int32.toInt_inj, nI_toInt, i32_m1, i32_0, i32_m20, i32_m40, i32_m30, i32_m9] at *; omega))
                refine go_iloadn_2 iM_run_8 ?_
                refine go_iconst (v := nI 0) iM_run_9 rfl ?_
                refine go_iconst (v := nI 3) iM_run_10 rfl ?_
                refine gc_S1 iM_run_11 (by decide) rfl rfl (Nat.le_of_ble_eq_true rfl) (Nat.le_of_ble_eq_true rfl) (by decide) (sp_M_in_t (by simp (disch := omega) only [nI_toInt]; omega) (by simp (disch := omega) only [nI_toInt]; omega)) ?_
                refine go_if_eq iM_run_14 (fun c_14 => ?_) (fun c_14 => ?_)
                · (first | omega | exact absurd c_14 (by decide) | (exfalso; simp (disch := omega) only [Int32.lt_iff_toInt_lt, Int32.le_iff_toInt_le, ← Int32.toInt_inj, nI_toInt, i32_m1, i32_0, i32_m20, i32_m40, i32_m30, i32_m9] at *; omega))
                refine go_iloadn_3 iM_run_17 ?_
                refine go_iconst (v := nI 1) iM_run_18 rfl ?_
                refine go_bipush (v := nI 12) iM_run_19 (by decide) ?_
                refine gc_S1 iM_run_21 (by decide) rfl rfl (Nat.le_of_ble_eq_true rfl) (Nat.le_of_ble_eq_true rfl) (by decide) (sp_M_in_t (by simp (disch := omega) only [nI_toInt]; omega) (by simp (disch := omega) only [nI_toInt]; omega)) ?_
                refine go_if_eq iM_run_24 (fun c_24 => ?_) (fun c_24 => ?_)
                · (first | omega | exact absurd c_24 (by decide) | (exfalso; simp (disch := omega) only [Int32.lt_iff_toInt_lt, Int32.le_iff_toInt_le, ← Int32.toInt_inj, nI_toInt, i32_m1, i32_0, i32_m20, i32_m40, i32_m30, i32_m9] at *; omega))
                refine go_iload_4 iM_run_27 ?_
                refine go_iconst (v := nI 0) iM_run_29 rfl ?_
                refine go_iconst (v := nI 1) iM_run_30 rfl ?_
                refine go_iloadn_3 iM_run_31 ?_
                refine go_ishl iM_run_32 ?_
                rw [v1]
                refine go_iconst (v := nI 1) iM_run_33 rfl ?_
                first | refine gn_isub iM_run_34 (by omega) ?_ | refine go_isub iM_run_34 ?_
                refine gc_S1 iM_run_35 (by decide) rfl rfl (Nat.le_of_ble_eq_true rfl) (Nat.le_of_ble_eq_true rfl) (by decide) (sp_M_in_t (by simp (disch := omega) only [nI_toInt]; omega) (by simp (disch := omega) only [nI_toInt]; omega)) ?_
                refine go_if_ne iM_run_38 (fun c_38 => ?_) (fun c_38 => ?_)
                rotate_left
                · (first | omega | exact absurd c_38 (by decide) | (exfalso; simp (disch := omega) only [Int32.lt_iff_toInt_lt, Int32.le_iff_toInt_le, ← Int32.toInt_inj, nI_toInt, i32_m1, i32_0, i32_m20, i32_m40, i32_m30, i32_m9] at *; omega))
                refine go_aloadn_0 iM_run_43 rfl ?_
                refine go_getR iM_run_44 rfl (sk_43 _) (mR_43_6 _) ?_
                refine go_iloadn_1 iM_run_47 ?_
                refine go_iald iM_run_48 (sh_45 _) rfl (by omega) (by omega) ?_
                try simp (disch := omega) only [am_u_n, am_u_s, am_u_k, hkM2]
                refine go_iconst (v := nI 2) iM_run_49 rfl ?_
                first | refine gn_ic_eq iM_run_50 (by omega) (by omega) (fun c_50 => ?_) (fun c_50 => ?_) | refine go_ic_eq iM_run_50 (fun c_50 => ?_) (fun c_50 => ?_)
                rotate_left
                · (first | omega | exact absurd c_50 (by decide) | (exfalso; simp (disch := omega) only [Int32.lt_iff_toInt_lt, Int32.le_iff_toInt_le, ← Int32.toInt_inj, nI_toInt, i32_m1, i32_0, i32_m20, i32_m40, i32_m30, i32_m9] at *; omega))
                refine go_lconst (v := zL 1) iM_run_59 rfl ?_
                refine go_lstore_5 iM_run_60 (by simp [Value.category, am_U]) ?_
                refine go_lconst (v := zL 1) iM_run_62 rfl ?_
                refine go_lstore_7 iM_run_63 (by simp [Value.category, am_U]) ?_
                refine go_iloadn_2 iM_run_65 ?_
                refine go_istore_9 iM_run_66 (by simp [Value.category, am_U]) ?_
                refine go_iconst (v := nI 0) iM_run_68 rfl ?_
                refine go_istore_10 iM_run_69 (by simp [Value.category, am_U]) ?_
                refine go_mono (lo_M_run (o := odN mI p) hk (by omega) (by omega) (fun j hj => by rw [hq 46 (by omega)]; exact ho4 j hj) k 0 _ _ (by omega)) (Nat.le_refl _) (fun r hr => ?_)
                refine ⟨_, _, hr, hR0.keep k1 ⟨fun a _ _ _ => rfl, fun y _ => rfl, fun a ha => ?_⟩ ?_ ?_⟩
                · rw [am_u_r (by omega), am_u_r (by omega)]
                · rw [am_u_k (by decide), am_u_s]; exact k2
                · rw [am_u_s]; exact k3
            · refine Pair.refuse (h1 := 2) (h2 := 2) (f := 3) hR0 (by decide) ?_ ?_
              · show Go _ _ tT_run (_, 0, [.ref 0, .int (nI p), .int (nI b), .int (nI k), .int (nI f), am_U, am_U, am_U, am_U, am_U, am_U, am_U, am_U, am_U], []) _
                refine go_aloadn_0 iT_run_0 rfl ?_
                refine go_iloadn_1 iT_run_1 ?_
                refine gc_V1 iT_run_2 rfl (by decide) (sk_0 _) rfl (Nat.le_of_ble_eq_true rfl) (Nat.le_of_ble_eq_true rfl) (by decide) (sp_T_playAt_t h8 hcT hp) ?_
                refine go_astore_5 iT_run_5 rfl (by simp [Value.category, am_U]) ?_
                refine go_aload_5 iT_run_7 rfl ?_
                refine go_nulR iT_run_9 ?_
                refine go_iloadn_2 iT_run_12 ?_
                refine go_if_lt iT_run_13 (fun c_13 => ?_) (fun c_13 => ?_)
                · (first | omega | exact absurd c_13 (by decide) | (exfalso; simp (disch := omega) only [Int32.lt_iff_toInt_lt, Int32.le_iff_toInt_le, ← Int32.toInt_inj, nI_toInt, i32_m1, i32_0, i32_m20, i32_m40, i32_m30, i32_m9] at *; omega))
                refine go_iloadn_2 iT_run_16 ?_
                refine go_iconst (v := nI 3) iT_run_17 rfl ?_
                first | refine gn_ic_gt iT_run_18 (by omega) (by omega) (fun c_18 => ?_) (fun c_18 => ?_) | refine go_ic_gt iT_run_18 (fun c_18 => ?_) (fun c_18 => ?_)
                · (first | omega | exact absurd c_18 (by decide) | (exfalso; simp (disch := omega) only [Int32.lt_iff_toInt_lt, Int32.le_iff_toInt_le, ← Int32.toInt_inj, nI_toInt, i32_m1, i32_0, i32_m20, i32_m40, i32_m30, i32_m9] at *; omega))
                refine go_iloadn_3 iT_run_21 ?_
                refine go_iconst (v := nI 1) iT_run_22 rfl ?_
                first | refine gn_ic_lt iT_run_23 (by omega) (by omega) (fun c_23 => ?_) (fun c_23 => ?_) | refine go_ic_lt iT_run_23 (fun c_23 => ?_) (fun c_23 => ?_)
                · (first | omega | exact absurd c_23 (by decide) | (exfalso; simp (disch := omega) only [Int32.lt_iff_toInt_lt, Int32.le_iff_toInt_le, ← Int32.toInt_inj, nI_toInt, i32_m1, i32_0, i32_m20, i32_m40, i32_m30, i32_m9] at *; omega))
                refine go_iloadn_3 iT_run_26 ?_
                refine go_bipush (v := nI 12) iT_run_27 (by decide) ?_
                first | refine gn_ic_le iT_run_29 (by omega) (by omega) (fun c_29 => ?_) (fun c_29 => ?_) | refine go_ic_le iT_run_29 (fun c_29 => ?_) (fun c_29 => ?_)
                rotate_left
                · (first | omega | exact absurd c_29 (by decide) | (exfalso; simp (disch := omega) only [Int32.lt_iff_toInt_lt, Int32.le_iff_toInt_le, ← Int32.toInt_inj, nI_toInt, i32_m1, i32_0, i32_m20, i32_m40, i32_m30, i32_m9] at *; omega))
                refine go_iload_4 iT_run_34 ?_
                refine go_if_lt iT_run_36 (fun c_36 => ?_) (fun c_36 => ?_)
                · (first | omega | exact absurd c_36 (by decide) | (exfalso; simp (disch := omega) only [Int32.lt_iff_toInt_lt, Int32.le_iff_toInt_le, ← Int32.toInt_inj, nI_toInt, i32_m1, i32_0, i32_m20, i32_m40, i32_m30, i32_m9] at *; omega))
                refine go_iload_4 iT_run_39 ?_
                refine go_iconst (v := nI 1) iT_run_41 rfl ?_
                refine go_iloadn_3 iT_run_42 ?_
                refine go_ishl iT_run_43 ?_
                rw [v1]
                first | refine gn_ic_lt iT_run_44 (by omega) (by omega) (fun c_44 => ?_) (fun c_44 => ?_) | refine go_ic_lt iT_run_44 (fun c_44 => ?_) (fun c_44 => ?_)
                rotate_left
                · (first | omega | exact absurd c_44 (by decide) | (exfalso; simp (disch := omega) only [Int32.lt_iff_toInt_lt, Int32.le_iff_toInt_le, ← Int32.toInt_inj, nI_toInt, i32_m1, i32_0, i32_m20, i32_m40, i32_m30, i32_m9] at *; omega))
                refine go_aload_5 iT_run_49 rfl ?_
                refine go_getI iT_run_51 (Or.inl rfl) (by assumption) ?_
                try simp (disch := omega) only [am_u_n, am_u_s, am_u_k, hkT]
                refine go_iconst (v := nI 2) iT_run_54 rfl ?_
                first | refine gn_ic_eq iT_run_55 (by omega) (by omega) (fun c_55 => ?_) (fun c_55 => ?_) | refine go_ic_eq iT_run_55 (fun c_55 => ?_) (fun c_55 => ?_)
                · (first | omega | exact absurd c_55 (by decide) | (exfalso; simp (disch := omega) only [Int32.lt_iff_toInt_lt, Int32.le_iff_toInt_le, ← Int32.toInt_inj, nI_toInt, i32_m1, i32_0, i32_m20, i32_m40, i32_m30, i32_m9] at *; omega))
                refine go_aloadn_0 iT_run_58 rfl ?_
                refine go_iconst (v := nI 3) iT_run_59 rfl ?_
                refine gc_V1 iT_run_60 rfl (by decide) (sk_0 _) rfl (Nat.le_of_ble_eq_true rfl) (Nat.le_of_ble_eq_true rfl) (by decide) (sp_T_refuse (by decide)) ?_
                refine go_iret iT_run_63 rfl ?_
                rfl
              · have hq : ∀ a, 42 < a → rfI mI 3 a = mI a := fun a ha => rfI_r (by omega) (by omega)
                have hkM2 : rfI mI 3 45 p = nI kd := by rw [hq 45 (by omega)]; exact hkM
                show Go _ _ tM_run (_, 0, [.ref 43, .int (nI p), .int (nI b), .int (nI k), .int (nI f), am_U, am_U, am_U, am_U, am_U, am_U, am_U, am_U], []) _
                refine go_aloadn_0 iM_run_0 rfl ?_
                refine go_iloadn_1 iM_run_1 ?_
                refine gc_V1 iM_run_2 rfl (by decide) (sk_43 _) rfl (Nat.le_of_ble_eq_true rfl) (Nat.le_of_ble_eq_true rfl) (by decide) (sp_M_isPlay_t h8 (by rw [hq 43 (by omega)]; exact hcM) hp) ?_
                refine go_if_eq iM_run_5 (fun c_5 => ?_) (fun c_5 => ?_)
                · (first | omega | exact absurd c_5 (by decide) | (exfalso; simp (disch := omega) only [Int32.lt_iff_toInt_lt, Int32.le_iff_toInt_le, ← Int32.toInt_inj, nI_toInt, i32_m1, i32_0, i32_m20, i32_m40, i32_m30, i32_m9] at *; omega))
                refine go_iloadn_2 iM_run_8 ?_
                refine go_iconst (v := nI 0) iM_run_9 rfl ?_
                refine go_iconst (v := nI 3) iM_run_10 rfl ?_
                refine gc_S1 iM_run_11 (by decide) rfl rfl (Nat.le_of_ble_eq_true rfl) (Nat.le_of_ble_eq_true rfl) (by decide) (sp_M_in_t (by simp (disch := omega) only [nI_toInt]; omega) (by simp (disch := omega) only [nI_toInt]; omega)) ?_
                refine go_if_eq iM_run_14 (fun c_14 => ?_) (fun c_14 => ?_)
                · (first | omega | exact absurd c_14 (by decide) | (exfalso; simp (disch := omega) only [Int32.lt_iff_toInt_lt, Int32.le_iff_toInt_le, ← Int32.toInt_inj, nI_toInt, i32_m1, i32_0, i32_m20, i32_m40, i32_m30, i32_m9] at *; omega))
                refine go_iloadn_3 iM_run_17 ?_
                refine go_iconst (v := nI 1) iM_run_18 rfl ?_
                refine go_bipush (v := nI 12) iM_run_19 (by decide) ?_
                refine gc_S1 iM_run_21 (by decide) rfl rfl (Nat.le_of_ble_eq_true rfl) (Nat.le_of_ble_eq_true rfl) (by decide) (sp_M_in_t (by simp (disch := omega) only [nI_toInt]; omega) (by simp (disch := omega) only [nI_toInt]; omega)) ?_
                refine go_if_eq iM_run_24 (fun c_24 => ?_) (fun c_24 => ?_)
                · (first | omega | exact absurd c_24 (by decide) | (exfalso; simp (disch := omega) only [Int32.lt_iff_toInt_lt, Int32.le_iff_toInt_le, ← Int32.toInt_inj, nI_toInt, i32_m1, i32_0, i32_m20, i32_m40, i32_m30, i32_m9] at *; omega))
                refine go_iload_4 iM_run_27 ?_
                refine go_iconst (v := nI 0) iM_run_29 rfl ?_
                refine go_iconst (v := nI 1) iM_run_30 rfl ?_
                refine go_iloadn_3 iM_run_31 ?_
                refine go_ishl iM_run_32 ?_
                rw [v1]
                refine go_iconst (v := nI 1) iM_run_33 rfl ?_
                first | refine gn_isub iM_run_34 (by omega) ?_ | refine go_isub iM_run_34 ?_
                refine gc_S1 iM_run_35 (by decide) rfl rfl (Nat.le_of_ble_eq_true rfl) (Nat.le_of_ble_eq_true rfl) (by decide) (sp_M_in_t (by simp (disch := omega) only [nI_toInt]; omega) (by simp (disch := omega) only [nI_toInt]; omega)) ?_
                refine go_if_ne iM_run_38 (fun c_38 => ?_) (fun c_38 => ?_)
                rotate_left
                · (first | omega | exact absurd c_38 (by decide) | (exfalso; simp (disch := omega) only [Int32.lt_iff_toInt_lt, Int32.le_iff_toInt_le, ← Int32.toInt_inj, nI_toInt, i32_m1, i32_0, i32_m20, i32_m40, i32_m30, i32_m9] at *; omega))
                refine go_aloadn_0 iM_run_43 rfl ?_
                refine go_getR iM_run_44 rfl (sk_43 _) (mR_43_6 _) ?_
                refine go_iloadn_1 iM_run_47 ?_
                refine go_iald iM_run_48 (sh_45 _) rfl (by omega) (by omega) ?_
                try simp (disch := omega) only [am_u_n, am_u_s, am_u_k, hkM2]
                refine go_iconst (v := nI 2) iM_run_49 rfl ?_
                first | refine gn_ic_eq iM_run_50 (by omega) (by omega) (fun c_50 => ?_) (fun c_50 => ?_) | refine go_ic_eq iM_run_50 (fun c_50 => ?_) (fun c_50 => ?_)
                · (first | omega | exact absurd c_50 (by decide) | (exfalso; simp (disch := omega) only [Int32.lt_iff_toInt_lt, Int32.le_iff_toInt_le, ← Int32.toInt_inj, nI_toInt, i32_m1, i32_0, i32_m20, i32_m40, i32_m30, i32_m9] at *; omega))
                refine go_aloadn_0 iM_run_53 rfl ?_
                refine go_iconst (v := nI 3) iM_run_54 rfl ?_
                refine gc_V1 iM_run_55 rfl (by decide) (sk_43 _) rfl (Nat.le_of_ble_eq_true rfl) (Nat.le_of_ble_eq_true rfl) (by decide) (sp_M_meets (by decide)) ?_
                refine go_iret iM_run_58 rfl ?_
                rfl
          · refine Pair.same (h1 := 2) (h2 := 2) (v := .int (-1)) hR0 ?_ ?_
            · show Go _ _ tT_run (_, 0, [.ref 0, .int (nI p), .int (nI b), .int (nI k), .int e, am_U, am_U, am_U, am_U, am_U, am_U, am_U, am_U, am_U], []) _
              refine go_aloadn_0 iT_run_0 rfl ?_
              refine go_iloadn_1 iT_run_1 ?_
              refine gc_V1 iT_run_2 rfl (by decide) (sk_0 _) rfl (Nat.le_of_ble_eq_true rfl) (Nat.le_of_ble_eq_true rfl) (by decide) (sp_T_playAt_t h8 hcT hp) ?_
              refine go_astore_5 iT_run_5 rfl (by simp [Value.category, am_U]) ?_
              refine go_aload_5 iT_run_7 rfl ?_
              refine go_nulR iT_run_9 ?_
              refine go_iloadn_2 iT_run_12 ?_
              refine go_if_lt iT_run_13 (fun c_13 => ?_) (fun c_13 => ?_)
              · (first | omega | exact absurd c_13 (by decide) | (exfalso; simp (disch := omega) only [Int32.lt_iff_toInt_lt, Int32.le_iff_toInt_le, ← Int32.toInt_inj, nI_toInt, i32_m1, i32_0, i32_m20, i32_m40, i32_m30, i32_m9] at *; omega))
              refine go_iloadn_2 iT_run_16 ?_
              refine go_iconst (v := nI 3) iT_run_17 rfl ?_
              first | refine gn_ic_gt iT_run_18 (by omega) (by omega) (fun c_18 => ?_) (fun c_18 => ?_) | refine go_ic_gt iT_run_18 (fun c_18 => ?_) (fun c_18 => ?_)
              · (first | omega | exact absurd c_18 (by decide) | (exfalso; simp (disch := omega) only [Int32.lt_iff_toInt_lt, Int32.le_iff_toInt_le, ← Int32.toInt_inj, nI_toInt, i32_m1, i32_0, i32_m20, i32_m40, i32_m30, i32_m9] at *; omega))
              refine go_iloadn_3 iT_run_21 ?_
              refine go_iconst (v := nI 1) iT_run_22 rfl ?_
              first | refine gn_ic_lt iT_run_23 (by omega) (by omega) (fun c_23 => ?_) (fun c_23 => ?_) | refine go_ic_lt iT_run_23 (fun c_23 => ?_) (fun c_23 => ?_)
              · (first | omega | exact absurd c_23 (by decide) | (exfalso; simp (disch := omega) only [Int32.lt_iff_toInt_lt, Int32.le_iff_toInt_le, ← Int32.toInt_inj, nI_toInt, i32_m1, i32_0, i32_m20, i32_m40, i32_m30, i32_m9] at *; omega))
              refine go_iloadn_3 iT_run_26 ?_
              refine go_bipush (v := nI 12) iT_run_27 (by decide) ?_
              first | refine gn_ic_le iT_run_29 (by omega) (by omega) (fun c_29 => ?_) (fun c_29 => ?_) | refine go_ic_le iT_run_29 (fun c_29 => ?_) (fun c_29 => ?_)
              rotate_left
              · (first | omega | exact absurd c_29 (by decide) | (exfalso; simp (disch := omega) only [Int32.lt_iff_toInt_lt, Int32.le_iff_toInt_le, ← Int32.toInt_inj, nI_toInt, i32_m1, i32_0, i32_m20, i32_m40, i32_m30, i32_m9] at *; omega))
              refine go_iload_4 iT_run_34 ?_
              refine go_if_lt iT_run_36 (fun c_36 => ?_) (fun c_36 => ?_)
              · refine go_iconst (v := (-1)) iT_run_47 rfl ?_
                refine go_iret iT_run_48 rfl ?_
                rfl
              · refine go_iload_4 iT_run_39 ?_
                refine go_iconst (v := nI 1) iT_run_41 rfl ?_
                refine go_iloadn_3 iT_run_42 ?_
                refine go_ishl iT_run_43 ?_
                rw [v1]
                first | refine gn_ic_lt iT_run_44 (by omega) (by omega) (fun c_44 => ?_) (fun c_44 => ?_) | refine go_ic_lt iT_run_44 (fun c_44 => ?_) (fun c_44 => ?_)
                · (first | omega | exact absurd c_44 (by decide) | (exfalso; simp (disch := omega) only [Int32.lt_iff_toInt_lt, Int32.le_iff_toInt_le, ← Int32.toInt_inj, nI_toInt, i32_m1, i32_0, i32_m20, i32_m40, i32_m30, i32_m9] at *; omega))
                · refine go_iconst (v := (-1)) iT_run_47 rfl ?_
                  refine go_iret iT_run_48 rfl ?_
                  rfl
            · show Go _ _ tM_run (_, 0, [.ref 43, .int (nI p), .int (nI b), .int (nI k), .int e, am_U, am_U, am_U, am_U, am_U, am_U, am_U, am_U], []) _
              refine go_aloadn_0 iM_run_0 rfl ?_
              refine go_iloadn_1 iM_run_1 ?_
              refine gc_V1 iM_run_2 rfl (by decide) (sk_43 _) rfl (Nat.le_of_ble_eq_true rfl) (Nat.le_of_ble_eq_true rfl) (by decide) (sp_M_isPlay_t h8 hcM hp) ?_
              refine go_if_eq iM_run_5 (fun c_5 => ?_) (fun c_5 => ?_)
              · (first | omega | exact absurd c_5 (by decide) | (exfalso; simp (disch := omega) only [Int32.lt_iff_toInt_lt, Int32.le_iff_toInt_le, ← Int32.toInt_inj, nI_toInt, i32_m1, i32_0, i32_m20, i32_m40, i32_m30, i32_m9] at *; omega))
              refine go_iloadn_2 iM_run_8 ?_
              refine go_iconst (v := nI 0) iM_run_9 rfl ?_
              refine go_iconst (v := nI 3) iM_run_10 rfl ?_
              refine gc_S1 iM_run_11 (by decide) rfl rfl (Nat.le_of_ble_eq_true rfl) (Nat.le_of_ble_eq_true rfl) (by decide) (sp_M_in_t (by simp (disch := omega) only [nI_toInt]; omega) (by simp (disch := omega) only [nI_toInt]; omega)) ?_
              refine go_if_eq iM_run_14 (fun c_14 => ?_) (fun c_14 => ?_)
              · (first | omega | exact absurd c_14 (by decide) | (exfalso; simp (disch := omega) only [Int32.lt_iff_toInt_lt, Int32.le_iff_toInt_le, ← Int32.toInt_inj, nI_toInt, i32_m1, i32_0, i32_m20, i32_m40, i32_m30, i32_m9] at *; omega))
              refine go_iloadn_3 iM_run_17 ?_
              refine go_iconst (v := nI 1) iM_run_18 rfl ?_
              refine go_bipush (v := nI 12) iM_run_19 (by decide) ?_
              refine gc_S1 iM_run_21 (by decide) rfl rfl (Nat.le_of_ble_eq_true rfl) (Nat.le_of_ble_eq_true rfl) (by decide) (sp_M_in_t (by simp (disch := omega) only [nI_toInt]; omega) (by simp (disch := omega) only [nI_toInt]; omega)) ?_
              refine go_if_eq iM_run_24 (fun c_24 => ?_) (fun c_24 => ?_)
              · (first | omega | exact absurd c_24 (by decide) | (exfalso; simp (disch := omega) only [Int32.lt_iff_toInt_lt, Int32.le_iff_toInt_le, ← Int32.toInt_inj, nI_toInt, i32_m1, i32_0, i32_m20, i32_m40, i32_m30, i32_m9] at *; omega))
              refine go_iload_4 iM_run_27 ?_
              refine go_iconst (v := nI 0) iM_run_29 rfl ?_
              refine go_iconst (v := nI 1) iM_run_30 rfl ?_
              refine go_iloadn_3 iM_run_31 ?_
              refine go_ishl iM_run_32 ?_
              rw [v1]
              refine go_iconst (v := nI 1) iM_run_33 rfl ?_
              first | refine gn_isub iM_run_34 (by omega) ?_ | refine go_isub iM_run_34 ?_
              refine gc_S1 iM_run_35 (by decide) rfl rfl (Nat.le_of_ble_eq_true rfl) (Nat.le_of_ble_eq_true rfl) (by decide) (sp_M_in_f (by simp (disch := omega) only [nI_toInt]; omega)) ?_
              refine go_if_ne iM_run_38 (fun c_38 => ?_) (fun c_38 => ?_)
              · (first | omega | exact absurd c_38 (by decide) | (exfalso; simp (disch := omega) only [Int32.lt_iff_toInt_lt, Int32.le_iff_toInt_le, ← Int32.toInt_inj, nI_toInt, i32_m1, i32_0, i32_m20, i32_m40, i32_m30, i32_m9] at *; omega))
              refine go_iconst (v := (-1)) iM_run_41 rfl ?_
              refine go_iret iM_run_42 rfl ?_
              rfl
        · refine Pair.same (h1 := 2) (h2 := 2) (v := .int (-1)) hR0 ?_ ?_
          · show Go _ _ tT_run (_, 0, [.ref 0, .int (nI p), .int (nI b), .int (nI k), .int e, am_U, am_U, am_U, am_U, am_U, am_U, am_U, am_U, am_U], []) _
            refine go_aloadn_0 iT_run_0 rfl ?_
            refine go_iloadn_1 iT_run_1 ?_
            refine gc_V1 iT_run_2 rfl (by decide) (sk_0 _) rfl (Nat.le_of_ble_eq_true rfl) (Nat.le_of_ble_eq_true rfl) (by decide) (sp_T_playAt_t h8 hcT hp) ?_
            refine go_astore_5 iT_run_5 rfl (by simp [Value.category, am_U]) ?_
            refine go_aload_5 iT_run_7 rfl ?_
            refine go_nulR iT_run_9 ?_
            refine go_iloadn_2 iT_run_12 ?_
            refine go_if_lt iT_run_13 (fun c_13 => ?_) (fun c_13 => ?_)
            · (first | omega | exact absurd c_13 (by decide) | (exfalso; simp (disch := omega) only [Int32.lt_iff_toInt_lt, Int32.le_iff_toInt_le, ← Int32.toInt_inj, nI_toInt, i32_m1, i32_0, i32_m20, i32_m40, i32_m30, i32_m9] at *; omega))
            refine go_iloadn_2 iT_run_16 ?_
            refine go_iconst (v := nI 3) iT_run_17 rfl ?_
            first | refine gn_ic_gt iT_run_18 (by omega) (by omega) (fun c_18 => ?_) (fun c_18 => ?_) | refine go_ic_gt iT_run_18 (fun c_18 => ?_) (fun c_18 => ?_)
            · (first | omega | exact absurd c_18 (by decide) | (exfalso; simp (disch := omega) only [Int32.lt_iff_toInt_lt, Int32.le_iff_toInt_le, ← Int32.toInt_inj, nI_toInt, i32_m1, i32_0, i32_m20, i32_m40, i32_m30, i32_m9] at *; omega))
            refine go_iloadn_3 iT_run_21 ?_
            refine go_iconst (v := nI 1) iT_run_22 rfl ?_
            first | refine gn_ic_lt iT_run_23 (by omega) (by omega) (fun c_23 => ?_) (fun c_23 => ?_) | refine go_ic_lt iT_run_23 (fun c_23 => ?_) (fun c_23 => ?_)
            rotate_left
            · (first | omega | exact absurd c_23 (by decide) | (exfalso; simp (disch := omega) only [Int32.lt_iff_toInt_lt, Int32.le_iff_toInt_le, ← Int32.toInt_inj, nI_toInt, i32_m1, i32_0, i32_m20, i32_m40, i32_m30, i32_m9] at *; omega))
            refine go_iconst (v := (-1)) iT_run_32 rfl ?_
            refine go_iret iT_run_33 rfl ?_
            rfl
          · show Go _ _ tM_run (_, 0, [.ref 43, .int (nI p), .int (nI b), .int (nI k), .int e, am_U, am_U, am_U, am_U, am_U, am_U, am_U, am_U], []) _
            refine go_aloadn_0 iM_run_0 rfl ?_
            refine go_iloadn_1 iM_run_1 ?_
            refine gc_V1 iM_run_2 rfl (by decide) (sk_43 _) rfl (Nat.le_of_ble_eq_true rfl) (Nat.le_of_ble_eq_true rfl) (by decide) (sp_M_isPlay_t h8 hcM hp) ?_
            refine go_if_eq iM_run_5 (fun c_5 => ?_) (fun c_5 => ?_)
            · (first | omega | exact absurd c_5 (by decide) | (exfalso; simp (disch := omega) only [Int32.lt_iff_toInt_lt, Int32.le_iff_toInt_le, ← Int32.toInt_inj, nI_toInt, i32_m1, i32_0, i32_m20, i32_m40, i32_m30, i32_m9] at *; omega))
            refine go_iloadn_2 iM_run_8 ?_
            refine go_iconst (v := nI 0) iM_run_9 rfl ?_
            refine go_iconst (v := nI 3) iM_run_10 rfl ?_
            refine gc_S1 iM_run_11 (by decide) rfl rfl (Nat.le_of_ble_eq_true rfl) (Nat.le_of_ble_eq_true rfl) (by decide) (sp_M_in_t (by simp (disch := omega) only [nI_toInt]; omega) (by simp (disch := omega) only [nI_toInt]; omega)) ?_
            refine go_if_eq iM_run_14 (fun c_14 => ?_) (fun c_14 => ?_)
            · (first | omega | exact absurd c_14 (by decide) | (exfalso; simp (disch := omega) only [Int32.lt_iff_toInt_lt, Int32.le_iff_toInt_le, ← Int32.toInt_inj, nI_toInt, i32_m1, i32_0, i32_m20, i32_m40, i32_m30, i32_m9] at *; omega))
            refine go_iloadn_3 iM_run_17 ?_
            refine go_iconst (v := nI 1) iM_run_18 rfl ?_
            refine go_bipush (v := nI 12) iM_run_19 (by decide) ?_
            refine gc_S1 iM_run_21 (by decide) rfl rfl (Nat.le_of_ble_eq_true rfl) (Nat.le_of_ble_eq_true rfl) (by decide) (sp_M_in_f (by simp (disch := omega) only [nI_toInt]; omega)) ?_
            refine go_if_eq iM_run_24 (fun c_24 => ?_) (fun c_24 => ?_)
            rotate_left
            · (first | omega | exact absurd c_24 (by decide) | (exfalso; simp (disch := omega) only [Int32.lt_iff_toInt_lt, Int32.le_iff_toInt_le, ← Int32.toInt_inj, nI_toInt, i32_m1, i32_0, i32_m20, i32_m40, i32_m30, i32_m9] at *; omega))
            refine go_iconst (v := (-1)) iM_run_41 rfl ?_
            refine go_iret iM_run_42 rfl ?_
            rfl
      · refine Pair.same (h1 := 2) (h2 := 2) (v := .int (-1)) hR0 ?_ ?_
        · show Go _ _ tT_run (_, 0, [.ref 0, .int (nI p), .int (nI b), .int z, .int e, am_U, am_U, am_U, am_U, am_U, am_U, am_U, am_U, am_U], []) _
          refine go_aloadn_0 iT_run_0 rfl ?_
          refine go_iloadn_1 iT_run_1 ?_
          refine gc_V1 iT_run_2 rfl (by decide) (sk_0 _) rfl (Nat.le_of_ble_eq_true rfl) (Nat.le_of_ble_eq_true rfl) (by decide) (sp_T_playAt_t h8 hcT hp) ?_
          refine go_astore_5 iT_run_5 rfl (by simp [Value.category, am_U]) ?_
          refine go_aload_5 iT_run_7 rfl ?_
          refine go_nulR iT_run_9 ?_
          refine go_iloadn_2 iT_run_12 ?_
          refine go_if_lt iT_run_13 (fun c_13 => ?_) (fun c_13 => ?_)
          · (first | omega | exact absurd c_13 (by decide) | (exfalso; simp (disch := omega) only [Int32.lt_iff_toInt_lt, Int32.le_iff_toInt_le, ← Int32.toInt_inj, nI_toInt, i32_m1, i32_0, i32_m20, i32_m40, i32_m30, i32_m9] at *; omega))
          refine go_iloadn_2 iT_run_16 ?_
          refine go_iconst (v := nI 3) iT_run_17 rfl ?_
          first | refine gn_ic_gt iT_run_18 (by omega) (by omega) (fun c_18 => ?_) (fun c_18 => ?_) | refine go_ic_gt iT_run_18 (fun c_18 => ?_) (fun c_18 => ?_)
          · (first | omega | exact absurd c_18 (by decide) | (exfalso; simp (disch := omega) only [Int32.lt_iff_toInt_lt, Int32.le_iff_toInt_le, ← Int32.toInt_inj, nI_toInt, i32_m1, i32_0, i32_m20, i32_m40, i32_m30, i32_m9] at *; omega))
          refine go_iloadn_3 iT_run_21 ?_
          refine go_iconst (v := nI 1) iT_run_22 rfl ?_
          first | refine gn_ic_lt iT_run_23 (by omega) (by omega) (fun c_23 => ?_) (fun c_23 => ?_) | refine go_ic_lt iT_run_23 (fun c_23 => ?_) (fun c_23 => ?_)
          · refine go_iconst (v := (-1)) iT_run_32 rfl ?_
            refine go_iret iT_run_33 rfl ?_
            rfl
          · refine go_iloadn_3 iT_run_26 ?_
            refine go_bipush (v := nI 12) iT_run_27 (by decide) ?_
            first | refine gn_ic_le iT_run_29 (by omega) (by omega) (fun c_29 => ?_) (fun c_29 => ?_) | refine go_ic_le iT_run_29 (fun c_29 => ?_) (fun c_29 => ?_)
            · (first | omega | exact absurd c_29 (by decide) | (exfalso; simp (disch := omega) only [Int32.lt_iff_toInt_lt, Int32.le_iff_toInt_le, ← Int32.toInt_inj, nI_toInt, i32_m1, i32_0, i32_m20, i32_m40, i32_m30, i32_m9] at *; omega))
            · refine go_iconst (v := (-1)) iT_run_32 rfl ?_
              refine go_iret iT_run_33 rfl ?_
              rfl
        · show Go _ _ tM_run (_, 0, [.ref 43, .int (nI p), .int (nI b), .int z, .int e, am_U, am_U, am_U, am_U, am_U, am_U, am_U, am_U], []) _
          refine go_aloadn_0 iM_run_0 rfl ?_
          refine go_iloadn_1 iM_run_1 ?_
          refine gc_V1 iM_run_2 rfl (by decide) (sk_43 _) rfl (Nat.le_of_ble_eq_true rfl) (Nat.le_of_ble_eq_true rfl) (by decide) (sp_M_isPlay_t h8 hcM hp) ?_
          refine go_if_eq iM_run_5 (fun c_5 => ?_) (fun c_5 => ?_)
          · (first | omega | exact absurd c_5 (by decide) | (exfalso; simp (disch := omega) only [Int32.lt_iff_toInt_lt, Int32.le_iff_toInt_le, ← Int32.toInt_inj, nI_toInt, i32_m1, i32_0, i32_m20, i32_m40, i32_m30, i32_m9] at *; omega))
          refine go_iloadn_2 iM_run_8 ?_
          refine go_iconst (v := nI 0) iM_run_9 rfl ?_
          refine go_iconst (v := nI 3) iM_run_10 rfl ?_
          refine gc_S1 iM_run_11 (by decide) rfl rfl (Nat.le_of_ble_eq_true rfl) (Nat.le_of_ble_eq_true rfl) (by decide) (sp_M_in_t (by simp (disch := omega) only [nI_toInt]; omega) (by simp (disch := omega) only [nI_toInt]; omega)) ?_
          refine go_if_eq iM_run_14 (fun c_14 => ?_) (fun c_14 => ?_)
          · (first | omega | exact absurd c_14 (by decide) | (exfalso; simp (disch := omega) only [Int32.lt_iff_toInt_lt, Int32.le_iff_toInt_le, ← Int32.toInt_inj, nI_toInt, i32_m1, i32_0, i32_m20, i32_m40, i32_m30, i32_m9] at *; omega))
          refine go_iloadn_3 iM_run_17 ?_
          refine go_iconst (v := nI 1) iM_run_18 rfl ?_
          refine go_bipush (v := nI 12) iM_run_19 (by decide) ?_
          refine gc_S1 iM_run_21 (by decide) rfl rfl (Nat.le_of_ble_eq_true rfl) (Nat.le_of_ble_eq_true rfl) (by decide) (sp_M_in_f (by simp (disch := omega) only [nI_toInt]; omega)) ?_
          refine go_if_eq iM_run_24 (fun c_24 => ?_) (fun c_24 => ?_)
          rotate_left
          · (first | omega | exact absurd c_24 (by decide) | (exfalso; simp (disch := omega) only [Int32.lt_iff_toInt_lt, Int32.le_iff_toInt_le, ← Int32.toInt_inj, nI_toInt, i32_m1, i32_0, i32_m20, i32_m40, i32_m30, i32_m9] at *; omega))
          refine go_iconst (v := (-1)) iM_run_41 rfl ?_
          refine go_iret iM_run_42 rfl ?_
          rfl
    · refine Pair.same (h1 := 2) (h2 := 2) (v := .int (-1)) hR0 ?_ ?_
      · show Go _ _ tT_run (_, 0, [.ref 0, .int (nI p), .int y, .int z, .int e, am_U, am_U, am_U, am_U, am_U, am_U, am_U, am_U, am_U], []) _
        refine go_aloadn_0 iT_run_0 rfl ?_
        refine go_iloadn_1 iT_run_1 ?_
        refine gc_V1 iT_run_2 rfl (by decide) (sk_0 _) rfl (Nat.le_of_ble_eq_true rfl) (Nat.le_of_ble_eq_true rfl) (by decide) (sp_T_playAt_t h8 hcT hp) ?_
        refine go_astore_5 iT_run_5 rfl (by simp [Value.category, am_U]) ?_
        refine go_aload_5 iT_run_7 rfl ?_
        refine go_nulR iT_run_9 ?_
        refine go_iloadn_2 iT_run_12 ?_
        refine go_if_lt iT_run_13 (fun c_13 => ?_) (fun c_13 => ?_)
        · refine go_iconst (v := (-1)) iT_run_32 rfl ?_
          refine go_iret iT_run_33 rfl ?_
          rfl
        · refine go_iloadn_2 iT_run_16 ?_
          refine go_iconst (v := nI 3) iT_run_17 rfl ?_
          first | refine gn_ic_gt iT_run_18 (by omega) (by omega) (fun c_18 => ?_) (fun c_18 => ?_) | refine go_ic_gt iT_run_18 (fun c_18 => ?_) (fun c_18 => ?_)
          · refine go_iconst (v := (-1)) iT_run_32 rfl ?_
            refine go_iret iT_run_33 rfl ?_
            rfl
          · (first | omega | exact absurd c_18 (by decide) | (exfalso; simp (disch := omega) only [Int32.lt_iff_toInt_lt, Int32.le_iff_toInt_le, ← Int32.toInt_inj, nI_toInt, i32_m1, i32_0, i32_m20, i32_m40, i32_m30, i32_m9] at *; omega))
      · show Go _ _ tM_run (_, 0, [.ref 43, .int (nI p), .int y, .int z, .int e, am_U, am_U, am_U, am_U, am_U, am_U, am_U, am_U], []) _
        refine go_aloadn_0 iM_run_0 rfl ?_
        refine go_iloadn_1 iM_run_1 ?_
        refine gc_V1 iM_run_2 rfl (by decide) (sk_43 _) rfl (Nat.le_of_ble_eq_true rfl) (Nat.le_of_ble_eq_true rfl) (by decide) (sp_M_isPlay_t h8 hcM hp) ?_
        refine go_if_eq iM_run_5 (fun c_5 => ?_) (fun c_5 => ?_)
        · (first | omega | exact absurd c_5 (by decide) | (exfalso; simp (disch := omega) only [Int32.lt_iff_toInt_lt, Int32.le_iff_toInt_le, ← Int32.toInt_inj, nI_toInt, i32_m1, i32_0, i32_m20, i32_m40, i32_m30, i32_m9] at *; omega))
        refine go_iloadn_2 iM_run_8 ?_
        refine go_iconst (v := nI 0) iM_run_9 rfl ?_
        refine go_iconst (v := nI 3) iM_run_10 rfl ?_
        refine gc_S1 iM_run_11 (by decide) rfl rfl (Nat.le_of_ble_eq_true rfl) (Nat.le_of_ble_eq_true rfl) (by decide) (sp_M_in_f (by simp (disch := omega) only [nI_toInt]; omega)) ?_
        refine go_if_eq iM_run_14 (fun c_14 => ?_) (fun c_14 => ?_)
        rotate_left
        · (first | omega | exact absurd c_14 (by decide) | (exfalso; simp (disch := omega) only [Int32.lt_iff_toInt_lt, Int32.le_iff_toInt_le, ← Int32.toInt_inj, nI_toInt, i32_m1, i32_0, i32_m20, i32_m40, i32_m30, i32_m9] at *; omega))
        refine go_iconst (v := (-1)) iM_run_41 rfl ?_
        refine go_iret iM_run_42 rfl ?_
        rfl
  · refine Pair.same (h1 := 2) (h2 := 2) (v := .int (-1)) hR0 ?_ ?_
    · show Go _ _ tT_run (_, 0, [.ref 0, .int x, .int y, .int z, .int e, am_U, am_U, am_U, am_U, am_U, am_U, am_U, am_U, am_U], []) _
      refine go_aloadn_0 iT_run_0 rfl ?_
      refine go_iloadn_1 iT_run_1 ?_
      refine gc_V1 iT_run_2 rfl (by decide) (sk_0 _) rfl (Nat.le_of_ble_eq_true rfl) (Nat.le_of_ble_eq_true rfl) (by decide) (sp_T_playAt_f h8 hcT hx) ?_
      refine go_astore_5 iT_run_5 rfl (by simp [Value.category, am_U]) ?_
      refine go_aload_5 iT_run_7 rfl ?_
      refine go_nulN iT_run_9 ?_
      refine go_iconst (v := (-1)) iT_run_32 rfl ?_
      refine go_iret iT_run_33 rfl ?_
      rfl
    · show Go _ _ tM_run (_, 0, [.ref 43, .int x, .int y, .int z, .int e, am_U, am_U, am_U, am_U, am_U, am_U, am_U, am_U], []) _
      refine go_aloadn_0 iM_run_0 rfl ?_
      refine go_iloadn_1 iM_run_1 ?_
      refine gc_V1 iM_run_2 rfl (by decide) (sk_43 _) rfl (Nat.le_of_ble_eq_true rfl) (Nat.le_of_ble_eq_true rfl) (by decide) (sp_M_isPlay_f h8 hcM hx) ?_
      refine go_if_eq iM_run_5 (fun c_5 => ?_) (fun c_5 => ?_)
      rotate_left
      · (first | omega | exact absurd c_5 (by decide) | (exfalso; simp (disch := omega) only [Int32.lt_iff_toInt_lt, Int32.le_iff_toInt_le, ← Int32.toInt_inj, nI_toInt, i32_m1, i32_0, i32_m20, i32_m40, i32_m30, i32_m9] at *; omega))
      refine go_iconst (v := (-1)) iM_run_41 rfl ?_
      refine go_iret iM_run_42 rfl ?_
      rfl
end RUN
