/-! ===== the reference's settles, hasGain ===== -/
def Wz (m B T : Nat) (w : Nat → Nat → Nat) : Int := wsZ m (fun f => nowZ m B w f T) m
def Uz (m B T : Nat) (w : Nat → Nat → Nat) : Int := gsZ m (fun f => nowZ m B w f T) (fun f => gZ m B w f T) m
/-- a game: rests, scale, turns, odds -/
def Gm (m B T : Nat) (w : Nat → Nat → Nat) : Prop := 1 ≤ m ∧ m ≤ 3 ∧ ((B = 12 ∧ 1 ≤ T ∧ T ≤ 4) ∨ (B = 144 ∧ T = 1)) ∧ ∀ t i, t < T → i < m → w t i ≤ B
theorem Gm.pb {m B T : Nat} {w : Nat → Nat → Nat} (h : Gm m B T w) : 1 ≤ B ∧ B ≤ 144 ∧ 1 ≤ T ∧ T ≤ 4 ∧ B ^ T ≤ 20736 := by
  obtain ⟨h1, h2, h3 | h3, h4⟩ := h
  · obtain ⟨rfl, a, b⟩ := h3
    have := Nat.pow_le_pow_right (n := 12) (by omega) b
    exact ⟨by omega, by omega, a, b, by omega⟩
  · obtain ⟨rfl, rfl⟩ := h3
    decide
theorem Gm.b {m B T : Nat} {w : Nat → Nat → Nat} (h : Gm m B T w) : (0 ≤ Wz m B T w ∧ Wz m B T w ≤ 1289945088) ∧ -106993205379072 ≤ Uz m B T w ∧ Uz m B T w ≤ 106993205379072 := by
  have hp := h.pb
  obtain ⟨h1, h3, h5, h4⟩ := h
  obtain ⟨b1, b2, b3, b4, b5⟩ := hp
  have p1 := pw_pos b1 T
  have p2 := pw_le b1 (Nat.le_refl T) b5
  have hw : ∀ s, s < T → ∀ i, i < m → w s i ≤ B := fun s hs i hi => h4 s i hs hi
  have a1 := ws_le (q := fun f => nowZ m B w f T) h1 h3 p1 (fun f x _ _ => now_nn T x) (fun f hf => sm_now h1 h3 hf T hw) m (Nat.le_refl m)
  have tb : (T : Int) * pw B T ≤ 82944 := by
    have := Int.mul_le_mul (show (T : Int) ≤ 4 by omega) p2 (by omega) (by omega)
    omega
  have t0 : 0 ≤ (T : Int) * pw B T := Int.mul_nonneg (by omega) (by omega)
  have a2 := gs_le (q := fun f => nowZ m B w f T) (g := fun f => gZ m B w f T) h1 h3 p1 (fun f x _ _ => now_nn T x) (fun f hf => sm_now h1 h3 hf T hw) t0 (fun f hf => gZ_le h1 h3 hf T hw) m (Nat.le_refl m)
  have s2 : pw B T * pw B T ≤ 429981696 := by
    have := Int.mul_le_mul p2 p2 (by omega) (by omega)
    omega
  have s0 : 0 ≤ pw B T * pw B T := Int.mul_nonneg (by omega) (by omega)
  have s3 : (m : Int) * (pw B T * pw B T) ≤ 1289945088 := by
    have := Int.mul_le_mul (show (m : Int) ≤ 3 by omega) s2 s0 (by omega)
    omega
  have s4 : pw B T * pw B T * ((T : Int) * pw B T) ≤ 35664401793024 := by
    have := Int.mul_le_mul s2 tb t0 (by omega)
    omega
  have s5 : 0 ≤ pw B T * pw B T * ((T : Int) * pw B T) := Int.mul_nonneg s0 t0
  have s6 : (m : Int) * (pw B T * pw B T * ((T : Int) * pw B T)) ≤ 106993205379072 := by
    have := Int.mul_le_mul (show (m : Int) ≤ 3 by omega) s4 s5 (by omega)
    omega
  unfold Wz Uz
  omega
/-- the lower half of the gain -/
def Lz (m B T : Nat) (w : Nat → Nat → Nat) : Nat := (Wz m B T w).toNat * B ^ T * T
theorem Gm.l {m B T : Nat} {w : Nat → Nat → Nat} (h : Gm m B T w) (hW : 0 < Wz m B T w) : 0 < Lz m B T w ∧ Lz m B T w < 2 ^ 48 ∧ Wz m B T w * pw B T * (T : Int) = (Lz m B T w : Int) := by
  have hb := h.b
  obtain ⟨b1, b2, b3, b4, b5⟩ := h.pb
  unfold Lz
  have e1 : ((Wz m B T w).toNat : Int) = Wz m B T w := by omega
  have n1 : 0 < (Wz m B T w).toNat := by omega
  have n2 : (Wz m B T w).toNat ≤ 1289945088 := by omega
  have n3 : 0 < B ^ T := Nat.pow_pos (by omega)
  have n4 := Nat.mul_le_mul n2 b5
  have n5 := Nat.mul_le_mul n4 b4
  refine ⟨Nat.mul_pos (Nat.mul_pos n1 n3) (by omega), by omega, ?_⟩
  rw [← e1]
  simp [pw]
def ShI (mL0 mL : Nat → Nat → Int64) (m : Nat) (q : Nat → Nat → Int) (r : Nat) : Prop := (∀ a, a ≠ 55 → mL a = mL0 a) ∧ ∀ g, g < r → mL 55 g = zL (wtZ m q g)
section MGN
variable {S : am_S} {mI : Nat → Nat → Int32} {mL mL0 : Nat → Nat → Int64} {n m B T : Nat} {w : Nat → Nat → Nat} {q : Nat → Nat → Int}
theorem sp_M_q {f x : Nat} (hf : f < 3) (hx : x < 3) : Sp S 0 tM_q (am_sh n, mI, mL, am_mR n) [.ref 43, .int (nI f), .int (nI x)] (fun r => r = (some (.long (mL 51 (3 * f + x))), (am_sh n, mI, mL, am_mR n))) := by
  show Go _ _ tM_q (_, 0, [.ref 43, .int (nI f), .int (nI x)], []) _
  refine go_aloadn_0 iM_q_0 rfl ?_
  refine go_getR iM_q_1 rfl (sk_43 _) (mR_43_15 _) ?_
  refine go_iconst (v := nI 3) iM_q_4 rfl ?_
  refine go_iloadn_1 iM_q_5 ?_
  first | refine gn_imul iM_q_6 ?_ | refine go_imul iM_q_6 ?_
  refine go_iloadn_2 iM_q_7 ?_
  first | refine gn_iadd iM_q_8 ?_ | refine go_iadd iM_q_8 ?_
  refine go_lald iM_q_9 (sh_51 _) rfl (by omega) (by omega) ?_
  refine go_lret iM_q_10 rfl ?_
  rfl
theorem lo_M_se3 {Q : Option Value × am_M → Prop} (hq : ∀ f x, f < 3 → x < 3 → mL0 51 (3 * f + x) = zL (q f x)) (kq : ∀ mL x y z, ShI mL0 mL 3 q 3 → Go S 2 tM_settles ((am_sh n, mI, mL, am_mR n), 129, [.ref 43, x, y, z], []) Q) : ∀ l i (mL : Nat → Nat → Int64) (y z : Value), i + l = 3 → ShI mL0 mL 3 q i → Go S 2 tM_settles ((am_sh n, mI, mL, am_mR n), 59, [.ref 43, .int (nI i), y, z], []) Q
  | 0, i, mL, y, z, hi, hF => by
    obtain rfl : i = 3 := by omega
    refine go_iloadn_1 iM_settles_59 ?_
    refine go_iconst (v := nI 3) iM_settles_60 rfl ?_
    first | refine gn_ic_ge iM_settles_61 (by omega) (by omega) (fun c_61 => ?_) (fun c_61 => ?_) | refine go_ic_ge iM_settles_61 (fun c_61 => ?_) (fun c_61 => ?_)
    rotate_left
    · (first | omega | exact absurd c_61 (by decide) | (exfalso; simp (disch := omega) only [Int32.lt_iff_toInt_lt, Int32.le_iff_toInt_le, ← Int32.toInt_inj, nI_toInt, i32_m1, i32_0, i32_m20, i32_m40, i32_m30, i32_m9] at *; omega))
    exact kq _ _ _ _ hF
  | l + 1, i, mL, y, z, hi, hF => by
    have b1 : (i + 1) % 3 < 3 := Nat.mod_lt _ (by omega)
    have b2 : (i + 2) % 3 < 3 := Nat.mod_lt _ (by omega)
    have q1 := hq _ _ b1 (show i < 3 by omega)
    have q2 := hq _ _ b2 (show i < 3 by omega)
    have q3 := hq _ _ b1 b2
    have q4 := hq _ _ b2 b1
    rw [← hF.1 51 (by decide)] at q1 q2 q3 q4
    have hA := sh_55 n
    refine go_iloadn_1 iM_settles_59 ?_
    refine go_iconst (v := nI 3) iM_settles_60 rfl ?_
    first | refine gn_ic_ge iM_settles_61 (by omega) (by omega) (fun c_61 => ?_) (fun c_61 => ?_) | refine go_ic_ge iM_settles_61 (fun c_61 => ?_) (fun c_61 => ?_)
    · (first | omega | exact absurd c_61 (by decide) | (exfalso; simp (disch := omega) only [Int32.lt_iff_toInt_lt, Int32.le_iff_toInt_le, ← Int32.toInt_inj, nI_toInt, i32_m1, i32_0, i32_m20, i32_m40, i32_m30, i32_m9] at *; omega))
    refine go_iloadn_1 iM_settles_64 ?_
    refine go_iconst (v := nI 1) iM_settles_65 rfl ?_
    first | refine gn_iadd iM_settles_66 ?_ | refine go_iadd iM_settles_66 ?_
    refine go_iconst (v := nI 3) iM_settles_67 rfl ?_
    refine gn_irem iM_settles_68 (by omega) (by omega) (by omega) ?_
    refine go_istoren_2 iM_settles_69 (by simp [Value.category, am_U]) ?_
    refine go_iloadn_1 iM_settles_70 ?_
    refine go_iconst (v := nI 2) iM_settles_71 rfl ?_
    first | refine gn_iadd iM_settles_72 ?_ | refine go_iadd iM_settles_72 ?_
    refine go_iconst (v := nI 3) iM_settles_73 rfl ?_
    refine gn_irem iM_settles_74 (by omega) (by omega) (by omega) ?_
    refine go_istoren_3 iM_settles_75 (by simp [Value.category, am_U]) ?_
    refine go_aloadn_0 iM_settles_76 rfl ?_
    refine go_getR iM_settles_77 rfl (sk_43 _) (mR_43_19 _) ?_
    refine go_iloadn_1 iM_settles_80 ?_
    refine go_aloadn_0 iM_settles_81 rfl ?_
    refine go_iloadn_2 iM_settles_82 ?_
    refine go_iloadn_1 iM_settles_83 ?_
    refine gc_V1 iM_settles_84 rfl (by decide) (sk_43 _) rfl (Nat.le_of_ble_eq_true rfl) (Nat.le_of_ble_eq_true rfl) (by decide) (sp_M_q (by omega) (by omega)) ?_
    refine go_aloadn_0 iM_settles_87 rfl ?_
    refine go_iloadn_3 iM_settles_88 ?_
    refine go_iloadn_1 iM_settles_89 ?_
    refine gc_V1 iM_settles_90 rfl (by decide) (sk_43 _) rfl (Nat.le_of_ble_eq_true rfl) (Nat.le_of_ble_eq_true rfl) (by decide) (sp_M_q (by omega) (by omega)) ?_
    refine go_lmul iM_settles_93 ?_
    refine go_aloadn_0 iM_settles_94 rfl ?_
    refine go_iloadn_2 iM_settles_95 ?_
    refine go_iloadn_3 iM_settles_96 ?_
    refine gc_V1 iM_settles_97 rfl (by decide) (sk_43 _) rfl (Nat.le_of_ble_eq_true rfl) (Nat.le_of_ble_eq_true rfl) (by decide) (sp_M_q (by omega) (by omega)) ?_
    refine go_aloadn_0 iM_settles_100 rfl ?_
    refine go_iloadn_3 iM_settles_101 ?_
    refine go_iloadn_1 iM_settles_102 ?_
    refine gc_V1 iM_settles_103 rfl (by decide) (sk_43 _) rfl (Nat.le_of_ble_eq_true rfl) (Nat.le_of_ble_eq_true rfl) (by decide) (sp_M_q (by omega) (by omega)) ?_
    refine go_lmul iM_settles_106 ?_
    refine go_ladd iM_settles_107 ?_
    refine go_aloadn_0 iM_settles_108 rfl ?_
    refine go_iloadn_3 iM_settles_109 ?_
    refine go_iloadn_2 iM_settles_110 ?_
    refine gc_V1 iM_settles_111 rfl (by decide) (sk_43 _) rfl (Nat.le_of_ble_eq_true rfl) (Nat.le_of_ble_eq_true rfl) (by decide) (sp_M_q (by omega) (by omega)) ?_
    refine go_aloadn_0 iM_settles_114 rfl ?_
    refine go_iloadn_2 iM_settles_115 ?_
    refine go_iloadn_1 iM_settles_116 ?_
    refine gc_V1 iM_settles_117 rfl (by decide) (sk_43 _) rfl (Nat.le_of_ble_eq_true rfl) (Nat.le_of_ble_eq_true rfl) (by decide) (sp_M_q (by omega) (by omega)) ?_
    refine go_lmul iM_settles_120 ?_
    refine go_ladd iM_settles_121 ?_
    refine go_last iM_settles_122 (by assumption) rfl (by omega) (by omega) ?_
    first | refine go_iinc_1 iM_settles_123 (ni_inc _ 1) (by simp [Value.category, am_U]) ?_ | refine go_iinc_1 iM_settles_123 rfl (by simp [Value.category, am_U]) ?_
    refine go_goto iM_settles_126 ?_
    refine lo_M_se3 hq kq l (i + 1) _ _ _ (by omega) ⟨fun a ha => by rw [am_u_r ha]; exact hF.1 a ha, fun g hg => ?_⟩
    by_cases e : g = i
    · subst e; rw [am_u_s]; simp only [q1, q2, q3, q4, zL_mul, zL_add]; rfl
    · rw [am_u_k e]; exact hF.2 g (by omega)
theorem lo_M_se4 {y z : Value} {v : Nat} {Q : Option Value × am_M → Prop} (hm3 : m ≤ 3) (hmM : mI 43 4 = nI m) (hW : -9223372036854775808 ≤ wsZ m q m ∧ wsZ m q m < 9223372036854775808) (hv : v = if 0 < wsZ m q m then 1 else 0) (hs : ∀ g, g < m → mL0 55 g = zL (wtZ m q g)) (kq : ∀ mL, ((∀ a, a ≠ 43 → mL a = mL0 a) ∧ (∀ y, y ≠ 20 → mL 43 y = mL0 43 y) ∧ mL 43 20 = zL (wsZ m q m)) → Q (some (.int (nI v)), (am_sh n, mI, mL, am_mR n))) : ∀ l i (mL : Nat → Nat → Int64), i + l = m → ((∀ a, a ≠ 43 → mL a = mL0 a) ∧ (∀ y, y ≠ 20 → mL 43 y = mL0 43 y) ∧ mL 43 20 = zL (wsZ m q i)) → Go S 2 tM_settles ((am_sh n, mI, mL, am_mR n), 136, [.ref 43, .int (nI i), y, z], []) Q
  | 0, i, mL, hi, hF => by
    obtain rfl : i = m := by omega
    have r1 := hF.2.2
    have c1 : ∀ c : 0 < wsZ i q i, nI 1 = nI v := fun c => by rw [hv, if_pos c]
    have c0 : ∀ c : wsZ i q i ≤ 0, nI 0 = nI v := fun c => by rw [hv, if_neg (by omega)]
    refine go_iloadn_1 iM_settles_136 ?_
    refine go_aloadn_0 iM_settles_137 rfl ?_
    refine go_getI iM_settles_138 (Or.inl rfl) (sk_43 _) ?_
    try simp (disch := omega) only [am_u_n, am_u_s, am_u_k, hmM, r1]
    first | refine gn_ic_ge iM_settles_141 (by omega) (by omega) (fun c_141 => ?_) (fun c_141 => ?_) | refine go_ic_ge iM_settles_141 (fun c_141 => ?_) (fun c_141 => ?_)
    rotate_left
    · (first | omega | exact absurd c_141 (by decide) | (exfalso; simp (disch := omega) only [Int32.lt_iff_toInt_lt, Int32.le_iff_toInt_le, ← Int32.toInt_inj, nI_toInt, i32_m1, i32_0, i32_m20, i32_m40, i32_m30, i32_m9] at *; omega))
    refine go_aloadn_0 iM_settles_165 rfl ?_
    refine go_getL iM_settles_166 rfl (sk_43 _) ?_
    try simp (disch := omega) only [am_u_n, am_u_s, am_u_k, hmM, r1]
    refine go_lconst (v := zL 0) iM_settles_169 rfl ?_
    refine gz_lc_le iM_settles_170 iM_settles_171 (by omega) (by omega) (fun c_170 => ?_) (fun c_170 => ?_)
    · refine go_iconst (v := nI 0) iM_settles_178 rfl ?_
      refine go_zret iM_settles_179 rfl (by first | exact Or.inl rfl | exact Or.inr rfl) ?_
      first | (rw [c1 c_170]; exact kq _ hF) | (rw [c0 c_170]; exact kq _ hF)
    · refine go_iconst (v := nI 1) iM_settles_174 rfl ?_
      refine go_goto iM_settles_175 ?_
      refine go_zret iM_settles_179 rfl (by first | exact Or.inl rfl | exact Or.inr rfl) ?_
      first | (rw [c1 c_170]; exact kq _ hF) | (rw [c0 c_170]; exact kq _ hF)
  | l + 1, i, mL, hi, hF => by
    obtain ⟨f1, f2, f3⟩ := hF
    have r1 := hs i (by omega)
    rw [← f1 55 (by decide)] at r1
    refine go_iloadn_1 iM_settles_136 ?_
    refine go_aloadn_0 iM_settles_137 rfl ?_
    refine go_getI iM_settles_138 (Or.inl rfl) (sk_43 _) ?_
    try simp (disch := omega) only [am_u_n, am_u_s, am_u_k, hmM, r1, f3]
    first | refine gn_ic_ge iM_settles_141 (by omega) (by omega) (fun c_141 => ?_) (fun c_141 => ?_) | refine go_ic_ge iM_settles_141 (fun c_141 => ?_) (fun c_141 => ?_)
    · (first | omega | exact absurd c_141 (by decide) | (exfalso; simp (disch := omega) only [Int32.lt_iff_toInt_lt, Int32.le_iff_toInt_le, ← Int32.toInt_inj, nI_toInt, i32_m1, i32_0, i32_m20, i32_m40, i32_m30, i32_m9] at *; omega))
    refine go_aloadn_0 iM_settles_144 rfl ?_
    refine go_dup iM_settles_145 rfl ?_
    refine go_getL iM_settles_146 rfl (sk_43 _) ?_
    try simp (disch := omega) only [am_u_n, am_u_s, am_u_k, hmM, r1, f3]
    refine go_aloadn_0 iM_settles_149 rfl ?_
    refine go_getR iM_settles_150 rfl (sk_43 _) (mR_43_19 _) ?_
    refine go_iloadn_1 iM_settles_153 ?_
    refine go_lald iM_settles_154 (sh_55 _) rfl (by omega) (by omega) ?_
    try simp (disch := omega) only [am_u_n, am_u_s, am_u_k, hmM, r1, f3]
    first | refine gz_ladd iM_settles_155 ?_ | refine go_ladd iM_settles_155 ?_
    refine go_putL iM_settles_156 rfl (sk_43 _) ?_
    first | refine go_iinc_1 iM_settles_159 (ni_inc _ 1) (by simp [Value.category, am_U]) ?_ | refine go_iinc_1 iM_settles_159 rfl (by simp [Value.category, am_U]) ?_
    refine go_goto iM_settles_162 ?_
    refine lo_M_se4 hm3 hmM hW hv hs kq l (i + 1) _ (by omega) ⟨fun a ha => by rw [am_u_r ha]; exact f1 a ha, fun y hy => by rw [am_u_k hy]; exact f2 y hy, by rw [am_u_s]; rfl⟩
/-- what setRound and what follows may change -/
def FrM (mL mL' : Nat → Nat → Int64) : Prop := (∀ a, a ≠ 43 → a ≠ 51 → a ≠ 52 → a ≠ 53 → a ≠ 54 → a ≠ 55 → mL' a = mL a) ∧ ∀ y, y ≠ 14 → y ≠ 20 → y ≠ 21 → y ≠ 22 → mL' 43 y = mL 43 y
def MSet (mL : Nat → Nat → Int64) (m B T : Nat) (w : Nat → Nat → Nat) : Prop := mL 43 14 = zL (pw B T) ∧ mL 43 20 = zL (Wz m B T w) ∧ (∀ g, g < m → mL 55 g = zL (wtZ m (fun f => nowZ m B w f T) g)) ∧ ∀ g, g < m → mL 52 g = zL (gZ m B w g T)
theorem ex_M_settles (hG : Gm m B T w) (hmM : mI 43 4 = nI m) (htM : mI 43 11 = nI T) (hwh : mL 43 12 = zL B) (hw : ∀ t i, t < T → i < m → mL 50 (3 * t + i) = zL (w t i)) : Ex S 2 tM_settles n mI mL [.ref 43] (some (.int (nI (if 0 < Wz m B T w then 1 else 0)))) (fun mI' mL' => mI' = mI ∧ FrM mL mL' ∧ MSet mL' m B T w ∧ ∀ y, y ≠ 14 → y ≠ 20 → mL' 43 y = mL 43 y) := by
  obtain ⟨b1, b2, b3, b4, b5⟩ := hG.pb
  have hW := hG.b
  obtain ⟨h1, hm3, h5, hwB⟩ := hG
  unfold Ex
  show Go _ _ tM_settles (_, 0, [.ref 43, am_U, am_U, am_U], []) _
  have fin : ∀ mL1 : Nat → Nat → Int64, SrF mL mL1 B T → SrD mL1 m B T w m → ∀ mL2 : Nat → Nat → Int64, ShI mL1 mL2 m (fun f => nowZ m B w f T) m → ∀ x y z : Value, Go S 2 tM_settles ((am_sh n, mI, mL2, am_mR n), 129, [.ref 43, x, y, z], []) (fun r => ∃ mI' mL', r = (some (.int (nI (if 0 < Wz m B T w then 1 else 0))), (am_sh n, mI', mL', am_mR n)) ∧ (mI' = mI ∧ FrM mL mL' ∧ MSet mL' m B T w ∧ ∀ y, y ≠ 14 → y ≠ 20 → mL' 43 y = mL 43 y)) := by
    intro mL1 a1 a2 mL2 a3 x y z
    refine go_aloadn_0 iM_settles_129 rfl ?_
    refine go_lconst (v := zL 0) iM_settles_130 rfl ?_
    refine go_putL iM_settles_131 rfl (sk_43 _) ?_
    refine go_iconst (v := nI 0) iM_settles_134 rfl ?_
    refine go_istoren_1 iM_settles_135 (by simp [Value.category, am_U]) ?_
    refine lo_M_se4 (mL0 := mL2) (q := fun f => nowZ m B w f T) hm3 hmM ⟨by unfold Wz at hW; omega, by unfold Wz at hW; omega⟩ rfl a3.2 (fun mL3 hF3 => ?_) m 0 _ (by omega) ⟨fun a ha => by rw [am_u_r ha], fun y hy => by rw [am_u_k hy], by rw [am_u_s]; rfl⟩
    obtain ⟨k1, k2, k3⟩ := hF3
    obtain ⟨j1, j2, j3⟩ := a1
    refine ex_i ⟨rfl, ⟨fun a e1 e2 e3 e4 e5 e6 => ?_, fun y e1 e2 _ _ => ?_⟩, ⟨?_, k3, fun g hg => ?_, fun g hg => ?_⟩, fun y e1 e2 => ?_⟩
    · rw [k1 a e1, a3.1 a e6]; exact j1 a e1 e2 e3 e4 e5
    · rw [k2 y e2, a3.1 43 (by decide)]; exact j2 y e1
    · rw [k2 14 (by decide), a3.1 43 (by decide)]; exact j3
    · rw [k1 55 (by decide)]; exact a3.2 g hg
    · rw [k1 52 (by decide), a3.1 52 (by decide)]; exact a2.2 g hg
    · rw [k2 y e2, a3.1 43 (by decide)]; exact j2 y e1
  have e : m = 1 ∨ m = 2 ∨ m = 3 := by omega
  rcases e with rfl | rfl | rfl
  · refine go_aloadn_0 iM_settles_0 rfl ?_
    refine gx_V0 iM_settles_1 rfl (by decide) (sk_43 _) rfl (Nat.le_of_ble_eq_true rfl) (Nat.le_of_ble_eq_true rfl) (by decide) (ex_M_setRound h1 hm3 b1 b2 b4 b5 hmM htM hwh hw hwB) (fun mI1_ mL1_ h1_ => ?_)
    obtain ⟨e0, e1, e2⟩ := h1_
    subst mI1_
    refine go_aloadn_0 iM_settles_4 rfl ?_
    refine go_getI iM_settles_5 (Or.inl rfl) (sk_43 _) ?_
    try simp (disch := omega) only [am_u_n, am_u_s, am_u_k, hmM]
    refine go_iconst (v := nI 1) iM_settles_8 rfl ?_
    first | refine gn_ic_ne iM_settles_9 (by omega) (by omega) (fun c_9 => ?_) (fun c_9 => ?_) | refine go_ic_ne iM_settles_9 (fun c_9 => ?_) (fun c_9 => ?_)
    · (first | omega | exact absurd c_9 (by decide) | (exfalso; simp (disch := omega) only [Int32.lt_iff_toInt_lt, Int32.le_iff_toInt_le, ← Int32.toInt_inj, nI_toInt, i32_m1, i32_0, i32_m20, i32_m40, i32_m30, i32_m9] at *; omega))
    refine go_aloadn_0 iM_settles_12 rfl ?_
    refine go_getR iM_settles_13 rfl (sk_43 _) (mR_43_19 _) ?_
    refine go_iconst (v := nI 0) iM_settles_16 rfl ?_
    refine go_lconst (v := zL 1) iM_settles_17 rfl ?_
    refine go_last iM_settles_18 (sh_55 _) rfl (by omega) (by omega) ?_
    refine go_goto iM_settles_19 ?_
    refine fin _ e1 e2 _ ⟨fun a ha => by rw [am_u_r ha], fun g hg => ?_⟩ _ _ _
    obtain rfl : g = 0 := by omega
    rw [am_u_s]; rfl
  · refine go_aloadn_0 iM_settles_0 rfl ?_
    refine gx_V0 iM_settles_1 rfl (by decide) (sk_43 _) rfl (Nat.le_of_ble_eq_true rfl) (Nat.le_of_ble_eq_true rfl) (by decide) (ex_M_setRound h1 hm3 b1 b2 b4 b5 hmM htM hwh hw hwB) (fun mI1_ mL1_ h1_ => ?_)
    obtain ⟨e0, e1, e2⟩ := h1_
    subst mI1_
    have hA := sh_55 n
    refine go_aloadn_0 iM_settles_4 rfl ?_
    refine go_getI iM_settles_5 (Or.inl rfl) (sk_43 _) ?_
    try simp (disch := omega) only [am_u_n, am_u_s, am_u_k, hmM]
    refine go_iconst (v := nI 1) iM_settles_8 rfl ?_
    first | refine gn_ic_ne iM_settles_9 (by omega) (by omega) (fun c_9 => ?_) (fun c_9 => ?_) | refine go_ic_ne iM_settles_9 (fun c_9 => ?_) (fun c_9 => ?_)
    rotate_left
    · (first | omega | exact absurd c_9 (by decide) | (exfalso; simp (disch := omega) only [Int32.lt_iff_toInt_lt, Int32.le_iff_toInt_le, ← Int32.toInt_inj, nI_toInt, i32_m1, i32_0, i32_m20, i32_m40, i32_m30, i32_m9] at *; omega))
    refine go_aloadn_0 iM_settles_22 rfl ?_
    refine go_getI iM_settles_23 (Or.inl rfl) (sk_43 _) ?_
    try simp (disch := omega) only [am_u_n, am_u_s, am_u_k, hmM]
    refine go_iconst (v := nI 2) iM_settles_26 rfl ?_
    first | refine gn_ic_ne iM_settles_27 (by omega) (by omega) (fun c_27 => ?_) (fun c_27 => ?_) | refine go_ic_ne iM_settles_27 (fun c_27 => ?_) (fun c_27 => ?_)
    · (first | omega | exact absurd c_27 (by decide) | (exfalso; simp (disch := omega) only [Int32.lt_iff_toInt_lt, Int32.le_iff_toInt_le, ← Int32.toInt_inj, nI_toInt, i32_m1, i32_0, i32_m20, i32_m40, i32_m30, i32_m9] at *; omega))
    refine go_aloadn_0 iM_settles_30 rfl ?_
    refine go_getR iM_settles_31 rfl (sk_43 _) (mR_43_19 _) ?_
    refine go_iconst (v := nI 0) iM_settles_34 rfl ?_
    refine go_aloadn_0 iM_settles_35 rfl ?_
    refine go_iconst (v := nI 1) iM_settles_36 rfl ?_
    refine go_iconst (v := nI 0) iM_settles_37 rfl ?_
    refine gc_V1 iM_settles_38 rfl (by decide) (sk_43 _) rfl (Nat.le_of_ble_eq_true rfl) (Nat.le_of_ble_eq_true rfl) (by decide) (sp_M_q (by omega) (by omega)) ?_
    refine go_last iM_settles_41 (by assumption) rfl (by omega) (by omega) ?_
    refine go_aloadn_0 iM_settles_42 rfl ?_
    refine go_getR iM_settles_43 rfl (sk_43 _) (mR_43_19 _) ?_
    refine go_iconst (v := nI 1) iM_settles_46 rfl ?_
    refine go_aloadn_0 iM_settles_47 rfl ?_
    refine go_iconst (v := nI 0) iM_settles_48 rfl ?_
    refine go_iconst (v := nI 1) iM_settles_49 rfl ?_
    refine gc_V1 iM_settles_50 rfl (by decide) (sk_43 _) rfl (Nat.le_of_ble_eq_true rfl) (Nat.le_of_ble_eq_true rfl) (by decide) (sp_M_q (by omega) (by omega)) ?_
    refine go_last iM_settles_53 (by assumption) rfl (by omega) (by omega) ?_
    refine go_goto iM_settles_54 ?_
    refine fin _ e1 e2 _ ⟨fun a ha => by rw [am_u_r ha, am_u_r ha], fun g hg => ?_⟩ _ _ _
    have q1 := e2.1 1 0 (by omega) (by omega)
    have q2 := e2.1 0 1 (by omega) (by omega)
    rcases (by omega : g = 0 ∨ g = 1) with rfl | rfl
    · rw [am_u_k (by decide), am_u_s]; exact q1
    · rw [am_u_s, am_u_n (by decide)]; exact q2
  · refine go_aloadn_0 iM_settles_0 rfl ?_
    refine gx_V0 iM_settles_1 rfl (by decide) (sk_43 _) rfl (Nat.le_of_ble_eq_true rfl) (Nat.le_of_ble_eq_true rfl) (by decide) (ex_M_setRound h1 hm3 b1 b2 b4 b5 hmM htM hwh hw hwB) (fun mI1_ mL1_ h1_ => ?_)
    obtain ⟨e0, e1, e2⟩ := h1_
    subst mI1_
    refine go_aloadn_0 iM_settles_4 rfl ?_
    refine go_getI iM_settles_5 (Or.inl rfl) (sk_43 _) ?_
    try simp (disch := omega) only [am_u_n, am_u_s, am_u_k, hmM]
    refine go_iconst (v := nI 1) iM_settles_8 rfl ?_
    first | refine gn_ic_ne iM_settles_9 (by omega) (by omega) (fun c_9 => ?_) (fun c_9 => ?_) | refine go_ic_ne iM_settles_9 (fun c_9 => ?_) (fun c_9 => ?_)
    rotate_left
    · (first | omega | exact absurd c_9 (by decide) | (exfalso; simp (disch := omega) only [Int32.lt_iff_toInt_lt, Int32.le_iff_toInt_le, ← Int32.toInt_inj, nI_toInt, i32_m1, i32_0, i32_m20, i32_m40, i32_m30, i32_m9] at *; omega))
    refine go_aloadn_0 iM_settles_22 rfl ?_
    refine go_getI iM_settles_23 (Or.inl rfl) (sk_43 _) ?_
    try simp (disch := omega) only [am_u_n, am_u_s, am_u_k, hmM]
    refine go_iconst (v := nI 2) iM_settles_26 rfl ?_
    first | refine gn_ic_ne iM_settles_27 (by omega) (by omega) (fun c_27 => ?_) (fun c_27 => ?_) | refine go_ic_ne iM_settles_27 (fun c_27 => ?_) (fun c_27 => ?_)
    rotate_left
    · (first | omega | exact absurd c_27 (by decide) | (exfalso; simp (disch := omega) only [Int32.lt_iff_toInt_lt, Int32.le_iff_toInt_le, ← Int32.toInt_inj, nI_toInt, i32_m1, i32_0, i32_m20, i32_m40, i32_m30, i32_m9] at *; omega))
    refine go_iconst (v := nI 0) iM_settles_57 rfl ?_
    refine go_istoren_1 iM_settles_58 (by simp [Value.category, am_U]) ?_
    exact lo_M_se3 (q := fun f => nowZ 3 B w f T) (fun f x hf hx => e2.1 f x hf hx) (fun mL2 x y z hF2 => fin _ e1 e2 _ hF2 x y z) 3 0 _ _ _ (by omega) ⟨fun a _ => rfl, fun g hg => by omega⟩
theorem lo_M_hg {u : Int} {l : Nat} (hu : u.natAbs < 2 ^ 62) (hl0 : 0 < l) (hl : l < 2 ^ 62) (hU : mL 43 21 = zL u) (hL : mL 43 22 = zL l) : ∀ b a (z z' : Value), a < 2 ^ 62 → b < 2 ^ 62 → Nat.gcd a b = Nat.gcd u.natAbs l → Go S 3 tM_hasGain ((am_sh n, mI, mL, am_mR n), 98, [.ref 43, .long (zL (a : Nat)), am_U, .long (zL (b : Nat)), am_U, z, z'], []) (fun q => q = (some (.int (nI 1)), (am_sh n, mI, am_u (am_u mL 43 21 (zL (fU u l))) 43 22 (zL (fL u l)), am_mR n))) := by
  intro b
  induction b using Nat.strongRecOn with
  | ind b ih =>
    intro a z z' ha hb hg
    have hg0 : 0 < Nat.gcd u.natAbs l := Nat.gcd_pos_of_pos_right _ hl0
    have hgl : Nat.gcd u.natAbs l ≤ l := Nat.gcd_le_right _ hl0
    by_cases h0 : b = 0
    · subst h0
      rw [Nat.gcd_zero_right] at hg
      subst hg
      refine go_lloadn_3 iM_hasGain_98 ?_
      refine go_lconst (v := zL 0) iM_hasGain_99 rfl ?_
      refine gz_lc_eq iM_hasGain_100 iM_hasGain_101 (by omega) (by omega) (fun c_100 => ?_) (fun c_100 => ?_)
      rotate_left
      · (first | omega | exact absurd c_100 (by decide) | (exfalso; simp (disch := omega) only [Int32.lt_iff_toInt_lt, Int32.le_iff_toInt_le, ← Int32.toInt_inj, nI_toInt, i32_m1, i32_0, i32_m20, i32_m40, i32_m30, i32_m9] at *; omega))
      refine go_aloadn_0 iM_hasGain_117 rfl ?_
      refine go_dup iM_hasGain_118 rfl ?_
      refine go_getL iM_hasGain_119 rfl (sk_43 _) ?_
      try simp (disch := omega) only [am_u_n, am_u_s, am_u_k, hU, hL]
      refine go_lloadn_1 iM_hasGain_122 ?_
      refine gz_tdiv iM_hasGain_123 (by omega) (by omega) ?_
      refine go_putL iM_hasGain_124 rfl (sk_43 _) ?_
      refine go_aloadn_0 iM_hasGain_127 rfl ?_
      refine go_dup iM_hasGain_128 rfl ?_
      refine go_getL iM_hasGain_129 rfl (sk_43 _) ?_
      try simp (disch := omega) only [am_u_n, am_u_s, am_u_k, hU, hL]
      refine go_lloadn_1 iM_hasGain_132 ?_
      refine gz_ldiv iM_hasGain_133 (by omega) (by omega) (by omega) (by omega) ?_
      rw [← Int.natCast_ediv]
      refine go_putL iM_hasGain_134 rfl (sk_43 _) ?_
      refine go_iconst (v := nI 1) iM_hasGain_137 rfl ?_
      refine go_zret iM_hasGain_138 rfl (by first | exact Or.inl rfl | exact Or.inr rfl) ?_
      rfl
    · have hr := Nat.mod_lt a (Nat.pos_of_ne_zero h0)
      refine go_lloadn_3 iM_hasGain_98 ?_
      refine go_lconst (v := zL 0) iM_hasGain_99 rfl ?_
      refine gz_lc_eq iM_hasGain_100 iM_hasGain_101 (by omega) (by omega) (fun c_100 => ?_) (fun c_100 => ?_)
      · (first | omega | exact absurd c_100 (by decide) | (exfalso; simp (disch := omega) only [Int32.lt_iff_toInt_lt, Int32.le_iff_toInt_le, ← Int32.toInt_inj, nI_toInt, i32_m1, i32_0, i32_m20, i32_m40, i32_m30, i32_m9] at *; omega))
      refine go_lloadn_1 iM_hasGain_104 ?_
      refine go_lloadn_3 iM_hasGain_105 ?_
      refine gz_lrem iM_hasGain_106 (by omega) (by omega) (by omega) (by omega) ?_
      refine go_lstore_5 iM_hasGain_107 (by simp [Value.category, am_U]) ?_
      refine go_lloadn_3 iM_hasGain_109 ?_
      refine go_lstoren_1 iM_hasGain_110 (by simp [Value.category, am_U]) ?_
      refine go_lload_5 iM_hasGain_111 ?_
      refine go_lstoren_3 iM_hasGain_113 (by simp [Value.category, am_U]) ?_
      refine go_goto iM_hasGain_114 ?_
      rw [← Int.natCast_emod]
      exact ih _ hr _ _ _ hb (by omega) (by rw [gcd_step]; exact hg)
theorem lo_M_hs {g : Nat → Int} {y1 y2 y3 y4 y5 : Value} {Q : Option Value × am_M → Prop} (hm3 : m ≤ 3) (hmM : mI 43 4 = nI m) (hs : ∀ r, r < m → mL0 55 r = zL (wtZ m q r)) (hg : ∀ r, r < m → mL0 52 r = zL (g r)) (kq : ∀ mL, ((∀ a, a ≠ 43 → mL a = mL0 a) ∧ (∀ y, y ≠ 21 → mL 43 y = mL0 43 y) ∧ mL 43 21 = zL (gsZ m q g m)) → Go S 3 tM_hasGain ((am_sh n, mI, mL, am_mR n), 52, [.ref 43, .int (nI m), y1, y2, y3, y4, y5], []) Q) : ∀ l i (mL : Nat → Nat → Int64), i + l = m → ((∀ a, a ≠ 43 → mL a = mL0 a) ∧ (∀ y, y ≠ 21 → mL 43 y = mL0 43 y) ∧ mL 43 21 = zL (gsZ m q g i)) → Go S 3 tM_hasGain ((am_sh n, mI, mL, am_mR n), 16, [.ref 43, .int (nI i), y1, y2, y3, y4, y5], []) Q
  | 0, i, mL, hi, hF => by
    obtain rfl : i = m := by omega
    refine go_iloadn_1 iM_hasGain_16 ?_
    refine go_aloadn_0 iM_hasGain_17 rfl ?_
    refine go_getI iM_hasGain_18 (Or.inl rfl) (sk_43 _) ?_
    try simp (disch := omega) only [am_u_n, am_u_s, am_u_k, hmM]
    first | refine gn_ic_ge iM_hasGain_21 (by omega) (by omega) (fun c_21 => ?_) (fun c_21 => ?_) | refine go_ic_ge iM_hasGain_21 (fun c_21 => ?_) (fun c_21 => ?_)
    rotate_left
    · (first | omega | exact absurd c_21 (by decide) | (exfalso; simp (disch := omega) only [Int32.lt_iff_toInt_lt, Int32.le_iff_toInt_le, ← Int32.toInt_inj, nI_toInt, i32_m1, i32_0, i32_m20, i32_m40, i32_m30, i32_m9] at *; omega))
    exact kq _ hF
  | l + 1, i, mL, hi, hF => by
    obtain ⟨f1, f2, f3⟩ := hF
    have r1 := hs i (by omega)
    have r2 := hg i (by omega)
    rw [← f1 55 (by decide)] at r1
    rw [← f1 52 (by decide)] at r2
    refine go_iloadn_1 iM_hasGain_16 ?_
    refine go_aloadn_0 iM_hasGain_17 rfl ?_
    refine go_getI iM_hasGain_18 (Or.inl rfl) (sk_43 _) ?_
    try simp (disch := omega) only [am_u_n, am_u_s, am_u_k, hmM, r1, r2, f3]
    first | refine gn_ic_ge iM_hasGain_21 (by omega) (by omega) (fun c_21 => ?_) (fun c_21 => ?_) | refine go_ic_ge iM_hasGain_21 (fun c_21 => ?_) (fun c_21 => ?_)
    · (first | omega | exact absurd c_21 (by decide) | (exfalso; simp (disch := omega) only [Int32.lt_iff_toInt_lt, Int32.le_iff_toInt_le, ← Int32.toInt_inj, nI_toInt, i32_m1, i32_0, i32_m20, i32_m40, i32_m30, i32_m9] at *; omega))
    refine go_aloadn_0 iM_hasGain_24 rfl ?_
    refine go_dup iM_hasGain_25 rfl ?_
    refine go_getL iM_hasGain_26 rfl (sk_43 _) ?_
    try simp (disch := omega) only [am_u_n, am_u_s, am_u_k, hmM, r1, r2, f3]
    refine go_aloadn_0 iM_hasGain_29 rfl ?_
    refine go_getR iM_hasGain_30 rfl (sk_43 _) (mR_43_19 _) ?_
    refine go_iloadn_1 iM_hasGain_33 ?_
    refine go_lald iM_hasGain_34 (sh_55 _) rfl (by omega) (by omega) ?_
    try simp (disch := omega) only [am_u_n, am_u_s, am_u_k, hmM, r1, r2, f3]
    refine go_aloadn_0 iM_hasGain_35 rfl ?_
    refine go_getR iM_hasGain_36 rfl (sk_43 _) (mR_43_16 _) ?_
    refine go_iloadn_1 iM_hasGain_39 ?_
    refine go_lald iM_hasGain_40 (sh_52 _) rfl (by omega) (by omega) ?_
    try simp (disch := omega) only [am_u_n, am_u_s, am_u_k, hmM, r1, r2, f3]
    first | refine gz_lmul iM_hasGain_41 ?_ | refine go_lmul iM_hasGain_41 ?_
    first | refine gz_ladd iM_hasGain_42 ?_ | refine go_ladd iM_hasGain_42 ?_
    refine go_putL iM_hasGain_43 rfl (sk_43 _) ?_
    first | refine go_iinc_1 iM_hasGain_46 (ni_inc _ 1) (by simp [Value.category, am_U]) ?_ | refine go_iinc_1 iM_hasGain_46 rfl (by simp [Value.category, am_U]) ?_
    refine go_goto iM_hasGain_49 ?_
    refine lo_M_hs hm3 hmM hs hg kq l (i + 1) _ (by omega) ⟨fun a ha => by rw [am_u_r ha]; exact f1 a ha, fun y hy => by rw [am_u_k hy]; exact f2 y hy, by rw [am_u_s]; rfl⟩
theorem ex_M_hasGain (hG : Gm m B T w) (hmM : mI 43 4 = nI m) (htM : mI 43 11 = nI T) (hwh : mL 43 12 = zL B) (hw : ∀ t i, t < T → i < m → mL 50 (3 * t + i) = zL (w t i)) : Ex S 3 tM_hasGain n mI mL [.ref 43] (some (.int (nI (if 0 < Wz m B T w then 1 else 0)))) (fun mI' mL' => mI' = mI ∧ FrM mL mL' ∧ (0 < Wz m B T w → mL' 43 21 = zL (fU (Uz m B T w) (Lz m B T w)) ∧ mL' 43 22 = zL (fL (Uz m B T w) (Lz m B T w)))) := by
  obtain ⟨b1, b2, b3, b4, b5⟩ := hG.pb
  have hW := hG.b
  have hL := hG.l
  have hset := ex_M_settles (S := S) (n := n) hG hmM htM hwh hw
  obtain ⟨h1, hm3, h5, hwB⟩ := hG
  unfold Ex
  show Go _ _ tM_hasGain (_, 0, [.ref 43, am_U, am_U, am_U, am_U, am_U, am_U], []) _
  by_cases c : 0 < Wz m B T w
  · rw [if_pos c] at hset
    rw [if_pos c]
    obtain ⟨l1, l2, l3⟩ := hL c
    refine go_aloadn_0 iM_hasGain_0 rfl ?_
    refine gx_V1 iM_hasGain_1 rfl (by decide) (sk_43 _) rfl (Nat.le_of_ble_eq_true rfl) (Nat.le_of_ble_eq_true rfl) (by decide) hset (fun mI1_ mL1_ h1_ => ?_)
    obtain ⟨e0, e1, e2, e3⟩ := h1_
    subst mI1_
    obtain ⟨s1, s2, s3, s4⟩ := e2
    refine go_if_ne iM_hasGain_4 (fun c_4 => ?_) (fun c_4 => ?_)
    rotate_left
    · (first | omega | exact absurd c_4 (by decide) | (exfalso; simp (disch := omega) only [Int32.lt_iff_toInt_lt, Int32.le_iff_toInt_le, ← Int32.toInt_inj, nI_toInt, i32_m1, i32_0, i32_m20, i32_m40, i32_m30, i32_m9] at *; omega))
    refine go_aloadn_0 iM_hasGain_9 rfl ?_
    refine go_lconst (v := zL 0) iM_hasGain_10 rfl ?_
    refine go_putL iM_hasGain_11 rfl (sk_43 _) ?_
    refine go_iconst (v := nI 0) iM_hasGain_14 rfl ?_
    refine go_istoren_1 iM_hasGain_15 (by simp [Value.category, am_U]) ?_
    refine lo_M_hs (mL0 := mL1_) (q := fun f => nowZ m B w f T) (g := fun f => gZ m B w f T) hm3 hmM s3 s4 (fun mL2 hF2 => ?_) m 0 _ (by omega) ⟨fun a ha => by rw [am_u_r ha], fun y hy => by rw [am_u_k hy], by rw [am_u_s]; rfl⟩
    obtain ⟨k1, k2, k3⟩ := hF2
    have r1 := s2
    rw [← k2 20 (by decide)] at r1
    have r2 := s1
    rw [← k2 14 (by decide)] at r2
    have k4 : mL2 43 21 = zL (Uz m B T w) := k3
    have kk : ∀ v : Int64, v = zL ((Uz m B T w).natAbs : Nat) → Go S 3 tM_hasGain ((am_sh n, mI, am_u mL2 43 22 (zL (Lz m B T w)), am_mR n), 92, [.ref 43, .int (nI m), am_U, am_U, am_U, am_U, am_U], [.long v]) (fun r => ∃ mI' mL', r = (some (.int (nI 1)), (am_sh n, mI', mL', am_mR n)) ∧ (mI' = mI ∧ FrM mL mL' ∧ (0 < Wz m B T w → mL' 43 21 = zL (fU (Uz m B T w) (Lz m B T w)) ∧ mL' 43 22 = zL (fL (Uz m B T w) (Lz m B T w))))) := by
      intro v hv
      subst hv
      refine go_lstoren_1 iM_hasGain_92 (by simp [Value.category, am_U]) ?_
      refine go_aloadn_0 iM_hasGain_93 rfl ?_
      refine go_getL iM_hasGain_94 rfl (sk_43 _) ?_
      try simp (disch := omega) only [am_u_n, am_u_s, am_u_k]
      refine go_lstoren_3 iM_hasGain_97 (by simp [Value.category, am_U]) ?_
      refine go_mono (lo_M_hg (u := Uz m B T w) (l := Lz m B T w) (by omega) l1 (by omega) (by rw [am_u_k (by decide)]; exact k4) am_u_s _ _ _ _ (by omega) (by omega) rfl) (Nat.le_refl _) (fun r hr => ?_)
      refine ⟨_, _, hr, rfl, ⟨fun a a1 a2 a3 a4 a5 a6 => ?_, fun y a1 a2 a3 a4 => ?_⟩, fun _ => ⟨?_, ?_⟩⟩
      · rw [am_u_r a1, am_u_r a1, am_u_r a1, k1 a a1]; exact e1.1 a a1 a2 a3 a4 a5 a6
      · rw [am_u_k a4, am_u_k a3, am_u_k a4, k2 y a3]; exact e1.2 y a1 a2 a3 a4
      · rw [am_u_k (by decide), am_u_s]
      · rw [am_u_s]
    refine go_aloadn_0 iM_hasGain_52 rfl ?_
    refine go_aloadn_0 iM_hasGain_53 rfl ?_
    refine go_getL iM_hasGain_54 rfl (sk_43 _) ?_
    try simp (disch := omega) only [am_u_n, am_u_s, am_u_k, r1, r2, htM, k4]
    refine go_aloadn_0 iM_hasGain_57 rfl ?_
    refine go_getL iM_hasGain_58 rfl (sk_43 _) ?_
    try simp (disch := omega) only [am_u_n, am_u_s, am_u_k, r1, r2, htM, k4]
    first | refine gz_lmul iM_hasGain_61 ?_ | refine go_lmul iM_hasGain_61 ?_
    refine go_aloadn_0 iM_hasGain_62 rfl ?_
    refine go_getI iM_hasGain_63 (Or.inl rfl) (sk_43 _) ?_
    try simp (disch := omega) only [am_u_n, am_u_s, am_u_k, r1, r2, htM, k4]
    first | refine gz_i2l iM_hasGain_66 (by omega) ?_ | refine gz_i2lI iM_hasGain_66 ?_
    first | refine gz_lmul iM_hasGain_67 ?_ | refine go_lmul iM_hasGain_67 ?_
    rw [l3]
    refine go_putL iM_hasGain_68 rfl (sk_43 _) ?_
    refine go_aloadn_0 iM_hasGain_71 rfl ?_
    refine go_getL iM_hasGain_72 rfl (sk_43 _) ?_
    try simp (disch := omega) only [am_u_n, am_u_s, am_u_k, r1, r2, htM, k4]
    refine go_lconst (v := zL 0) iM_hasGain_75 rfl ?_
    refine gz_lc_ge iM_hasGain_76 iM_hasGain_77 (by omega) (by omega) (fun c_76 => ?_) (fun c_76 => ?_)
    · refine go_aloadn_0 iM_hasGain_88 rfl ?_
      refine go_getL iM_hasGain_89 rfl (sk_43 _) ?_
      try simp (disch := omega) only [am_u_n, am_u_s, am_u_k, r1, r2, htM, k4]
      exact kk _ (by congr 1; omega)
    · refine go_aloadn_0 iM_hasGain_80 rfl ?_
      refine go_getL iM_hasGain_81 rfl (sk_43 _) ?_
      try simp (disch := omega) only [am_u_n, am_u_s, am_u_k, r1, r2, htM, k4]
      refine gz_lneg iM_hasGain_84 ?_
      refine go_goto iM_hasGain_85 ?_
      exact kk _ (by congr 1; omega)
  · rw [if_neg c] at hset
    rw [if_neg c]
    refine go_aloadn_0 iM_hasGain_0 rfl ?_
    refine gx_V1 iM_hasGain_1 rfl (by decide) (sk_43 _) rfl (Nat.le_of_ble_eq_true rfl) (Nat.le_of_ble_eq_true rfl) (by decide) hset (fun mI1_ mL1_ h1_ => ?_)
    obtain ⟨e0, e1, e2, e3⟩ := h1_
    subst mI1_
    refine go_if_ne iM_hasGain_4 (fun c_4 => ?_) (fun c_4 => ?_)
    · (first | omega | exact absurd c_4 (by decide) | (exfalso; simp (disch := omega) only [Int32.lt_iff_toInt_lt, Int32.le_iff_toInt_le, ← Int32.toInt_inj, nI_toInt, i32_m1, i32_0, i32_m20, i32_m40, i32_m30, i32_m9] at *; omega))
    refine go_iconst (v := nI 0) iM_hasGain_7 rfl ?_
    refine go_zret iM_hasGain_8 rfl (by first | exact Or.inl rfl | exact Or.inr rfl) ?_
    exact ex_i ⟨rfl, e1, fun q => absurd q c⟩
end MGN
