/-! ===== the reference's setRound ===== -/
def pw (B i : Nat) : Int := ((B ^ i : Nat) : Int)
theorem pw_s (B i : Nat) : pw B (i + 1) = pw B i * (B : Int) := by unfold pw; rw [Nat.pow_succ]; simp
theorem pw_pos {B : Nat} (h : 1 ≤ B) (i : Nat) : 1 ≤ pw B i := by
  have := Nat.pow_pos (n := i) (show 0 < B by omega)
  unfold pw
  omega
theorem pw_le {B i T : Nat} (hB : 1 ≤ B) (hi : i ≤ T) (hS : B ^ T ≤ 20736) : pw B i ≤ 20736 := by
  have := Nat.pow_le_pow_right (n := B) (by omega) hi
  unfold pw
  omega
theorem pw_d {B : Nat} (h : 1 ≤ B) (i : Nat) : pw B (i + 1) / (B : Int) = pw B i := by rw [pw_s, Int.mul_ediv_cancel _ (by omega)]
def SrF (mL0 mL : Nat → Nat → Int64) (B T : Nat) : Prop := (∀ a, a ≠ 43 → a ≠ 51 → a ≠ 52 → a ≠ 53 → a ≠ 54 → mL a = mL0 a) ∧ (∀ y, y ≠ 14 → mL 43 y = mL0 43 y) ∧ mL 43 14 = zL (pw B T)
def SrD (mL : Nat → Nat → Int64) (m B T : Nat) (w : Nat → Nat → Nat) (f : Nat) : Prop := (∀ g x, g < f → x < m → mL 51 (3 * g + x) = zL (nowZ m B w g T x)) ∧ ∀ g, g < f → mL 52 g = zL (gZ m B w g T)
section MSR
variable {S : am_S} {mI : Nat → Nat → Int32} {mL mL0 : Nat → Nat → Int64} {n m B f T : Nat} {w : Nat → Nat → Nat}
theorem lo_M_sr0 {Q : Option Value × am_M → Prop} (hT : T ≤ 4) (htM : mI 43 11 = nI T) (hwh : mL0 43 12 = zL B) (kq : ∀ mL, ((∀ a, a ≠ 43 → mL a = mL0 a) ∧ (∀ y, y ≠ 14 → mL 43 y = mL0 43 y) ∧ mL 43 14 = zL (pw B T)) → Go S 1 tM_setRound ((am_sh n, mI, mL, am_mR n), 34, [.ref 43, .int (nI T), am_U, am_U, am_U], []) Q) : ∀ l i (mL : Nat → Nat → Int64), i + l = T → ((∀ a, a ≠ 43 → mL a = mL0 a) ∧ (∀ y, y ≠ 14 → mL 43 y = mL0 43 y) ∧ mL 43 14 = zL (pw B i)) → Go S 1 tM_setRound ((am_sh n, mI, mL, am_mR n), 7, [.ref 43, .int (nI i), am_U, am_U, am_U], []) Q
  | 0, i, mL, hi, hF => by
    obtain rfl : i = T := by omega
    refine go_iloadn_1 iM_setRound_7 ?_
    refine go_aloadn_0 iM_setRound_8 rfl ?_
    refine go_getI iM_setRound_9 (Or.inl rfl) (sk_43 _) ?_
    try simp (disch := omega) only [am_u_n, am_u_s, am_u_k, htM]
    first | refine gn_ic_ge iM_setRound_12 (by omega) (by omega) (fun c_12 => ?_) (fun c_12 => ?_) | refine go_ic_ge iM_setRound_12 (fun c_12 => ?_) (fun c_12 => ?_)
    rotate_left
    · (first | omega | exact absurd c_12 (by decide) | (exfalso; simp (disch := omega) only [Int32.lt_iff_toInt_lt, Int32.le_iff_toInt_le, ← Int32.toInt_inj, nI_toInt, i32_m1, i32_0, i32_m20, i32_m40, i32_m30, i32_m9] at *; omega))
    exact kq _ hF
  | l + 1, i, mL, hi, hF => by
    obtain ⟨f1, f2, f3⟩ := hF
    have r1 := hwh
    rw [← f2 12 (by decide)] at r1
    refine go_iloadn_1 iM_setRound_7 ?_
    refine go_aloadn_0 iM_setRound_8 rfl ?_
    refine go_getI iM_setRound_9 (Or.inl rfl) (sk_43 _) ?_
    try simp (disch := omega) only [am_u_n, am_u_s, am_u_k, htM, f3, r1]
    first | refine gn_ic_ge iM_setRound_12 (by omega) (by omega) (fun c_12 => ?_) (fun c_12 => ?_) | refine go_ic_ge iM_setRound_12 (fun c_12 => ?_) (fun c_12 => ?_)
    · (first | omega | exact absurd c_12 (by decide) | (exfalso; simp (disch := omega) only [Int32.lt_iff_toInt_lt, Int32.le_iff_toInt_le, ← Int32.toInt_inj, nI_toInt, i32_m1, i32_0, i32_m20, i32_m40, i32_m30, i32_m9] at *; omega))
    refine go_aloadn_0 iM_setRound_15 rfl ?_
    refine go_dup iM_setRound_16 rfl ?_
    refine go_getL iM_setRound_17 rfl (sk_43 _) ?_
    try simp (disch := omega) only [am_u_n, am_u_s, am_u_k, htM, f3, r1]
    refine go_aloadn_0 iM_setRound_20 rfl ?_
    refine go_getL iM_setRound_21 rfl (sk_43 _) ?_
    try simp (disch := omega) only [am_u_n, am_u_s, am_u_k, htM, f3, r1]
    first | refine gz_lmul iM_setRound_24 ?_ | refine go_lmul iM_setRound_24 ?_
    refine go_putL iM_setRound_25 rfl (sk_43 _) ?_
    first | refine go_iinc_1 iM_setRound_28 (ni_inc _ 1) (by simp [Value.category, am_U]) ?_ | refine go_iinc_1 iM_setRound_28 rfl (by simp [Value.category, am_U]) ?_
    refine go_goto iM_setRound_31 ?_
    refine lo_M_sr0 hT htM hwh kq l (i + 1) _ (by omega) ⟨fun a ha => by rw [am_u_r ha]; exact f1 a ha, fun y hy => by rw [am_u_k hy]; exact f2 y hy, by rw [am_u_s, pw_s]⟩
theorem lo_M_sr1 {z : Value} {Q : Option Value × am_M → Prop} (hm3 : m ≤ 3) (hf : f < 3) (hmM : mI 43 4 = nI m) (kq : ∀ mL, ((∀ a, a ≠ 53 → mL a = mL0 a) ∧ ∀ x, x < m → mL 53 x = zL (if x = f then 1 else 0)) → Go S 1 tM_setRound ((am_sh n, mI, mL, am_mR n), 76, [.ref 43, .int (nI f), .int (nI m), am_U, z], []) Q) : ∀ l i (mL : Nat → Nat → Int64), i + l = m → ((∀ a, a ≠ 53 → mL a = mL0 a) ∧ ∀ x, x < i → mL 53 x = zL (if x = f then 1 else 0)) → Go S 1 tM_setRound ((am_sh n, mI, mL, am_mR n), 46, [.ref 43, .int (nI f), .int (nI i), am_U, z], []) Q
  | 0, i, mL, hi, hF => by
    obtain rfl : i = m := by omega
    refine go_iloadn_2 iM_setRound_46 ?_
    refine go_aloadn_0 iM_setRound_47 rfl ?_
    refine go_getI iM_setRound_48 (Or.inl rfl) (sk_43 _) ?_
    try simp (disch := omega) only [am_u_n, am_u_s, am_u_k, hmM]
    first | refine gn_ic_ge iM_setRound_51 (by omega) (by omega) (fun c_51 => ?_) (fun c_51 => ?_) | refine go_ic_ge iM_setRound_51 (fun c_51 => ?_) (fun c_51 => ?_)
    rotate_left
    · (first | omega | exact absurd c_51 (by decide) | (exfalso; simp (disch := omega) only [Int32.lt_iff_toInt_lt, Int32.le_iff_toInt_le, ← Int32.toInt_inj, nI_toInt, i32_m1, i32_0, i32_m20, i32_m40, i32_m30, i32_m9] at *; omega))
    exact kq _ hF
  | l + 1, i, mL, hi, hF => by
    have hA := sh_53 n
    refine go_iloadn_2 iM_setRound_46 ?_
    refine go_aloadn_0 iM_setRound_47 rfl ?_
    refine go_getI iM_setRound_48 (Or.inl rfl) (sk_43 _) ?_
    try simp (disch := omega) only [am_u_n, am_u_s, am_u_k, hmM]
    first | refine gn_ic_ge iM_setRound_51 (by omega) (by omega) (fun c_51 => ?_) (fun c_51 => ?_) | refine go_ic_ge iM_setRound_51 (fun c_51 => ?_) (fun c_51 => ?_)
    · (first | omega | exact absurd c_51 (by decide) | (exfalso; simp (disch := omega) only [Int32.lt_iff_toInt_lt, Int32.le_iff_toInt_le, ← Int32.toInt_inj, nI_toInt, i32_m1, i32_0, i32_m20, i32_m40, i32_m30, i32_m9] at *; omega))
    refine go_aloadn_0 iM_setRound_54 rfl ?_
    refine go_getR iM_setRound_55 rfl (sk_43 _) (mR_43_17 _) ?_
    refine go_iloadn_2 iM_setRound_58 ?_
    refine go_iloadn_2 iM_setRound_59 ?_
    refine go_iloadn_1 iM_setRound_60 ?_
    first | refine gn_ic_ne iM_setRound_61 (by omega) (by omega) (fun c_61 => ?_) (fun c_61 => ?_) | refine go_ic_ne iM_setRound_61 (fun c_61 => ?_) (fun c_61 => ?_)
    · refine go_lconst (v := zL 0) iM_setRound_68 rfl ?_
      refine go_last iM_setRound_69 (by assumption) rfl (by omega) (by omega) ?_
      first | refine go_iinc_2 iM_setRound_70 (ni_inc _ 1) (by simp [Value.category, am_U]) ?_ | refine go_iinc_2 iM_setRound_70 rfl (by simp [Value.category, am_U]) ?_
      refine go_goto iM_setRound_73 ?_
      refine lo_M_sr1 hm3 hf hmM kq l (i + 1) _ (by omega) ⟨fun a ha => by rw [am_u_r ha]; exact hF.1 a ha, fun x hx => ?_⟩
      by_cases e : x = i
      · rw [e, am_u_s]; first | rw [if_pos c_61] | rw [if_neg c_61]
      · rw [am_u_k e]; exact hF.2 x (by omega)
    · refine go_lconst (v := zL 1) iM_setRound_64 rfl ?_
      refine go_goto iM_setRound_65 ?_
      refine go_last iM_setRound_69 (by assumption) rfl (by omega) (by omega) ?_
      first | refine go_iinc_2 iM_setRound_70 (ni_inc _ 1) (by simp [Value.category, am_U]) ?_ | refine go_iinc_2 iM_setRound_70 rfl (by simp [Value.category, am_U]) ?_
      refine go_goto iM_setRound_73 ?_
      refine lo_M_sr1 hm3 hf hmM kq l (i + 1) _ (by omega) ⟨fun a ha => by rw [am_u_r ha]; exact hF.1 a ha, fun x hx => ?_⟩
      by_cases e : x = i
      · rw [e, am_u_s]; first | rw [if_pos c_61] | rw [if_neg c_61]
      · rw [am_u_k e]; exact hF.2 x (by omega)
theorem lo_M_sr2 {Q : Option Value × am_M → Prop} (h1 : 1 ≤ m) (hm3 : m ≤ 3) (hf : f < 3) (hB1 : 1 ≤ B) (hB : B ≤ 144) (hT : T ≤ 4) (hS : B ^ T ≤ 20736) (hmM : mI 43 4 = nI m) (htM : mI 43 11 = nI T) (hwh : mL0 43 12 = zL B) (hw : ∀ t i, t < T → i < m → mL0 50 (3 * t + i) = zL (w t i)) (hwB : ∀ t i, t < T → i < m → w t i ≤ B) (kq : ∀ mL z, (FrT3 mL0 mL ∧ (∀ x, x ≠ f → mL 52 x = mL0 52 x) ∧ mL 52 f = zL (gZ m B w f T) ∧ ∀ x, x < m → mL 53 x = zL (nowZ m B w f T x)) → Go S 1 tM_setRound ((am_sh n, mI, mL, am_mR n), 121, [.ref 43, .int (nI f), z, am_U, .int (nI T)], []) Q) : ∀ l t (mL : Nat → Nat → Int64), t + l = T → (FrT3 mL0 mL ∧ (∀ x, x ≠ f → mL 52 x = mL0 52 x) ∧ mL 52 f = zL (gZ m B w f t * pw B (T - t)) ∧ ∀ x, x < m → mL 53 x = zL (nowZ m B w f t x)) → Go S 1 tM_setRound ((am_sh n, mI, mL, am_mR n), 91, [.ref 43, .int (nI f), .long (zL (pw B (T - t))), am_U, .int (nI t)], []) Q
  | 0, t, mL, hi, hF => by
    obtain rfl : t = T := by omega
    have hF2 := hF
    rw [Nat.sub_self, show pw B 0 = 1 by simp [pw], Int.mul_one] at hF2
    refine go_iload_4 iM_setRound_91 ?_
    refine go_aloadn_0 iM_setRound_93 rfl ?_
    refine go_getI iM_setRound_94 (Or.inl rfl) (sk_43 _) ?_
    try simp (disch := omega) only [am_u_n, am_u_s, am_u_k, htM]
    first | refine gn_ic_ge iM_setRound_97 (by omega) (by omega) (fun c_97 => ?_) (fun c_97 => ?_) | refine go_ic_ge iM_setRound_97 (fun c_97 => ?_) (fun c_97 => ?_)
    rotate_left
    · (first | omega | exact absurd c_97 (by decide) | (exfalso; simp (disch := omega) only [Int32.lt_iff_toInt_lt, Int32.le_iff_toInt_le, ← Int32.toInt_inj, nI_toInt, i32_m1, i32_0, i32_m20, i32_m40, i32_m30, i32_m9] at *; omega))
    exact kq _ _ hF2
  | l + 1, t, mL, hi, hF => by
    obtain ⟨f1, f2, f3, f4⟩ := hF
    obtain ⟨d, hd⟩ : ∃ d, T - t = d + 1 := ⟨T - t - 1, by omega⟩
    have hd2 : T - (t + 1) = d := by omega
    rw [hd] at f3 ⊢
    have r1 := hwh
    rw [← f1 43 (by decide) (by decide) (by decide)] at r1
    have p1 := pw_pos hB1 (d + 1)
    have p2 := pw_le hB1 (show d + 1 ≤ T by omega) hS
    refine go_iload_4 iM_setRound_91 ?_
    refine go_aloadn_0 iM_setRound_93 rfl ?_
    refine go_getI iM_setRound_94 (Or.inl rfl) (sk_43 _) ?_
    try simp (disch := omega) only [am_u_n, am_u_s, am_u_k, htM, r1]
    first | refine gn_ic_ge iM_setRound_97 (by omega) (by omega) (fun c_97 => ?_) (fun c_97 => ?_) | refine go_ic_ge iM_setRound_97 (fun c_97 => ?_) (fun c_97 => ?_)
    · (first | omega | exact absurd c_97 (by decide) | (exfalso; simp (disch := omega) only [Int32.lt_iff_toInt_lt, Int32.le_iff_toInt_le, ← Int32.toInt_inj, nI_toInt, i32_m1, i32_0, i32_m20, i32_m40, i32_m30, i32_m9] at *; omega))
    refine go_lloadn_2 iM_setRound_100 ?_
    refine go_aloadn_0 iM_setRound_101 rfl ?_
    refine go_getL iM_setRound_102 rfl (sk_43 _) ?_
    try simp (disch := omega) only [am_u_n, am_u_s, am_u_k, htM, r1]
    refine gz_ldiv iM_setRound_105 (by omega) (by omega) (by omega) (by omega) ?_
    refine go_lstoren_2 iM_setRound_106 (by simp [Value.category, am_U]) ?_
    rw [pw_d hB1]
    refine go_aloadn_0 iM_setRound_107 rfl ?_
    refine go_iload_4 iM_setRound_108 ?_
    refine go_iloadn_1 iM_setRound_110 ?_
    refine go_lloadn_2 iM_setRound_111 ?_
    refine gx_V0 iM_setRound_112 rfl (by decide) (sk_43 _) rfl (Nat.le_of_ble_eq_true rfl) (Nat.le_of_ble_eq_true rfl) (by decide) (ex_M_turn (w := w t) (v := nowZ m B w f t) h1 hm3 hf (by omega) hB hmM r1 (fun i hi => by rw [f1 50 (by decide) (by decide) (by decide)]; exact hw t i (by omega) hi) (fun i hi => hwB t i (by omega) hi) f4 f3) (fun mI112_ mL112_ h112_ => ?_)
    obtain ⟨e0, e1, e2, e3, e4⟩ := h112_
    subst mI112_
    first | refine go_iinc_4 iM_setRound_115 (ni_inc _ 1) (by simp [Value.category, am_U]) ?_ | refine go_iinc_4 iM_setRound_115 rfl (by simp [Value.category, am_U]) ?_
    refine go_goto iM_setRound_118 ?_
    rw [← hd2]
    refine lo_M_sr2 h1 hm3 hf hB1 hB hT hS hmM htM hwh hw hwB kq l (t + 1) _ (by omega) ⟨fun a a1 a2 a3 => by rw [e1 a a1 a2 a3]; exact f1 a a1 a2 a3, fun x hx => by rw [e2 x hx]; exact f2 x hx, ?_, e4⟩
    rw [e3, hd2, pw_s]
    congr 1
    simp only [gZ]
    grind
theorem lo_M_sr3 {z : Value} {Q : Option Value × am_M → Prop} {u : Nat → Int} (hm3 : m ≤ 3) (hf : f < 3) (hmM : mI 43 4 = nI m) (hu : ∀ x, x < m → mL0 53 x = zL (u x)) (kq : ∀ mL, ((∀ a, a ≠ 51 → mL a = mL0 a) ∧ (∀ y, y < 3 * f → mL 51 y = mL0 51 y) ∧ ∀ x, x < m → mL 51 (3 * f + x) = zL (u x)) → Go S 1 tM_setRound ((am_sh n, mI, mL, am_mR n), 157, [.ref 43, .int (nI f), z, am_U, .int (nI m)], []) Q) : ∀ l i (mL : Nat → Nat → Int64), i + l = m → ((∀ a, a ≠ 51 → mL a = mL0 a) ∧ (∀ y, y < 3 * f → mL 51 y = mL0 51 y) ∧ ∀ x, x < i → mL 51 (3 * f + x) = zL (u x)) → Go S 1 tM_setRound ((am_sh n, mI, mL, am_mR n), 124, [.ref 43, .int (nI f), z, am_U, .int (nI i)], []) Q
  | 0, i, mL, hi, hF => by
    obtain rfl : i = m := by omega
    refine go_iload_4 iM_setRound_124 ?_
    refine go_aloadn_0 iM_setRound_126 rfl ?_
    refine go_getI iM_setRound_127 (Or.inl rfl) (sk_43 _) ?_
    try simp (disch := omega) only [am_u_n, am_u_s, am_u_k, hmM]
    first | refine gn_ic_ge iM_setRound_130 (by omega) (by omega) (fun c_130 => ?_) (fun c_130 => ?_) | refine go_ic_ge iM_setRound_130 (fun c_130 => ?_) (fun c_130 => ?_)
    rotate_left
    · (first | omega | exact absurd c_130 (by decide) | (exfalso; simp (disch := omega) only [Int32.lt_iff_toInt_lt, Int32.le_iff_toInt_le, ← Int32.toInt_inj, nI_toInt, i32_m1, i32_0, i32_m20, i32_m40, i32_m30, i32_m9] at *; omega))
    exact kq _ hF
  | l + 1, i, mL, hi, hF => by
    have r1 := hu i (by omega)
    rw [← hF.1 53 (by decide)] at r1
    refine go_iload_4 iM_setRound_124 ?_
    refine go_aloadn_0 iM_setRound_126 rfl ?_
    refine go_getI iM_setRound_127 (Or.inl rfl) (sk_43 _) ?_
    try simp (disch := omega) only [am_u_n, am_u_s, am_u_k, hmM, r1]
    first | refine gn_ic_ge iM_setRound_130 (by omega) (by omega) (fun c_130 => ?_) (fun c_130 => ?_) | refine go_ic_ge iM_setRound_130 (fun c_130 => ?_) (fun c_130 => ?_)
    · (first | omega | exact absurd c_130 (by decide) | (exfalso; simp (disch := omega) only [Int32.lt_iff_toInt_lt, Int32.le_iff_toInt_le, ← Int32.toInt_inj, nI_toInt, i32_m1, i32_0, i32_m20, i32_m40, i32_m30, i32_m9] at *; omega))
    refine go_aloadn_0 iM_setRound_133 rfl ?_
    refine go_getR iM_setRound_134 rfl (sk_43 _) (mR_43_15 _) ?_
    refine go_iconst (v := nI 3) iM_setRound_137 rfl ?_
    refine go_iloadn_1 iM_setRound_138 ?_
    first | refine gn_imul iM_setRound_139 ?_ | refine go_imul iM_setRound_139 ?_
    refine go_iload_4 iM_setRound_140 ?_
    first | refine gn_iadd iM_setRound_142 ?_ | refine go_iadd iM_setRound_142 ?_
    refine go_aloadn_0 iM_setRound_143 rfl ?_
    refine go_getR iM_setRound_144 rfl (sk_43 _) (mR_43_17 _) ?_
    refine go_iload_4 iM_setRound_147 ?_
    refine go_lald iM_setRound_149 (sh_53 _) rfl (by omega) (by omega) ?_
    try simp (disch := omega) only [am_u_n, am_u_s, am_u_k, hmM, r1]
    refine go_last iM_setRound_150 (sh_51 _) rfl (by omega) (by omega) ?_
    first | refine go_iinc_4 iM_setRound_151 (ni_inc _ 1) (by simp [Value.category, am_U]) ?_ | refine go_iinc_4 iM_setRound_151 rfl (by simp [Value.category, am_U]) ?_
    refine go_goto iM_setRound_154 ?_
    refine lo_M_sr3 hm3 hf hmM hu kq l (i + 1) _ (by omega) ⟨fun a ha => by rw [am_u_r ha]; exact hF.1 a ha, fun y hy => by rw [am_u_k (by omega)]; exact hF.2.1 y hy, fun x hx => ?_⟩
    by_cases e : x = i
    · rw [e, am_u_s]
    · rw [am_u_k (by omega)]; exact hF.2.2 x (by omega)
theorem lo_M_sr4 {Q : Option Value × am_M → Prop} (h1 : 1 ≤ m) (hm3 : m ≤ 3) (hB1 : 1 ≤ B) (hB : B ≤ 144) (hT : T ≤ 4) (hS : B ^ T ≤ 20736) (hmM : mI 43 4 = nI m) (htM : mI 43 11 = nI T) (hwh : mL0 43 12 = zL B) (hw : ∀ t i, t < T → i < m → mL0 50 (3 * t + i) = zL (w t i)) (hwB : ∀ t i, t < T → i < m → w t i ≤ B) (kq : ∀ mL, SrF mL0 mL B T → SrD mL m B T w m → Q (none, (am_sh n, mI, mL, am_mR n))) : ∀ l f (mL : Nat → Nat → Int64) (y z : Value), f + l = m → SrF mL0 mL B T → SrD mL m B T w f → Go S 1 tM_setRound ((am_sh n, mI, mL, am_mR n), 36, [.ref 43, .int (nI f), y, am_U, z], []) Q
  | 0, f, mL, y, z, hi, hF, hD => by
    obtain rfl : f = m := by omega
    refine go_iloadn_1 iM_setRound_36 ?_
    refine go_aloadn_0 iM_setRound_37 rfl ?_
    refine go_getI iM_setRound_38 (Or.inl rfl) (sk_43 _) ?_
    try simp (disch := omega) only [am_u_n, am_u_s, am_u_k, hmM]
    first | refine gn_ic_ge iM_setRound_41 (by omega) (by omega) (fun c_41 => ?_) (fun c_41 => ?_) | refine go_ic_ge iM_setRound_41 (fun c_41 => ?_) (fun c_41 => ?_)
    rotate_left
    · (first | omega | exact absurd c_41 (by decide) | (exfalso; simp (disch := omega) only [Int32.lt_iff_toInt_lt, Int32.le_iff_toInt_le, ← Int32.toInt_inj, nI_toInt, i32_m1, i32_0, i32_m20, i32_m40, i32_m30, i32_m9] at *; omega))
    refine go_vret iM_setRound_163 rfl ?_
    exact kq _ hF hD
  | l + 1, f, mL, y, z, hi, hF, hD => by
    obtain ⟨f1, f2, f3⟩ := hF
    obtain ⟨d1, d2⟩ := hD
    refine go_iloadn_1 iM_setRound_36 ?_
    refine go_aloadn_0 iM_setRound_37 rfl ?_
    refine go_getI iM_setRound_38 (Or.inl rfl) (sk_43 _) ?_
    try simp (disch := omega) only [am_u_n, am_u_s, am_u_k, hmM]
    first | refine gn_ic_ge iM_setRound_41 (by omega) (by omega) (fun c_41 => ?_) (fun c_41 => ?_) | refine go_ic_ge iM_setRound_41 (fun c_41 => ?_) (fun c_41 => ?_)
    · (first | omega | exact absurd c_41 (by decide) | (exfalso; simp (disch := omega) only [Int32.lt_iff_toInt_lt, Int32.le_iff_toInt_le, ← Int32.toInt_inj, nI_toInt, i32_m1, i32_0, i32_m20, i32_m40, i32_m30, i32_m9] at *; omega))
    refine go_iconst (v := nI 0) iM_setRound_44 rfl ?_
    refine go_istoren_2 iM_setRound_45 (by simp [Value.category, am_U]) ?_
    refine lo_M_sr1 (mL0 := mL) hm3 (by omega) hmM (fun mL1 hF1 => ?_) m 0 _ (by omega) ⟨fun a _ => rfl, fun x hx => by omega⟩
    have r1 := f3
    rw [← hF1.1 43 (by decide)] at r1
    refine go_aloadn_0 iM_setRound_76 rfl ?_
    refine go_getL iM_setRound_77 rfl (sk_43 _) ?_
    try simp (disch := omega) only [am_u_n, am_u_s, am_u_k, r1]
    refine go_lstoren_2 iM_setRound_80 (by simp [Value.category, am_U]) ?_
    refine go_aloadn_0 iM_setRound_81 rfl ?_
    refine go_getR iM_setRound_82 rfl (sk_43 _) (mR_43_16 _) ?_
    refine go_iloadn_1 iM_setRound_85 ?_
    refine go_lconst (v := zL 0) iM_setRound_86 rfl ?_
    refine go_last iM_setRound_87 (sh_52 _) rfl (by omega) (by omega) ?_
    refine go_iconst (v := nI 0) iM_setRound_88 rfl ?_
    refine go_istore_4 iM_setRound_89 (by simp [Value.category, am_U]) ?_
    refine lo_M_sr2 (T := T) (B := B) (w := w) (mL0 := am_u mL1 52 f (zL 0)) h1 hm3 (by omega) hB1 hB hT hS hmM htM ?_ (fun t i ht hi => ?_) hwB (fun mL2 z2 hF2 => ?_) T 0 _ (by omega) ⟨fun a _ _ _ => rfl, fun x _ => rfl, ?_, fun x hx => ?_⟩
    · rw [am_u_n (by decide), hF1.1 43 (by decide), f2 12 (by decide)]; exact hwh
    · rw [am_u_n (by decide), hF1.1 50 (by decide), f1 50 (by decide) (by decide) (by decide) (by decide) (by decide)]; exact hw t i ht hi
    rotate_left
    · rw [am_u_s]; congr 1; simp only [gZ, Int.zero_mul]
    · rw [am_u_n (by decide), hF1.2 x hx]; rfl
    obtain ⟨e1, e2, e3, e4⟩ := hF2
    refine go_iconst (v := nI 0) iM_setRound_121 rfl ?_
    refine go_istore_4 iM_setRound_122 (by simp [Value.category, am_U]) ?_
    refine lo_M_sr3 (mL0 := mL2) hm3 (by omega) hmM e4 (fun mL3 hF3 => ?_) m 0 _ (by omega) ⟨fun a _ => rfl, fun _ _ => rfl, fun x hx => by omega⟩
    first | refine go_iinc_1 iM_setRound_157 (ni_inc _ 1) (by simp [Value.category, am_U]) ?_ | refine go_iinc_1 iM_setRound_157 rfl (by simp [Value.category, am_U]) ?_
    refine go_goto iM_setRound_160 ?_
    refine lo_M_sr4 h1 hm3 hB1 hB hT hS hmM htM hwh hw hwB kq l (f + 1) _ _ _ (by omega) ⟨fun a a1 a2 a3 a4 a5 => ?_, fun y hy => ?_, ?_⟩ ⟨fun g x hg hx => ?_, fun g hg => ?_⟩
    · rw [hF3.1 a a2, e1 a a3 a4 a5, am_u_r a3, hF1.1 a a4]; exact f1 a a1 a2 a3 a4 a5
    · rw [hF3.1 43 (by decide), e1 43 (by decide) (by decide) (by decide), am_u_n (by decide), hF1.1 43 (by decide)]; exact f2 y hy
    · rw [hF3.1 43 (by decide), e1 43 (by decide) (by decide) (by decide), am_u_n (by decide), hF1.1 43 (by decide)]; exact f3
    · by_cases e : g = f
      · subst e; exact hF3.2.2 x hx
      · rw [hF3.2.1 _ (by omega), e1 51 (by decide) (by decide) (by decide), am_u_n (by decide), hF1.1 51 (by decide)]; exact d1 g x (by omega) hx
    · rw [hF3.1 52 (by decide)]
      by_cases e : g = f
      · subst e; exact e3
      · rw [e2 g e, am_u_k e, hF1.1 52 (by decide)]; exact d2 g (by omega)
theorem ex_M_setRound (h1 : 1 ≤ m) (hm3 : m ≤ 3) (hB1 : 1 ≤ B) (hB : B ≤ 144) (hT : T ≤ 4) (hS : B ^ T ≤ 20736) (hmM : mI 43 4 = nI m) (htM : mI 43 11 = nI T) (hwh : mL 43 12 = zL B) (hw : ∀ t i, t < T → i < m → mL 50 (3 * t + i) = zL (w t i)) (hwB : ∀ t i, t < T → i < m → w t i ≤ B) : Ex S 1 tM_setRound n mI mL [.ref 43] none (fun mI' mL' => mI' = mI ∧ SrF mL mL' B T ∧ SrD mL' m B T w m) := by
  unfold Ex
  show Go _ _ tM_setRound (_, 0, [.ref 43, am_U, am_U, am_U, am_U], []) _
  refine go_aloadn_0 iM_setRound_0 rfl ?_
  refine go_lconst (v := zL 1) iM_setRound_1 rfl ?_
  refine go_putL iM_setRound_2 rfl (sk_43 _) ?_
  refine go_iconst (v := nI 0) iM_setRound_5 rfl ?_
  refine go_istoren_1 iM_setRound_6 (by simp [Value.category, am_U]) ?_
  refine lo_M_sr0 (mL0 := mL) hT htM hwh (fun mL1 hF1 => ?_) T 0 _ (by omega) ⟨fun a ha => by rw [am_u_r ha], fun y hy => by rw [am_u_k hy], by rw [am_u_s]; rfl⟩
  refine go_iconst (v := nI 0) iM_setRound_34 rfl ?_
  refine go_istoren_1 iM_setRound_35 (by simp [Value.category, am_U]) ?_
  refine lo_M_sr4 (mL0 := mL) h1 hm3 hB1 hB hT hS hmM htM hwh hw hwB (fun mL2 a b => ex_i ⟨rfl, a, b⟩) m 0 _ _ _ (by omega) ⟨fun a a1 _ _ _ _ => hF1.1 a a1, hF1.2.1, hF1.2.2⟩ ⟨fun g x hg hx => by omega, fun g hg => by omega⟩
end MSR
