/-! ===== the reference's search of rows ===== -/
theorem mul_lt_iff {a b k : Int} (hk : 0 < k) : a * k < b * k ↔ a < b := ⟨fun h => Int.lt_of_mul_lt_mul_right h (by omega), fun h => Int.mul_lt_mul_of_pos_right h hk⟩
theorem cmp_red {ub uc : Int} {lb lc : Nat} (hb : 0 < lb) (hc : 0 < lc) : fU ub lb * fL uc lc < fU uc lc * fL ub lb ↔ ub * (lc : Int) < uc * (lb : Int) := by
  have g1 : (0 : Int) < (Nat.gcd ub.natAbs lb : Nat) := by have := Nat.gcd_pos_of_pos_right ub.natAbs hb; omega
  have g2 : (0 : Int) < (Nat.gcd uc.natAbs lc : Nat) := by have := Nat.gcd_pos_of_pos_right uc.natAbs hc; omega
  have e1 := f_mul ub lb
  have e2 := f_lmul ub lb
  have e3 := f_mul uc lc
  have e4 := f_lmul uc lc
  have key : ∀ a b c d g h : Int, 0 < g → 0 < h → (a * d < c * b ↔ (a * g) * (d * h) < (c * h) * (b * g)) := fun a b c d g h hg hh => by
    have x1 : (a * g) * (d * h) = a * d * (g * h) := by grind
    have x2 : (c * h) * (b * g) = c * b * (g * h) := by grind
    rw [x1, x2, mul_lt_iff (Int.mul_pos hg hh)]
  have k := key (fU ub lb) (fL ub lb) (fU uc lc) (fL uc lc) _ _ g1 g2
  rw [e1, e2, e3, e4] at k
  exact k
theorem more_iff {m B T : Nat} {v w : Nat → Nat → Nat} (hv : Gm m B T v) (hw : Gm m B T w) (pv : 0 < Wz m B T v) (pw0 : 0 < Wz m B T w) : fU (Uz m B T v) (Lz m B T v) * fL (Uz m B T w) (Lz m B T w) < fU (Uz m B T w) (Lz m B T w) * fL (Uz m B T v) (Lz m B T v) ↔ Uz m B T v * Wz m B T w < Uz m B T w * Wz m B T v := by
  obtain ⟨a1, a2, a3⟩ := hv.l pv
  obtain ⟨b1, b2, b3⟩ := hw.l pw0
  obtain ⟨c1, c2, c3, c4, c5⟩ := hv.pb
  have p1 := pw_pos c1 T
  have hK : 0 < pw B T * (T : Int) := Int.mul_pos (by omega) (by omega)
  have x1 : ∀ u w K L : Int, u * (w * K * L) = u * w * (K * L) := fun u w K L => by grind
  rw [cmp_red a1 b1, ← a3, ← b3, x1, x1, mul_lt_iff hK]
theorem Gm.f {m B T : Nat} {w : Nat → Nat → Nat} (h : Gm m B T w) (hW : 0 < Wz m B T w) : (0 < fL (Uz m B T w) (Lz m B T w) ∧ fL (Uz m B T w) (Lz m B T w) < 1125899906842624) ∧ -1125899906842624 < fU (Uz m B T w) (Lz m B T w) ∧ fU (Uz m B T w) (Lz m B T w) < 1125899906842624 := by
  obtain ⟨l1, l2, l3⟩ := h.l hW
  have hb := h.b
  have p0 := f_le (Uz m B T w) (Lz m B T w)
  have g0 : 0 < Nat.gcd (Uz m B T w).natAbs (Lz m B T w) := Nat.gcd_pos_of_pos_right _ l1
  have g1 := Nat.gcd_le_right (Uz m B T w).natAbs l1
  have p5 : 0 < Lz m B T w / Nat.gcd (Uz m B T w).natAbs (Lz m B T w) := Nat.div_pos g1 g0
  have p6 : Lz m B T w / Nat.gcd (Uz m B T w).natAbs (Lz m B T w) ≤ Lz m B T w := Nat.div_le_self _ _
  have e : fL (Uz m B T w) (Lz m B T w) = ((Lz m B T w / Nat.gcd (Uz m B T w).natAbs (Lz m B T w) : Nat) : Int) := rfl
  omega
def BsM (U : Nat → Int) (L : Nat → Nat) (N : Nat) (dt : Nat → Nat → Nat) (mI : Nat → Nat → Int32) (mL : Nat → Nat → Int64) (o : Option Nat) : Prop := match o with
  | none => True
  | some b => mL 43 23 = zL (fU (U b) (L b)) ∧ mL 43 24 = zL (fL (U b) (L b)) ∧ ∀ t, t < N → mI 56 t = nI (dt b t)
def anyN (o : Option Nat) : Nat := match o with
  | none => 0
  | some _ => 1
theorem anyN_le (o : Option Nat) : anyN o ≤ 1 := by
  cases o with
  | none => exact Nat.zero_le _
  | some b => exact Nat.le_refl _
theorem BsM.of {U : Nat → Int} {L : Nat → Nat} {N : Nat} {dt : Nat → Nat → Nat} {mI mI' : Nat → Nat → Int32} {mL mL' : Nat → Nat → Int64} {o : Option Nat} (h : BsM U L N dt mI mL o) (h1 : mI' 56 = mI 56) (h2 : mL' 43 23 = mL 43 23) (h3 : mL' 43 24 = mL 43 24) : BsM U L N dt mI' mL' o := by
  cases o with
  | none => exact trivial
  | some b =>
    obtain ⟨a1, a2, a3⟩ := h
    exact ⟨by rw [h2]; exact a1, by rw [h3]; exact a2, fun t ht => by rw [h1]; exact a3 t ht⟩
def srN (o : Nat → Nat → Nat) (m k N : Nat) : Nat → Nat := fun c => Lz m 12 N (wD o k N c)
def SrM (o : Nat → Nat → Nat) (m k N : Nat) (mI : Nat → Nat → Int32) (mL : Nat → Nat → Int64) (b : Option Nat) : Prop := BsM (srU o m k N) (srN o m k N) N (dg k N) mI mL b
theorem pow_bd {n N : Nat} (h8 : n ≤ 8) (hN : N ≤ 4) : n ^ N ≤ 4096 := by
  have a := Nat.pow_le_pow_left h8 N
  have b := Nat.pow_le_pow_right (n := 8) (by omega) hN
  omega
section MBR
variable {S : am_S} {mI mI1 : Nat → Nat → Int32} {mL mL1 : Nat → Nat → Int64} {n m N c : Nat} {o : Nat → Nat → Nat} {kd : Nat → Nat} {x2 x4 : Int32}
theorem lo_M_brA (h8 : n ≤ 8) (hN : N ≤ 4) (hcM : mI 43 5 = nI n) {y1 y2 y3 y4 y5 : Value} {Q : Option Value × am_M → Prop} (kq : Go S 4 tM_bestRow ((am_sh n, mI, mL, am_mR n), 42, [.ref 43, .int (nI N), .int x2, .int (nI (n ^ N)), .int (nI N), y1, y2, y3, y4, y5], []) Q) : ∀ l i, i + l = N → Go S 4 tM_bestRow ((am_sh n, mI, mL, am_mR n), 23, [.ref 43, .int (nI N), .int x2, .int (nI (n ^ i)), .int (nI i), y1, y2, y3, y4, y5], []) Q
  | 0, i, hi => by
    obtain rfl : i = N := by omega
    refine go_iload_4 iM_bestRow_23 ?_
    refine go_iloadn_1 iM_bestRow_25 ?_
    first | refine gn_ic_ge iM_bestRow_26 (by omega) (by omega) (fun c_26 => ?_) (fun c_26 => ?_) | refine go_ic_ge iM_bestRow_26 (fun c_26 => ?_) (fun c_26 => ?_)
    rotate_left
    · (first | omega | exact absurd c_26 (by decide) | (exfalso; simp (disch := omega) only [Int32.lt_iff_toInt_lt, Int32.le_iff_toInt_le, ← Int32.toInt_inj, nI_toInt, i32_m1, i32_0, i32_m20, i32_m40, i32_m30, i32_m9] at *; omega))
    exact kq
  | l + 1, i, hi => by
    refine go_iload_4 iM_bestRow_23 ?_
    refine go_iloadn_1 iM_bestRow_25 ?_
    first | refine gn_ic_ge iM_bestRow_26 (by omega) (by omega) (fun c_26 => ?_) (fun c_26 => ?_) | refine go_ic_ge iM_bestRow_26 (fun c_26 => ?_) (fun c_26 => ?_)
    · (first | omega | exact absurd c_26 (by decide) | (exfalso; simp (disch := omega) only [Int32.lt_iff_toInt_lt, Int32.le_iff_toInt_le, ← Int32.toInt_inj, nI_toInt, i32_m1, i32_0, i32_m20, i32_m40, i32_m30, i32_m9] at *; omega))
    refine go_iloadn_3 iM_bestRow_29 ?_
    refine go_aloadn_0 iM_bestRow_30 rfl ?_
    refine go_getI iM_bestRow_31 (Or.inl rfl) (sk_43 _) ?_
    try simp (disch := omega) only [am_u_n, am_u_s, am_u_k, hcM]
    first | refine gn_imul iM_bestRow_34 ?_ | refine go_imul iM_bestRow_34 ?_
    refine go_istoren_3 iM_bestRow_35 (by simp [Value.category, am_U]) ?_
    first | refine go_iinc_4 iM_bestRow_36 (ni_inc _ 1) (by simp [Value.category, am_U]) ?_ | refine go_iinc_4 iM_bestRow_36 rfl (by simp [Value.category, am_U]) ?_
    refine go_goto iM_bestRow_39 ?_
    rw [show n ^ i * n = n ^ (i + 1) from rfl]
    exact lo_M_brA h8 hN hcM kq l (i + 1) (by omega)
def BrC (mI1 mI : Nat → Nat → Int32) (mL1 mL : Nat → Nat → Int64) (n N c : Nat) (o : Nat → Nat → Nat) (t : Nat) : Prop := (∀ a, a ≠ 49 → mI a = mI1 a) ∧ (∀ a, a ≠ 50 → mL a = mL1 a) ∧ (∀ s, s < t → mI 49 s = nI (dg n N c s)) ∧ ∀ s i, s < t → i < 3 → mL 50 (3 * s + i) = zL (o (dg n N c s) i)
theorem lo_M_brC (hn : 0 < n) (h8 : n ≤ 8) (hN : N ≤ 4) (hcM : mI1 43 5 = nI n) (hpl : ∀ p, p < n → PlR mI1 p) (hod : odN mI1 = o) (hkd : kdN mI1 = kd) {Q : Option Value × am_M → Prop} (kq : ∀ mI' mL', BrC mI1 mI' mL1 mL' n N c o N → Go S 4 tM_bestRow ((am_sh n, mI', mL', am_mR n), 160, [.ref 43, .int (nI N), .int x2, .int (nI (n ^ N)), .int x4, .int (nI c), .int (nI (c % n ^ (N - N))), .int (nI (n ^ (N - N))), .int (nI (if gdR kd n N c N = true then 1 else 0)), .int (nI N)], []) Q) : ∀ l t (mI' : Nat → Nat → Int32) (mL' : Nat → Nat → Int64), t + l = N → BrC mI1 mI' mL1 mL' n N c o t → Go S 4 tM_bestRow ((am_sh n, mI', mL', am_mR n), 79, [.ref 43, .int (nI N), .int x2, .int (nI (n ^ N)), .int x4, .int (nI c), .int (nI (c % n ^ (N - t))), .int (nI (n ^ (N - t))), .int (nI (if gdR kd n N c t = true then 1 else 0)), .int (nI t)], []) Q
  | 0, t, mI', mL', hi, hF => by
    obtain rfl : t = N := by omega
    refine go_iload_9 iM_bestRow_79 ?_
    refine go_iloadn_1 iM_bestRow_81 ?_
    first | refine gn_ic_ge iM_bestRow_82 (by omega) (by omega) (fun c_82 => ?_) (fun c_82 => ?_) | refine go_ic_ge iM_bestRow_82 (fun c_82 => ?_) (fun c_82 => ?_)
    rotate_left
    · (first | omega | exact absurd c_82 (by decide) | (exfalso; simp (disch := omega) only [Int32.lt_iff_toInt_lt, Int32.le_iff_toInt_le, ← Int32.toInt_inj, nI_toInt, i32_m1, i32_0, i32_m20, i32_m40, i32_m30, i32_m9] at *; omega))
    exact kq _ _ hF
  | l + 1, t, mI', mL', hi, hF => by
    obtain ⟨f1, f2, f3, f4⟩ := hF
    have hpn := dg_lt (d := N) (P := c) (t := t) hn
    obtain ⟨k0, hk0, _, hkM, _⟩ := hpl _ hpn
    have hkk := kdN_of hkM hk0
    rw [hkd] at hkk
    have ho := odN_ok (hpl _ hpn)
    rw [hod] at ho
    have q1 := hcM
    rw [← f1 43 (by decide)] at q1
    rw [← f1 45 (by decide)] at hkM
    obtain ⟨e, he⟩ : ∃ e, N - t = e + 1 := ⟨N - t - 1, by omega⟩
    have he2 : N - (t + 1) = e := by omega
    have hb1 := pow_bd h8 (show e + 1 ≤ 4 by omega)
    have hb2 := pow_bd h8 (show e ≤ 4 by omega)
    have hb3 : 0 < n ^ e := Nat.pow_pos hn
    have hb4 : c % n ^ (e + 1) < n ^ (e + 1) := Nat.mod_lt _ (Nat.pow_pos hn)
    have v1 : n ^ (e + 1) / n = n ^ e := by rw [Nat.pow_succ, Nat.mul_div_cancel _ hn]
    have v2 : c % n ^ (e + 1) / n ^ e = dg n N c t := by
      rw [Nat.pow_succ, Nat.mod_mul_right_div_self]
      unfold dg
      rw [show N - 1 - t = e by omega]
    have v3 : c % n ^ (e + 1) % n ^ e = c % n ^ e := Nat.mod_mod_of_dvd c ⟨n, rfl⟩
    have hA := sh_49 n
    have hA2 := sh_45 n
    have nx : ∀ (mL2 : Nat → Nat → Int64) (g : Nat), g = (if gdR kd n N c (t + 1) = true then 1 else 0) → (∀ a, a ≠ 50 → mL2 a = mL' a) → (∀ y, y < 3 * t → mL2 50 y = mL' 50 y) → (∀ i, i < 3 → mL2 50 (3 * t + i) = zL (o (dg n N c t) i)) → Go S 4 tM_bestRow ((am_sh n, am_u mI' 49 t (nI (dg n N c t)), mL2, am_mR n), 79, [.ref 43, .int (nI N), .int x2, .int (nI (n ^ N)), .int x4, .int (nI c), .int (nI (c % n ^ e)), .int (nI (n ^ e)), .int (nI g), .int (nI (t + 1))], []) Q := by
      intro mL2 g hg e1 e2 e3
      have hI : BrC mI1 (am_u mI' 49 t (nI (dg n N c t))) mL1 mL2 n N c o (t + 1) := by
        refine ⟨fun a ha => by rw [am_u_r ha]; exact f1 a ha, fun a ha => by rw [e1 a ha]; exact f2 a ha, fun s hs => ?_, fun s i hs hj => ?_⟩
        · by_cases q : s = t
          · rw [q, am_u_s]
          · rw [am_u_k q]; exact f3 s (by omega)
        · by_cases q : s = t
          · rw [q]; exact e3 i hj
          · rw [e2 _ (by omega)]; exact f4 s i (by omega) hj
      have h := lo_M_brC hn h8 hN hcM hpl hod hkd kq l (t + 1) _ _ (by omega) hI
      rw [he2, ← hg] at h
      exact h
    have hst : ∀ mL2 : Nat → Nat → Int64, _ := fun mL2 => ex_M_setTurn (S := S) (n := n) (mI := am_u mI' 49 t (nI (dg n N c t))) (mL := mL2) (t := t) (p := dg n N c t) (o := o (dg n N c t)) (by omega) (by omega) (fun i hi => by rw [am_u_n (by decide), f1 46 (by decide)]; exact ho.2 i hi) (fun i hi => (ho.1 i (by omega)).2)
    rw [he]
    by_cases g1 : gdR kd n N c t = true
    · rw [if_pos g1]
      by_cases g2 : k0 = 2
      · refine go_iload_9 iM_bestRow_79 ?_
        refine go_iloadn_1 iM_bestRow_81 ?_
        first | refine gn_ic_ge iM_bestRow_82 (by omega) (by omega) (fun c_82 => ?_) (fun c_82 => ?_) | refine go_ic_ge iM_bestRow_82 (fun c_82 => ?_) (fun c_82 => ?_)
        · (first | omega | exact absurd c_82 (by decide) | (exfalso; simp (disch := omega) only [Int32.lt_iff_toInt_lt, Int32.le_iff_toInt_le, ← Int32.toInt_inj, nI_toInt, i32_m1, i32_0, i32_m20, i32_m40, i32_m30, i32_m9] at *; omega))
        refine go_iload_7 iM_bestRow_85 ?_
        refine go_aloadn_0 iM_bestRow_87 rfl ?_
        refine go_getI iM_bestRow_88 (Or.inl rfl) (sk_43 _) ?_
        try simp (disch := omega) only [am_u_n, am_u_s, am_u_k, q1, hkM]
        refine gn_idiv iM_bestRow_91 (by omega) (by omega) (by omega) ?_
        rw [v1]
        refine go_istore_7 iM_bestRow_92 (by simp [Value.category, am_U]) ?_
        refine go_aloadn_0 iM_bestRow_94 rfl ?_
        refine go_getR iM_bestRow_95 rfl (sk_43 _) (mR_43_10 _) ?_
        refine go_iload_9 iM_bestRow_98 ?_
        refine go_iload_6 iM_bestRow_100 ?_
        refine go_iload_7 iM_bestRow_102 ?_
        refine gn_idiv iM_bestRow_104 (by omega) (by omega) (by omega) ?_
        rw [v2]
        refine go_iast iM_bestRow_105 (by assumption) rfl (by omega) (by omega) ?_
        refine go_iload_6 iM_bestRow_106 ?_
        refine go_iload_7 iM_bestRow_108 ?_
        refine gn_irem iM_bestRow_110 (by omega) (by omega) (by omega) ?_
        rw [v3]
        refine go_istore_6 iM_bestRow_111 (by simp [Value.category, am_U]) ?_
        refine go_iload_8 iM_bestRow_113 ?_
        refine go_if_eq iM_bestRow_115 (fun c_115 => ?_) (fun c_115 => ?_)
        · (first | omega | exact absurd c_115 (by decide) | (exfalso; simp (disch := omega) only [Int32.lt_iff_toInt_lt, Int32.le_iff_toInt_le, ← Int32.toInt_inj, nI_toInt, i32_m1, i32_0, i32_m20, i32_m40, i32_m30, i32_m9] at *; omega))
        refine go_aloadn_0 iM_bestRow_118 rfl ?_
        refine go_getR iM_bestRow_119 rfl (sk_43 _) (mR_43_6 _) ?_
        refine go_aloadn_0 iM_bestRow_122 rfl ?_
        refine go_getR iM_bestRow_123 rfl (sk_43 _) (mR_43_10 _) ?_
        refine go_iload_9 iM_bestRow_126 ?_
        refine go_iald iM_bestRow_128 (sh_49 _) rfl (by omega) (by omega) ?_
        try simp (disch := omega) only [am_u_n, am_u_s, am_u_k, q1, hkM]
        refine go_iald iM_bestRow_129 (sh_45 _) rfl (by omega) (by omega) ?_
        try simp (disch := omega) only [am_u_n, am_u_s, am_u_k, q1, hkM]
        refine go_iconst (v := nI 2) iM_bestRow_130 rfl ?_
        first | refine gn_ic_eq iM_bestRow_131 (by omega) (by omega) (fun c_131 => ?_) (fun c_131 => ?_) | refine go_ic_eq iM_bestRow_131 (fun c_131 => ?_) (fun c_131 => ?_)
        rotate_left
        · (first | omega | exact absurd c_131 (by decide) | (exfalso; simp (disch := omega) only [Int32.lt_iff_toInt_lt, Int32.le_iff_toInt_le, ← Int32.toInt_inj, nI_toInt, i32_m1, i32_0, i32_m20, i32_m40, i32_m30, i32_m9] at *; omega))
        refine go_iconst (v := nI 0) iM_bestRow_138 rfl ?_
        refine go_istore_8 iM_bestRow_139 (by simp [Value.category, am_U]) ?_
        refine go_aloadn_0 iM_bestRow_141 rfl ?_
        refine go_iload_9 iM_bestRow_142 ?_
        refine go_aloadn_0 iM_bestRow_144 rfl ?_
        refine go_getR iM_bestRow_145 rfl (sk_43 _) (mR_43_10 _) ?_
        refine go_iload_9 iM_bestRow_148 ?_
        refine go_iald iM_bestRow_150 (sh_49 _) rfl (by omega) (by omega) ?_
        try simp (disch := omega) only [am_u_n, am_u_s, am_u_k, q1, hkM]
        refine gx_V0 iM_bestRow_151 rfl (by decide) (sk_43 _) rfl (Nat.le_of_ble_eq_true rfl) (Nat.le_of_ble_eq_true rfl) (by decide) (hst _) (fun mI151_ mL151_ h151_ => ?_)
        obtain ⟨z0, z1, z2, z3⟩ := h151_
        subst mI151_
        first | refine go_iinc_9 iM_bestRow_154 (ni_inc _ 1) (by simp [Value.category, am_U]) ?_ | refine go_iinc_9 iM_bestRow_154 rfl (by simp [Value.category, am_U]) ?_
        refine go_goto iM_bestRow_157 ?_
        exact nx _ 0 (by show 0 = (if (gdR kd n N c t && decide (kd (dg n N c t) ≠ 2)) = true then 1 else 0); rw [hkk, g2]; simp) z1 z2 z3
      · refine go_iload_9 iM_bestRow_79 ?_
        refine go_iloadn_1 iM_bestRow_81 ?_
        first | refine gn_ic_ge iM_bestRow_82 (by omega) (by omega) (fun c_82 => ?_) (fun c_82 => ?_) | refine go_ic_ge iM_bestRow_82 (fun c_82 => ?_) (fun c_82 => ?_)
        · (first | omega | exact absurd c_82 (by decide) | (exfalso; simp (disch := omega) only [Int32.lt_iff_toInt_lt, Int32.le_iff_toInt_le, ← Int32.toInt_inj, nI_toInt, i32_m1, i32_0, i32_m20, i32_m40, i32_m30, i32_m9] at *; omega))
        refine go_iload_7 iM_bestRow_85 ?_
        refine go_aloadn_0 iM_bestRow_87 rfl ?_
        refine go_getI iM_bestRow_88 (Or.inl rfl) (sk_43 _) ?_
        try simp (disch := omega) only [am_u_n, am_u_s, am_u_k, q1, hkM]
        refine gn_idiv iM_bestRow_91 (by omega) (by omega) (by omega) ?_
        rw [v1]
        refine go_istore_7 iM_bestRow_92 (by simp [Value.category, am_U]) ?_
        refine go_aloadn_0 iM_bestRow_94 rfl ?_
        refine go_getR iM_bestRow_95 rfl (sk_43 _) (mR_43_10 _) ?_
        refine go_iload_9 iM_bestRow_98 ?_
        refine go_iload_6 iM_bestRow_100 ?_
        refine go_iload_7 iM_bestRow_102 ?_
        refine gn_idiv iM_bestRow_104 (by omega) (by omega) (by omega) ?_
        rw [v2]
        refine go_iast iM_bestRow_105 (by assumption) rfl (by omega) (by omega) ?_
        refine go_iload_6 iM_bestRow_106 ?_
        refine go_iload_7 iM_bestRow_108 ?_
        refine gn_irem iM_bestRow_110 (by omega) (by omega) (by omega) ?_
        rw [v3]
        refine go_istore_6 iM_bestRow_111 (by simp [Value.category, am_U]) ?_
        refine go_iload_8 iM_bestRow_113 ?_
        refine go_if_eq iM_bestRow_115 (fun c_115 => ?_) (fun c_115 => ?_)
        · (first | omega | exact absurd c_115 (by decide) | (exfalso; simp (disch := omega) only [Int32.lt_iff_toInt_lt, Int32.le_iff_toInt_le, ← Int32.toInt_inj, nI_toInt, i32_m1, i32_0, i32_m20, i32_m40, i32_m30, i32_m9] at *; omega))
        refine go_aloadn_0 iM_bestRow_118 rfl ?_
        refine go_getR iM_bestRow_119 rfl (sk_43 _) (mR_43_6 _) ?_
        refine go_aloadn_0 iM_bestRow_122 rfl ?_
        refine go_getR iM_bestRow_123 rfl (sk_43 _) (mR_43_10 _) ?_
        refine go_iload_9 iM_bestRow_126 ?_
        refine go_iald iM_bestRow_128 (sh_49 _) rfl (by omega) (by omega) ?_
        try simp (disch := omega) only [am_u_n, am_u_s, am_u_k, q1, hkM]
        refine go_iald iM_bestRow_129 (sh_45 _) rfl (by omega) (by omega) ?_
        try simp (disch := omega) only [am_u_n, am_u_s, am_u_k, q1, hkM]
        refine go_iconst (v := nI 2) iM_bestRow_130 rfl ?_
        first | refine gn_ic_eq iM_bestRow_131 (by omega) (by omega) (fun c_131 => ?_) (fun c_131 => ?_) | refine go_ic_eq iM_bestRow_131 (fun c_131 => ?_) (fun c_131 => ?_)
        · (first | omega | exact absurd c_131 (by decide) | (exfalso; simp (disch := omega) only [Int32.lt_iff_toInt_lt, Int32.le_iff_toInt_le, ← Int32.toInt_inj, nI_toInt, i32_m1, i32_0, i32_m20, i32_m40, i32_m30, i32_m9] at *; omega))
        refine go_iconst (v := nI 1) iM_bestRow_134 rfl ?_
        refine go_goto iM_bestRow_135 ?_
        refine go_istore_8 iM_bestRow_139 (by simp [Value.category, am_U]) ?_
        refine go_aloadn_0 iM_bestRow_141 rfl ?_
        refine go_iload_9 iM_bestRow_142 ?_
        refine go_aloadn_0 iM_bestRow_144 rfl ?_
        refine go_getR iM_bestRow_145 rfl (sk_43 _) (mR_43_10 _) ?_
        refine go_iload_9 iM_bestRow_148 ?_
        refine go_iald iM_bestRow_150 (sh_49 _) rfl (by omega) (by omega) ?_
        try simp (disch := omega) only [am_u_n, am_u_s, am_u_k, q1, hkM]
        refine gx_V0 iM_bestRow_151 rfl (by decide) (sk_43 _) rfl (Nat.le_of_ble_eq_true rfl) (Nat.le_of_ble_eq_true rfl) (by decide) (hst _) (fun mI151_ mL151_ h151_ => ?_)
        obtain ⟨z0, z1, z2, z3⟩ := h151_
        subst mI151_
        first | refine go_iinc_9 iM_bestRow_154 (ni_inc _ 1) (by simp [Value.category, am_U]) ?_ | refine go_iinc_9 iM_bestRow_154 rfl (by simp [Value.category, am_U]) ?_
        refine go_goto iM_bestRow_157 ?_
        exact nx _ 1 (by show 1 = (if (gdR kd n N c t && decide (kd (dg n N c t) ≠ 2)) = true then 1 else 0); rw [hkk, g1]; simp [g2]) z1 z2 z3
    · rw [if_neg g1]
      refine go_iload_9 iM_bestRow_79 ?_
      refine go_iloadn_1 iM_bestRow_81 ?_
      first | refine gn_ic_ge iM_bestRow_82 (by omega) (by omega) (fun c_82 => ?_) (fun c_82 => ?_) | refine go_ic_ge iM_bestRow_82 (fun c_82 => ?_) (fun c_82 => ?_)
      · (first | omega | exact absurd c_82 (by decide) | (exfalso; simp (disch := omega) only [Int32.lt_iff_toInt_lt, Int32.le_iff_toInt_le, ← Int32.toInt_inj, nI_toInt, i32_m1, i32_0, i32_m20, i32_m40, i32_m30, i32_m9] at *; omega))
      refine go_iload_7 iM_bestRow_85 ?_
      refine go_aloadn_0 iM_bestRow_87 rfl ?_
      refine go_getI iM_bestRow_88 (Or.inl rfl) (sk_43 _) ?_
      try simp (disch := omega) only [am_u_n, am_u_s, am_u_k, q1, hkM]
      refine gn_idiv iM_bestRow_91 (by omega) (by omega) (by omega) ?_
      rw [v1]
      refine go_istore_7 iM_bestRow_92 (by simp [Value.category, am_U]) ?_
      refine go_aloadn_0 iM_bestRow_94 rfl ?_
      refine go_getR iM_bestRow_95 rfl (sk_43 _) (mR_43_10 _) ?_
      refine go_iload_9 iM_bestRow_98 ?_
      refine go_iload_6 iM_bestRow_100 ?_
      refine go_iload_7 iM_bestRow_102 ?_
      refine gn_idiv iM_bestRow_104 (by omega) (by omega) (by omega) ?_
      rw [v2]
      refine go_iast iM_bestRow_105 (by assumption) rfl (by omega) (by omega) ?_
      refine go_iload_6 iM_bestRow_106 ?_
      refine go_iload_7 iM_bestRow_108 ?_
      refine gn_irem iM_bestRow_110 (by omega) (by omega) (by omega) ?_
      rw [v3]
      refine go_istore_6 iM_bestRow_111 (by simp [Value.category, am_U]) ?_
      refine go_iload_8 iM_bestRow_113 ?_
      refine go_if_eq iM_bestRow_115 (fun c_115 => ?_) (fun c_115 => ?_)
      rotate_left
      · (first | omega | exact absurd c_115 (by decide) | (exfalso; simp (disch := omega) only [Int32.lt_iff_toInt_lt, Int32.le_iff_toInt_le, ← Int32.toInt_inj, nI_toInt, i32_m1, i32_0, i32_m20, i32_m40, i32_m30, i32_m9] at *; omega))
      refine go_iconst (v := nI 0) iM_bestRow_138 rfl ?_
      refine go_istore_8 iM_bestRow_139 (by simp [Value.category, am_U]) ?_
      refine go_aloadn_0 iM_bestRow_141 rfl ?_
      refine go_iload_9 iM_bestRow_142 ?_
      refine go_aloadn_0 iM_bestRow_144 rfl ?_
      refine go_getR iM_bestRow_145 rfl (sk_43 _) (mR_43_10 _) ?_
      refine go_iload_9 iM_bestRow_148 ?_
      refine go_iald iM_bestRow_150 (sh_49 _) rfl (by omega) (by omega) ?_
      try simp (disch := omega) only [am_u_n, am_u_s, am_u_k, q1, hkM]
      refine gx_V0 iM_bestRow_151 rfl (by decide) (sk_43 _) rfl (Nat.le_of_ble_eq_true rfl) (Nat.le_of_ble_eq_true rfl) (by decide) (hst _) (fun mI151_ mL151_ h151_ => ?_)
      obtain ⟨z0, z1, z2, z3⟩ := h151_
      subst mI151_
      first | refine go_iinc_9 iM_bestRow_154 (ni_inc _ 1) (by simp [Value.category, am_U]) ?_ | refine go_iinc_9 iM_bestRow_154 rfl (by simp [Value.category, am_U]) ?_
      refine go_goto iM_bestRow_157 ?_
      exact nx _ 0 (by show 0 = (if (gdR kd n N c t && decide (kd (dg n N c t) ≠ 2)) = true then 1 else 0); rw [Bool.not_eq_true] at g1; rw [g1]; simp) z1 z2 z3
theorem lo_M_brD {f : Nat → Nat} (hN : N ≤ 4) (hf : ∀ s, s < N → mI1 49 s = nI (f s)) {x3 x5 x6 x7 x8 : Int32} {Q : Option Value × am_M → Prop} (kq : ∀ mI', ((∀ a, a ≠ 56 → mI' a = mI1 a) ∧ ∀ s, s < N → mI' 56 s = nI (f s)) → Go S 4 tM_bestRow ((am_sh n, mI', mL, am_mR n), 232, [.ref 43, .int (nI N), .int x2, .int x3, .int x4, .int x5, .int x6, .int x7, .int x8, .int (nI N)], []) Q) : ∀ l t (mI' : Nat → Nat → Int32), t + l = N → ((∀ a, a ≠ 56 → mI' a = mI1 a) ∧ ∀ s, s < t → mI' 56 s = nI (f s)) → Go S 4 tM_bestRow ((am_sh n, mI', mL, am_mR n), 206, [.ref 43, .int (nI N), .int x2, .int x3, .int x4, .int x5, .int x6, .int x7, .int x8, .int (nI t)], []) Q
  | 0, t, mI', hi, hF => by
    obtain rfl : t = N := by omega
    refine go_iload_9 iM_bestRow_206 ?_
    refine go_iloadn_1 iM_bestRow_208 ?_
    first | refine gn_ic_ge iM_bestRow_209 (by omega) (by omega) (fun c_209 => ?_) (fun c_209 => ?_) | refine go_ic_ge iM_bestRow_209 (fun c_209 => ?_) (fun c_209 => ?_)
    rotate_left
    · (first | omega | exact absurd c_209 (by decide) | (exfalso; simp (disch := omega) only [Int32.lt_iff_toInt_lt, Int32.le_iff_toInt_le, ← Int32.toInt_inj, nI_toInt, i32_m1, i32_0, i32_m20, i32_m40, i32_m30, i32_m9] at *; omega))
    exact kq _ hF
  | l + 1, t, mI', hi, hF => by
    have r1 := hf t (by omega)
    rw [← hF.1 49 (by decide)] at r1
    refine go_iload_9 iM_bestRow_206 ?_
    refine go_iloadn_1 iM_bestRow_208 ?_
    first | refine gn_ic_ge iM_bestRow_209 (by omega) (by omega) (fun c_209 => ?_) (fun c_209 => ?_) | refine go_ic_ge iM_bestRow_209 (fun c_209 => ?_) (fun c_209 => ?_)
    · (first | omega | exact absurd c_209 (by decide) | (exfalso; simp (disch := omega) only [Int32.lt_iff_toInt_lt, Int32.le_iff_toInt_le, ← Int32.toInt_inj, nI_toInt, i32_m1, i32_0, i32_m20, i32_m40, i32_m30, i32_m9] at *; omega))
    refine go_aloadn_0 iM_bestRow_212 rfl ?_
    refine go_getR iM_bestRow_213 rfl (sk_43 _) (mR_43_25 _) ?_
    refine go_iload_9 iM_bestRow_216 ?_
    refine go_aloadn_0 iM_bestRow_218 rfl ?_
    refine go_getR iM_bestRow_219 rfl (sk_43 _) (mR_43_10 _) ?_
    refine go_iload_9 iM_bestRow_222 ?_
    refine go_iald iM_bestRow_224 (sh_49 _) rfl (by omega) (by omega) ?_
    try simp (disch := omega) only [am_u_n, am_u_s, am_u_k, r1]
    refine go_iast iM_bestRow_225 (sh_56 _) rfl (by omega) (by omega) ?_
    first | refine go_iinc_9 iM_bestRow_226 (ni_inc _ 1) (by simp [Value.category, am_U]) ?_ | refine go_iinc_9 iM_bestRow_226 rfl (by simp [Value.category, am_U]) ?_
    refine go_goto iM_bestRow_229 ?_
    refine lo_M_brD hN hf kq l (t + 1) _ (by omega) ⟨fun a ha => by rw [am_u_r ha]; exact hF.1 a ha, fun s hs => ?_⟩
    by_cases q : s = t
    · rw [q, am_u_s]
    · rw [am_u_k q]; exact hF.2 s (by omega)
end MBR
