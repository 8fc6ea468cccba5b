/-! ===== copy ===== -/
theorem i32_sub (a b : Int32) (h1 : -2147483648 ≤ a.toInt - b.toInt) (h2 : a.toInt - b.toInt < 2147483648) : (a - b).toInt = a.toInt - b.toInt := by
  rw [Int32.toInt_sub]
  exact Int.bmod_eq_of_le (by omega) (by omega)
theorem i32_hi (a : Int32) : a.toInt < 2147483648 := by have := Int32.toInt_lt a; omega
theorem i32_lo (a : Int32) : -2147483648 ≤ a.toInt := by have := Int32.le_toInt a; omega
theorem l_add (x y : Int32) : (x.toInt64 + y.toInt64).toInt = x.toInt + y.toInt := by
  have h1 := i32_hi x
  have h2 := i32_lo x
  have h3 := i32_hi y
  have h4 := i32_lo y
  rw [Int64.toInt_add, Int32.toInt_toInt64, Int32.toInt_toInt64]
  exact Int.bmod_eq_of_le (by omega) (by omega)
section CPY
variable {S : am_S} {mI : Nat → Nat → Int32} {mL : Nat → Nat → Int64} {n : Nat} {r : Nat}
theorem sp_W_holds_t {s i z : Nat} (hr : r < 4) (hs : mI (15 + 2 * r) 0 = nI s) (h4 : s ≤ 4) (hi : i + z ≤ s) : Sp S 0 tW_holds (am_sh n, mI, mL, am_mR n) [.ref (15 + 2 * r), .int (nI i), .int (nI z)] (fun q => q = (some (.int (nI 1)), (am_sh n, mI, mL, am_mR n))) := by
  have hk := sk_row n hr
  show Go _ _ tW_holds (_, 0, [.ref (15 + 2 * r), .int (nI i), .int (nI z)], []) _
  refine go_iloadn_1 iW_holds_0 ?_
  refine go_if_lt iW_holds_1 (fun c_1 => ?_) (fun c_1 => ?_)
  · (first | omega | exact absurd c_1 (by decide) | (exfalso; simp (disch := omega) only [Int32.lt_iff_toInt_lt, Int32.le_iff_toInt_le, ← Int32.toInt_inj, nI_toInt, i32_m1, i32_0, i32_m20, i32_m40, i32_m30, i32_m9] at *; omega))
  refine go_iloadn_1 iW_holds_4 ?_
  refine go_aloadn_0 iW_holds_5 rfl ?_
  refine go_getI iW_holds_6 (Or.inl rfl) (by assumption) ?_
  try simp (disch := omega) only [am_u_n, am_u_s, am_u_k, hs]
  refine go_iloadn_2 iW_holds_9 ?_
  first | refine gn_isub iW_holds_10 (by omega) ?_ | refine go_isub iW_holds_10 ?_
  first | refine gn_ic_gt iW_holds_11 (by omega) (by omega) (fun c_11 => ?_) (fun c_11 => ?_) | refine go_ic_gt iW_holds_11 (fun c_11 => ?_) (fun c_11 => ?_)
  · (first | omega | exact absurd c_11 (by decide) | (exfalso; simp (disch := omega) only [Int32.lt_iff_toInt_lt, Int32.le_iff_toInt_le, ← Int32.toInt_inj, nI_toInt, i32_m1, i32_0, i32_m20, i32_m40, i32_m30, i32_m9] at *; omega))
  refine go_iconst (v := nI 1) iW_holds_14 rfl ?_
  refine go_goto iW_holds_15 ?_
  refine go_zret iW_holds_19 rfl (by first | exact Or.inl rfl | exact Or.inr rfl) ?_
  rfl
theorem sp_W_holds_f {s : Nat} {x y : Int32} (hr : r < 4) (hs : mI (15 + 2 * r) 0 = nI s) (h4 : s ≤ 4) (hy : 0 ≤ y.toInt) (hi : x.toInt < 0 ∨ (s : Int) < x.toInt + y.toInt) : Sp S 0 tW_holds (am_sh n, mI, mL, am_mR n) [.ref (15 + 2 * r), .int x, .int y] (fun q => q = (some (.int (nI 0)), (am_sh n, mI, mL, am_mR n))) := by
  have hk := sk_row n hr
  have hyh := i32_hi y
  have hsn : (nI s).toInt = s := nI_toInt (by omega)
  have hsub : (nI s - y).toInt = (s : Int) - y.toInt := by rw [i32_sub _ _ (by omega) (by omega), hsn]
  show Go _ _ tW_holds (_, 0, [.ref (15 + 2 * r), .int x, .int y], []) _
  refine go_iloadn_1 iW_holds_0 ?_
  refine go_if_lt iW_holds_1 (fun c_1 => ?_) (fun c_1 => ?_)
  · refine go_iconst (v := nI 0) iW_holds_18 rfl ?_
    refine go_zret iW_holds_19 rfl (by first | exact Or.inl rfl | exact Or.inr rfl) ?_
    first | rfl | omega | (exfalso; simp (disch := omega) only [Int32.lt_iff_toInt_lt, Int32.le_iff_toInt_le, Int32.not_lt, Int32.not_le, ← Int32.toInt_inj, nI_toInt, i32_m1, i32_0, i32_m20, i32_m40, i32_m30, i32_m9] at *; omega)
  · refine go_iloadn_1 iW_holds_4 ?_
    refine go_aloadn_0 iW_holds_5 rfl ?_
    refine go_getI iW_holds_6 (Or.inl rfl) (by assumption) ?_
    try simp (disch := omega) only [am_u_n, am_u_s, am_u_k, hs]
    refine go_iloadn_2 iW_holds_9 ?_
    refine go_isub iW_holds_10 ?_
    first | refine gn_ic_gt iW_holds_11 (by omega) (by omega) (fun c_11 => ?_) (fun c_11 => ?_) | refine go_ic_gt iW_holds_11 (fun c_11 => ?_) (fun c_11 => ?_)
    · refine go_iconst (v := nI 0) iW_holds_18 rfl ?_
      refine go_zret iW_holds_19 rfl (by first | exact Or.inl rfl | exact Or.inr rfl) ?_
      first | rfl | omega | (exfalso; simp (disch := omega) only [Int32.lt_iff_toInt_lt, Int32.le_iff_toInt_le, Int32.not_lt, Int32.not_le, ← Int32.toInt_inj, nI_toInt, i32_m1, i32_0, i32_m20, i32_m40, i32_m30, i32_m9] at *; omega)
    · refine go_iconst (v := nI 1) iW_holds_14 rfl ?_
      refine go_goto iW_holds_15 ?_
      refine go_zret iW_holds_19 rfl (by first | exact Or.inl rfl | exact Or.inr rfl) ?_
      first | rfl | omega | (exfalso; simp (disch := omega) only [Int32.lt_iff_toInt_lt, Int32.le_iff_toInt_le, Int32.not_lt, Int32.not_le, ← Int32.toInt_inj, nI_toInt, i32_m1, i32_0, i32_m20, i32_m40, i32_m30, i32_m9] at *; omega)
/-- the reference's first loop: k places are moved -/
def mvF (g f : Nat → Int32) (c k : Nat) : Nat → Int32 := fun z => if z < k then f (c + z) else g z
theorem mvF_s (g f : Nat → Int32) (c k : Nat) : va_up (mvF g f c k) k (f (c + k)) = mvF g f c (k + 1) := by
  funext z
  unfold va_up mvF
  by_cases h : z = k
  · subst h
    rw [if_pos rfl, if_pos (by omega)]
  · rw [if_neg h]
    by_cases h2 : z < k
    · rw [if_pos h2, if_pos (by omega)]
    · rw [if_neg h2, if_neg (by omega)]
/-- the second: they come to c on -/
def cmF (f g : Nat → Int32) (c k : Nat) : Nat → Int32 := fun z => if c ≤ z ∧ z < c + k then g (z - c) else f z
theorem cmF_s (f g : Nat → Int32) (c k : Nat) : va_up (cmF f g c k) (c + k) (g k) = cmF f g c (k + 1) := by
  funext z
  unfold va_up cmF
  by_cases h : z = c + k
  · subst h
    rw [if_pos rfl, if_pos (by omega), show c + k - c = k by omega]
  · rw [if_neg h]
    by_cases h2 : c ≤ z ∧ z < c + k
    · rw [if_pos h2, if_pos (by omega)]
    · rw [if_neg h2, if_neg (by omega)]
theorem lo_M_copy1 {r' i j z : Nat} (hr : r < 4) (hr' : r' < 4) (hi : i + z ≤ 4) (hj : j + z ≤ 4) {Q : Option Value × am_M → Prop} (kq : Go S 2 tM_copy ((am_sh n, va_up mI 49 (mvF (mI 49) (mI 48) (4 * r + i) z), mL, am_mR n), 137, [.ref 43, .int (nI r), .int (nI i), .int (nI r'), .int (nI j), .int (nI z), .int (nI z)], []) Q) : ∀ k c, c + k = z → Go S 2 tM_copy ((am_sh n, va_up mI 49 (mvF (mI 49) (mI 48) (4 * r + i) c), mL, am_mR n), 104, [.ref 43, .int (nI r), .int (nI i), .int (nI r'), .int (nI j), .int (nI z), .int (nI c)], []) Q
  | 0, c, hc => by
    obtain rfl : c = z := by omega
    refine go_iload_6 iM_copy_104 ?_
    refine go_iload_5 iM_copy_106 ?_
    first | refine gn_ic_ge iM_copy_108 (by omega) (by omega) (fun c_108 => ?_) (fun c_108 => ?_) | refine go_ic_ge iM_copy_108 (fun c_108 => ?_) (fun c_108 => ?_)
    rotate_left
    · (first | omega | exact absurd c_108 (by decide) | (exfalso; simp (disch := omega) only [Int32.lt_iff_toInt_lt, Int32.le_iff_toInt_le, ← Int32.toInt_inj, nI_toInt, i32_m1, i32_0, i32_m20, i32_m40, i32_m30, i32_m9] at *; omega))
    exact kq
  | k + 1, c, hc => by
    have hA := sh_49 n
    have h48 : va_up mI 49 (mvF (mI 49) (mI 48) (4 * r + i) c) 48 = mI 48 := va_up_ne _ _ (by decide)
    refine go_iload_6 iM_copy_104 ?_
    refine go_iload_5 iM_copy_106 ?_
    first | refine gn_ic_ge iM_copy_108 (by omega) (by omega) (fun c_108 => ?_) (fun c_108 => ?_) | refine go_ic_ge iM_copy_108 (fun c_108 => ?_) (fun c_108 => ?_)
    · (first | omega | exact absurd c_108 (by decide) | (exfalso; simp (disch := omega) only [Int32.lt_iff_toInt_lt, Int32.le_iff_toInt_le, ← Int32.toInt_inj, nI_toInt, i32_m1, i32_0, i32_m20, i32_m40, i32_m30, i32_m9] at *; omega))
    refine go_aloadn_0 iM_copy_111 rfl ?_
    refine go_getR iM_copy_112 rfl (sk_43 _) (mR_43_10 _) ?_
    refine go_iload_6 iM_copy_115 ?_
    refine go_aloadn_0 iM_copy_117 rfl ?_
    refine go_getR iM_copy_118 rfl (sk_43 _) (mR_43_9 _) ?_
    refine go_iconst (v := nI 4) iM_copy_121 rfl ?_
    refine go_iloadn_1 iM_copy_122 ?_
    first | refine gn_imul iM_copy_123 ?_ | refine go_imul iM_copy_123 ?_
    refine go_iloadn_2 iM_copy_124 ?_
    first | refine gn_iadd iM_copy_125 ?_ | refine go_iadd iM_copy_125 ?_
    refine go_iload_6 iM_copy_126 ?_
    first | refine gn_iadd iM_copy_128 ?_ | refine go_iadd iM_copy_128 ?_
    refine go_iald iM_copy_129 (sh_48 _) rfl (by omega) (by omega) ?_
    rw [h48]
    refine go_iast iM_copy_130 (by assumption) rfl (by omega) (by omega) ?_
    first | refine go_iinc_6 iM_copy_131 (ni_inc _ 1) (by simp [Value.category, am_U]) ?_ | refine go_iinc_6 iM_copy_131 rfl (by simp [Value.category, am_U]) ?_
    refine go_goto iM_copy_134 ?_
    rw [am_u_up, mvF_s]
    exact lo_M_copy1 hr hr' hi hj kq k (c + 1) (by omega)
theorem lo_M_copy2 {r' i j z : Nat} (hr : r < 4) (hr' : r' < 4) (hi : i + z ≤ 4) (hj : j + z ≤ 4) : ∀ k c, c + k = z → Go S 2 tM_copy ((am_sh n, va_up mI 48 (cmF (mI 48) (mI 49) (4 * r' + j) c), mL, am_mR n), 140, [.ref 43, .int (nI r), .int (nI i), .int (nI r'), .int (nI j), .int (nI z), .int (nI c)], []) (fun q => q = (some (.int (nI 1)), (am_sh n, va_up mI 48 (cmF (mI 48) (mI 49) (4 * r' + j) z), mL, am_mR n)))
  | 0, c, hc => by
    obtain rfl : c = z := by omega
    refine go_iload_6 iM_copy_140 ?_
    refine go_iload_5 iM_copy_142 ?_
    first | refine gn_ic_ge iM_copy_144 (by omega) (by omega) (fun c_144 => ?_) (fun c_144 => ?_) | refine go_ic_ge iM_copy_144 (fun c_144 => ?_) (fun c_144 => ?_)
    rotate_left
    · (first | omega | exact absurd c_144 (by decide) | (exfalso; simp (disch := omega) only [Int32.lt_iff_toInt_lt, Int32.le_iff_toInt_le, ← Int32.toInt_inj, nI_toInt, i32_m1, i32_0, i32_m20, i32_m40, i32_m30, i32_m9] at *; omega))
    refine go_iconst (v := nI 1) iM_copy_174 rfl ?_
    refine go_iret iM_copy_175 rfl ?_
    rfl
  | k + 1, c, hc => by
    have hA := sh_48 n
    have h49 : va_up mI 48 (cmF (mI 48) (mI 49) (4 * r' + j) c) 49 = mI 49 := va_up_ne _ _ (by decide)
    refine go_iload_6 iM_copy_140 ?_
    refine go_iload_5 iM_copy_142 ?_
    first | refine gn_ic_ge iM_copy_144 (by omega) (by omega) (fun c_144 => ?_) (fun c_144 => ?_) | refine go_ic_ge iM_copy_144 (fun c_144 => ?_) (fun c_144 => ?_)
    · (first | omega | exact absurd c_144 (by decide) | (exfalso; simp (disch := omega) only [Int32.lt_iff_toInt_lt, Int32.le_iff_toInt_le, ← Int32.toInt_inj, nI_toInt, i32_m1, i32_0, i32_m20, i32_m40, i32_m30, i32_m9] at *; omega))
    refine go_aloadn_0 iM_copy_147 rfl ?_
    refine go_getR iM_copy_148 rfl (sk_43 _) (mR_43_9 _) ?_
    refine go_iconst (v := nI 4) iM_copy_151 rfl ?_
    refine go_iloadn_3 iM_copy_152 ?_
    first | refine gn_imul iM_copy_153 ?_ | refine go_imul iM_copy_153 ?_
    refine go_iload_4 iM_copy_154 ?_
    first | refine gn_iadd iM_copy_156 ?_ | refine go_iadd iM_copy_156 ?_
    refine go_iload_6 iM_copy_157 ?_
    first | refine gn_iadd iM_copy_159 ?_ | refine go_iadd iM_copy_159 ?_
    refine go_aloadn_0 iM_copy_160 rfl ?_
    refine go_getR iM_copy_161 rfl (sk_43 _) (mR_43_10 _) ?_
    refine go_iload_6 iM_copy_164 ?_
    refine go_iald iM_copy_166 (sh_49 _) rfl (by omega) (by omega) ?_
    rw [h49]
    refine go_iast iM_copy_167 (by assumption) rfl (by omega) (by omega) ?_
    first | refine go_iinc_6 iM_copy_168 (ni_inc _ 1) (by simp [Value.category, am_U]) ?_ | refine go_iinc_6 iM_copy_168 rfl (by simp [Value.category, am_U]) ?_
    refine go_goto iM_copy_171 ?_
    rw [am_u_up, cmF_s]
    exact lo_M_copy2 hr hr' hi hj k (c + 1) (by omega)
theorem pr_copy (x y x' y' z : Int32) (hR : Rel n mI mL) : Pair S tT_copy tM_copy [.int x, .int y, .int x', .int y', .int z] n mI mL := by
  have hR' := hR
  obtain ⟨h8, ⟨m, hm1, hm3, hmT, hmM⟩, hcT, hcM, hpl, hro, hfi, hfs, hu, hl, hch⟩ := hR
  rcases row_cases x with ⟨r, hr, rfl⟩ | hx
  · rcases row_cases x' with ⟨r', hr', rfl⟩ | hx'
    · have hk := sk_row n hr
      have hk' := sk_row n hr'
      obtain ⟨g1, g2, g3, g4⟩ := sh_row n hr
      obtain ⟨g1', g2', g3', g4'⟩ := sh_row n hr'
      obtain ⟨hsz, hpc⟩ := hro r hr
      obtain ⟨hsz', hpc'⟩ := hro r' hr'
      by_cases hz : z.toInt < 0
      · refine Pair.refuse (h1 := 2) (h2 := 2) (f := 5) hR' (by decide) ?_ ?_
        · show Go _ _ tT_copy (_, 0, [.ref 0, .int (nI r), .int y, .int (nI r'), .int y', .int z, am_U, am_U], []) _
          refine go_aloadn_0 iT_copy_0 rfl ?_
          refine go_iloadn_1 iT_copy_1 ?_
          refine gc_V1 iT_copy_2 rfl (by decide) (sk_0 _) rfl (Nat.le_of_ble_eq_true rfl) (Nat.le_of_ble_eq_true rfl) (by decide) (sp_T_rowAt_t hr) ?_
          refine go_astore_6 iT_copy_5 rfl (by simp [Value.category, am_U]) ?_
          refine go_aloadn_0 iT_copy_7 rfl ?_
          refine go_iloadn_3 iT_copy_8 ?_
          refine gc_V1 iT_copy_9 rfl (by decide) (sk_0 _) rfl (Nat.le_of_ble_eq_true rfl) (Nat.le_of_ble_eq_true rfl) (by decide) (sp_T_rowAt_t hr') ?_
          refine go_astore_7 iT_copy_12 rfl (by simp [Value.category, am_U]) ?_
          refine go_aload_6 iT_copy_14 rfl ?_
          refine go_nulR iT_copy_16 ?_
          refine go_aload_7 iT_copy_19 rfl ?_
          refine go_nnulR iT_copy_21 ?_
          refine go_iload_5 iT_copy_26 ?_
          refine go_if_ge iT_copy_28 (fun c_28 => ?_) (fun c_28 => ?_)
          · (first | omega | exact absurd c_28 (by decide) | (exfalso; simp (disch := omega) only [Int32.lt_iff_toInt_lt, Int32.le_iff_toInt_le, ← Int32.toInt_inj, nI_toInt, i32_m1, i32_0, i32_m20, i32_m40, i32_m30, i32_m9] at *; omega))
          refine go_aloadn_0 iT_copy_31 rfl ?_
          refine go_iconst (v := nI 5) iT_copy_32 rfl ?_
          refine gc_V1 iT_copy_33 rfl (by decide) (sk_0 _) rfl (Nat.le_of_ble_eq_true rfl) (Nat.le_of_ble_eq_true rfl) (by decide) (sp_T_refuse (by decide)) ?_
          refine go_iret iT_copy_36 rfl ?_
          rfl
        · show Go _ _ tM_copy (_, 0, [.ref 43, .int (nI r), .int y, .int (nI r'), .int y', .int z, am_U], []) _
          refine go_iloadn_1 iM_copy_0 ?_
          refine gc_S1 iM_copy_1 (by decide) rfl rfl (Nat.le_of_ble_eq_true rfl) (Nat.le_of_ble_eq_true rfl) (by decide) (sp_M_isRow_t hr) ?_
          refine go_if_eq iM_copy_4 (fun c_4 => ?_) (fun c_4 => ?_)
          · (first | omega | exact absurd c_4 (by decide) | (exfalso; simp (disch := omega) only [Int32.lt_iff_toInt_lt, Int32.le_iff_toInt_le, ← Int32.toInt_inj, nI_toInt, i32_m1, i32_0, i32_m20, i32_m40, i32_m30, i32_m9] at *; omega))
          refine go_iloadn_3 iM_copy_7 ?_
          refine gc_S1 iM_copy_8 (by decide) rfl rfl (Nat.le_of_ble_eq_true rfl) (Nat.le_of_ble_eq_true rfl) (by decide) (sp_M_isRow_t hr') ?_
          refine go_if_ne iM_copy_11 (fun c_11 => ?_) (fun c_11 => ?_)
          rotate_left
          · (first | omega | exact absurd c_11 (by decide) | (exfalso; simp (disch := omega) only [Int32.lt_iff_toInt_lt, Int32.le_iff_toInt_le, ← Int32.toInt_inj, nI_toInt, i32_m1, i32_0, i32_m20, i32_m40, i32_m30, i32_m9] at *; omega))
          refine go_iload_5 iM_copy_16 ?_
          refine go_if_ge iM_copy_18 (fun c_18 => ?_) (fun c_18 => ?_)
          · (first | omega | exact absurd c_18 (by decide) | (exfalso; simp (disch := omega) only [Int32.lt_iff_toInt_lt, Int32.le_iff_toInt_le, ← Int32.toInt_inj, nI_toInt, i32_m1, i32_0, i32_m20, i32_m40, i32_m30, i32_m9] at *; omega))
          refine go_aloadn_0 iM_copy_21 rfl ?_
          refine go_iconst (v := nI 5) iM_copy_22 rfl ?_
          refine gc_V1 iM_copy_23 rfl (by decide) (sk_43 _) rfl (Nat.le_of_ble_eq_true rfl) (Nat.le_of_ble_eq_true rfl) (by decide) (sp_M_meets (by decide)) ?_
          refine go_iret iM_copy_26 rfl ?_
          rfl
      · rcases hsz with ⟨s1, s2⟩ | ⟨s, hs4, s1, s2⟩
        · have s2' : rfI mI 1 47 r = -9 := by rw [rfI_r (by decide) (by decide)]; exact s2
          refine Pair.refuse (h1 := 2) (h2 := 2) (f := 1) hR' (by decide) ?_ ?_
          · show Go _ _ tT_copy (_, 0, [.ref 0, .int (nI r), .int y, .int (nI r'), .int y', .int z, am_U, am_U], []) _
            refine go_aloadn_0 iT_copy_0 rfl ?_
            refine go_iloadn_1 iT_copy_1 ?_
            refine gc_V1 iT_copy_2 rfl (by decide) (sk_0 _) rfl (Nat.le_of_ble_eq_true rfl) (Nat.le_of_ble_eq_true rfl) (by decide) (sp_T_rowAt_t hr) ?_
            refine go_astore_6 iT_copy_5 rfl (by simp [Value.category, am_U]) ?_
            refine go_aloadn_0 iT_copy_7 rfl ?_
            refine go_iloadn_3 iT_copy_8 ?_
            refine gc_V1 iT_copy_9 rfl (by decide) (sk_0 _) rfl (Nat.le_of_ble_eq_true rfl) (Nat.le_of_ble_eq_true rfl) (by decide) (sp_T_rowAt_t hr') ?_
            refine go_astore_7 iT_copy_12 rfl (by simp [Value.category, am_U]) ?_
            refine go_aload_6 iT_copy_14 rfl ?_
            refine go_nulR iT_copy_16 ?_
            refine go_aload_7 iT_copy_19 rfl ?_
            refine go_nnulR iT_copy_21 ?_
            refine go_iload_5 iT_copy_26 ?_
            refine go_if_ge iT_copy_28 (fun c_28 => ?_) (fun c_28 => ?_)
            rotate_left
            · (first | omega | exact absurd c_28 (by decide) | (exfalso; simp (disch := omega) only [Int32.lt_iff_toInt_lt, Int32.le_iff_toInt_le, ← Int32.toInt_inj, nI_toInt, i32_m1, i32_0, i32_m20, i32_m40, i32_m30, i32_m9] at *; omega))
            refine go_aload_6 iT_copy_37 rfl ?_
            refine gc_V1 iT_copy_39 rfl (by decide) (by assumption) rfl (Nat.le_of_ble_eq_true rfl) (Nat.le_of_ble_eq_true rfl) (by decide) (sp_W_isMissing_t hr s1) ?_
            refine go_if_ne iT_copy_42 (fun c_42 => ?_) (fun c_42 => ?_)
            rotate_left
            · (first | omega | exact absurd c_42 (by decide) | (exfalso; simp (disch := omega) only [Int32.lt_iff_toInt_lt, Int32.le_iff_toInt_le, ← Int32.toInt_inj, nI_toInt, i32_m1, i32_0, i32_m20, i32_m40, i32_m30, i32_m9] at *; omega))
            refine go_aloadn_0 iT_copy_53 rfl ?_
            refine go_iconst (v := nI 1) iT_copy_54 rfl ?_
            refine gc_V1 iT_copy_55 rfl (by decide) (sk_0 _) rfl (Nat.le_of_ble_eq_true rfl) (Nat.le_of_ble_eq_true rfl) (by decide) (sp_T_refuse (by decide)) ?_
            refine go_iret iT_copy_58 rfl ?_
            rfl
          · show Go _ _ tM_copy (_, 0, [.ref 43, .int (nI r), .int y, .int (nI r'), .int y', .int z, am_U], []) _
            refine go_iloadn_1 iM_copy_0 ?_
            refine gc_S1 iM_copy_1 (by decide) rfl rfl (Nat.le_of_ble_eq_true rfl) (Nat.le_of_ble_eq_true rfl) (by decide) (sp_M_isRow_t hr) ?_
            refine go_if_eq iM_copy_4 (fun c_4 => ?_) (fun c_4 => ?_)
            · (first | omega | exact absurd c_4 (by decide) | (exfalso; simp (disch := omega) only [Int32.lt_iff_toInt_lt, Int32.le_iff_toInt_le, ← Int32.toInt_inj, nI_toInt, i32_m1, i32_0, i32_m20, i32_m40, i32_m30, i32_m9] at *; omega))
            refine go_iloadn_3 iM_copy_7 ?_
            refine gc_S1 iM_copy_8 (by decide) rfl rfl (Nat.le_of_ble_eq_true rfl) (Nat.le_of_ble_eq_true rfl) (by decide) (sp_M_isRow_t hr') ?_
            refine go_if_ne iM_copy_11 (fun c_11 => ?_) (fun c_11 => ?_)
            rotate_left
            · (first | omega | exact absurd c_11 (by decide) | (exfalso; simp (disch := omega) only [Int32.lt_iff_toInt_lt, Int32.le_iff_toInt_le, ← Int32.toInt_inj, nI_toInt, i32_m1, i32_0, i32_m20, i32_m40, i32_m30, i32_m9] at *; omega))
            refine go_iload_5 iM_copy_16 ?_
            refine go_if_ge iM_copy_18 (fun c_18 => ?_) (fun c_18 => ?_)
            rotate_left
            · (first | omega | exact absurd c_18 (by decide) | (exfalso; simp (disch := omega) only [Int32.lt_iff_toInt_lt, Int32.le_iff_toInt_le, ← Int32.toInt_inj, nI_toInt, i32_m1, i32_0, i32_m20, i32_m40, i32_m30, i32_m9] at *; omega))
            refine go_aloadn_0 iM_copy_27 rfl ?_
            refine go_getR iM_copy_28 rfl (sk_43 _) (mR_43_8 _) ?_
            refine go_iloadn_1 iM_copy_31 ?_
            refine go_iald iM_copy_32 (sh_47 _) rfl (by omega) (by omega) ?_
            try simp (disch := omega) only [am_u_n, am_u_s, am_u_k, s2']
            refine go_if_lt iM_copy_33 (fun c_33 => ?_) (fun c_33 => ?_)
            rotate_left
            · (first | omega | exact absurd c_33 (by decide) | (exfalso; simp (disch := omega) only [Int32.lt_iff_toInt_lt, Int32.le_iff_toInt_le, ← Int32.toInt_inj, nI_toInt, i32_m1, i32_0, i32_m20, i32_m40, i32_m30, i32_m9] at *; omega))
            refine go_aloadn_0 iM_copy_45 rfl ?_
            refine go_iconst (v := nI 1) iM_copy_46 rfl ?_
            refine gc_V1 iM_copy_47 rfl (by decide) (sk_43 _) rfl (Nat.le_of_ble_eq_true rfl) (Nat.le_of_ble_eq_true rfl) (by decide) (sp_M_meets (by decide)) ?_
            refine go_iret iM_copy_50 rfl ?_
            rfl
        · rcases hsz' with ⟨s1', s2'⟩ | ⟨s', hs4', s1', s2'⟩
          · have t2 : rfI mI 1 47 r = nI s := by rw [rfI_r (by decide) (by decide)]; exact s2
            have t2' : rfI mI 1 47 r' = -9 := by rw [rfI_r (by decide) (by decide)]; exact s2'
            refine Pair.refuse (h1 := 2) (h2 := 2) (f := 1) hR' (by decide) ?_ ?_
            · show Go _ _ tT_copy (_, 0, [.ref 0, .int (nI r), .int y, .int (nI r'), .int y', .int z, am_U, am_U], []) _
              refine go_aloadn_0 iT_copy_0 rfl ?_
              refine go_iloadn_1 iT_copy_1 ?_
              refine gc_V1 iT_copy_2 rfl (by decide) (sk_0 _) rfl (Nat.le_of_ble_eq_true rfl) (Nat.le_of_ble_eq_true rfl) (by decide) (sp_T_rowAt_t hr) ?_
              refine go_astore_6 iT_copy_5 rfl (by simp [Value.category, am_U]) ?_
              refine go_aloadn_0 iT_copy_7 rfl ?_
              refine go_iloadn_3 iT_copy_8 ?_
              refine gc_V1 iT_copy_9 rfl (by decide) (sk_0 _) rfl (Nat.le_of_ble_eq_true rfl) (Nat.le_of_ble_eq_true rfl) (by decide) (sp_T_rowAt_t hr') ?_
              refine go_astore_7 iT_copy_12 rfl (by simp [Value.category, am_U]) ?_
              refine go_aload_6 iT_copy_14 rfl ?_
              refine go_nulR iT_copy_16 ?_
              refine go_aload_7 iT_copy_19 rfl ?_
              refine go_nnulR iT_copy_21 ?_
              refine go_iload_5 iT_copy_26 ?_
              refine go_if_ge iT_copy_28 (fun c_28 => ?_) (fun c_28 => ?_)
              rotate_left
              · (first | omega | exact absurd c_28 (by decide) | (exfalso; simp (disch := omega) only [Int32.lt_iff_toInt_lt, Int32.le_iff_toInt_le, ← Int32.toInt_inj, nI_toInt, i32_m1, i32_0, i32_m20, i32_m40, i32_m30, i32_m9] at *; omega))
              refine go_aload_6 iT_copy_37 rfl ?_
              refine gc_V1 iT_copy_39 rfl (by decide) (by assumption) rfl (Nat.le_of_ble_eq_true rfl) (Nat.le_of_ble_eq_true rfl) (by decide) (sp_W_isMissing_f hr s1 hs4) ?_
              refine go_if_ne iT_copy_42 (fun c_42 => ?_) (fun c_42 => ?_)
              · (first | omega | exact absurd c_42 (by decide) | (exfalso; simp (disch := omega) only [Int32.lt_iff_toInt_lt, Int32.le_iff_toInt_le, ← Int32.toInt_inj, nI_toInt, i32_m1, i32_0, i32_m20, i32_m40, i32_m30, i32_m9] at *; omega))
              refine go_aload_7 iT_copy_45 rfl ?_
              refine gc_V1 iT_copy_47 rfl (by decide) (by assumption) rfl (Nat.le_of_ble_eq_true rfl) (Nat.le_of_ble_eq_true rfl) (by decide) (sp_W_isMissing_t hr' s1') ?_
              refine go_if_eq iT_copy_50 (fun c_50 => ?_) (fun c_50 => ?_)
              · (first | omega | exact absurd c_50 (by decide) | (exfalso; simp (disch := omega) only [Int32.lt_iff_toInt_lt, Int32.le_iff_toInt_le, ← Int32.toInt_inj, nI_toInt, i32_m1, i32_0, i32_m20, i32_m40, i32_m30, i32_m9] at *; omega))
              refine go_aloadn_0 iT_copy_53 rfl ?_
              refine go_iconst (v := nI 1) iT_copy_54 rfl ?_
              refine gc_V1 iT_copy_55 rfl (by decide) (sk_0 _) rfl (Nat.le_of_ble_eq_true rfl) (Nat.le_of_ble_eq_true rfl) (by decide) (sp_T_refuse (by decide)) ?_
              refine go_iret iT_copy_58 rfl ?_
              rfl
            · show Go _ _ tM_copy (_, 0, [.ref 43, .int (nI r), .int y, .int (nI r'), .int y', .int z, am_U], []) _
              refine go_iloadn_1 iM_copy_0 ?_
              refine gc_S1 iM_copy_1 (by decide) rfl rfl (Nat.le_of_ble_eq_true rfl) (Nat.le_of_ble_eq_true rfl) (by decide) (sp_M_isRow_t hr) ?_
              refine go_if_eq iM_copy_4 (fun c_4 => ?_) (fun c_4 => ?_)
              · (first | omega | exact absurd c_4 (by decide) | (exfalso; simp (disch := omega) only [Int32.lt_iff_toInt_lt, Int32.le_iff_toInt_le, ← Int32.toInt_inj, nI_toInt, i32_m1, i32_0, i32_m20, i32_m40, i32_m30, i32_m9] at *; omega))
              refine go_iloadn_3 iM_copy_7 ?_
              refine gc_S1 iM_copy_8 (by decide) rfl rfl (Nat.le_of_ble_eq_true rfl) (Nat.le_of_ble_eq_true rfl) (by decide) (sp_M_isRow_t hr') ?_
              refine go_if_ne iM_copy_11 (fun c_11 => ?_) (fun c_11 => ?_)
              rotate_left
              · (first | omega | exact absurd c_11 (by decide) | (exfalso; simp (disch := omega) only [Int32.lt_iff_toInt_lt, Int32.le_iff_toInt_le, ← Int32.toInt_inj, nI_toInt, i32_m1, i32_0, i32_m20, i32_m40, i32_m30, i32_m9] at *; omega))
              refine go_iload_5 iM_copy_16 ?_
              refine go_if_ge iM_copy_18 (fun c_18 => ?_) (fun c_18 => ?_)
              rotate_left
              · (first | omega | exact absurd c_18 (by decide) | (exfalso; simp (disch := omega) only [Int32.lt_iff_toInt_lt, Int32.le_iff_toInt_le, ← Int32.toInt_inj, nI_toInt, i32_m1, i32_0, i32_m20, i32_m40, i32_m30, i32_m9] at *; omega))
              refine go_aloadn_0 iM_copy_27 rfl ?_
              refine go_getR iM_copy_28 rfl (sk_43 _) (mR_43_8 _) ?_
              refine go_iloadn_1 iM_copy_31 ?_
              refine go_iald iM_copy_32 (sh_47 _) rfl (by omega) (by omega) ?_
              try simp (disch := omega) only [am_u_n, am_u_s, am_u_k, t2, t2']
              refine go_if_lt iM_copy_33 (fun c_33 => ?_) (fun c_33 => ?_)
              · (first | omega | exact absurd c_33 (by decide) | (exfalso; simp (disch := omega) only [Int32.lt_iff_toInt_lt, Int32.le_iff_toInt_le, ← Int32.toInt_inj, nI_toInt, i32_m1, i32_0, i32_m20, i32_m40, i32_m30, i32_m9] at *; omega))
              refine go_aloadn_0 iM_copy_36 rfl ?_
              refine go_getR iM_copy_37 rfl (sk_43 _) (mR_43_8 _) ?_
              refine go_iloadn_3 iM_copy_40 ?_
              refine go_iald iM_copy_41 (sh_47 _) rfl (by omega) (by omega) ?_
              try simp (disch := omega) only [am_u_n, am_u_s, am_u_k, t2, t2']
              refine go_if_ge iM_copy_42 (fun c_42 => ?_) (fun c_42 => ?_)
              · (first | omega | exact absurd c_42 (by decide) | (exfalso; simp (disch := omega) only [Int32.lt_iff_toInt_lt, Int32.le_iff_toInt_le, ← Int32.toInt_inj, nI_toInt, i32_m1, i32_0, i32_m20, i32_m40, i32_m30, i32_m9] at *; omega))
              refine go_aloadn_0 iM_copy_45 rfl ?_
              refine go_iconst (v := nI 1) iM_copy_46 rfl ?_
              refine gc_V1 iM_copy_47 rfl (by decide) (sk_43 _) rfl (Nat.le_of_ble_eq_true rfl) (Nat.le_of_ble_eq_true rfl) (by decide) (sp_M_meets (by decide)) ?_
              refine go_iret iM_copy_50 rfl ?_
              rfl
          · have hsn : (nI s).toInt64.toInt = s := by rw [Int32.toInt_toInt64, nI_toInt (by omega)]
            have hsn' : (nI s').toInt64.toInt = s' := by rw [Int32.toInt_toInt64, nI_toInt (by omega)]
            have la1 := l_add y z
            have la2 := l_add y' z
            by_cases hv : 0 ≤ y.toInt ∧ 0 ≤ y'.toInt ∧ y.toInt + z.toInt ≤ s ∧ y'.toInt + z.toInt ≤ s'
            · obtain ⟨i, hi, rfl⟩ : ∃ i, i ≤ 4 ∧ y = nI i := by
                rcases int_cases y 4 (by decide) with h | h
                · exact h
                · omega
              obtain ⟨j, hj, rfl⟩ : ∃ i, i ≤ 4 ∧ y' = nI i := by
                rcases int_cases y' 4 (by decide) with h | h
                · exact h
                · omega
              obtain ⟨c, hc, rfl⟩ : ∃ i, i ≤ 4 ∧ z = nI i := by
                rcases int_cases z 4 (by decide) with h | h
                · exact h
                · omega
              simp (disch := omega) only [nI_toInt] at hv la1 la2
              clear hz
              refine Pair.mk (h1 := 2) (h2 := 2) (n1 := n) (mI1 := va_up mI (16 + 2 * r') (va_cpy (mI (16 + 2 * r)) (mI (16 + 2 * r')) i j c)) (mL1 := mL) (mI2 := va_up (va_up (va_up mI (16 + 2 * r') (va_cpy (mI (16 + 2 * r)) (mI (16 + 2 * r')) i j c)) 49 (mvF (mI 49) (mI 48) (4 * r + i) c)) 48 (cmF (mI 48) (mvF (mI 49) (mI 48) (4 * r + i) c) (4 * r' + j) c)) (mL2 := mL) (v := .int (nI 1)) ?_ ?_ ?_ (by decide) (by decide) (Nat.le_refl _) (by omega)
              · show Go _ _ tT_copy (_, 0, [.ref 0, .int (nI r), .int (nI i), .int (nI r'), .int (nI j), .int (nI c), am_U, am_U], []) _
                refine go_aloadn_0 iT_copy_0 rfl ?_
                refine go_iloadn_1 iT_copy_1 ?_
                refine gc_V1 iT_copy_2 rfl (by decide) (sk_0 _) rfl (Nat.le_of_ble_eq_true rfl) (Nat.le_of_ble_eq_true rfl) (by decide) (sp_T_rowAt_t hr) ?_
                refine go_astore_6 iT_copy_5 rfl (by simp [Value.category, am_U]) ?_
                refine go_aloadn_0 iT_copy_7 rfl ?_
                refine go_iloadn_3 iT_copy_8 ?_
                refine gc_V1 iT_copy_9 rfl (by decide) (sk_0 _) rfl (Nat.le_of_ble_eq_true rfl) (Nat.le_of_ble_eq_true rfl) (by decide) (sp_T_rowAt_t hr') ?_
                refine go_astore_7 iT_copy_12 rfl (by simp [Value.category, am_U]) ?_
                refine go_aload_6 iT_copy_14 rfl ?_
                refine go_nulR iT_copy_16 ?_
                refine go_aload_7 iT_copy_19 rfl ?_
                refine go_nnulR iT_copy_21 ?_
                refine go_iload_5 iT_copy_26 ?_
                refine go_if_ge iT_copy_28 (fun c_28 => ?_) (fun c_28 => ?_)
                rotate_left
                · (first | omega | exact absurd c_28 (by decide) | (exfalso; simp (disch := omega) only [Int32.lt_iff_toInt_lt, Int32.le_iff_toInt_le, ← Int32.toInt_inj, nI_toInt, i32_m1, i32_0, i32_m20, i32_m40, i32_m30, i32_m9] at *; omega))
                refine go_aload_6 iT_copy_37 rfl ?_
                refine gc_V1 iT_copy_39 rfl (by decide) (by assumption) rfl (Nat.le_of_ble_eq_true rfl) (Nat.le_of_ble_eq_true rfl) (by decide) (sp_W_isMissing_f hr s1 hs4) ?_
                refine go_if_ne iT_copy_42 (fun c_42 => ?_) (fun c_42 => ?_)
                · (first | omega | exact absurd c_42 (by decide) | (exfalso; simp (disch := omega) only [Int32.lt_iff_toInt_lt, Int32.le_iff_toInt_le, ← Int32.toInt_inj, nI_toInt, i32_m1, i32_0, i32_m20, i32_m40, i32_m30, i32_m9] at *; omega))
                refine go_aload_7 iT_copy_45 rfl ?_
                refine gc_V1 iT_copy_47 rfl (by decide) (by assumption) rfl (Nat.le_of_ble_eq_true rfl) (Nat.le_of_ble_eq_true rfl) (by decide) (sp_W_isMissing_f hr' s1' hs4') ?_
                refine go_if_eq iT_copy_50 (fun c_50 => ?_) (fun c_50 => ?_)
                rotate_left
                · (first | omega | exact absurd c_50 (by decide) | (exfalso; simp (disch := omega) only [Int32.lt_iff_toInt_lt, Int32.le_iff_toInt_le, ← Int32.toInt_inj, nI_toInt, i32_m1, i32_0, i32_m20, i32_m40, i32_m30, i32_m9] at *; omega))
                refine go_aload_6 iT_copy_59 rfl ?_
                refine go_iloadn_2 iT_copy_61 ?_
                refine go_iload_5 iT_copy_62 ?_
                refine gc_V1 iT_copy_64 rfl (by decide) (by assumption) rfl (Nat.le_of_ble_eq_true rfl) (Nat.le_of_ble_eq_true rfl) (by decide) (sp_W_holds_t hr s1 hs4 (by omega)) ?_
                refine go_if_eq iT_copy_67 (fun c_67 => ?_) (fun c_67 => ?_)
                · (first | omega | exact absurd c_67 (by decide) | (exfalso; simp (disch := omega) only [Int32.lt_iff_toInt_lt, Int32.le_iff_toInt_le, ← Int32.toInt_inj, nI_toInt, i32_m1, i32_0, i32_m20, i32_m40, i32_m30, i32_m9] at *; omega))
                refine go_aload_7 iT_copy_70 rfl ?_
                refine go_iload_4 iT_copy_72 ?_
                refine go_iload_5 iT_copy_74 ?_
                refine gc_V1 iT_copy_76 rfl (by decide) (by assumption) rfl (Nat.le_of_ble_eq_true rfl) (Nat.le_of_ble_eq_true rfl) (by decide) (sp_W_holds_t hr' s1' hs4' (by omega)) ?_
                refine go_if_ne iT_copy_79 (fun c_79 => ?_) (fun c_79 => ?_)
                rotate_left
                · (first | omega | exact absurd c_79 (by decide) | (exfalso; simp (disch := omega) only [Int32.lt_iff_toInt_lt, Int32.le_iff_toInt_le, ← Int32.toInt_inj, nI_toInt, i32_m1, i32_0, i32_m20, i32_m40, i32_m30, i32_m9] at *; omega))
                refine go_aload_6 iT_copy_88 rfl ?_
                refine go_getR iT_copy_90 rfl (by assumption) (by assumption) ?_
                refine go_iloadn_2 iT_copy_93 ?_
                refine go_aload_7 iT_copy_94 rfl ?_
                refine go_getR iT_copy_96 rfl (by assumption) (by assumption) ?_
                refine go_iload_4 iT_copy_99 ?_
                refine go_iload_5 iT_copy_101 ?_
                refine go_acp iT_copy_103 rfl g2 g2' rfl rfl rfl (by omega) (by omega) (by decide) (by decide) (Nat.le_of_ble_eq_true rfl) ?_
                refine go_iconst (v := nI 1) iT_copy_106 rfl ?_
                refine go_iret iT_copy_107 rfl ?_
                rfl
              · generalize hN : va_up mI (16 + 2 * r') (va_cpy (mI (16 + 2 * r)) (mI (16 + 2 * r')) i j c) = N
                have n47 : N 47 = mI 47 := by rw [← hN, va_up_ne _ _ (by omega)]
                have n48 : N 48 = mI 48 := by rw [← hN, va_up_ne _ _ (by omega)]
                have n49 : N 49 = mI 49 := by rw [← hN, va_up_ne _ _ (by omega)]
                have t2 : N 47 r = nI s := by rw [n47]; exact s2
                have t2' : N 47 r' = nI s' := by rw [n47]; exact s2'
                have lo2 := @lo_M_copy2 S (va_up N 49 (mvF (N 49) (N 48) (4 * r + i) c)) mL n r r' i j c hr hr' (by omega) (by omega) c 0 (by omega)
                have lo1 := @lo_M_copy1 S N mL n r r' i j c hr hr' (by omega) (by omega) (fun q => q = (some (.int (nI 1)), (am_sh n, va_up (va_up N 49 (mvF (mI 49) (mI 48) (4 * r + i) c)) 48 (cmF (mI 48) (mvF (mI 49) (mI 48) (4 * r + i) c) (4 * r' + j) c), mL, am_mR n))) ?_ c 0 (by omega)
                · rw [show mvF (N 49) (N 48) (4 * r + i) 0 = N 49 from (by funext q; simp [mvF]), va_up_id] at lo1
                  show Go _ _ tM_copy (_, 0, [.ref 43, .int (nI r), .int (nI i), .int (nI r'), .int (nI j), .int (nI c), am_U], []) _
                  refine go_iloadn_1 iM_copy_0 ?_
                  refine gc_S1 iM_copy_1 (by decide) rfl rfl (Nat.le_of_ble_eq_true rfl) (Nat.le_of_ble_eq_true rfl) (by decide) (sp_M_isRow_t hr) ?_
                  refine go_if_eq iM_copy_4 (fun c_4 => ?_) (fun c_4 => ?_)
                  · (first | omega | exact absurd c_4 (by decide) | (exfalso; simp (disch := omega) only [Int32.lt_iff_toInt_lt, Int32.le_iff_toInt_le, ← Int32.toInt_inj, nI_toInt, i32_m1, i32_0, i32_m20, i32_m40, i32_m30, i32_m9] at *; omega))
                  refine go_iloadn_3 iM_copy_7 ?_
                  refine gc_S1 iM_copy_8 (by decide) rfl rfl (Nat.le_of_ble_eq_true rfl) (Nat.le_of_ble_eq_true rfl) (by decide) (sp_M_isRow_t hr') ?_
                  refine go_if_ne iM_copy_11 (fun c_11 => ?_) (fun c_11 => ?_)
                  rotate_left
                  · (first | omega | exact absurd c_11 (by decide) | (exfalso; simp (disch := omega) only [Int32.lt_iff_toInt_lt, Int32.le_iff_toInt_le, ← Int32.toInt_inj, nI_toInt, i32_m1, i32_0, i32_m20, i32_m40, i32_m30, i32_m9] at *; omega))
                  refine go_iload_5 iM_copy_16 ?_
                  refine go_if_ge iM_copy_18 (fun c_18 => ?_) (fun c_18 => ?_)
                  rotate_left
                  · (first | omega | exact absurd c_18 (by decide) | (exfalso; simp (disch := omega) only [Int32.lt_iff_toInt_lt, Int32.le_iff_toInt_le, ← Int32.toInt_inj, nI_toInt, i32_m1, i32_0, i32_m20, i32_m40, i32_m30, i32_m9] at *; omega))
                  refine go_aloadn_0 iM_copy_27 rfl ?_
                  refine go_getR iM_copy_28 rfl (sk_43 _) (mR_43_8 _) ?_
                  refine go_iloadn_1 iM_copy_31 ?_
                  refine go_iald iM_copy_32 (sh_47 _) rfl (by omega) (by omega) ?_
                  try simp (disch := omega) only [am_u_n, am_u_s, am_u_k, t2, t2']
                  refine go_if_lt iM_copy_33 (fun c_33 => ?_) (fun c_33 => ?_)
                  · (first | omega | exact absurd c_33 (by decide) | (exfalso; simp (disch := omega) only [Int32.lt_iff_toInt_lt, Int32.le_iff_toInt_le, ← Int32.toInt_inj, nI_toInt, i32_m1, i32_0, i32_m20, i32_m40, i32_m30, i32_m9] at *; omega))
                  refine go_aloadn_0 iM_copy_36 rfl ?_
                  refine go_getR iM_copy_37 rfl (sk_43 _) (mR_43_8 _) ?_
                  refine go_iloadn_3 iM_copy_40 ?_
                  refine go_iald iM_copy_41 (sh_47 _) rfl (by omega) (by omega) ?_
                  try simp (disch := omega) only [am_u_n, am_u_s, am_u_k, t2, t2']
                  refine go_if_ge iM_copy_42 (fun c_42 => ?_) (fun c_42 => ?_)
                  rotate_left
                  · (first | omega | exact absurd c_42 (by decide) | (exfalso; simp (disch := omega) only [Int32.lt_iff_toInt_lt, Int32.le_iff_toInt_le, ← Int32.toInt_inj, nI_toInt, i32_m1, i32_0, i32_m20, i32_m40, i32_m30, i32_m9] at *; omega))
                  refine go_iloadn_2 iM_copy_51 ?_
                  refine go_if_lt iM_copy_52 (fun c_52 => ?_) (fun c_52 => ?_)
                  · (first | omega | exact absurd c_52 (by decide) | (exfalso; simp (disch := omega) only [Int32.lt_iff_toInt_lt, Int32.le_iff_toInt_le, ← Int32.toInt_inj, nI_toInt, i32_m1, i32_0, i32_m20, i32_m40, i32_m30, i32_m9] at *; omega))
                  refine go_iload_4 iM_copy_55 ?_
                  refine go_if_lt iM_copy_57 (fun c_57 => ?_) (fun c_57 => ?_)
                  · (first | omega | exact absurd c_57 (by decide) | (exfalso; simp (disch := omega) only [Int32.lt_iff_toInt_lt, Int32.le_iff_toInt_le, ← Int32.toInt_inj, nI_toInt, i32_m1, i32_0, i32_m20, i32_m40, i32_m30, i32_m9] at *; omega))
                  refine go_iloadn_2 iM_copy_60 ?_
                  refine go_i2l iM_copy_61 ?_
                  refine go_iload_5 iM_copy_62 ?_
                  refine go_i2l iM_copy_64 ?_
                  refine go_ladd iM_copy_65 ?_
                  refine go_aloadn_0 iM_copy_66 rfl ?_
                  refine go_getR iM_copy_67 rfl (sk_43 _) (mR_43_8 _) ?_
                  refine go_iloadn_1 iM_copy_70 ?_
                  refine go_iald iM_copy_71 (sh_47 _) rfl (by omega) (by omega) ?_
                  try simp (disch := omega) only [am_u_n, am_u_s, am_u_k, t2, t2']
                  refine go_i2l iM_copy_72 ?_
                  refine go_lcmp iM_copy_73 ?_
                  refine go_if_gt iM_copy_74 (fun c_74 => ?_) (fun c_74 => ?_)
                  · rw [lg_cmp_gt, Int64.lt_iff_toInt_lt, la1, hsn] at c_74; omega
                  refine go_iload_4 iM_copy_77 ?_
                  refine go_i2l iM_copy_79 ?_
                  refine go_iload_5 iM_copy_80 ?_
                  refine go_i2l iM_copy_82 ?_
                  refine go_ladd iM_copy_83 ?_
                  refine go_aloadn_0 iM_copy_84 rfl ?_
                  refine go_getR iM_copy_85 rfl (sk_43 _) (mR_43_8 _) ?_
                  refine go_iloadn_3 iM_copy_88 ?_
                  refine go_iald iM_copy_89 (sh_47 _) rfl (by omega) (by omega) ?_
                  try simp (disch := omega) only [am_u_n, am_u_s, am_u_k, t2, t2']
                  refine go_i2l iM_copy_90 ?_
                  refine go_lcmp iM_copy_91 ?_
                  refine go_if_le iM_copy_92 (fun c_92 => ?_) (fun c_92 => ?_)
                  rotate_left
                  · rw [lg_cmp_le, Int64.le_iff_toInt_le, la2, hsn'] at c_92; omega
                  refine go_iconst (v := nI 0) iM_copy_101 rfl ?_
                  refine go_istore_6 iM_copy_102 (by simp [Value.category, am_U]) ?_
                  exact lo1
                · rw [va_up_ne _ _ (by decide), va_up_self, n48, n49, show cmF (mI 48) (mvF (mI 49) (mI 48) (4 * r + i) c) (4 * r' + j) 0 = va_up N 49 (mvF (mI 49) (mI 48) (4 * r + i) c) 48 from ?_, va_up_id] at lo2
                  · rw [n48, n49]
                    refine go_iconst (v := nI 0) iM_copy_137 rfl ?_
                    refine go_istore_6 iM_copy_138 (by simp [Value.category, am_U]) ?_
                    exact lo2
                  · rw [va_up_ne _ _ (by decide), n48]
                    funext q
                    unfold cmF
                    rw [if_neg (by omega)]
              · refine ⟨h8, ⟨m, hm1, hm3, ?_, ?_⟩, ?_, ?_, fun p hp => (hpl p hp).of ?_ ?_ ?_ (fun j hj => ?_), fun q hq => ?_, ?_, fun f hf => ?_, hu, hl, fun j hj => ?_⟩
                case refine_9 =>
                  by_cases e : q = r'
                  · subst e
                    refine ⟨Or.inr ⟨s', hs4', ?_, ?_⟩, fun w hw => ?_⟩
                    · simp (disch := omega) only [va_up_ne]
                      exact s1'
                    · simp (disch := omega) only [va_up_ne]
                      exact s2'
                    · simp (disch := omega) only [va_up_ne, va_up_self]
                      unfold va_cpy cmF
                      by_cases hw2 : j ≤ w ∧ w < j + c
                      · rw [if_pos hw2, if_pos (by omega)]
                        unfold mvF
                        rw [if_pos (by omega), hpc _ (by omega)]
                        congr 1
                        omega
                      · rw [if_neg hw2, if_neg (by omega)]
                        exact hpc' w hw
                  · refine (hro q hq).of ?_ ?_ ?_ (fun w hw => ?_)
                    · simp (disch := omega) only [va_up_ne]
                    · simp (disch := omega) only [va_up_ne]
                    · simp (disch := omega) only [va_up_ne]
                    · rw [va_up_self]
                      unfold cmF
                      rw [if_neg (by omega)]
                all_goals (simp (disch := omega) only [va_up_ne]; try first | assumption | exact hfs _ hf | exact hch _ hj)
            · have t2 : rfI mI 2 47 r = nI s := by rw [rfI_r (by decide) (by decide)]; exact s2
              have t2' : rfI mI 2 47 r' = nI s' := by rw [rfI_r (by decide) (by decide)]; exact s2'
              refine Pair.refuse (h1 := 2) (h2 := 2) (f := 2) hR' (by decide) ?_ ?_
              · by_cases hv1 : 0 ≤ y.toInt ∧ y.toInt + z.toInt ≤ s
                · obtain ⟨i, hi, rfl⟩ : ∃ i, i ≤ 4 ∧ y = nI i := by
                    rcases int_cases y 4 (by decide) with h | h
                    · exact h
                    · omega
                  obtain ⟨c, hc, rfl⟩ : ∃ i, i ≤ 4 ∧ z = nI i := by
                    rcases int_cases z 4 (by decide) with h | h
                    · exact h
                    · omega
                  simp (disch := omega) only [nI_toInt] at hv hv1
                  show Go _ _ tT_copy (_, 0, [.ref 0, .int (nI r), .int (nI i), .int (nI r'), .int y', .int (nI c), am_U, am_U], []) _
                  refine go_aloadn_0 iT_copy_0 rfl ?_
                  refine go_iloadn_1 iT_copy_1 ?_
                  refine gc_V1 iT_copy_2 rfl (by decide) (sk_0 _) rfl (Nat.le_of_ble_eq_true rfl) (Nat.le_of_ble_eq_true rfl) (by decide) (sp_T_rowAt_t hr) ?_
                  refine go_astore_6 iT_copy_5 rfl (by simp [Value.category, am_U]) ?_
                  refine go_aloadn_0 iT_copy_7 rfl ?_
                  refine go_iloadn_3 iT_copy_8 ?_
                  refine gc_V1 iT_copy_9 rfl (by decide) (sk_0 _) rfl (Nat.le_of_ble_eq_true rfl) (Nat.le_of_ble_eq_true rfl) (by decide) (sp_T_rowAt_t hr') ?_
                  refine go_astore_7 iT_copy_12 rfl (by simp [Value.category, am_U]) ?_
                  refine go_aload_6 iT_copy_14 rfl ?_
                  refine go_nulR iT_copy_16 ?_
                  refine go_aload_7 iT_copy_19 rfl ?_
                  refine go_nnulR iT_copy_21 ?_
                  refine go_iload_5 iT_copy_26 ?_
                  refine go_if_ge iT_copy_28 (fun c_28 => ?_) (fun c_28 => ?_)
                  rotate_left
                  · (first | omega | exact absurd c_28 (by decide) | (exfalso; simp (disch := omega) only [Int32.lt_iff_toInt_lt, Int32.le_iff_toInt_le, ← Int32.toInt_inj, nI_toInt, i32_m1, i32_0, i32_m20, i32_m40, i32_m30, i32_m9] at *; omega))
                  refine go_aload_6 iT_copy_37 rfl ?_
                  refine gc_V1 iT_copy_39 rfl (by decide) (by assumption) rfl (Nat.le_of_ble_eq_true rfl) (Nat.le_of_ble_eq_true rfl) (by decide) (sp_W_isMissing_f hr s1 hs4) ?_
                  refine go_if_ne iT_copy_42 (fun c_42 => ?_) (fun c_42 => ?_)
                  · (first | omega | exact absurd c_42 (by decide) | (exfalso; simp (disch := omega) only [Int32.lt_iff_toInt_lt, Int32.le_iff_toInt_le, ← Int32.toInt_inj, nI_toInt, i32_m1, i32_0, i32_m20, i32_m40, i32_m30, i32_m9] at *; omega))
                  refine go_aload_7 iT_copy_45 rfl ?_
                  refine gc_V1 iT_copy_47 rfl (by decide) (by assumption) rfl (Nat.le_of_ble_eq_true rfl) (Nat.le_of_ble_eq_true rfl) (by decide) (sp_W_isMissing_f hr' s1' hs4') ?_
                  refine go_if_eq iT_copy_50 (fun c_50 => ?_) (fun c_50 => ?_)
                  rotate_left
                  · (first | omega | exact absurd c_50 (by decide) | (exfalso; simp (disch := omega) only [Int32.lt_iff_toInt_lt, Int32.le_iff_toInt_le, ← Int32.toInt_inj, nI_toInt, i32_m1, i32_0, i32_m20, i32_m40, i32_m30, i32_m9] at *; omega))
                  refine go_aload_6 iT_copy_59 rfl ?_
                  refine go_iloadn_2 iT_copy_61 ?_
                  refine go_iload_5 iT_copy_62 ?_
                  refine gc_V1 iT_copy_64 rfl (by decide) (by assumption) rfl (Nat.le_of_ble_eq_true rfl) (Nat.le_of_ble_eq_true rfl) (by decide) (sp_W_holds_t hr s1 hs4 (by omega)) ?_
                  refine go_if_eq iT_copy_67 (fun c_67 => ?_) (fun c_67 => ?_)
                  · (first | omega | exact absurd c_67 (by decide) | (exfalso; simp (disch := omega) only [Int32.lt_iff_toInt_lt, Int32.le_iff_toInt_le, ← Int32.toInt_inj, nI_toInt, i32_m1, i32_0, i32_m20, i32_m40, i32_m30, i32_m9] at *; omega))
                  refine go_aload_7 iT_copy_70 rfl ?_
                  refine go_iload_4 iT_copy_72 ?_
                  refine go_iload_5 iT_copy_74 ?_
                  refine gc_V1 iT_copy_76 rfl (by decide) (by assumption) rfl (Nat.le_of_ble_eq_true rfl) (Nat.le_of_ble_eq_true rfl) (by decide) (sp_W_holds_f hr' s1' hs4' (by rw [nI_toInt (by omega)]; omega) (by rw [nI_toInt (by omega)]; omega)) ?_
                  refine go_if_ne iT_copy_79 (fun c_79 => ?_) (fun c_79 => ?_)
                  · (first | omega | exact absurd c_79 (by decide) | (exfalso; simp (disch := omega) only [Int32.lt_iff_toInt_lt, Int32.le_iff_toInt_le, ← Int32.toInt_inj, nI_toInt, i32_m1, i32_0, i32_m20, i32_m40, i32_m30, i32_m9] at *; omega))
                  refine go_aloadn_0 iT_copy_82 rfl ?_
                  refine go_iconst (v := nI 2) iT_copy_83 rfl ?_
                  refine gc_V1 iT_copy_84 rfl (by decide) (sk_0 _) rfl (Nat.le_of_ble_eq_true rfl) (Nat.le_of_ble_eq_true rfl) (by decide) (sp_T_refuse (by decide)) ?_
                  refine go_iret iT_copy_87 rfl ?_
                  rfl
                · show Go _ _ tT_copy (_, 0, [.ref 0, .int (nI r), .int y, .int (nI r'), .int y', .int z, am_U, am_U], []) _
                  refine go_aloadn_0 iT_copy_0 rfl ?_
                  refine go_iloadn_1 iT_copy_1 ?_
                  refine gc_V1 iT_copy_2 rfl (by decide) (sk_0 _) rfl (Nat.le_of_ble_eq_true rfl) (Nat.le_of_ble_eq_true rfl) (by decide) (sp_T_rowAt_t hr) ?_
                  refine go_astore_6 iT_copy_5 rfl (by simp [Value.category, am_U]) ?_
                  refine go_aloadn_0 iT_copy_7 rfl ?_
                  refine go_iloadn_3 iT_copy_8 ?_
                  refine gc_V1 iT_copy_9 rfl (by decide) (sk_0 _) rfl (Nat.le_of_ble_eq_true rfl) (Nat.le_of_ble_eq_true rfl) (by decide) (sp_T_rowAt_t hr') ?_
                  refine go_astore_7 iT_copy_12 rfl (by simp [Value.category, am_U]) ?_
                  refine go_aload_6 iT_copy_14 rfl ?_
                  refine go_nulR iT_copy_16 ?_
                  refine go_aload_7 iT_copy_19 rfl ?_
                  refine go_nnulR iT_copy_21 ?_
                  refine go_iload_5 iT_copy_26 ?_
                  refine go_if_ge iT_copy_28 (fun c_28 => ?_) (fun c_28 => ?_)
                  rotate_left
                  · (first | omega | exact absurd c_28 (by decide) | (exfalso; simp (disch := omega) only [Int32.lt_iff_toInt_lt, Int32.le_iff_toInt_le, ← Int32.toInt_inj, nI_toInt, i32_m1, i32_0, i32_m20, i32_m40, i32_m30, i32_m9] at *; omega))
                  refine go_aload_6 iT_copy_37 rfl ?_
                  refine gc_V1 iT_copy_39 rfl (by decide) (by assumption) rfl (Nat.le_of_ble_eq_true rfl) (Nat.le_of_ble_eq_true rfl) (by decide) (sp_W_isMissing_f hr s1 hs4) ?_
                  refine go_if_ne iT_copy_42 (fun c_42 => ?_) (fun c_42 => ?_)
                  · (first | omega | exact absurd c_42 (by decide) | (exfalso; simp (disch := omega) only [Int32.lt_iff_toInt_lt, Int32.le_iff_toInt_le, ← Int32.toInt_inj, nI_toInt, i32_m1, i32_0, i32_m20, i32_m40, i32_m30, i32_m9] at *; omega))
                  refine go_aload_7 iT_copy_45 rfl ?_
                  refine gc_V1 iT_copy_47 rfl (by decide) (by assumption) rfl (Nat.le_of_ble_eq_true rfl) (Nat.le_of_ble_eq_true rfl) (by decide) (sp_W_isMissing_f hr' s1' hs4') ?_
                  refine go_if_eq iT_copy_50 (fun c_50 => ?_) (fun c_50 => ?_)
                  rotate_left
                  · (first | omega | exact absurd c_50 (by decide) | (exfalso; simp (disch := omega) only [Int32.lt_iff_toInt_lt, Int32.le_iff_toInt_le, ← Int32.toInt_inj, nI_toInt, i32_m1, i32_0, i32_m20, i32_m40, i32_m30, i32_m9] at *; omega))
                  refine go_aload_6 iT_copy_59 rfl ?_
                  refine go_iloadn_2 iT_copy_61 ?_
                  refine go_iload_5 iT_copy_62 ?_
                  refine gc_V1 iT_copy_64 rfl (by decide) (by assumption) rfl (Nat.le_of_ble_eq_true rfl) (Nat.le_of_ble_eq_true rfl) (by decide) (sp_W_holds_f hr s1 hs4 (by omega) (by omega)) ?_
                  refine go_if_eq iT_copy_67 (fun c_67 => ?_) (fun c_67 => ?_)
                  rotate_left
                  · (first | omega | exact absurd c_67 (by decide) | (exfalso; simp (disch := omega) only [Int32.lt_iff_toInt_lt, Int32.le_iff_toInt_le, ← Int32.toInt_inj, nI_toInt, i32_m1, i32_0, i32_m20, i32_m40, i32_m30, i32_m9] at *; omega))
                  refine go_aloadn_0 iT_copy_82 rfl ?_
                  refine go_iconst (v := nI 2) iT_copy_83 rfl ?_
                  refine gc_V1 iT_copy_84 rfl (by decide) (sk_0 _) rfl (Nat.le_of_ble_eq_true rfl) (Nat.le_of_ble_eq_true rfl) (by decide) (sp_T_refuse (by decide)) ?_
                  refine go_iret iT_copy_87 rfl ?_
                  rfl
              · show Go _ _ tM_copy (_, 0, [.ref 43, .int (nI r), .int y, .int (nI r'), .int y', .int z, am_U], []) _
                refine go_iloadn_1 iM_copy_0 ?_
                refine gc_S1 iM_copy_1 (by decide) rfl rfl (Nat.le_of_ble_eq_true rfl) (Nat.le_of_ble_eq_true rfl) (by decide) (sp_M_isRow_t hr) ?_
                refine go_if_eq iM_copy_4 (fun c_4 => ?_) (fun c_4 => ?_)
                · (first | omega | exact absurd c_4 (by decide) | (exfalso; simp (disch := omega) only [Int32.lt_iff_toInt_lt, Int32.le_iff_toInt_le, ← Int32.toInt_inj, nI_toInt, i32_m1, i32_0, i32_m20, i32_m40, i32_m30, i32_m9] at *; omega))
                refine go_iloadn_3 iM_copy_7 ?_
                refine gc_S1 iM_copy_8 (by decide) rfl rfl (Nat.le_of_ble_eq_true rfl) (Nat.le_of_ble_eq_true rfl) (by decide) (sp_M_isRow_t hr') ?_
                refine go_if_ne iM_copy_11 (fun c_11 => ?_) (fun c_11 => ?_)
                rotate_left
                · (first | omega | exact absurd c_11 (by decide) | (exfalso; simp (disch := omega) only [Int32.lt_iff_toInt_lt, Int32.le_iff_toInt_le, ← Int32.toInt_inj, nI_toInt, i32_m1, i32_0, i32_m20, i32_m40, i32_m30, i32_m9] at *; omega))
                refine go_iload_5 iM_copy_16 ?_
                refine go_if_ge iM_copy_18 (fun c_18 => ?_) (fun c_18 => ?_)
                rotate_left
                · (first | omega | exact absurd c_18 (by decide) | (exfalso; simp (disch := omega) only [Int32.lt_iff_toInt_lt, Int32.le_iff_toInt_le, ← Int32.toInt_inj, nI_toInt, i32_m1, i32_0, i32_m20, i32_m40, i32_m30, i32_m9] at *; omega))
                refine go_aloadn_0 iM_copy_27 rfl ?_
                refine go_getR iM_copy_28 rfl (sk_43 _) (mR_43_8 _) ?_
                refine go_iloadn_1 iM_copy_31 ?_
                refine go_iald iM_copy_32 (sh_47 _) rfl (by omega) (by omega) ?_
                try simp (disch := omega) only [am_u_n, am_u_s, am_u_k, t2, t2']
                refine go_if_lt iM_copy_33 (fun c_33 => ?_) (fun c_33 => ?_)
                · (first | omega | exact absurd c_33 (by decide) | (exfalso; simp (disch := omega) only [Int32.lt_iff_toInt_lt, Int32.le_iff_toInt_le, ← Int32.toInt_inj, nI_toInt, i32_m1, i32_0, i32_m20, i32_m40, i32_m30, i32_m9] at *; omega))
                refine go_aloadn_0 iM_copy_36 rfl ?_
                refine go_getR iM_copy_37 rfl (sk_43 _) (mR_43_8 _) ?_
                refine go_iloadn_3 iM_copy_40 ?_
                refine go_iald iM_copy_41 (sh_47 _) rfl (by omega) (by omega) ?_
                try simp (disch := omega) only [am_u_n, am_u_s, am_u_k, t2, t2']
                refine go_if_ge iM_copy_42 (fun c_42 => ?_) (fun c_42 => ?_)
                rotate_left
                · (first | omega | exact absurd c_42 (by decide) | (exfalso; simp (disch := omega) only [Int32.lt_iff_toInt_lt, Int32.le_iff_toInt_le, ← Int32.toInt_inj, nI_toInt, i32_m1, i32_0, i32_m20, i32_m40, i32_m30, i32_m9] at *; omega))
                refine go_iloadn_2 iM_copy_51 ?_
                refine go_if_lt iM_copy_52 (fun c_52 => ?_) (fun c_52 => ?_)
                · refine go_aloadn_0 iM_copy_95 rfl ?_
                  refine go_iconst (v := nI 2) iM_copy_96 rfl ?_
                  refine gc_V1 iM_copy_97 rfl (by decide) (sk_43 _) rfl (Nat.le_of_ble_eq_true rfl) (Nat.le_of_ble_eq_true rfl) (by decide) (sp_M_meets (by decide)) ?_
                  refine go_iret iM_copy_100 rfl ?_
                  rfl
                · refine go_iload_4 iM_copy_55 ?_
                  refine go_if_lt iM_copy_57 (fun c_57 => ?_) (fun c_57 => ?_)
                  · refine go_aloadn_0 iM_copy_95 rfl ?_
                    refine go_iconst (v := nI 2) iM_copy_96 rfl ?_
                    refine gc_V1 iM_copy_97 rfl (by decide) (sk_43 _) rfl (Nat.le_of_ble_eq_true rfl) (Nat.le_of_ble_eq_true rfl) (by decide) (sp_M_meets (by decide)) ?_
                    refine go_iret iM_copy_100 rfl ?_
                    rfl
                  · refine go_iloadn_2 iM_copy_60 ?_
                    refine go_i2l iM_copy_61 ?_
                    refine go_iload_5 iM_copy_62 ?_
                    refine go_i2l iM_copy_64 ?_
                    refine go_ladd iM_copy_65 ?_
                    refine go_aloadn_0 iM_copy_66 rfl ?_
                    refine go_getR iM_copy_67 rfl (sk_43 _) (mR_43_8 _) ?_
                    refine go_iloadn_1 iM_copy_70 ?_
                    refine go_iald iM_copy_71 (sh_47 _) rfl (by omega) (by omega) ?_
                    try simp (disch := omega) only [am_u_n, am_u_s, am_u_k, t2, t2']
                    refine go_i2l iM_copy_72 ?_
                    refine go_lcmp iM_copy_73 ?_
                    refine go_if_gt iM_copy_74 (fun c_74 => ?_) (fun c_74 => ?_)
                    · refine go_aloadn_0 iM_copy_95 rfl ?_
                      refine go_iconst (v := nI 2) iM_copy_96 rfl ?_
                      refine gc_V1 iM_copy_97 rfl (by decide) (sk_43 _) rfl (Nat.le_of_ble_eq_true rfl) (Nat.le_of_ble_eq_true rfl) (by decide) (sp_M_meets (by decide)) ?_
                      refine go_iret iM_copy_100 rfl ?_
                      rfl
                    · refine go_iload_4 iM_copy_77 ?_
                      refine go_i2l iM_copy_79 ?_
                      refine go_iload_5 iM_copy_80 ?_
                      refine go_i2l iM_copy_82 ?_
                      refine go_ladd iM_copy_83 ?_
                      refine go_aloadn_0 iM_copy_84 rfl ?_
                      refine go_getR iM_copy_85 rfl (sk_43 _) (mR_43_8 _) ?_
                      refine go_iloadn_3 iM_copy_88 ?_
                      refine go_iald iM_copy_89 (sh_47 _) rfl (by omega) (by omega) ?_
                      try simp (disch := omega) only [am_u_n, am_u_s, am_u_k, t2, t2']
                      refine go_i2l iM_copy_90 ?_
                      refine go_lcmp iM_copy_91 ?_
                      refine go_if_le iM_copy_92 (fun c_92 => ?_) (fun c_92 => ?_)
                      · (rw [lg_cmp_gt, Int64.lt_iff_toInt_lt, la1, hsn] at c_74; rw [lg_cmp_le, Int64.le_iff_toInt_le, la2, hsn'] at c_92; rw [Int32.lt_iff_toInt_lt, i32_0] at c_52 c_57; omega)
                      · refine go_aloadn_0 iM_copy_95 rfl ?_
                        refine go_iconst (v := nI 2) iM_copy_96 rfl ?_
                        refine gc_V1 iM_copy_97 rfl (by decide) (sk_43 _) rfl (Nat.le_of_ble_eq_true rfl) (Nat.le_of_ble_eq_true rfl) (by decide) (sp_M_meets (by decide)) ?_
                        refine go_iret iM_copy_100 rfl ?_
                        rfl
    · refine Pair.same (h1 := 2) (h2 := 2) (v := .int (-1)) hR' ?_ ?_
      · show Go _ _ tT_copy (_, 0, [.ref 0, .int (nI r), .int y, .int x', .int y', .int z, am_U, am_U], []) _
        refine go_aloadn_0 iT_copy_0 rfl ?_
        refine go_iloadn_1 iT_copy_1 ?_
        refine gc_V1 iT_copy_2 rfl (by decide) (sk_0 _) rfl (Nat.le_of_ble_eq_true rfl) (Nat.le_of_ble_eq_true rfl) (by decide) (sp_T_rowAt_t hr) ?_
        refine go_astore_6 iT_copy_5 rfl (by simp [Value.category, am_U]) ?_
        refine go_aloadn_0 iT_copy_7 rfl ?_
        refine go_iloadn_3 iT_copy_8 ?_
        refine gc_V1 iT_copy_9 rfl (by decide) (sk_0 _) rfl (Nat.le_of_ble_eq_true rfl) (Nat.le_of_ble_eq_true rfl) (by decide) (sp_T_rowAt_f hx') ?_
        refine go_astore_7 iT_copy_12 rfl (by simp [Value.category, am_U]) ?_
        refine go_aload_6 iT_copy_14 rfl ?_
        refine go_nulR iT_copy_16 ?_
        refine go_aload_7 iT_copy_19 rfl ?_
        refine go_nnulN iT_copy_21 ?_
        refine go_iconst (v := (-1)) iT_copy_24 rfl ?_
        refine go_iret iT_copy_25 rfl ?_
        rfl
      · show Go _ _ tM_copy (_, 0, [.ref 43, .int (nI r), .int y, .int x', .int y', .int z, am_U], []) _
        refine go_iloadn_1 iM_copy_0 ?_
        refine gc_S1 iM_copy_1 (by decide) rfl rfl (Nat.le_of_ble_eq_true rfl) (Nat.le_of_ble_eq_true rfl) (by decide) (sp_M_isRow_t hr) ?_
        refine go_if_eq iM_copy_4 (fun c_4 => ?_) (fun c_4 => ?_)
        · (first | omega | exact absurd c_4 (by decide) | (exfalso; simp (disch := omega) only [Int32.lt_iff_toInt_lt, Int32.le_iff_toInt_le, ← Int32.toInt_inj, nI_toInt, i32_m1, i32_0, i32_m20, i32_m40, i32_m30, i32_m9] at *; omega))
        refine go_iloadn_3 iM_copy_7 ?_
        refine gc_S1 iM_copy_8 (by decide) rfl rfl (Nat.le_of_ble_eq_true rfl) (Nat.le_of_ble_eq_true rfl) (by decide) (sp_M_isRow_f hx') ?_
        refine go_if_ne iM_copy_11 (fun c_11 => ?_) (fun c_11 => ?_)
        · (first | omega | exact absurd c_11 (by decide) | (exfalso; simp (disch := omega) only [Int32.lt_iff_toInt_lt, Int32.le_iff_toInt_le, ← Int32.toInt_inj, nI_toInt, i32_m1, i32_0, i32_m20, i32_m40, i32_m30, i32_m9] at *; omega))
        refine go_iconst (v := (-1)) iM_copy_14 rfl ?_
        refine go_iret iM_copy_15 rfl ?_
        rfl
  · rcases row_cases x' with ⟨r', hr', rfl⟩ | hx'
    · refine Pair.same (h1 := 2) (h2 := 2) (v := .int (-1)) hR' ?_ ?_
      · show Go _ _ tT_copy (_, 0, [.ref 0, .int x, .int y, .int (nI r'), .int y', .int z, am_U, am_U], []) _
        refine go_aloadn_0 iT_copy_0 rfl ?_
        refine go_iloadn_1 iT_copy_1 ?_
        refine gc_V1 iT_copy_2 rfl (by decide) (sk_0 _) rfl (Nat.le_of_ble_eq_true rfl) (Nat.le_of_ble_eq_true rfl) (by decide) (sp_T_rowAt_f hx) ?_
        refine go_astore_6 iT_copy_5 rfl (by simp [Value.category, am_U]) ?_
        refine go_aloadn_0 iT_copy_7 rfl ?_
        refine go_iloadn_3 iT_copy_8 ?_
        refine gc_V1 iT_copy_9 rfl (by decide) (sk_0 _) rfl (Nat.le_of_ble_eq_true rfl) (Nat.le_of_ble_eq_true rfl) (by decide) (sp_T_rowAt_t hr') ?_
        refine go_astore_7 iT_copy_12 rfl (by simp [Value.category, am_U]) ?_
        refine go_aload_6 iT_copy_14 rfl ?_
        refine go_nulN iT_copy_16 ?_
        refine go_iconst (v := (-1)) iT_copy_24 rfl ?_
        refine go_iret iT_copy_25 rfl ?_
        rfl
      · show Go _ _ tM_copy (_, 0, [.ref 43, .int x, .int y, .int (nI r'), .int y', .int z, am_U], []) _
        refine go_iloadn_1 iM_copy_0 ?_
        refine gc_S1 iM_copy_1 (by decide) rfl rfl (Nat.le_of_ble_eq_true rfl) (Nat.le_of_ble_eq_true rfl) (by decide) (sp_M_isRow_f hx) ?_
        refine go_if_eq iM_copy_4 (fun c_4 => ?_) (fun c_4 => ?_)
        rotate_left
        · (first | omega | exact absurd c_4 (by decide) | (exfalso; simp (disch := omega) only [Int32.lt_iff_toInt_lt, Int32.le_iff_toInt_le, ← Int32.toInt_inj, nI_toInt, i32_m1, i32_0, i32_m20, i32_m40, i32_m30, i32_m9] at *; omega))
        refine go_iconst (v := (-1)) iM_copy_14 rfl ?_
        refine go_iret iM_copy_15 rfl ?_
        rfl
    · refine Pair.same (h1 := 2) (h2 := 2) (v := .int (-1)) hR' ?_ ?_
      · show Go _ _ tT_copy (_, 0, [.ref 0, .int x, .int y, .int x', .int y', .int z, am_U, am_U], []) _
        refine go_aloadn_0 iT_copy_0 rfl ?_
        refine go_iloadn_1 iT_copy_1 ?_
        refine gc_V1 iT_copy_2 rfl (by decide) (sk_0 _) rfl (Nat.le_of_ble_eq_true rfl) (Nat.le_of_ble_eq_true rfl) (by decide) (sp_T_rowAt_f hx) ?_
        refine go_astore_6 iT_copy_5 rfl (by simp [Value.category, am_U]) ?_
        refine go_aloadn_0 iT_copy_7 rfl ?_
        refine go_iloadn_3 iT_copy_8 ?_
        refine gc_V1 iT_copy_9 rfl (by decide) (sk_0 _) rfl (Nat.le_of_ble_eq_true rfl) (Nat.le_of_ble_eq_true rfl) (by decide) (sp_T_rowAt_f hx') ?_
        refine go_astore_7 iT_copy_12 rfl (by simp [Value.category, am_U]) ?_
        refine go_aload_6 iT_copy_14 rfl ?_
        refine go_nulN iT_copy_16 ?_
        refine go_iconst (v := (-1)) iT_copy_24 rfl ?_
        refine go_iret iT_copy_25 rfl ?_
        rfl
      · show Go _ _ tM_copy (_, 0, [.ref 43, .int x, .int y, .int x', .int y', .int z, am_U], []) _
        refine go_iloadn_1 iM_copy_0 ?_
        refine gc_S1 iM_copy_1 (by decide) rfl rfl (Nat.le_of_ble_eq_true rfl) (Nat.le_of_ble_eq_true rfl) (by decide) (sp_M_isRow_f hx) ?_
        refine go_if_eq iM_copy_4 (fun c_4 => ?_) (fun c_4 => ?_)
        rotate_left
        · (first | omega | exact absurd c_4 (by decide) | (exfalso; simp (disch := omega) only [Int32.lt_iff_toInt_lt, Int32.le_iff_toInt_le, ← Int32.toInt_inj, nI_toInt, i32_m1, i32_0, i32_m20, i32_m40, i32_m30, i32_m9] at *; omega))
        refine go_iconst (v := (-1)) iM_copy_14 rfl ?_
        refine go_iret iM_copy_15 rfl ?_
        rfl
end CPY
