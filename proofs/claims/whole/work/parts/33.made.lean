section MADE
variable {S : am_S} {M : am_M} {sh : List (Nat × Nat)} {mI : Nat → Nat → Int32} {mL : Nat → Nat → Int64} {mR : Nat → Nat → Option Nat} {n : Nat}
theorem am_sh_s (n : Nat) : am_sh n ++ [(12, 3)] ++ [(0, 4)] = am_sh (n + 1) := by simp [am_sh, am_shP]
def addI (mI : Nat → Nat → Int32) (n : Nat) (kd sz a b c d : Int32) : Nat → Nat → Int32 := am_u (plI (va_up mI (60 + 2 * n) (fun _ => 0)) (60 + 2 * n) (61 + 2 * n) kd sz a b c d) 0 1 (nI (n + 1))
def addL (mL : Nat → Nat → Int64) (n : Nat) : Nat → Nat → Int64 := va_up (va_up mL (60 + 2 * n) (fun _ => 0)) (61 + 2 * n) (fun _ => 0)
theorem plI_n {mI : Nat → Nat → Int32} {w v x y : Nat} {kd sz a b c d : Int32} (h1 : x ≠ w) (h2 : x ≠ v) : plI mI w v kd sz a b c d x y = mI x y := by
  unfold plI
  rw [am_u_n h2, am_u_n h2, am_u_n h2, am_u_n h2, am_u_n h1, am_u_n h1, va_up_ne _ _ h2]
theorem sp_T_added_f {kd sz a b c d : Int32} (hc : mI 0 1 = nI n) (hn : n = 8) : Sp S 1 tT_added (am_sh n, mI, mL, am_mR n) [.ref 0, .int kd, .int sz, .int a, .int b, .int c, .int d] (fun q => q = (some (.int (-2)), (am_sh n, mI, mL, am_mR n))) := by
  show Go _ _ tT_added (_, 0, [.ref 0, .int kd, .int sz, .int a, .int b, .int c, .int d], []) _
  refine go_aloadn_0 iT_added_0 rfl ?_
  refine go_getI iT_added_1 (Or.inl rfl) (sk_0 _) ?_
  try simp (disch := omega) only [am_u_n, am_u_s, am_u_k, hc]
  refine go_bipush (v := nI 8) iT_added_4 (by decide) ?_
  first | refine gn_ic_lt iT_added_6 (by omega) (by omega) (fun c_6 => ?_) (fun c_6 => ?_) | refine go_ic_lt iT_added_6 (fun c_6 => ?_) (fun c_6 => ?_)
  · (first | omega | exact absurd c_6 (by decide) | (exfalso; simp (disch := omega) only [Int32.lt_iff_toInt_lt, Int32.le_iff_toInt_le, ← Int32.toInt_inj, nI_toInt, i32_m1, i32_0, i32_m20, i32_m40, i32_m30, i32_m9] at *; omega))
  refine go_bipush (v := (-2)) iT_added_9 (by decide) ?_
  refine go_iret iT_added_11 rfl ?_
  rfl
theorem sp_T_added_t {kd sz a b c d : Int32} (hc : mI 0 1 = nI n) (hn : n < 8) : Sp S 1 tT_added (am_sh n, mI, mL, am_mR n) [.ref 0, .int kd, .int sz, .int a, .int b, .int c, .int d] (fun q => q = (some (.int (nI n)), (am_sh (n + 1), addI mI n kd sz a b c d, addL mL n, am_mR (n + 1)))) := by
  have hl := am_sh_len n
  have hk : ((am_sh n ++ [(12, 3)])[60 + 2 * n]?).map (fun q => q.1) = some 12 := by rw [← hl]; simp
  have hl2 : (am_sh n ++ [(12, 3)]).length = 61 + 2 * n := by simp [hl]; omega
  have hp := sh_play (n := n + 1) (p := n) (by omega)
  have hz : va_up mI (60 + 2 * n) (fun _ => 0) 0 1 = nI n := by rw [va_up_ne _ _ (by omega)]; exact hc
  have hpc : plI (va_up mI (60 + 2 * n) (fun _ => 0)) (60 + 2 * n) (61 + 2 * n) kd sz a b c d 0 1 = nI n := by rw [plI_n (by omega) (by omega)]; exact hz
  show Go _ _ tT_added (_, 0, [.ref 0, .int kd, .int sz, .int a, .int b, .int c, .int d], []) _
  refine go_aloadn_0 iT_added_0 rfl ?_
  refine go_getI iT_added_1 (Or.inl rfl) (sk_0 _) ?_
  try simp (disch := omega) only [am_u_n, am_u_s, am_u_k, hc, hpc]
  refine go_bipush (v := nI 8) iT_added_4 (by decide) ?_
  first | refine gn_ic_lt iT_added_6 (by omega) (by omega) (fun c_6 => ?_) (fun c_6 => ?_) | refine go_ic_lt iT_added_6 (fun c_6 => ?_) (fun c_6 => ?_)
  rotate_left
  · (first | omega | exact absurd c_6 (by decide) | (exfalso; simp (disch := omega) only [Int32.lt_iff_toInt_lt, Int32.le_iff_toInt_le, ← Int32.toInt_inj, nI_toInt, i32_m1, i32_0, i32_m20, i32_m40, i32_m30, i32_m9] at *; omega))
  refine go_aloadn_0 iT_added_12 rfl ?_
  refine go_getR iT_added_13 rfl (sk_0 _) (mR_0_2 _) ?_
  refine go_aloadn_0 iT_added_16 rfl ?_
  refine go_getI iT_added_17 (Or.inl rfl) (sk_0 _) ?_
  try simp (disch := omega) only [am_u_n, am_u_s, am_u_k, hc, hpc]
  refine go_new (q := (RX2, TX2, 3)) iT_added_20 rfl (by decide) ?_
  show Go _ _ _ ((am_sh n ++ [(12, 3)], va_up mI (am_sh n).length (fun _ => 0), va_up mL (am_sh n).length (fun _ => 0), va_up (am_mR n) (am_sh n).length (fun _ => none)), 23, _, .ref (am_sh n).length :: _) _
  rw [hl]
  refine go_dup iT_added_23 rfl ?_
  refine go_iloadn_1 iT_added_24 ?_
  refine go_iloadn_2 iT_added_25 ?_
  refine go_iloadn_3 iT_added_26 ?_
  refine go_iload_4 iT_added_27 ?_
  refine go_iload_5 iT_added_29 ?_
  refine go_iload_6 iT_added_31 ?_
  refine gc_I0 iT_added_33 (by decide) rfl (by decide) hk rfl (Nat.le_of_ble_eq_true rfl) (Nat.le_of_ble_eq_true rfl) (by decide) (sp_P_init hk (by rw [hl2]; omega)) ?_
  rw [hl2, am_sh_s]
  refine go_aast (kv := 2) (q := (RX2, TX2, 3)) iT_added_36 (sh_1 _) (by decide) (by decide) hp rfl rfl rfl (by omega) (by omega) ?_
  show Go _ _ _ ((am_sh (n + 1), plI (va_up mI (60 + 2 * n) (fun _ => 0)) (60 + 2 * n) (61 + 2 * n) kd sz a b c d, addL mL n, am_mR (n + 1)), 37, _, _) _
  refine go_aloadn_0 iT_added_37 rfl ?_
  refine go_dup iT_added_38 rfl ?_
  refine go_getI iT_added_39 (Or.inl rfl) (sk_0 _) ?_
  try simp (disch := omega) only [am_u_n, am_u_s, am_u_k, hc, hpc]
  refine go_iconst (v := nI 1) iT_added_42 rfl ?_
  first | refine gn_iadd iT_added_43 ?_ | refine go_iadd iT_added_43 ?_
  refine go_putI iT_added_44 rfl (sk_0 _) ?_
  refine go_aloadn_0 iT_added_47 rfl ?_
  refine go_getI iT_added_48 (Or.inl rfl) (sk_0 _) ?_
  try simp (disch := omega) only [am_u_n, am_u_s, am_u_k, hc, hpc]
  refine go_iconst (v := nI 1) iT_added_51 rfl ?_
  first | refine gn_isub iT_added_52 (by omega) ?_ | refine go_isub iT_added_52 ?_
  refine go_iret iT_added_53 rfl ?_
  rfl
end MADE
