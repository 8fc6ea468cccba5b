/-! ===== plays are made ===== -/
theorem am_u_n {α : Type} {f : Nat → Nat → α} {i k a b : Nat} {v : α} (h : a ≠ i) : am_u f i k v a b = f a b := by
  unfold am_u
  rw [va_up_ne _ _ h]
theorem am_u_k {α : Type} {f : Nat → Nat → α} {i k b : Nat} {v : α} (h : b ≠ k) : am_u f i k v i b = f i b := by
  unfold am_u
  rw [va_up_self, va_up_ne _ _ h]
theorem am_u_s {α : Type} {f : Nat → Nat → α} {i k : Nat} {v : α} : am_u f i k v i k = v := by
  unfold am_u
  rw [va_up_self, va_up_self]
theorem go_aast {S : am_S} {d : Nat} {t : am_T} {sh : List (Nat × Nat)} {mI : Nat → Nat → Int32} {mL : Nat → Nat → Int64} {mR : Nat → Nat → Option Nat} {pc nx a b h : Nat} {la st : List Value} {Q : Option Value × am_M → Prop} {i v z n kd kv nv : Nat} {j : Int32} {q : vw_C} (hl : At t pc (.aastore, nx, a, b, h)) (hs : sh[i]? = some (kd, n)) (h2 : 2 ≤ kd) (h5 : kd < 5) (hv : sh[v]? = some (kv + 10, nv)) (hq : vwCl[kv]? = some q) (hra : q.1 = am_ra kd) (hj : j = nI z) (hz : z < n) (hn : n ≤ 10000) (k : Go S d t ((sh, mI, mL, am_u mR i z (some v)), nx, la, st) Q) : Go S d t ((sh, mI, mL, mR), pc, la, .ref v :: .int j :: .ref i :: st) Q := go_step (at_mem hl rfl (by
  subst hj
  have hk : am_kr (sh, mI, mL, mR) i = kd := (by simp [am_kr, hs])
  have hk2 : am_kr (sh, mI, mL, mR) v = kv + 10 := (by simp [am_kr, hv])
  simp [am_mem, am_aast, hk, hk2, h2, h5, am_in_ok hs hz hn, nI_clamp (show z < 2 ^ 31 by omega), hq, hra])) k
section PLY
variable {S : am_S} {M : am_M} {sh : List (Nat × Nat)} {mI : Nat → Nat → Int32} {mL : Nat → Nat → Int64} {mR : Nat → Nat → Option Nat} {n : Nat}
def putI (mI : Nat → Nat → Int32) (n : Nat) (kd a b c d : Int32) : Nat → Nat → Int32 := am_u (am_u (am_u (am_u (am_u (am_u mI 45 n kd) 46 (4 * n) a) 46 (4 * n + 1) b) 46 (4 * n + 2) c) 46 (4 * n + 3) d) 43 5 (nI (n + 1))
/-- sh n': the class has made its play already -/
theorem sp_M_put_t {n' : Nat} {kd a b c d : Int32} (hc : mI 43 5 = nI n) (hn : n < 8) : Sp S 0 tM_put (am_sh n', mI, mL, am_mR n') [.ref 43, .int kd, .int a, .int b, .int c, .int d] (fun q => q = (some (.int (nI n)), (am_sh n', putI mI n kd a b c d, mL, am_mR n'))) := by
  show Go _ _ tM_put (_, 0, [.ref 43, .int kd, .int a, .int b, .int c, .int d], []) _
  refine go_aloadn_0 iM_put_0 rfl ?_
  refine go_getI iM_put_1 (Or.inl rfl) (sk_43 _) ?_
  try simp (disch := omega) only [am_u_n, am_u_s, am_u_k, hc]
  refine go_bipush (v := nI 8) iM_put_4 (by decide) ?_
  first | refine gn_ic_ne iM_put_6 (by omega) (by omega) (fun c_6 => ?_) (fun c_6 => ?_) | refine go_ic_ne iM_put_6 (fun c_6 => ?_) (fun c_6 => ?_)
  rotate_left
  · (first | omega | exact absurd c_6 (by decide) | (exfalso; simp (disch := omega) only [Int32.lt_iff_toInt_lt, Int32.le_iff_toInt_le, ← Int32.toInt_inj, nI_toInt, i32_m1, i32_0, i32_m20, i32_m40, i32_m30, i32_m9] at *; omega))
  refine go_aloadn_0 iM_put_12 rfl ?_
  refine go_getR iM_put_13 rfl (sk_43 _) (mR_43_6 _) ?_
  refine go_aloadn_0 iM_put_16 rfl ?_
  refine go_getI iM_put_17 (Or.inl rfl) (sk_43 _) ?_
  try simp (disch := omega) only [am_u_n, am_u_s, am_u_k, hc]
  refine go_iloadn_1 iM_put_20 ?_
  refine go_iast iM_put_21 (sh_45 _) rfl (by omega) (by omega) ?_
  refine go_aloadn_0 iM_put_22 rfl ?_
  refine go_getR iM_put_23 rfl (sk_43 _) (mR_43_7 _) ?_
  refine go_iconst (v := nI 4) iM_put_26 rfl ?_
  refine go_aloadn_0 iM_put_27 rfl ?_
  refine go_getI iM_put_28 (Or.inl rfl) (sk_43 _) ?_
  try simp (disch := omega) only [am_u_n, am_u_s, am_u_k, hc]
  first | refine gn_imul iM_put_31 ?_ | refine go_imul iM_put_31 ?_
  refine go_iloadn_2 iM_put_32 ?_
  refine go_iast iM_put_33 (sh_46 _) rfl (by omega) (by omega) ?_
  refine go_aloadn_0 iM_put_34 rfl ?_
  refine go_getR iM_put_35 rfl (sk_43 _) (mR_43_7 _) ?_
  refine go_iconst (v := nI 4) iM_put_38 rfl ?_
  refine go_aloadn_0 iM_put_39 rfl ?_
  refine go_getI iM_put_40 (Or.inl rfl) (sk_43 _) ?_
  try simp (disch := omega) only [am_u_n, am_u_s, am_u_k, hc]
  first | refine gn_imul iM_put_43 ?_ | refine go_imul iM_put_43 ?_
  refine go_iconst (v := nI 1) iM_put_44 rfl ?_
  first | refine gn_iadd iM_put_45 ?_ | refine go_iadd iM_put_45 ?_
  refine go_iloadn_3 iM_put_46 ?_
  refine go_iast iM_put_47 (sh_46 _) rfl (by omega) (by omega) ?_
  refine go_aloadn_0 iM_put_48 rfl ?_
  refine go_getR iM_put_49 rfl (sk_43 _) (mR_43_7 _) ?_
  refine go_iconst (v := nI 4) iM_put_52 rfl ?_
  refine go_aloadn_0 iM_put_53 rfl ?_
  refine go_getI iM_put_54 (Or.inl rfl) (sk_43 _) ?_
  try simp (disch := omega) only [am_u_n, am_u_s, am_u_k, hc]
  first | refine gn_imul iM_put_57 ?_ | refine go_imul iM_put_57 ?_
  refine go_iconst (v := nI 2) iM_put_58 rfl ?_
  first | refine gn_iadd iM_put_59 ?_ | refine go_iadd iM_put_59 ?_
  refine go_iload_4 iM_put_60 ?_
  refine go_iast iM_put_62 (sh_46 _) rfl (by omega) (by omega) ?_
  refine go_aloadn_0 iM_put_63 rfl ?_
  refine go_getR iM_put_64 rfl (sk_43 _) (mR_43_7 _) ?_
  refine go_iconst (v := nI 4) iM_put_67 rfl ?_
  refine go_aloadn_0 iM_put_68 rfl ?_
  refine go_getI iM_put_69 (Or.inl rfl) (sk_43 _) ?_
  try simp (disch := omega) only [am_u_n, am_u_s, am_u_k, hc]
  first | refine gn_imul iM_put_72 ?_ | refine go_imul iM_put_72 ?_
  refine go_iconst (v := nI 3) iM_put_73 rfl ?_
  first | refine gn_iadd iM_put_74 ?_ | refine go_iadd iM_put_74 ?_
  refine go_iload_5 iM_put_75 ?_
  refine go_iast iM_put_77 (sh_46 _) rfl (by omega) (by omega) ?_
  refine go_aloadn_0 iM_put_78 rfl ?_
  refine go_dup iM_put_79 rfl ?_
  refine go_getI iM_put_80 (Or.inl rfl) (sk_43 _) ?_
  try simp (disch := omega) only [am_u_n, am_u_s, am_u_k, hc]
  refine go_iconst (v := nI 1) iM_put_83 rfl ?_
  first | refine gn_iadd iM_put_84 ?_ | refine go_iadd iM_put_84 ?_
  refine go_putI iM_put_85 rfl (sk_43 _) ?_
  refine go_aloadn_0 iM_put_88 rfl ?_
  refine go_getI iM_put_89 (Or.inl rfl) (sk_43 _) ?_
  try simp (disch := omega) only [am_u_n, am_u_s, am_u_k, hc]
  refine go_iconst (v := nI 1) iM_put_92 rfl ?_
  first | refine gn_isub iM_put_93 (by omega) ?_ | refine go_isub iM_put_93 ?_
  refine go_iret iM_put_94 rfl ?_
  rfl
theorem sp_M_put_f {n' : Nat} {kd a b c d : Int32} (hc : mI 43 5 = nI n) (hn : n = 8) : Sp S 0 tM_put (am_sh n', mI, mL, am_mR n') [.ref 43, .int kd, .int a, .int b, .int c, .int d] (fun q => q = (some (.int (-2)), (am_sh n', mI, mL, am_mR n'))) := by
  show Go _ _ tM_put (_, 0, [.ref 43, .int kd, .int a, .int b, .int c, .int d], []) _
  refine go_aloadn_0 iM_put_0 rfl ?_
  refine go_getI iM_put_1 (Or.inl rfl) (sk_43 _) ?_
  try simp (disch := omega) only [am_u_n, am_u_s, am_u_k, hc]
  refine go_bipush (v := nI 8) iM_put_4 (by decide) ?_
  first | refine gn_ic_ne iM_put_6 (by omega) (by omega) (fun c_6 => ?_) (fun c_6 => ?_) | refine go_ic_ne iM_put_6 (fun c_6 => ?_) (fun c_6 => ?_)
  · (first | omega | exact absurd c_6 (by decide) | (exfalso; simp (disch := omega) only [Int32.lt_iff_toInt_lt, Int32.le_iff_toInt_le, ← Int32.toInt_inj, nI_toInt, i32_m1, i32_0, i32_m20, i32_m40, i32_m30, i32_m9] at *; omega))
  refine go_bipush (v := (-2)) iM_put_9 (by decide) ?_
  refine go_iret iM_put_11 rfl ?_
  rfl
/-- the cells of a new play p at cell w, its odds at v -/
def plI (mI : Nat → Nat → Int32) (w v : Nat) (kd sz a b c d : Int32) : Nat → Nat → Int32 := am_u (am_u (am_u (am_u (am_u (am_u (va_up mI v (fun _ => 0)) w 0 kd) w 1 sz) v 0 a) v 1 b) v 2 c) v 3 d
theorem sp_P_init {w : Nat} {kd sz a b c d : Int32} (hs : (sh[w]?).map (fun q => q.1) = some 12) (hw : w < sh.length) : Sp S 0 tP_init (sh, mI, mL, mR) [.ref w, .int kd, .int sz, .int a, .int b, .int c, .int d] (fun q => q = (none, (sh ++ [(0, 4)], plI mI w sh.length kd sz a b c d, va_up mL sh.length (fun _ => 0), am_u (va_up mR sh.length (fun _ => none)) w 2 (some sh.length)))) := by
  have hs2 : ((sh ++ [(0, 4)])[w]?).map (fun q => q.1) = some 12 := by rw [List.getElem?_append_left hw]; exact hs
  have hs3 : (sh ++ [(0, 4)])[sh.length]? = some (0, 4) := by simp
  have hr : am_u (va_up mR sh.length (fun _ => none)) w 2 (some sh.length) w 2 = some sh.length := am_u_s
  show Go _ _ tP_init (_, 0, [.ref w, .int kd, .int sz, .int a, .int b, .int c, .int d], []) _
  refine go_aloadn_0 iP_init_0 rfl ?_
  refine go_objI iP_init_1 rfl (Nat.le_of_ble_eq_true rfl) ?_
  refine go_aloadn_0 iP_init_4 rfl ?_
  refine go_iconst (v := nI 4) iP_init_5 rfl ?_
  refine go_newI (n := 4) iP_init_6 rfl (by decide) ?_
  show Go _ _ _ ((sh ++ [(0, 4)], va_up mI sh.length (fun _ => 0), va_up mL sh.length (fun _ => 0), va_up mR sh.length (fun _ => none)), _) _
  refine go_putR iP_init_8 rfl (by assumption) ?_
  refine go_aloadn_0 iP_init_11 rfl ?_
  refine go_iloadn_1 iP_init_12 ?_
  refine go_putI iP_init_13 rfl (by assumption) ?_
  refine go_aloadn_0 iP_init_16 rfl ?_
  refine go_iloadn_2 iP_init_17 ?_
  refine go_putI iP_init_18 rfl (by assumption) ?_
  refine go_aloadn_0 iP_init_21 rfl ?_
  refine go_getR iP_init_22 rfl (by assumption) (by assumption) ?_
  refine go_iconst (v := nI 0) iP_init_25 rfl ?_
  refine go_iloadn_3 iP_init_26 ?_
  refine go_iast iP_init_27 (by assumption) rfl (by omega) (by omega) ?_
  refine go_aloadn_0 iP_init_28 rfl ?_
  refine go_getR iP_init_29 rfl (by assumption) (by assumption) ?_
  refine go_iconst (v := nI 1) iP_init_32 rfl ?_
  refine go_iload_4 iP_init_33 ?_
  refine go_iast iP_init_35 (by assumption) rfl (by omega) (by omega) ?_
  refine go_aloadn_0 iP_init_36 rfl ?_
  refine go_getR iP_init_37 rfl (by assumption) (by assumption) ?_
  refine go_iconst (v := nI 2) iP_init_40 rfl ?_
  refine go_iload_5 iP_init_41 ?_
  refine go_iast iP_init_43 (by assumption) rfl (by omega) (by omega) ?_
  refine go_aloadn_0 iP_init_44 rfl ?_
  refine go_getR iP_init_45 rfl (by assumption) (by assumption) ?_
  refine go_iconst (v := nI 3) iP_init_48 rfl ?_
  refine go_iload_6 iP_init_49 ?_
  refine go_iast iP_init_51 (by assumption) rfl (by omega) (by omega) ?_
  refine go_vret iP_init_52 rfl ?_
  rfl
end PLY
