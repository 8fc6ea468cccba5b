/-! ===== the constructors ===== -/
def SHt (j : Nat) : List (Nat × Nat) := (am_shT ++ am_shM).take j
section GW
variable {S : am_S} {d : Nat} {t : am_T} {sh sh2 : List (Nat × Nat)} {mI : Nat → Nat → Int32} {mL : Nat → Nat → Int64} {mR : Nat → Nat → Option Nat} {pc nx a b h k n ix : Nat} {la st : List Value} {Q : Option Value × am_M → Prop}
theorem gw_I (hl : At t pc (.newarray .int, nx, a, b, h)) (hk : sh.length = k) (hs : sh ++ [(0, n)] = sh2) (hn : n ≤ 1000) (kk : Go S d t ((sh2, va_up mI k (fun _ => 0), va_up mL k (fun _ => 0), va_up mR k (fun _ => none)), nx, la, .ref k :: st) Q) : Go S d t ((sh, mI, mL, mR), pc, la, .int (nI n) :: st) Q := by
  subst hk
  subst hs
  exact go_newI hl rfl hn kk
theorem gw_L (hl : At t pc (.newarray .long, nx, a, b, h)) (hk : sh.length = k) (hs : sh ++ [(1, n)] = sh2) (hn : n ≤ 1000) (kk : Go S d t ((sh2, va_up mI k (fun _ => 0), va_up mL k (fun _ => 0), va_up mR k (fun _ => none)), nx, la, .ref k :: st) Q) : Go S d t ((sh, mI, mL, mR), pc, la, .int (nI n) :: st) Q := by
  subst hk
  subst hs
  exact go_newL hl rfl hn kk
theorem gw_A (hl : At t pc (.anewarray ix, nx, a, b, h)) (hk : sh.length = k) (hs : sh ++ [(a, n)] = sh2) (hn : n ≤ 1000) (kk : Go S d t ((sh2, va_up mI k (fun _ => 0), va_up mL k (fun _ => 0), va_up mR k (fun _ => none)), nx, la, .ref k :: st) Q) : Go S d t ((sh, mI, mL, mR), pc, la, .int (nI n) :: st) Q := by
  subst hk
  subst hs
  exact go_newA hl rfl hn kk
theorem gw_O {q : vw_C} (hl : At t pc (.new ix, nx, a, b, h)) (hq : vwCl[a - 10]? = some q) (ha : 10 ≤ a) (hk : sh.length = k) (hs : sh ++ [(a, q.2.2)] = sh2) (kk : Go S d t ((sh2, va_up mI k (fun _ => 0), va_up mL k (fun _ => 0), va_up mR k (fun _ => none)), nx, la, .ref k :: st) Q) : Go S d t ((sh, mI, mL, mR), pc, la, st) Q := by
  subst hk
  subst hs
  exact go_new hl hq ha kk
end GW
section INI
variable {S : am_S} {sh sh1 sh2 sh3 : List (Nat × Nat)} {mI : Nat → Nat → Int32} {mL : Nat → Nat → Int64} {mR : Nat → Nat → Option Nat} {i k : Nat}
theorem sp_F_init (hk0 : (sh[i]?).map (fun q => q.1) = some 11) : Sp S 0 tF_init (sh, mI, mL, mR) [.ref i] (fun q => q = (none, (sh, mI, am_u (am_u mL i 0 0) i 1 1, mR))) := by
  show Go _ _ tF_init (_, 0, [.ref i], []) _
  refine go_aloadn_0 iF_init_0 rfl ?_
  refine go_objI iF_init_1 rfl (Nat.le_of_ble_eq_true rfl) ?_
  refine go_aloadn_0 iF_init_4 rfl ?_
  refine go_lconst (v := 0) iF_init_5 rfl ?_
  refine go_putL iF_init_6 rfl hk0 ?_
  refine go_aloadn_0 iF_init_9 rfl ?_
  refine go_lconst (v := 1) iF_init_10 rfl ?_
  refine go_putL iF_init_11 rfl hk0 ?_
  refine go_vret iF_init_14 rfl ?_
  rfl
theorem sp_W_init (hk0 : (sh[i]?).map (fun q => q.1) = some 15) (hl1 : sh.length = k) (hs1 : sh ++ [(0, 4)] = sh1) (hk1 : (sh1[i]?).map (fun q => q.1) = some 15) : Sp S 0 tW_init (sh, mI, mL, mR) [.ref i] (fun q => q = (none, (sh1, va_up (am_u (mI) i 0 (-1)) k (fun _ => 0), va_up (mL) k (fun _ => 0), am_u (va_up (mR) k (fun _ => none)) i 1 (some k)))) := by
  show Go _ _ tW_init (_, 0, [.ref i], []) _
  refine go_aloadn_0 iW_init_0 rfl ?_
  refine go_objI iW_init_1 rfl (Nat.le_of_ble_eq_true rfl) ?_
  refine go_aloadn_0 iW_init_4 rfl ?_
  refine go_iconst (v := (-1)) iW_init_5 rfl ?_
  refine go_putI iW_init_6 rfl hk0 ?_
  refine go_aloadn_0 iW_init_9 rfl ?_
  refine go_iconst (v := nI 4) iW_init_10 rfl ?_
  refine gw_I iW_init_11 hl1 hs1 (by decide) ?_
  refine go_putR iW_init_13 rfl hk1 ?_
  refine go_vret iW_init_16 rfl ?_
  rfl
theorem sp_B_init (hk0 : (sh[i]?).map (fun q => q.1) = some 10) (hl1 : sh.length = k) (hs1 : sh ++ [(0, 4)] = sh1) (hk1 : (sh1[i]?).map (fun q => q.1) = some 10) : Sp S 0 tB_init (sh, mI, mL, mR) [.ref i] (fun q => q = (none, (sh1, va_up (am_u (mI) i 0 (nI 0)) k (fun _ => 0), va_up (am_u (am_u (am_u (mL) i 1 0) i 2 1) i 3 1) k (fun _ => 0), am_u (va_up (mR) k (fun _ => none)) i 4 (some k)))) := by
  show Go _ _ tB_init (_, 0, [.ref i], []) _
  refine go_aloadn_0 iB_init_0 rfl ?_
  refine go_objI iB_init_1 rfl (Nat.le_of_ble_eq_true rfl) ?_
  refine go_aloadn_0 iB_init_4 rfl ?_
  refine go_iconst (v := nI 0) iB_init_5 rfl ?_
  refine go_putZ iB_init_6 rfl hk0 (by first | exact Or.inl rfl | exact Or.inr rfl) ?_
  refine go_aloadn_0 iB_init_9 rfl ?_
  refine go_lconst (v := 0) iB_init_10 rfl ?_
  refine go_putL iB_init_11 rfl hk0 ?_
  refine go_aloadn_0 iB_init_14 rfl ?_
  refine go_lconst (v := 1) iB_init_15 rfl ?_
  refine go_putL iB_init_16 rfl hk0 ?_
  refine go_aloadn_0 iB_init_19 rfl ?_
  refine go_lconst (v := 1) iB_init_20 rfl ?_
  refine go_putL iB_init_21 rfl hk0 ?_
  refine go_aloadn_0 iB_init_24 rfl ?_
  refine go_iconst (v := nI 4) iB_init_25 rfl ?_
  refine gw_I iB_init_26 hl1 hs1 (by decide) ?_
  refine go_putR iB_init_28 rfl hk1 ?_
  refine go_vret iB_init_31 rfl ?_
  rfl
theorem sp_U_init (hk0 : (sh[i]?).map (fun q => q.1) = some 13) (hl1 : sh.length = k) (hs1 : sh ++ [(1, 19)] = sh1) (hk1 : (sh1[i]?).map (fun q => q.1) = some 13) : Sp S 0 tU_init (sh, mI, mL, mR) [.ref i] (fun q => q = (none, (sh1, va_up (am_u (am_u (mI) i 0 (nI 0)) i 1 (nI 0)) k (fun _ => 0), va_up (am_u (mL) i 2 1) k (fun _ => 0), am_u (va_up (mR) k (fun _ => none)) i 3 (some k)))) := by
  show Go _ _ tU_init (_, 0, [.ref i], []) _
  refine go_aloadn_0 iU_init_0 rfl ?_
  refine go_objI iU_init_1 rfl (Nat.le_of_ble_eq_true rfl) ?_
  refine go_aloadn_0 iU_init_4 rfl ?_
  refine go_iconst (v := nI 0) iU_init_5 rfl ?_
  refine go_putI iU_init_6 rfl hk0 ?_
  refine go_aloadn_0 iU_init_9 rfl ?_
  refine go_iconst (v := nI 0) iU_init_10 rfl ?_
  refine go_putI iU_init_11 rfl hk0 ?_
  refine go_aloadn_0 iU_init_14 rfl ?_
  refine go_lconst (v := 1) iU_init_15 rfl ?_
  refine go_putL iU_init_16 rfl hk0 ?_
  refine go_aloadn_0 iU_init_19 rfl ?_
  refine go_bipush (v := nI 19) iU_init_20 (by decide) ?_
  refine gw_L iU_init_22 hl1 hs1 (by decide) ?_
  refine go_putR iU_init_24 rfl hk1 ?_
  refine go_vret iU_init_27 rfl ?_
  rfl
theorem sp_R_init (hk0 : (sh[i]?).map (fun q => q.1) = some 14) (hl1 : sh.length = k) (hs1 : sh ++ [(1, 9)] = sh1) (hk1 : (sh1[i]?).map (fun q => q.1) = some 14) (hl2 : sh1.length = k + 1) (hs2 : sh1 ++ [(1, 3)] = sh2) (hk2 : (sh2[i]?).map (fun q => q.1) = some 14) (hl3 : sh2.length = k + 2) (hs3 : sh2 ++ [(1, 3)] = sh3) (hk3 : (sh3[i]?).map (fun q => q.1) = some 14) : Sp S 0 tR_init (sh, mI, mL, mR) [.ref i] (fun q => q = (none, (sh3, va_up (va_up (va_up (am_u (am_u (mI) i 0 (nI 1)) i 1 (nI 0)) k (fun _ => 0)) (k + 1) (fun _ => 0)) (k + 2) (fun _ => 0), am_u (am_u (va_up (va_up (va_up (am_u (mL) i 2 1) k (fun _ => 0)) (k + 1) (fun _ => 0)) (k + 2) (fun _ => 0)) i 6 0) i 7 0, am_u (va_up (am_u (va_up (am_u (va_up (mR) k (fun _ => none)) i 3 (some k)) (k + 1) (fun _ => none)) i 4 (some (k + 1))) (k + 2) (fun _ => none)) i 5 (some (k + 2))))) := by
  show Go _ _ tR_init (_, 0, [.ref i], []) _
  refine go_aloadn_0 iR_init_0 rfl ?_
  refine go_objI iR_init_1 rfl (Nat.le_of_ble_eq_true rfl) ?_
  refine go_aloadn_0 iR_init_4 rfl ?_
  refine go_iconst (v := nI 1) iR_init_5 rfl ?_
  refine go_putI iR_init_6 rfl hk0 ?_
  refine go_aloadn_0 iR_init_9 rfl ?_
  refine go_iconst (v := nI 0) iR_init_10 rfl ?_
  refine go_putI iR_init_11 rfl hk0 ?_
  refine go_aloadn_0 iR_init_14 rfl ?_
  refine go_lconst (v := 1) iR_init_15 rfl ?_
  refine go_putL iR_init_16 rfl hk0 ?_
  refine go_aloadn_0 iR_init_19 rfl ?_
  refine go_bipush (v := nI 9) iR_init_20 (by decide) ?_
  refine gw_L iR_init_22 hl1 hs1 (by decide) ?_
  refine go_putR iR_init_24 rfl hk1 ?_
  refine go_aloadn_0 iR_init_27 rfl ?_
  refine go_iconst (v := nI 3) iR_init_28 rfl ?_
  refine gw_L iR_init_29 hl2 hs2 (by decide) ?_
  refine go_putR iR_init_31 rfl hk2 ?_
  refine go_aloadn_0 iR_init_34 rfl ?_
  refine go_iconst (v := nI 3) iR_init_35 rfl ?_
  refine gw_L iR_init_36 hl3 hs3 (by decide) ?_
  refine go_putR iR_init_38 rfl hk3 ?_
  refine go_aloadn_0 iR_init_41 rfl ?_
  refine go_lconst (v := 0) iR_init_42 rfl ?_
  refine go_putL iR_init_43 rfl hk3 ?_
  refine go_aloadn_0 iR_init_46 rfl ?_
  refine go_lconst (v := 0) iR_init_47 rfl ?_
  refine go_putL iR_init_48 rfl hk3 ?_
  refine go_vret iR_init_51 rfl ?_
  rfl
end INI
def ci_I0 : Nat → Nat → Int32 := va_up (va_up (va_up (am_u (am_u (va_up (va_up (va_up (va_up (am_u (am_u (va_up (va_up (va_up (va_up (am_u (am_u (va_up (va_up (va_up (va_up (am_u (am_u (va_up (va_up (va_up (va_up (am_u (am_u (va_up (va_up (am_u (va_up (va_up (am_u (va_up (va_up (am_u (va_up (va_up (am_u (va_up (va_up (am_u (am_u (va_up (va_up (am_u (va_up (va_up (am_u (va_up (va_up (va_up (va_up (va_up (va_up (va_up (am_u (va_up (va_up (am_u (am_u (va_up (fun _ _ => 0) 0 (fun _ => 0)) 0 0 (nI 3)) 0 1 (nI 0)) 1 (fun _ => 0)) 2 (fun _ => 0)) 0 4 (nI 0)) 3 (fun _ => 0)) 4 (fun _ => 0)) 5 (fun _ => 0)) 6 (fun _ => 0)) 7 (fun _ => 0)) 8 (fun _ => 0)) 9 (fun _ => 0)) 9 0 (-1)) 10 (fun _ => 0)) 11 (fun _ => 0)) 11 0 (nI 0)) 12 (fun _ => 0)) 13 (fun _ => 0)) 13 0 (nI 0)) 13 1 (nI 0)) 14 (fun _ => 0)) 15 (fun _ => 0)) 15 0 (-1)) 16 (fun _ => 0)) 17 (fun _ => 0)) 17 0 (-1)) 18 (fun _ => 0)) 19 (fun _ => 0)) 19 0 (-1)) 20 (fun _ => 0)) 21 (fun _ => 0)) 21 0 (-1)) 22 (fun _ => 0)) 23 (fun _ => 0)) 23 0 (nI 1)) 23 1 (nI 0)) 24 (fun _ => 0)) 25 (fun _ => 0)) 26 (fun _ => 0)) 27 (fun _ => 0)) 27 0 (nI 1)) 27 1 (nI 0)) 28 (fun _ => 0)) 29 (fun _ => 0)) 30 (fun _ => 0)) 31 (fun _ => 0)) 31 0 (nI 1)) 31 1 (nI 0)) 32 (fun _ => 0)) 33 (fun _ => 0)) 34 (fun _ => 0)) 35 (fun _ => 0)) 35 0 (nI 1)) 35 1 (nI 0)) 36 (fun _ => 0)) 37 (fun _ => 0)) 38 (fun _ => 0)) 39 (fun _ => 0)) 39 0 (nI 1)) 39 1 (nI 0)) 40 (fun _ => 0)) 41 (fun _ => 0)) 42 (fun _ => 0)
def ci_I : Nat → Nat → Int32 := va_up ci_I0 5 (fl (ci_I0 5) 3 (-9))
def ci_L : Nat → Nat → Int64 := am_u (am_u (va_up (va_up (va_up (am_u (va_up (am_u (am_u (va_up (va_up (va_up (am_u (va_up (am_u (am_u (va_up (va_up (va_up (am_u (va_up (am_u (am_u (va_up (va_up (va_up (am_u (va_up (am_u (am_u (va_up (va_up (va_up (am_u (va_up (va_up (va_up (va_up (va_up (va_up (va_up (va_up (va_up (va_up (am_u (va_up (va_up (am_u (am_u (am_u (va_up (va_up (va_up (va_up (va_up (va_up (va_up (am_u (am_u (va_up (va_up (va_up (va_up (va_up (fun _ _ => 0) 0 (fun _ => 0)) 1 (fun _ => 0)) 2 (fun _ => 0)) 3 (fun _ => 0)) 4 (fun _ => 0)) 4 0 0) 4 1 1) 5 (fun _ => 0)) 6 (fun _ => 0)) 7 (fun _ => 0)) 8 (fun _ => 0)) 9 (fun _ => 0)) 10 (fun _ => 0)) 11 (fun _ => 0)) 11 1 0) 11 2 1) 11 3 1) 12 (fun _ => 0)) 13 (fun _ => 0)) 13 2 1) 14 (fun _ => 0)) 15 (fun _ => 0)) 16 (fun _ => 0)) 17 (fun _ => 0)) 18 (fun _ => 0)) 19 (fun _ => 0)) 20 (fun _ => 0)) 21 (fun _ => 0)) 22 (fun _ => 0)) 23 (fun _ => 0)) 23 2 1) 24 (fun _ => 0)) 25 (fun _ => 0)) 26 (fun _ => 0)) 23 6 0) 23 7 0) 27 (fun _ => 0)) 27 2 1) 28 (fun _ => 0)) 29 (fun _ => 0)) 30 (fun _ => 0)) 27 6 0) 27 7 0) 31 (fun _ => 0)) 31 2 1) 32 (fun _ => 0)) 33 (fun _ => 0)) 34 (fun _ => 0)) 31 6 0) 31 7 0) 35 (fun _ => 0)) 35 2 1) 36 (fun _ => 0)) 37 (fun _ => 0)) 38 (fun _ => 0)) 35 6 0) 35 7 0) 39 (fun _ => 0)) 39 2 1) 40 (fun _ => 0)) 41 (fun _ => 0)) 42 (fun _ => 0)) 39 6 0) 39 7 0
def ci_R : Nat → Nat → Option Nat := am_u (am_u (va_up (am_u (va_up (am_u (va_up (va_up (am_u (am_u (va_up (am_u (va_up (am_u (va_up (va_up (am_u (am_u (va_up (am_u (va_up (am_u (va_up (va_up (am_u (am_u (va_up (am_u (va_up (am_u (va_up (va_up (am_u (am_u (va_up (am_u (va_up (am_u (va_up (va_up (am_u (am_u (va_up (va_up (am_u (am_u (va_up (va_up (am_u (am_u (va_up (va_up (am_u (am_u (va_up (va_up (am_u (am_u (va_up (va_up (am_u (am_u (va_up (va_up (am_u (am_u (va_up (va_up (am_u (va_up (am_u (va_up (am_u (va_up (am_u (va_up (am_u (va_up (am_u (va_up (am_u (va_up (am_u (va_up (va_up (fun _ _ => none) 0 (fun _ => none)) 1 (fun _ => none)) 0 2 (some 1)) 2 (fun _ => none)) 0 3 (some 2)) 3 (fun _ => none)) 0 5 (some 3)) 4 (fun _ => none)) 0 6 (some 4)) 5 (fun _ => none)) 0 7 (some 5)) 6 (fun _ => none)) 0 8 (some 6)) 7 (fun _ => none)) 0 9 (some 7)) 8 (fun _ => none)) 0 10 (some 8)) 9 (fun _ => none)) 10 (fun _ => none)) 9 1 (some 10)) 0 11 (some 9)) 11 (fun _ => none)) 12 (fun _ => none)) 11 4 (some 12)) 0 12 (some 11)) 13 (fun _ => none)) 14 (fun _ => none)) 13 3 (some 14)) 0 13 (some 13)) 15 (fun _ => none)) 16 (fun _ => none)) 15 1 (some 16)) 2 0 (some 15)) 17 (fun _ => none)) 18 (fun _ => none)) 17 1 (some 18)) 2 1 (some 17)) 19 (fun _ => none)) 20 (fun _ => none)) 19 1 (some 20)) 2 2 (some 19)) 21 (fun _ => none)) 22 (fun _ => none)) 21 1 (some 22)) 2 3 (some 21)) 23 (fun _ => none)) 24 (fun _ => none)) 23 3 (some 24)) 25 (fun _ => none)) 23 4 (some 25)) 26 (fun _ => none)) 23 5 (some 26)) 6 0 (some 23)) 27 (fun _ => none)) 28 (fun _ => none)) 27 3 (some 28)) 29 (fun _ => none)) 27 4 (some 29)) 30 (fun _ => none)) 27 5 (some 30)) 6 1 (some 27)) 31 (fun _ => none)) 32 (fun _ => none)) 31 3 (some 32)) 33 (fun _ => none)) 31 4 (some 33)) 34 (fun _ => none)) 31 5 (some 34)) 6 2 (some 31)) 35 (fun _ => none)) 36 (fun _ => none)) 35 3 (some 36)) 37 (fun _ => none)) 35 4 (some 37)) 38 (fun _ => none)) 35 5 (some 38)) 6 3 (some 35)) 39 (fun _ => none)) 40 (fun _ => none)) 39 3 (some 40)) 41 (fun _ => none)) 39 4 (some 41)) 42 (fun _ => none)) 39 5 (some 42)) 6 4 (some 39)
set_option maxRecDepth 20000 in
set_option maxHeartbeats 4000000 in
theorem sp_T_init {S : am_S} : Sp S 1 tT_init (SHt 1, va_up (fun _ _ => 0) 0 (fun _ => 0), va_up (fun _ _ => 0) 0 (fun _ => 0), va_up (fun _ _ => none) 0 (fun _ => none)) [.ref 0] (fun q => q = (none, (SHt 43, ci_I, ci_L, ci_R))) := by
  show Go _ _ tT_init (_, 0, [.ref 0, am_U], []) _
  refine go_aloadn_0 iT_init_0 rfl ?_
  refine go_objI iT_init_1 rfl (Nat.le_of_ble_eq_true rfl) ?_
  refine go_aloadn_0 iT_init_4 rfl ?_
  refine go_iconst (v := nI 3) iT_init_5 rfl ?_
  refine go_putI iT_init_6 rfl rfl ?_
  refine go_aloadn_0 iT_init_9 rfl ?_
  refine go_iconst (v := nI 0) iT_init_10 rfl ?_
  refine go_putI iT_init_11 rfl rfl ?_
  refine go_aloadn_0 iT_init_14 rfl ?_
  refine go_bipush (v := nI 8) iT_init_15 (by decide) ?_
  refine gw_A (k := 1) (sh2 := SHt 2) iT_init_17 rfl rfl (by decide) ?_
  refine go_putR iT_init_20 rfl rfl ?_
  refine go_aloadn_0 iT_init_23 rfl ?_
  refine go_iconst (v := nI 4) iT_init_24 rfl ?_
  refine gw_A (k := 2) (sh2 := SHt 3) iT_init_25 rfl rfl (by decide) ?_
  refine go_putR iT_init_28 rfl rfl ?_
  refine go_aloadn_0 iT_init_31 rfl ?_
  refine go_iconst (v := nI 0) iT_init_32 rfl ?_
  refine go_putI iT_init_33 rfl rfl ?_
  refine go_aloadn_0 iT_init_36 rfl ?_
  refine go_bipush (v := nI 6) iT_init_37 (by decide) ?_
  refine gw_I (k := 3) (sh2 := SHt 4) iT_init_39 rfl rfl (by decide) ?_
  refine go_putR iT_init_41 rfl rfl ?_
  refine go_aloadn_0 iT_init_44 rfl ?_
  refine gw_O (k := 4) (sh2 := SHt 5) iT_init_45 rfl (by decide) rfl rfl ?_
  refine go_dup iT_init_48 rfl ?_
  refine gc_I0 iT_init_49 (by decide) rfl (by decide) rfl rfl (Nat.le_of_ble_eq_true rfl) (Nat.le_of_ble_eq_true rfl) (by decide) (sp_F_init rfl) ?_
  refine go_putR iT_init_52 rfl rfl ?_
  refine go_aloadn_0 iT_init_55 rfl ?_
  refine go_iconst (v := nI 3) iT_init_56 rfl ?_
  refine gw_I (k := 5) (sh2 := SHt 6) iT_init_57 rfl rfl (by decide) ?_
  refine go_putR iT_init_59 rfl rfl ?_
  refine go_aloadn_0 iT_init_62 rfl ?_
  refine go_iconst (v := nI 5) iT_init_63 rfl ?_
  refine gw_A (k := 6) (sh2 := SHt 7) iT_init_64 rfl rfl (by decide) ?_
  refine go_putR iT_init_67 rfl rfl ?_
  refine go_aloadn_0 iT_init_70 rfl ?_
  refine go_iconst (v := nI 3) iT_init_71 rfl ?_
  refine gw_I (k := 7) (sh2 := SHt 8) iT_init_72 rfl rfl (by decide) ?_
  refine go_putR iT_init_74 rfl rfl ?_
  refine go_aloadn_0 iT_init_77 rfl ?_
  refine go_iconst (v := nI 4) iT_init_78 rfl ?_
  refine gw_I (k := 8) (sh2 := SHt 9) iT_init_79 rfl rfl (by decide) ?_
  refine go_putR iT_init_81 rfl rfl ?_
  refine go_aloadn_0 iT_init_84 rfl ?_
  refine gw_O (k := 9) (sh2 := SHt 10) iT_init_85 rfl (by decide) rfl rfl ?_
  refine go_dup iT_init_88 rfl ?_
  refine gc_I0 iT_init_89 (by decide) rfl (by decide) rfl rfl (Nat.le_of_ble_eq_true rfl) (Nat.le_of_ble_eq_true rfl) (by decide) (sp_W_init (k := 10) (sh1 := SHt 11) rfl rfl rfl rfl) ?_
  refine go_putR iT_init_92 rfl rfl ?_
  refine go_aloadn_0 iT_init_95 rfl ?_
  refine gw_O (k := 11) (sh2 := SHt 12) iT_init_96 rfl (by decide) rfl rfl ?_
  refine go_dup iT_init_99 rfl ?_
  refine gc_I0 iT_init_100 (by decide) rfl (by decide) rfl rfl (Nat.le_of_ble_eq_true rfl) (Nat.le_of_ble_eq_true rfl) (by decide) (sp_B_init (k := 12) (sh1 := SHt 13) rfl rfl rfl rfl) ?_
  refine go_putR iT_init_103 rfl rfl ?_
  refine go_aloadn_0 iT_init_106 rfl ?_
  refine gw_O (k := 13) (sh2 := SHt 14) iT_init_107 rfl (by decide) rfl rfl ?_
  refine go_dup iT_init_110 rfl ?_
  refine gc_I0 iT_init_111 (by decide) rfl (by decide) rfl rfl (Nat.le_of_ble_eq_true rfl) (Nat.le_of_ble_eq_true rfl) (by decide) (sp_U_init (k := 14) (sh1 := SHt 15) rfl rfl rfl rfl) ?_
  refine go_putR iT_init_114 rfl rfl ?_
  refine go_iconst (v := nI 0) iT_init_117 rfl ?_
  refine go_istoren_1 iT_init_118 (by simp [Value.category, am_U]) ?_
  refine go_iloadn_1 iT_init_119 ?_
  refine go_iconst (v := nI 4) iT_init_120 rfl ?_
  refine gn_ic_ge iT_init_121 (by decide) (by decide) (fun c => ?_) (fun c => ?_)
  · omega
  refine go_aloadn_0 iT_init_124 rfl ?_
  refine go_getR (j := 2) iT_init_125 rfl rfl rfl ?_
  refine go_iloadn_1 iT_init_128 ?_
  refine gw_O (k := 15) (sh2 := SHt 16) iT_init_129 rfl (by decide) rfl rfl ?_
  refine go_dup iT_init_132 rfl ?_
  refine gc_I0 iT_init_133 (by decide) rfl (by decide) rfl rfl (Nat.le_of_ble_eq_true rfl) (Nat.le_of_ble_eq_true rfl) (by decide) (sp_W_init (k := 16) (sh1 := SHt 17) rfl rfl rfl rfl) ?_
  refine go_aast (z := 0) (kv := 5) (q := (RX5, TX5, 2)) iT_init_136 (show (SHt 17)[2]? = some (4, 4) from rfl) (by decide) (by decide) (show (SHt 17)[15]? = some (5 + 10, 2) from rfl) rfl rfl rfl (by decide) (by decide) ?_
  refine go_iinc_1 (y := nI 1) iT_init_137 rfl (by simp [Value.category, am_U]) ?_
  refine go_goto iT_init_140 ?_
  refine go_iloadn_1 iT_init_119 ?_
  refine go_iconst (v := nI 4) iT_init_120 rfl ?_
  refine gn_ic_ge iT_init_121 (by decide) (by decide) (fun c => ?_) (fun c => ?_)
  · omega
  refine go_aloadn_0 iT_init_124 rfl ?_
  refine go_getR (j := 2) iT_init_125 rfl rfl rfl ?_
  refine go_iloadn_1 iT_init_128 ?_
  refine gw_O (k := 17) (sh2 := SHt 18) iT_init_129 rfl (by decide) rfl rfl ?_
  refine go_dup iT_init_132 rfl ?_
  refine gc_I0 iT_init_133 (by decide) rfl (by decide) rfl rfl (Nat.le_of_ble_eq_true rfl) (Nat.le_of_ble_eq_true rfl) (by decide) (sp_W_init (k := 18) (sh1 := SHt 19) rfl rfl rfl rfl) ?_
  refine go_aast (z := 1) (kv := 5) (q := (RX5, TX5, 2)) iT_init_136 (show (SHt 19)[2]? = some (4, 4) from rfl) (by decide) (by decide) (show (SHt 19)[17]? = some (5 + 10, 2) from rfl) rfl rfl rfl (by decide) (by decide) ?_
  refine go_iinc_1 (y := nI 2) iT_init_137 rfl (by simp [Value.category, am_U]) ?_
  refine go_goto iT_init_140 ?_
  refine go_iloadn_1 iT_init_119 ?_
  refine go_iconst (v := nI 4) iT_init_120 rfl ?_
  refine gn_ic_ge iT_init_121 (by decide) (by decide) (fun c => ?_) (fun c => ?_)
  · omega
  refine go_aloadn_0 iT_init_124 rfl ?_
  refine go_getR (j := 2) iT_init_125 rfl rfl rfl ?_
  refine go_iloadn_1 iT_init_128 ?_
  refine gw_O (k := 19) (sh2 := SHt 20) iT_init_129 rfl (by decide) rfl rfl ?_
  refine go_dup iT_init_132 rfl ?_
  refine gc_I0 iT_init_133 (by decide) rfl (by decide) rfl rfl (Nat.le_of_ble_eq_true rfl) (Nat.le_of_ble_eq_true rfl) (by decide) (sp_W_init (k := 20) (sh1 := SHt 21) rfl rfl rfl rfl) ?_
  refine go_aast (z := 2) (kv := 5) (q := (RX5, TX5, 2)) iT_init_136 (show (SHt 21)[2]? = some (4, 4) from rfl) (by decide) (by decide) (show (SHt 21)[19]? = some (5 + 10, 2) from rfl) rfl rfl rfl (by decide) (by decide) ?_
  refine go_iinc_1 (y := nI 3) iT_init_137 rfl (by simp [Value.category, am_U]) ?_
  refine go_goto iT_init_140 ?_
  refine go_iloadn_1 iT_init_119 ?_
  refine go_iconst (v := nI 4) iT_init_120 rfl ?_
  refine gn_ic_ge iT_init_121 (by decide) (by decide) (fun c => ?_) (fun c => ?_)
  · omega
  refine go_aloadn_0 iT_init_124 rfl ?_
  refine go_getR (j := 2) iT_init_125 rfl rfl rfl ?_
  refine go_iloadn_1 iT_init_128 ?_
  refine gw_O (k := 21) (sh2 := SHt 22) iT_init_129 rfl (by decide) rfl rfl ?_
  refine go_dup iT_init_132 rfl ?_
  refine gc_I0 iT_init_133 (by decide) rfl (by decide) rfl rfl (Nat.le_of_ble_eq_true rfl) (Nat.le_of_ble_eq_true rfl) (by decide) (sp_W_init (k := 22) (sh1 := SHt 23) rfl rfl rfl rfl) ?_
  refine go_aast (z := 3) (kv := 5) (q := (RX5, TX5, 2)) iT_init_136 (show (SHt 23)[2]? = some (4, 4) from rfl) (by decide) (by decide) (show (SHt 23)[21]? = some (5 + 10, 2) from rfl) rfl rfl rfl (by decide) (by decide) ?_
  refine go_iinc_1 (y := nI 4) iT_init_137 rfl (by simp [Value.category, am_U]) ?_
  refine go_goto iT_init_140 ?_
  refine go_iloadn_1 iT_init_119 ?_
  refine go_iconst (v := nI 4) iT_init_120 rfl ?_
  refine gn_ic_ge iT_init_121 (by decide) (by decide) (fun c => ?_) (fun c => ?_)
  rotate_left
  · omega
  refine go_iconst (v := nI 0) iT_init_143 rfl ?_
  refine go_istoren_1 iT_init_144 (by simp [Value.category, am_U]) ?_
  refine go_iloadn_1 iT_init_145 ?_
  refine go_iconst (v := nI 4) iT_init_146 rfl ?_
  refine gn_ic_gt iT_init_147 (by decide) (by decide) (fun c => ?_) (fun c => ?_)
  · omega
  refine go_aloadn_0 iT_init_150 rfl ?_
  refine go_getR (j := 6) iT_init_151 rfl rfl rfl ?_
  refine go_iloadn_1 iT_init_154 ?_
  refine gw_O (k := 23) (sh2 := SHt 24) iT_init_155 rfl (by decide) rfl rfl ?_
  refine go_dup iT_init_158 rfl ?_
  refine gc_I0 iT_init_159 (by decide) rfl (by decide) rfl rfl (Nat.le_of_ble_eq_true rfl) (Nat.le_of_ble_eq_true rfl) (by decide) (sp_R_init (k := 24) (sh1 := SHt 25) (sh2 := SHt 26) (sh3 := SHt 27) rfl rfl rfl rfl rfl rfl rfl rfl rfl rfl) ?_
  refine go_aast (z := 0) (kv := 4) (q := (RX4, TX4, 8)) iT_init_162 (show (SHt 27)[6]? = some (3, 5) from rfl) (by decide) (by decide) (show (SHt 27)[23]? = some (4 + 10, 8) from rfl) rfl rfl rfl (by decide) (by decide) ?_
  refine go_iinc_1 (y := nI 1) iT_init_163 rfl (by simp [Value.category, am_U]) ?_
  refine go_goto iT_init_166 ?_
  refine go_iloadn_1 iT_init_145 ?_
  refine go_iconst (v := nI 4) iT_init_146 rfl ?_
  refine gn_ic_gt iT_init_147 (by decide) (by decide) (fun c => ?_) (fun c => ?_)
  · omega
  refine go_aloadn_0 iT_init_150 rfl ?_
  refine go_getR (j := 6) iT_init_151 rfl rfl rfl ?_
  refine go_iloadn_1 iT_init_154 ?_
  refine gw_O (k := 27) (sh2 := SHt 28) iT_init_155 rfl (by decide) rfl rfl ?_
  refine go_dup iT_init_158 rfl ?_
  refine gc_I0 iT_init_159 (by decide) rfl (by decide) rfl rfl (Nat.le_of_ble_eq_true rfl) (Nat.le_of_ble_eq_true rfl) (by decide) (sp_R_init (k := 28) (sh1 := SHt 29) (sh2 := SHt 30) (sh3 := SHt 31) rfl rfl rfl rfl rfl rfl rfl rfl rfl rfl) ?_
  refine go_aast (z := 1) (kv := 4) (q := (RX4, TX4, 8)) iT_init_162 (show (SHt 31)[6]? = some (3, 5) from rfl) (by decide) (by decide) (show (SHt 31)[27]? = some (4 + 10, 8) from rfl) rfl rfl rfl (by decide) (by decide) ?_
  refine go_iinc_1 (y := nI 2) iT_init_163 rfl (by simp [Value.category, am_U]) ?_
  refine go_goto iT_init_166 ?_
  refine go_iloadn_1 iT_init_145 ?_
  refine go_iconst (v := nI 4) iT_init_146 rfl ?_
  refine gn_ic_gt iT_init_147 (by decide) (by decide) (fun c => ?_) (fun c => ?_)
  · omega
  refine go_aloadn_0 iT_init_150 rfl ?_
  refine go_getR (j := 6) iT_init_151 rfl rfl rfl ?_
  refine go_iloadn_1 iT_init_154 ?_
  refine gw_O (k := 31) (sh2 := SHt 32) iT_init_155 rfl (by decide) rfl rfl ?_
  refine go_dup iT_init_158 rfl ?_
  refine gc_I0 iT_init_159 (by decide) rfl (by decide) rfl rfl (Nat.le_of_ble_eq_true rfl) (Nat.le_of_ble_eq_true rfl) (by decide) (sp_R_init (k := 32) (sh1 := SHt 33) (sh2 := SHt 34) (sh3 := SHt 35) rfl rfl rfl rfl rfl rfl rfl rfl rfl rfl) ?_
  refine go_aast (z := 2) (kv := 4) (q := (RX4, TX4, 8)) iT_init_162 (show (SHt 35)[6]? = some (3, 5) from rfl) (by decide) (by decide) (show (SHt 35)[31]? = some (4 + 10, 8) from rfl) rfl rfl rfl (by decide) (by decide) ?_
  refine go_iinc_1 (y := nI 3) iT_init_163 rfl (by simp [Value.category, am_U]) ?_
  refine go_goto iT_init_166 ?_
  refine go_iloadn_1 iT_init_145 ?_
  refine go_iconst (v := nI 4) iT_init_146 rfl ?_
  refine gn_ic_gt iT_init_147 (by decide) (by decide) (fun c => ?_) (fun c => ?_)
  · omega
  refine go_aloadn_0 iT_init_150 rfl ?_
  refine go_getR (j := 6) iT_init_151 rfl rfl rfl ?_
  refine go_iloadn_1 iT_init_154 ?_
  refine gw_O (k := 35) (sh2 := SHt 36) iT_init_155 rfl (by decide) rfl rfl ?_
  refine go_dup iT_init_158 rfl ?_
  refine gc_I0 iT_init_159 (by decide) rfl (by decide) rfl rfl (Nat.le_of_ble_eq_true rfl) (Nat.le_of_ble_eq_true rfl) (by decide) (sp_R_init (k := 36) (sh1 := SHt 37) (sh2 := SHt 38) (sh3 := SHt 39) rfl rfl rfl rfl rfl rfl rfl rfl rfl rfl) ?_
  refine go_aast (z := 3) (kv := 4) (q := (RX4, TX4, 8)) iT_init_162 (show (SHt 39)[6]? = some (3, 5) from rfl) (by decide) (by decide) (show (SHt 39)[35]? = some (4 + 10, 8) from rfl) rfl rfl rfl (by decide) (by decide) ?_
  refine go_iinc_1 (y := nI 4) iT_init_163 rfl (by simp [Value.category, am_U]) ?_
  refine go_goto iT_init_166 ?_
  refine go_iloadn_1 iT_init_145 ?_
  refine go_iconst (v := nI 4) iT_init_146 rfl ?_
  refine gn_ic_gt iT_init_147 (by decide) (by decide) (fun c => ?_) (fun c => ?_)
  · omega
  refine go_aloadn_0 iT_init_150 rfl ?_
  refine go_getR (j := 6) iT_init_151 rfl rfl rfl ?_
  refine go_iloadn_1 iT_init_154 ?_
  refine gw_O (k := 39) (sh2 := SHt 40) iT_init_155 rfl (by decide) rfl rfl ?_
  refine go_dup iT_init_158 rfl ?_
  refine gc_I0 iT_init_159 (by decide) rfl (by decide) rfl rfl (Nat.le_of_ble_eq_true rfl) (Nat.le_of_ble_eq_true rfl) (by decide) (sp_R_init (k := 40) (sh1 := SHt 41) (sh2 := SHt 42) (sh3 := SHt 43) rfl rfl rfl rfl rfl rfl rfl rfl rfl rfl) ?_
  refine go_aast (z := 4) (kv := 4) (q := (RX4, TX4, 8)) iT_init_162 (show (SHt 43)[6]? = some (3, 5) from rfl) (by decide) (by decide) (show (SHt 43)[39]? = some (4 + 10, 8) from rfl) rfl rfl rfl (by decide) (by decide) ?_
  refine go_iinc_1 (y := nI 5) iT_init_163 rfl (by simp [Value.category, am_U]) ?_
  refine go_goto iT_init_166 ?_
  refine go_iloadn_1 iT_init_145 ?_
  refine go_iconst (v := nI 4) iT_init_146 rfl ?_
  refine gn_ic_gt iT_init_147 (by decide) (by decide) (fun c => ?_) (fun c => ?_)
  rotate_left
  · omega
  refine go_aloadn_0 iT_init_169 rfl ?_
  refine go_getR (j := 5) iT_init_170 rfl rfl rfl ?_
  refine go_bipush (v := (-9)) iT_init_173 (by decide) ?_
  refine gc_S0 iT_init_175 (by decide) rfl rfl (Nat.le_of_ble_eq_true rfl) (Nat.le_of_ble_eq_true rfl) (by decide) (sp_J_fillI (show (SHt 43)[5]? = some (0, 3) from rfl) (by decide)) ?_
  refine go_vret iT_init_178 rfl ?_
  rfl
def ci_I2 : Nat → Nat → Int32 := am_u (am_u (am_u (am_u (am_u (am_u (am_u (va_up (va_up (va_up (va_up (va_up (va_up (va_up (va_up (va_up (va_up (va_up (va_up (va_up (va_up (va_up (am_u (va_up (va_up ci_I 43 (fun _ => 0)) 44 (fun _ => 0)) 43 4 (nI 3)) 45 (fun _ => 0)) 46 (fun _ => 0)) 47 (fun _ => 0)) 48 (fun _ => 0)) 49 (fun _ => 0)) 50 (fun _ => 0)) 51 (fun _ => 0)) 52 (fun _ => 0)) 53 (fun _ => 0)) 54 (fun _ => 0)) 55 (fun _ => 0)) 56 (fun _ => 0)) 57 (fun _ => 0)) 58 (fun _ => 0)) 59 (fun _ => 0)) 47 0 (-9)) 47 1 (-9)) 47 2 (-9)) 47 3 (-9)) 57 0 (-9)) 57 1 (-9)) 57 2 (-9)
def ci_L2 : Nat → Nat → Int64 := va_up (va_up (va_up (va_up (va_up (va_up (va_up (va_up (va_up (va_up (va_up (va_up (va_up (va_up (va_up (am_u (va_up (va_up ci_L 43 (fun _ => 0)) 44 (fun _ => 0)) 43 3 1) 45 (fun _ => 0)) 46 (fun _ => 0)) 47 (fun _ => 0)) 48 (fun _ => 0)) 49 (fun _ => 0)) 50 (fun _ => 0)) 51 (fun _ => 0)) 52 (fun _ => 0)) 53 (fun _ => 0)) 54 (fun _ => 0)) 55 (fun _ => 0)) 56 (fun _ => 0)) 57 (fun _ => 0)) 58 (fun _ => 0)) 59 (fun _ => 0)
def ci_R2 : Nat → Nat → Option Nat := am_u (va_up (am_u (va_up (am_u (va_up (am_u (va_up (am_u (va_up (am_u (va_up (am_u (va_up (am_u (va_up (am_u (va_up (am_u (va_up (am_u (va_up (am_u (va_up (am_u (va_up (am_u (va_up (am_u (va_up (am_u (va_up (va_up ci_R 43 (fun _ => none)) 44 (fun _ => none)) 43 1 (some 44)) 45 (fun _ => none)) 43 6 (some 45)) 46 (fun _ => none)) 43 7 (some 46)) 47 (fun _ => none)) 43 8 (some 47)) 48 (fun _ => none)) 43 9 (some 48)) 49 (fun _ => none)) 43 10 (some 49)) 50 (fun _ => none)) 43 13 (some 50)) 51 (fun _ => none)) 43 15 (some 51)) 52 (fun _ => none)) 43 16 (some 52)) 53 (fun _ => none)) 43 17 (some 53)) 54 (fun _ => none)) 43 18 (some 54)) 55 (fun _ => none)) 43 19 (some 55)) 56 (fun _ => none)) 43 25 (some 56)) 57 (fun _ => none)) 43 26 (some 57)) 58 (fun _ => none)) 43 27 (some 58)) 59 (fun _ => none)) 43 28 (some 59)
set_option maxRecDepth 20000 in
set_option maxHeartbeats 4000000 in
theorem sp_M_init {S : am_S} : Sp S 0 tM_init (SHt 44, va_up ci_I 43 (fun _ => 0), va_up ci_L 43 (fun _ => 0), va_up ci_R 43 (fun _ => none)) [.ref 43] (fun q => q = (none, (SHt 60, ci_I2, ci_L2, ci_R2))) := by
  show Go _ _ tM_init (_, 0, [.ref 43, am_U], []) _
  refine go_aloadn_0 iM_init_0 rfl ?_
  refine go_objI iM_init_1 rfl (Nat.le_of_ble_eq_true rfl) ?_
  refine go_aloadn_0 iM_init_4 rfl ?_
  refine go_bipush (v := nI 6) iM_init_5 (by decide) ?_
  refine gw_I (k := 44) (sh2 := SHt 45) iM_init_7 rfl rfl (by decide) ?_
  refine go_putR iM_init_9 rfl rfl ?_
  refine go_aloadn_0 iM_init_12 rfl ?_
  refine go_lconst (v := 1) iM_init_13 rfl ?_
  refine go_putL iM_init_14 rfl rfl ?_
  refine go_aloadn_0 iM_init_17 rfl ?_
  refine go_iconst (v := nI 3) iM_init_18 rfl ?_
  refine go_putI iM_init_19 rfl rfl ?_
  refine go_aloadn_0 iM_init_22 rfl ?_
  refine go_bipush (v := nI 8) iM_init_23 (by decide) ?_
  refine gw_I (k := 45) (sh2 := SHt 46) iM_init_25 rfl rfl (by decide) ?_
  refine go_putR iM_init_27 rfl rfl ?_
  refine go_aloadn_0 iM_init_30 rfl ?_
  refine go_bipush (v := nI 32) iM_init_31 (by decide) ?_
  refine gw_I (k := 46) (sh2 := SHt 47) iM_init_33 rfl rfl (by decide) ?_
  refine go_putR iM_init_35 rfl rfl ?_
  refine go_aloadn_0 iM_init_38 rfl ?_
  refine go_iconst (v := nI 4) iM_init_39 rfl ?_
  refine gw_I (k := 47) (sh2 := SHt 48) iM_init_40 rfl rfl (by decide) ?_
  refine go_putR iM_init_42 rfl rfl ?_
  refine go_aloadn_0 iM_init_45 rfl ?_
  refine go_bipush (v := nI 16) iM_init_46 (by decide) ?_
  refine gw_I (k := 48) (sh2 := SHt 49) iM_init_48 rfl rfl (by decide) ?_
  refine go_putR iM_init_50 rfl rfl ?_
  refine go_aloadn_0 iM_init_53 rfl ?_
  refine go_iconst (v := nI 4) iM_init_54 rfl ?_
  refine gw_I (k := 49) (sh2 := SHt 50) iM_init_55 rfl rfl (by decide) ?_
  refine go_putR iM_init_57 rfl rfl ?_
  refine go_aloadn_0 iM_init_60 rfl ?_
  refine go_bipush (v := nI 12) iM_init_61 (by decide) ?_
  refine gw_L (k := 50) (sh2 := SHt 51) iM_init_63 rfl rfl (by decide) ?_
  refine go_putR iM_init_65 rfl rfl ?_
  refine go_aloadn_0 iM_init_68 rfl ?_
  refine go_bipush (v := nI 9) iM_init_69 (by decide) ?_
  refine gw_L (k := 51) (sh2 := SHt 52) iM_init_71 rfl rfl (by decide) ?_
  refine go_putR iM_init_73 rfl rfl ?_
  refine go_aloadn_0 iM_init_76 rfl ?_
  refine go_iconst (v := nI 3) iM_init_77 rfl ?_
  refine gw_L (k := 52) (sh2 := SHt 53) iM_init_78 rfl rfl (by decide) ?_
  refine go_putR iM_init_80 rfl rfl ?_
  refine go_aloadn_0 iM_init_83 rfl ?_
  refine go_iconst (v := nI 3) iM_init_84 rfl ?_
  refine gw_L (k := 53) (sh2 := SHt 54) iM_init_85 rfl rfl (by decide) ?_
  refine go_putR iM_init_87 rfl rfl ?_
  refine go_aloadn_0 iM_init_90 rfl ?_
  refine go_iconst (v := nI 3) iM_init_91 rfl ?_
  refine gw_L (k := 54) (sh2 := SHt 55) iM_init_92 rfl rfl (by decide) ?_
  refine go_putR iM_init_94 rfl rfl ?_
  refine go_aloadn_0 iM_init_97 rfl ?_
  refine go_iconst (v := nI 3) iM_init_98 rfl ?_
  refine gw_L (k := 55) (sh2 := SHt 56) iM_init_99 rfl rfl (by decide) ?_
  refine go_putR iM_init_101 rfl rfl ?_
  refine go_aloadn_0 iM_init_104 rfl ?_
  refine go_iconst (v := nI 4) iM_init_105 rfl ?_
  refine gw_I (k := 56) (sh2 := SHt 57) iM_init_106 rfl rfl (by decide) ?_
  refine go_putR iM_init_108 rfl rfl ?_
  refine go_aloadn_0 iM_init_111 rfl ?_
  refine go_iconst (v := nI 3) iM_init_112 rfl ?_
  refine gw_I (k := 57) (sh2 := SHt 58) iM_init_113 rfl rfl (by decide) ?_
  refine go_putR iM_init_115 rfl rfl ?_
  refine go_aloadn_0 iM_init_118 rfl ?_
  refine go_bipush (v := nI 61) iM_init_119 (by decide) ?_
  refine gw_L (k := 58) (sh2 := SHt 59) iM_init_121 rfl rfl (by decide) ?_
  refine go_putR iM_init_123 rfl rfl ?_
  refine go_aloadn_0 iM_init_126 rfl ?_
  refine go_bipush (v := nI 61) iM_init_127 (by decide) ?_
  refine gw_L (k := 59) (sh2 := SHt 60) iM_init_129 rfl rfl (by decide) ?_
  refine go_putR iM_init_131 rfl rfl ?_
  refine go_iconst (v := nI 0) iM_init_134 rfl ?_
  refine go_istoren_1 iM_init_135 (by simp [Value.category, am_U]) ?_
  refine go_iloadn_1 iM_init_136 ?_
  refine go_iconst (v := nI 4) iM_init_137 rfl ?_
  refine gn_ic_ge iM_init_138 (by decide) (by decide) (fun c => ?_) (fun c => ?_)
  · omega
  refine go_aloadn_0 iM_init_141 rfl ?_
  refine go_getR (j := 47) iM_init_142 rfl rfl rfl ?_
  refine go_iloadn_1 iM_init_145 ?_
  refine go_bipush (v := (-9)) iM_init_146 (by decide) ?_
  refine go_iast (z := 0) iM_init_148 (show (SHt 60)[47]? = some (0, 4) from rfl) rfl (by decide) (by decide) ?_
  refine go_iinc_1 (y := nI 1) iM_init_149 rfl (by simp [Value.category, am_U]) ?_
  refine go_goto iM_init_152 ?_
  refine go_iloadn_1 iM_init_136 ?_
  refine go_iconst (v := nI 4) iM_init_137 rfl ?_
  refine gn_ic_ge iM_init_138 (by decide) (by decide) (fun c => ?_) (fun c => ?_)
  · omega
  refine go_aloadn_0 iM_init_141 rfl ?_
  refine go_getR (j := 47) iM_init_142 rfl rfl rfl ?_
  refine go_iloadn_1 iM_init_145 ?_
  refine go_bipush (v := (-9)) iM_init_146 (by decide) ?_
  refine go_iast (z := 1) iM_init_148 (show (SHt 60)[47]? = some (0, 4) from rfl) rfl (by decide) (by decide) ?_
  refine go_iinc_1 (y := nI 2) iM_init_149 rfl (by simp [Value.category, am_U]) ?_
  refine go_goto iM_init_152 ?_
  refine go_iloadn_1 iM_init_136 ?_
  refine go_iconst (v := nI 4) iM_init_137 rfl ?_
  refine gn_ic_ge iM_init_138 (by decide) (by decide) (fun c => ?_) (fun c => ?_)
  · omega
  refine go_aloadn_0 iM_init_141 rfl ?_
  refine go_getR (j := 47) iM_init_142 rfl rfl rfl ?_
  refine go_iloadn_1 iM_init_145 ?_
  refine go_bipush (v := (-9)) iM_init_146 (by decide) ?_
  refine go_iast (z := 2) iM_init_148 (show (SHt 60)[47]? = some (0, 4) from rfl) rfl (by decide) (by decide) ?_
  refine go_iinc_1 (y := nI 3) iM_init_149 rfl (by simp [Value.category, am_U]) ?_
  refine go_goto iM_init_152 ?_
  refine go_iloadn_1 iM_init_136 ?_
  refine go_iconst (v := nI 4) iM_init_137 rfl ?_
  refine gn_ic_ge iM_init_138 (by decide) (by decide) (fun c => ?_) (fun c => ?_)
  · omega
  refine go_aloadn_0 iM_init_141 rfl ?_
  refine go_getR (j := 47) iM_init_142 rfl rfl rfl ?_
  refine go_iloadn_1 iM_init_145 ?_
  refine go_bipush (v := (-9)) iM_init_146 (by decide) ?_
  refine go_iast (z := 3) iM_init_148 (show (SHt 60)[47]? = some (0, 4) from rfl) rfl (by decide) (by decide) ?_
  refine go_iinc_1 (y := nI 4) iM_init_149 rfl (by simp [Value.category, am_U]) ?_
  refine go_goto iM_init_152 ?_
  refine go_iloadn_1 iM_init_136 ?_
  refine go_iconst (v := nI 4) iM_init_137 rfl ?_
  refine gn_ic_ge iM_init_138 (by decide) (by decide) (fun c => ?_) (fun c => ?_)
  rotate_left
  · omega
  refine go_iconst (v := nI 0) iM_init_155 rfl ?_
  refine go_istoren_1 iM_init_156 (by simp [Value.category, am_U]) ?_
  refine go_iloadn_1 iM_init_157 ?_
  refine go_iconst (v := nI 3) iM_init_158 rfl ?_
  refine gn_ic_ge iM_init_159 (by decide) (by decide) (fun c => ?_) (fun c => ?_)
  · omega
  refine go_aloadn_0 iM_init_162 rfl ?_
  refine go_getR (j := 57) iM_init_163 rfl rfl rfl ?_
  refine go_iloadn_1 iM_init_166 ?_
  refine go_bipush (v := (-9)) iM_init_167 (by decide) ?_
  refine go_iast (z := 0) iM_init_169 (show (SHt 60)[57]? = some (0, 3) from rfl) rfl (by decide) (by decide) ?_
  refine go_iinc_1 (y := nI 1) iM_init_170 rfl (by simp [Value.category, am_U]) ?_
  refine go_goto iM_init_173 ?_
  refine go_iloadn_1 iM_init_157 ?_
  refine go_iconst (v := nI 3) iM_init_158 rfl ?_
  refine gn_ic_ge iM_init_159 (by decide) (by decide) (fun c => ?_) (fun c => ?_)
  · omega
  refine go_aloadn_0 iM_init_162 rfl ?_
  refine go_getR (j := 57) iM_init_163 rfl rfl rfl ?_
  refine go_iloadn_1 iM_init_166 ?_
  refine go_bipush (v := (-9)) iM_init_167 (by decide) ?_
  refine go_iast (z := 1) iM_init_169 (show (SHt 60)[57]? = some (0, 3) from rfl) rfl (by decide) (by decide) ?_
  refine go_iinc_1 (y := nI 2) iM_init_170 rfl (by simp [Value.category, am_U]) ?_
  refine go_goto iM_init_173 ?_
  refine go_iloadn_1 iM_init_157 ?_
  refine go_iconst (v := nI 3) iM_init_158 rfl ?_
  refine gn_ic_ge iM_init_159 (by decide) (by decide) (fun c => ?_) (fun c => ?_)
  · omega
  refine go_aloadn_0 iM_init_162 rfl ?_
  refine go_getR (j := 57) iM_init_163 rfl rfl rfl ?_
  refine go_iloadn_1 iM_init_166 ?_
  refine go_bipush (v := (-9)) iM_init_167 (by decide) ?_
  refine go_iast (z := 2) iM_init_169 (show (SHt 60)[57]? = some (0, 3) from rfl) rfl (by decide) (by decide) ?_
  refine go_iinc_1 (y := nI 3) iM_init_170 rfl (by simp [Value.category, am_U]) ?_
  refine go_goto iM_init_173 ?_
  refine go_iloadn_1 iM_init_157 ?_
  refine go_iconst (v := nI 3) iM_init_158 rfl ?_
  refine gn_ic_ge iM_init_159 (by decide) (by decide) (fun c => ?_) (fun c => ?_)
  rotate_left
  · omega
  refine go_vret iM_init_176 rfl ?_
  rfl
set_option maxRecDepth 20000 in
theorem ci_sh : SHt 60 = am_sh 0 := rfl
set_option maxRecDepth 20000 in
theorem ci_mR : ci_R2 = am_mR 0 := rfl
theorem ci_rows : ∀ r, r < 4 → (ci_I2 (15 + 2 * r) 0 = -1 ∧ ci_I2 47 r = -9) ∧ ∀ j, j < 4 → ci_I2 (16 + 2 * r) j = ci_I2 48 (4 * r + j) := by decide +kernel
theorem ci_find : ∀ f, f < 6 → ci_I2 3 f = ci_I2 44 f := by decide +kernel
theorem ci_cho : ∀ j, j < 3 → ci_I2 5 j = ci_I2 57 j := by decide +kernel
theorem ci_one : (ci_I2 0 0 = nI 3 ∧ ci_I2 43 4 = nI 3) ∧ (ci_I2 0 1 = nI 0 ∧ ci_I2 43 5 = nI 0) ∧ ci_I2 0 4 = ci_I2 43 0 ∧ ci_L2 4 0 = ci_L2 43 2 ∧ ci_L2 4 1 = ci_L2 43 3 := by decide +kernel
theorem ci_rel : Rel 0 ci_I2 ci_L2 := by
  obtain ⟨⟨a1, a2⟩, ⟨a3, a4⟩, a5, a6, a7⟩ := ci_one
  exact ⟨by omega, ⟨3, by omega, by omega, a1, a2⟩, a3, a4, fun p hp => by omega, fun r hr => ⟨Or.inl (ci_rows r hr).1, (ci_rows r hr).2⟩, a5, ci_find, a6, a7, ci_cho⟩
