/-! ===== lot, middle ===== -/
/-- the odds of a lot -/
def wL (mI : Nat → Nat → Int32) (p q u : Nat) : Nat → Nat → Nat := fun _ i => u * odN mI p i + (12 - u) * odN mI q i
theorem wL_fr {mI mI1 : Nat → Nat → Int32} {p q u : Nat} (h : ∀ a, 42 < a → mI1 a = mI a) : wL mI1 p q u = wL mI p q u := by
  funext t i
  unfold wL odN
  rw [h (61 + 2 * p) (by omega), h (61 + 2 * q) (by omega)]
theorem wL_le {mI : Nat → Nat → Int32} {p q u t i : Nat} (hu : u ≤ 12) (h1 : odN mI p i ≤ 12) (h2 : odN mI q i ≤ 12) : wL mI p q u t i ≤ 144 := by
  unfold wL
  have a := Nat.mul_le_mul (Nat.le_refl u) h1
  have b := Nat.mul_le_mul (Nat.le_refl (12 - u)) h2
  omega
theorem Gm_lot {mI : Nat → Nat → Int32} {m p q u : Nat} (h1 : 1 ≤ m) (hm3 : m ≤ 3) (hu : u ≤ 12) (hp : PlR mI p) (hq : PlR mI q) : Gm m 144 1 (wL mI p q u) := ⟨h1, hm3, Or.inr ⟨rfl, rfl⟩, fun t i _ hi => wL_le hu ((odN_ok hp).1 i (by omega)).2 ((odN_ok hq).1 i (by omega)).2⟩
def FrN (mI mI' : Nat → Nat → Int32) (mL mL' : Nat → Nat → Int64) : Prop := FrR mI mI' mL mL' ∧ mL' 43 2 = mL 43 2 ∧ mL' 43 3 = mL 43 3
theorem FrN.rfl' {mI : Nat → Nat → Int32} {mL : Nat → Nat → Int64} : FrN mI mI mL mL := ⟨⟨fun _ _ _ _ => rfl, fun _ _ => rfl, fun _ _ => rfl⟩, rfl, rfl⟩
theorem FrN.trans {mI mI' mI'' : Nat → Nat → Int32} {mL mL' mL'' : Nat → Nat → Int64} (h : FrN mI mI' mL mL') (h' : FrN mI' mI'' mL' mL'') : FrN mI mI'' mL mL'' := ⟨⟨fun a h1 h2 h3 => (h'.1.1 a h1 h2 h3).trans (h.1.1 a h1 h2 h3), fun y hy => (h'.1.2.1 y hy).trans (h.1.2.1 y hy), fun a ha => (h'.1.2.2 a ha).trans (h.1.2.2 a ha)⟩, h'.2.1.trans h.2.1, h'.2.2.trans h.2.2⟩
theorem PlR.c {mI mI' : Nat → Nat → Int32} {p : Nat} (h : PlR mI p) (hq : ∀ a, 42 < a → a ≠ 43 → a ≠ 49 → a ≠ 56 → mI' a = mI a) : PlR mI' p := h.of (hq _ (by omega) (by omega) (by omega) (by omega)) (hq _ (by omega) (by omega) (by omega) (by omega)) (by rw [hq 45 (by omega) (by omega) (by omega) (by omega)]) (fun j _ => by rw [hq 46 (by omega) (by omega) (by omega) (by omega)])
section LOT
variable {S : am_S} {mI : Nat → Nat → Int32} {mL mL0 : Nat → Nat → Int64} {n m p q u : Nat}
theorem lo_T_lot (h8 : n ≤ 8) (hm3 : m ≤ 3) (hp : p < n) (hq : q < n) (hu : u ≤ 12) (hmT : mI 0 0 = nI m) (h1 : PlR mI p) (h2 : PlR mI q) {Q : Option Value × am_M → Prop} (kq : ∀ mI', ((∀ a, a ≠ 7 → mI' a = mI a) ∧ ∀ i, i < m → mI' 7 i = nI (wL mI p q u 0 i)) → Go S 2 tT_roundOfLot ((am_sh n, mI', mL, am_mR n), 47, [.ref 0, .ref (60 + 2 * p), .ref (60 + 2 * q), .int (nI u), .int (nI m)], []) Q) : ∀ k i (mI' : Nat → Nat → Int32), i + k = m → ((∀ a, a ≠ 7 → mI' a = mI a) ∧ ∀ j, j < i → mI' 7 j = nI (wL mI p q u 0 j)) → Go S 2 tT_roundOfLot ((am_sh n, mI', mL, am_mR n), 3, [.ref 0, .ref (60 + 2 * p), .ref (60 + 2 * q), .int (nI u), .int (nI i)], []) Q
  | 0, i, mI', hi, hF => by
    obtain rfl : i = m := by omega
    have r1 := hmT
    rw [← hF.1 0 (by decide)] at r1
    refine go_iload_4 iT_roundOfLot_3 ?_
    refine go_aloadn_0 iT_roundOfLot_5 rfl ?_
    refine go_getI iT_roundOfLot_6 (Or.inl rfl) (sk_0 _) ?_
    try simp (disch := omega) only [am_u_n, am_u_s, am_u_k, r1]
    first | refine gn_ic_ge iT_roundOfLot_9 (by omega) (by omega) (fun c_9 => ?_) (fun c_9 => ?_) | refine go_ic_ge iT_roundOfLot_9 (fun c_9 => ?_) (fun c_9 => ?_)
    rotate_left
    · (first | omega | exact absurd c_9 (by decide) | (exfalso; simp (disch := omega) only [Int32.lt_iff_toInt_lt, Int32.le_iff_toInt_le, ← Int32.toInt_inj, nI_toInt, i32_m1, i32_0, i32_m20, i32_m40, i32_m30, i32_m9] at *; omega))
    exact kq _ hF
  | k + 1, i, mI', hi, hF => by
    have r1 := hmT
    rw [← hF.1 0 (by decide)] at r1
    have r2 := ((odN_ok h1).1 i (by omega)).1
    rw [← hF.1 (61 + 2 * p) (by omega)] at r2
    have r3 := ((odN_ok h2).1 i (by omega)).1
    rw [← hF.1 (61 + 2 * q) (by omega)] at r3
    have k1 := sk_play hp
    have k2 := sk_play hq
    have k3 := mR_wins n hp
    have k4 := mR_wins n hq
    have k5 := sh_wins hp
    have k6 := sh_wins hq
    refine go_iload_4 iT_roundOfLot_3 ?_
    refine go_aloadn_0 iT_roundOfLot_5 rfl ?_
    refine go_getI iT_roundOfLot_6 (Or.inl rfl) (sk_0 _) ?_
    try simp (disch := omega) only [am_u_n, am_u_s, am_u_k, r1, r2, r3]
    first | refine gn_ic_ge iT_roundOfLot_9 (by omega) (by omega) (fun c_9 => ?_) (fun c_9 => ?_) | refine go_ic_ge iT_roundOfLot_9 (fun c_9 => ?_) (fun c_9 => ?_)
    · (first | omega | exact absurd c_9 (by decide) | (exfalso; simp (disch := omega) only [Int32.lt_iff_toInt_lt, Int32.le_iff_toInt_le, ← Int32.toInt_inj, nI_toInt, i32_m1, i32_0, i32_m20, i32_m40, i32_m30, i32_m9] at *; omega))
    refine go_aloadn_0 iT_roundOfLot_12 rfl ?_
    refine go_getR iT_roundOfLot_13 rfl (sk_0 _) (mR_0_9 _) ?_
    refine go_iload_4 iT_roundOfLot_16 ?_
    refine go_iloadn_3 iT_roundOfLot_18 ?_
    refine go_aloadn_1 iT_roundOfLot_19 rfl ?_
    refine go_getR iT_roundOfLot_20 rfl (by assumption) (by assumption) ?_
    refine go_iload_4 iT_roundOfLot_23 ?_
    refine go_iald iT_roundOfLot_25 (by assumption) rfl (by omega) (by omega) ?_
    try simp (disch := omega) only [am_u_n, am_u_s, am_u_k, r1, r2, r3]
    first | refine gn_imul iT_roundOfLot_26 ?_ | refine go_imul iT_roundOfLot_26 ?_
    refine go_bipush (v := nI 12) iT_roundOfLot_27 (by decide) ?_
    refine go_iloadn_3 iT_roundOfLot_29 ?_
    first | refine gn_isub iT_roundOfLot_30 (by omega) ?_ | refine go_isub iT_roundOfLot_30 ?_
    refine go_aloadn_2 iT_roundOfLot_31 rfl ?_
    refine go_getR iT_roundOfLot_32 rfl (by assumption) (by assumption) ?_
    refine go_iload_4 iT_roundOfLot_35 ?_
    refine go_iald iT_roundOfLot_37 (by assumption) rfl (by omega) (by omega) ?_
    try simp (disch := omega) only [am_u_n, am_u_s, am_u_k, r1, r2, r3]
    first | refine gn_imul iT_roundOfLot_38 ?_ | refine go_imul iT_roundOfLot_38 ?_
    first | refine gn_iadd iT_roundOfLot_39 ?_ | refine go_iadd iT_roundOfLot_39 ?_
    refine go_iast iT_roundOfLot_40 (sh_7 _) rfl (by omega) (by omega) ?_
    first | refine go_iinc_4 iT_roundOfLot_41 (ni_inc _ 1) (by simp [Value.category, am_U]) ?_ | refine go_iinc_4 iT_roundOfLot_41 rfl (by simp [Value.category, am_U]) ?_
    refine go_goto iT_roundOfLot_44 ?_
    refine lo_T_lot h8 hm3 hp hq hu hmT h1 h2 kq k (i + 1) _ (by omega) ⟨fun a ha => by rw [am_u_r ha]; exact hF.1 a ha, fun j hj => ?_⟩
    by_cases e : j = i
    · rw [e, am_u_s]; rfl
    · rw [am_u_k e]; exact hF.2 j (by omega)
theorem ex_T_lot (h8 : n ≤ 8) (hm1 : 1 ≤ m) (hm3 : m ≤ 3) (hp : p < n) (hq : q < n) (hu : u ≤ 12) (hmT : mI 0 0 = nI m) (h1 : PlR mI p) (h2 : PlR mI q) : Ex S 2 tT_roundOfLot n mI mL [.ref 0, .ref (60 + 2 * p), .ref (60 + 2 * q), .int (nI u)] (some (.ref 27)) (fun mI' mL' => RdI mI' mL' 1 m 1 (pw 144 1) (fun f => nowZ m 144 (wL mI p q u) f 1) (fun f => gZ m 144 (wL mI p q u) f 1) ∧ ((∀ a, a ≠ 7 → (a < 23 ∨ 42 < a) → mI' a = mI a) ∧ ∀ a, (a < 23 ∨ 42 < a) → mL' a = mL a)) := by
  have hG := Gm_lot hm1 hm3 hu h1 h2
  have hR0 := sk_rnd n (show 0 < 5 by omega)
  have hR1 := sk_rnd n (show 1 < 5 by omega)
  have hA := sh_6 n
  unfold Ex
  show Go _ _ tT_roundOfLot (_, 0, [.ref 0, .ref (60 + 2 * p), .ref (60 + 2 * q), .int (nI u), am_U], []) _
  refine go_iconst (v := nI 0) iT_roundOfLot_0 rfl ?_
  refine go_istore_4 iT_roundOfLot_1 (by simp [Value.category, am_U]) ?_
  refine lo_T_lot h8 hm3 hp hq hu hmT h1 h2 (fun mI1 hF => ?_) m 0 _ (by omega) ⟨fun a _ => rfl, fun j hj => by omega⟩
  have r1 := hmT
  rw [← hF.1 0 (by decide)] at r1
  refine go_aloadn_0 iT_roundOfLot_47 rfl ?_
  refine go_getR iT_roundOfLot_48 rfl (sk_0 _) (mR_0_8 _) ?_
  refine go_iconst (v := nI 0) iT_roundOfLot_51 rfl ?_
  refine go_aald iT_roundOfLot_52 (sh_6 _) (by decide) (by decide) rfl (by omega) (by omega) (by first | exact (sh_rnd n (show 0 < 5 by omega)).2.1 | exact (sh_rnd n (show 1 < 5 by omega)).2.1) ?_
  refine go_aloadn_0 iT_roundOfLot_53 rfl ?_
  refine go_getI iT_roundOfLot_54 (Or.inl rfl) (sk_0 _) ?_
  try simp (disch := omega) only [am_u_n, am_u_s, am_u_k, r1]
  refine gx_V0 iT_roundOfLot_57 rfl (by decide) hR0 rfl (Nat.le_of_ble_eq_true rfl) (Nat.le_of_ble_eq_true rfl) (by decide) (ex_R_begin (k := 0) (by omega) hm3) (fun mI57_ mL57_ h57_ => ?_)
  obtain ⟨e1, e2⟩ := h57_
  refine go_aloadn_0 iT_roundOfLot_60 rfl ?_
  refine go_getR iT_roundOfLot_61 rfl (sk_0 _) (mR_0_8 _) ?_
  refine go_iconst (v := nI 1) iT_roundOfLot_64 rfl ?_
  refine go_aald iT_roundOfLot_65 (sh_6 _) (by decide) (by decide) rfl (by omega) (by omega) (by first | exact (sh_rnd n (show 0 < 5 by omega)).2.1 | exact (sh_rnd n (show 1 < 5 by omega)).2.1) ?_
  refine go_aloadn_0 iT_roundOfLot_66 rfl ?_
  refine go_getR iT_roundOfLot_67 rfl (sk_0 _) (mR_0_8 _) ?_
  refine go_iconst (v := nI 0) iT_roundOfLot_70 rfl ?_
  refine go_aald iT_roundOfLot_71 (sh_6 _) (by decide) (by decide) rfl (by omega) (by omega) (by first | exact (sh_rnd n (show 0 < 5 by omega)).2.1 | exact (sh_rnd n (show 1 < 5 by omega)).2.1) ?_
  refine go_aloadn_0 iT_roundOfLot_72 rfl ?_
  refine go_getR iT_roundOfLot_73 rfl (sk_0 _) (mR_0_9 _) ?_
  refine go_sipush (v := nI 144) iT_roundOfLot_76 (by decide) ?_
  refine gx_V0 iT_roundOfLot_79 rfl (by decide) hR1 rfl (Nat.le_of_ble_eq_true rfl) (Nat.le_of_ble_eq_true rfl) (by decide) (ex_R_follow (k := 1) (j := 0) (w := wL mI p q u 0) (nc := 3) (by omega) (by omega) (by omega) hm3 (by omega) (sh_7 n) (by omega) (by omega) (by omega) (fun i hi => by rw [e2.1 7 (by omega)]; exact hF.2 i hi) (fun i hi => hG.2.2.2 0 i (by omega) hi) e1) (fun mI79_ mL79_ h79_ => ?_)
  obtain ⟨d1, d2⟩ := h79_
  refine go_aloadn_0 iT_roundOfLot_82 rfl ?_
  refine go_getR iT_roundOfLot_83 rfl (sk_0 _) (mR_0_8 _) ?_
  refine go_iconst (v := nI 1) iT_roundOfLot_86 rfl ?_
  refine go_aald iT_roundOfLot_87 (sh_6 _) (by decide) (by decide) rfl (by omega) (by omega) (by first | exact (sh_rnd n (show 0 < 5 by omega)).2.1 | exact (sh_rnd n (show 1 < 5 by omega)).2.1) ?_
  refine go_aret iT_roundOfLot_88 rfl ?_
  refine ex_i ⟨?_, fun a a1 a2 => ?_, fun a a2 => ?_⟩
  · exact d1
  · rw [d2.1 a (by omega), e2.1 a (by omega)]; exact hF.1 a a1
  · rw [d2.2 a (by omega) (by omega) (by omega) (by omega), e2.2 a (by omega) (by omega) (by omega) (by omega)]
theorem lo_M_lot (hp : p < 8) (hq : q < 8) (hu : u ≤ 12) (h1 : PlR mI p) (h2 : PlR mI q) {Q : Option Value × am_M → Prop} (kq : ∀ mL', ((∀ a, a ≠ 50 → mL' a = mL0 a) ∧ ∀ i, i < 3 → mL' 50 i = zL (wL mI p q u 0 i)) → Q (none, (am_sh n, am_u mI 43 11 (nI 1), mL', am_mR n))) : ∀ k i (mL' : Nat → Nat → Int64), i + k = 3 → ((∀ a, a ≠ 50 → mL' a = mL0 a) ∧ ∀ j, j < i → mL' 50 j = zL (wL mI p q u 0 j)) → Go S 0 tM_setLot ((am_sh n, am_u mI 43 11 (nI 1), mL', am_mR n), 15, [.ref 43, .int (nI p), .int (nI q), .int (nI u), .int (nI i)], []) Q
  | 0, i, mL', hi, hF => by
    obtain rfl : i = 3 := by omega
    refine go_iload_4 iM_setLot_15 ?_
    refine go_iconst (v := nI 3) iM_setLot_17 rfl ?_
    first | refine gn_ic_ge iM_setLot_18 (by omega) (by omega) (fun c_18 => ?_) (fun c_18 => ?_) | refine go_ic_ge iM_setLot_18 (fun c_18 => ?_) (fun c_18 => ?_)
    rotate_left
    · (first | omega | exact absurd c_18 (by decide) | (exfalso; simp (disch := omega) only [Int32.lt_iff_toInt_lt, Int32.le_iff_toInt_le, ← Int32.toInt_inj, nI_toInt, i32_m1, i32_0, i32_m20, i32_m40, i32_m30, i32_m9] at *; omega))
    refine go_vret iM_setLot_65 rfl ?_
    exact kq _ hF
  | k + 1, i, mL', hi, hF => by
    have r2 := (odN_ok h1).2 i (by omega)
    have r3 := (odN_ok h2).2 i (by omega)
    have hb := wL_le (mI := mI) (p := p) (q := q) (t := 0) (i := i) hu ((odN_ok h1).1 i (by omega)).2 ((odN_ok h2).1 i (by omega)).2
    unfold wL at hb
    refine go_iload_4 iM_setLot_15 ?_
    refine go_iconst (v := nI 3) iM_setLot_17 rfl ?_
    first | refine gn_ic_ge iM_setLot_18 (by omega) (by omega) (fun c_18 => ?_) (fun c_18 => ?_) | refine go_ic_ge iM_setLot_18 (fun c_18 => ?_) (fun c_18 => ?_)
    · (first | omega | exact absurd c_18 (by decide) | (exfalso; simp (disch := omega) only [Int32.lt_iff_toInt_lt, Int32.le_iff_toInt_le, ← Int32.toInt_inj, nI_toInt, i32_m1, i32_0, i32_m20, i32_m40, i32_m30, i32_m9] at *; omega))
    refine go_aloadn_0 iM_setLot_21 rfl ?_
    refine go_getR iM_setLot_22 rfl (sk_43 _) (mR_43_13 _) ?_
    refine go_iload_4 iM_setLot_25 ?_
    refine go_iloadn_3 iM_setLot_27 ?_
    refine go_aloadn_0 iM_setLot_28 rfl ?_
    refine go_getR iM_setLot_29 rfl (sk_43 _) (mR_43_7 _) ?_
    refine go_iconst (v := nI 4) iM_setLot_32 rfl ?_
    refine go_iloadn_1 iM_setLot_33 ?_
    first | refine gn_imul iM_setLot_34 ?_ | refine go_imul iM_setLot_34 ?_
    refine go_iload_4 iM_setLot_35 ?_
    first | refine gn_iadd iM_setLot_37 ?_ | refine go_iadd iM_setLot_37 ?_
    refine go_iald iM_setLot_38 (sh_46 _) rfl (by omega) (by omega) ?_
    try simp (disch := omega) only [am_u_n, am_u_s, am_u_k, r2, r3]
    first | refine gn_imul iM_setLot_39 ?_ | refine go_imul iM_setLot_39 ?_
    refine go_bipush (v := nI 12) iM_setLot_40 (by decide) ?_
    refine go_iloadn_3 iM_setLot_42 ?_
    first | refine gn_isub iM_setLot_43 (by omega) ?_ | refine go_isub iM_setLot_43 ?_
    refine go_aloadn_0 iM_setLot_44 rfl ?_
    refine go_getR iM_setLot_45 rfl (sk_43 _) (mR_43_7 _) ?_
    refine go_iconst (v := nI 4) iM_setLot_48 rfl ?_
    refine go_iloadn_2 iM_setLot_49 ?_
    first | refine gn_imul iM_setLot_50 ?_ | refine go_imul iM_setLot_50 ?_
    refine go_iload_4 iM_setLot_51 ?_
    first | refine gn_iadd iM_setLot_53 ?_ | refine go_iadd iM_setLot_53 ?_
    refine go_iald iM_setLot_54 (sh_46 _) rfl (by omega) (by omega) ?_
    try simp (disch := omega) only [am_u_n, am_u_s, am_u_k, r2, r3]
    first | refine gn_imul iM_setLot_55 ?_ | refine go_imul iM_setLot_55 ?_
    first | refine gn_iadd iM_setLot_56 ?_ | refine go_iadd iM_setLot_56 ?_
    first | refine gz_i2l iM_setLot_57 (by omega) ?_ | refine gz_i2lI iM_setLot_57 ?_
    refine go_last iM_setLot_58 (sh_50 _) rfl (by omega) (by omega) ?_
    first | refine go_iinc_4 iM_setLot_59 (ni_inc _ 1) (by simp [Value.category, am_U]) ?_ | refine go_iinc_4 iM_setLot_59 rfl (by simp [Value.category, am_U]) ?_
    refine go_goto iM_setLot_62 ?_
    refine lo_M_lot hp hq hu h1 h2 kq k (i + 1) _ (by omega) ⟨fun a ha => by rw [am_u_r ha]; exact hF.1 a ha, fun j hj => ?_⟩
    by_cases e : j = i
    · rw [e, am_u_s]; rfl
    · rw [am_u_k e]; exact hF.2 j (by omega)
theorem ex_M_setLot (hp : p < 8) (hq : q < 8) (hu : u ≤ 12) (h1 : PlR mI p) (h2 : PlR mI q) : Ex S 0 tM_setLot n mI mL [.ref 43, .int (nI p), .int (nI q), .int (nI u)] none (fun mI' mL' => AsP mI mI' mL mL' 1 (wL mI p q u) 144) := by
  unfold Ex
  show Go _ _ tM_setLot (_, 0, [.ref 43, .int (nI p), .int (nI q), .int (nI u), am_U], []) _
  refine go_aloadn_0 iM_setLot_0 rfl ?_
  refine go_iconst (v := nI 1) iM_setLot_1 rfl ?_
  refine go_putI iM_setLot_2 rfl (sk_43 _) ?_
  refine go_aloadn_0 iM_setLot_5 rfl ?_
  refine go_ldc2 (v := zL 144) iM_setLot_6 rfl ?_
  refine go_putL iM_setLot_9 rfl (sk_43 _) ?_
  refine go_iconst (v := nI 0) iM_setLot_12 rfl ?_
  refine go_istore_4 iM_setLot_13 (by simp [Value.category, am_U]) ?_
  refine lo_M_lot hp hq hu h1 h2 (fun mL2 hF => ex_i ⟨rfl, fun a a1 a2 => ?_, fun y hy => ?_, ?_, fun t i ht hi => ?_⟩) 3 0 _ (by omega) ⟨fun a _ => rfl, fun j hj => by omega⟩
  · rw [hF.1 a a2, am_u_r a1]
  · rw [hF.1 43 (by decide), am_u_k hy]
  · rw [hF.1 43 (by decide), am_u_s]; rfl
  · obtain rfl : t = 0 := by omega
    rw [show 3 * 0 + i = i by omega]; exact hF.2 i hi
theorem sp_M_two_b1 {x : Int32} {y : Int32} (h8 : n ≤ 8) (hcM : mI 43 5 = nI n) (hx : x.toInt < 0 ∨ (n : Int) ≤ x.toInt) : Sp S 2 tM_askedTwo (am_sh n, mI, mL, am_mR n) [.ref 43, .int x, .int y] (fun q => q = (some (.int (-1)), (am_sh n, mI, mL, am_mR n))) := by
  show Go _ _ tM_askedTwo (_, 0, [.ref 43, .int x, .int y], []) _
  refine go_aloadn_0 iM_askedTwo_0 rfl ?_
  refine go_iloadn_1 iM_askedTwo_1 ?_
  refine gc_V1 iM_askedTwo_2 rfl (by decide) (sk_43 _) rfl (Nat.le_of_ble_eq_true rfl) (Nat.le_of_ble_eq_true rfl) (by decide) (sp_M_isPlay_f h8 hcM hx) ?_
  refine go_if_eq iM_askedTwo_5 (fun c_5 => ?_) (fun c_5 => ?_)
  rotate_left
  · (first | omega | exact absurd c_5 (by decide) | (exfalso; simp (disch := omega) only [Int32.lt_iff_toInt_lt, Int32.le_iff_toInt_le, ← Int32.toInt_inj, nI_toInt, i32_m1, i32_0, i32_m20, i32_m40, i32_m30, i32_m9] at *; omega))
  refine go_iconst (v := (-1)) iM_askedTwo_16 rfl ?_
  refine go_iret iM_askedTwo_17 rfl ?_
  rfl
theorem sp_M_two_b2 {y : Int32} (h8 : n ≤ 8) (hcM : mI 43 5 = nI n) (hp : p < n) (hx : y.toInt < 0 ∨ (n : Int) ≤ y.toInt) : Sp S 2 tM_askedTwo (am_sh n, mI, mL, am_mR n) [.ref 43, .int (nI p), .int y] (fun q => q = (some (.int (-1)), (am_sh n, mI, mL, am_mR n))) := by
  show Go _ _ tM_askedTwo (_, 0, [.ref 43, .int (nI p), .int y], []) _
  refine go_aloadn_0 iM_askedTwo_0 rfl ?_
  refine go_iloadn_1 iM_askedTwo_1 ?_
  refine gc_V1 iM_askedTwo_2 rfl (by decide) (sk_43 _) rfl (Nat.le_of_ble_eq_true rfl) (Nat.le_of_ble_eq_true rfl) (by decide) (sp_M_isPlay_t h8 hcM hp) ?_
  refine go_if_eq iM_askedTwo_5 (fun c_5 => ?_) (fun c_5 => ?_)
  · (first | omega | exact absurd c_5 (by decide) | (exfalso; simp (disch := omega) only [Int32.lt_iff_toInt_lt, Int32.le_iff_toInt_le, ← Int32.toInt_inj, nI_toInt, i32_m1, i32_0, i32_m20, i32_m40, i32_m30, i32_m9] at *; omega))
  refine go_aloadn_0 iM_askedTwo_8 rfl ?_
  refine go_iloadn_2 iM_askedTwo_9 ?_
  refine gc_V1 iM_askedTwo_10 rfl (by decide) (sk_43 _) rfl (Nat.le_of_ble_eq_true rfl) (Nat.le_of_ble_eq_true rfl) (by decide) (sp_M_isPlay_f h8 hcM hx) ?_
  refine go_if_ne iM_askedTwo_13 (fun c_13 => ?_) (fun c_13 => ?_)
  · (first | omega | exact absurd c_13 (by decide) | (exfalso; simp (disch := omega) only [Int32.lt_iff_toInt_lt, Int32.le_iff_toInt_le, ← Int32.toInt_inj, nI_toInt, i32_m1, i32_0, i32_m20, i32_m40, i32_m30, i32_m9] at *; omega))
  refine go_iconst (v := (-1)) iM_askedTwo_16 rfl ?_
  refine go_iret iM_askedTwo_17 rfl ?_
  rfl
theorem sp_M_two_u {k1 k2 : Nat} (h8 : n ≤ 8) (hcM : mI 43 5 = nI n) (hp : p < n) (hq : q < n) (e1 : mI 45 p = nI k1) (e2 : mI 45 q = nI k2) (b1 : k1 < 4) (b2 : k2 < 4) (hk : k1 = 2 ∨ k2 = 2) : Sp S 2 tM_askedTwo (am_sh n, mI, mL, am_mR n) [.ref 43, .int (nI p), .int (nI q)] (fun r => r = (some (.int (-3)), (am_sh n, mtI mI 3, mL, am_mR n))) := by
  show Go _ _ tM_askedTwo (_, 0, [.ref 43, .int (nI p), .int (nI q)], []) _
  by_cases c : k1 = 2
  · refine go_aloadn_0 iM_askedTwo_0 rfl ?_
    refine go_iloadn_1 iM_askedTwo_1 ?_
    refine gc_V1 iM_askedTwo_2 rfl (by decide) (sk_43 _) rfl (Nat.le_of_ble_eq_true rfl) (Nat.le_of_ble_eq_true rfl) (by decide) (sp_M_isPlay_t h8 hcM hp) ?_
    refine go_if_eq iM_askedTwo_5 (fun c_5 => ?_) (fun c_5 => ?_)
    · (first | omega | exact absurd c_5 (by decide) | (exfalso; simp (disch := omega) only [Int32.lt_iff_toInt_lt, Int32.le_iff_toInt_le, ← Int32.toInt_inj, nI_toInt, i32_m1, i32_0, i32_m20, i32_m40, i32_m30, i32_m9] at *; omega))
    refine go_aloadn_0 iM_askedTwo_8 rfl ?_
    refine go_iloadn_2 iM_askedTwo_9 ?_
    refine gc_V1 iM_askedTwo_10 rfl (by decide) (sk_43 _) rfl (Nat.le_of_ble_eq_true rfl) (Nat.le_of_ble_eq_true rfl) (by decide) (sp_M_isPlay_t h8 hcM hq) ?_
    refine go_if_ne iM_askedTwo_13 (fun c_13 => ?_) (fun c_13 => ?_)
    rotate_left
    · (first | omega | exact absurd c_13 (by decide) | (exfalso; simp (disch := omega) only [Int32.lt_iff_toInt_lt, Int32.le_iff_toInt_le, ← Int32.toInt_inj, nI_toInt, i32_m1, i32_0, i32_m20, i32_m40, i32_m30, i32_m9] at *; omega))
    refine go_aloadn_0 iM_askedTwo_18 rfl ?_
    refine go_getR iM_askedTwo_19 rfl (sk_43 _) (mR_43_6 _) ?_
    refine go_iloadn_1 iM_askedTwo_22 ?_
    refine go_iald iM_askedTwo_23 (sh_45 _) rfl (by omega) (by omega) ?_
    try simp (disch := omega) only [am_u_n, am_u_s, am_u_k, e1]
    refine go_iconst (v := nI 2) iM_askedTwo_24 rfl ?_
    first | refine gn_ic_eq iM_askedTwo_25 (by omega) (by omega) (fun c_25 => ?_) (fun c_25 => ?_) | refine go_ic_eq iM_askedTwo_25 (fun c_25 => ?_) (fun c_25 => ?_)
    rotate_left
    · (first | omega | exact absurd c_25 (by decide) | (exfalso; simp (disch := omega) only [Int32.lt_iff_toInt_lt, Int32.le_iff_toInt_le, ← Int32.toInt_inj, nI_toInt, i32_m1, i32_0, i32_m20, i32_m40, i32_m30, i32_m9] at *; omega))
    refine go_aloadn_0 iM_askedTwo_38 rfl ?_
    refine go_iconst (v := nI 3) iM_askedTwo_39 rfl ?_
    refine gc_V1 iM_askedTwo_40 rfl (by decide) (sk_43 _) rfl (Nat.le_of_ble_eq_true rfl) (Nat.le_of_ble_eq_true rfl) (by decide) (sp_M_meets (by decide)) ?_
    refine go_goto iM_askedTwo_43 ?_
    refine go_iret iM_askedTwo_47 rfl ?_
    rfl
  · refine go_aloadn_0 iM_askedTwo_0 rfl ?_
    refine go_iloadn_1 iM_askedTwo_1 ?_
    refine gc_V1 iM_askedTwo_2 rfl (by decide) (sk_43 _) rfl (Nat.le_of_ble_eq_true rfl) (Nat.le_of_ble_eq_true rfl) (by decide) (sp_M_isPlay_t h8 hcM hp) ?_
    refine go_if_eq iM_askedTwo_5 (fun c_5 => ?_) (fun c_5 => ?_)
    · (first | omega | exact absurd c_5 (by decide) | (exfalso; simp (disch := omega) only [Int32.lt_iff_toInt_lt, Int32.le_iff_toInt_le, ← Int32.toInt_inj, nI_toInt, i32_m1, i32_0, i32_m20, i32_m40, i32_m30, i32_m9] at *; omega))
    refine go_aloadn_0 iM_askedTwo_8 rfl ?_
    refine go_iloadn_2 iM_askedTwo_9 ?_
    refine gc_V1 iM_askedTwo_10 rfl (by decide) (sk_43 _) rfl (Nat.le_of_ble_eq_true rfl) (Nat.le_of_ble_eq_true rfl) (by decide) (sp_M_isPlay_t h8 hcM hq) ?_
    refine go_if_ne iM_askedTwo_13 (fun c_13 => ?_) (fun c_13 => ?_)
    rotate_left
    · (first | omega | exact absurd c_13 (by decide) | (exfalso; simp (disch := omega) only [Int32.lt_iff_toInt_lt, Int32.le_iff_toInt_le, ← Int32.toInt_inj, nI_toInt, i32_m1, i32_0, i32_m20, i32_m40, i32_m30, i32_m9] at *; omega))
    refine go_aloadn_0 iM_askedTwo_18 rfl ?_
    refine go_getR iM_askedTwo_19 rfl (sk_43 _) (mR_43_6 _) ?_
    refine go_iloadn_1 iM_askedTwo_22 ?_
    refine go_iald iM_askedTwo_23 (sh_45 _) rfl (by omega) (by omega) ?_
    try simp (disch := omega) only [am_u_n, am_u_s, am_u_k, e1, e2]
    refine go_iconst (v := nI 2) iM_askedTwo_24 rfl ?_
    first | refine gn_ic_eq iM_askedTwo_25 (by omega) (by omega) (fun c_25 => ?_) (fun c_25 => ?_) | refine go_ic_eq iM_askedTwo_25 (fun c_25 => ?_) (fun c_25 => ?_)
    · (first | omega | exact absurd c_25 (by decide) | (exfalso; simp (disch := omega) only [Int32.lt_iff_toInt_lt, Int32.le_iff_toInt_le, ← Int32.toInt_inj, nI_toInt, i32_m1, i32_0, i32_m20, i32_m40, i32_m30, i32_m9] at *; omega))
    refine go_aloadn_0 iM_askedTwo_28 rfl ?_
    refine go_getR iM_askedTwo_29 rfl (sk_43 _) (mR_43_6 _) ?_
    refine go_iloadn_2 iM_askedTwo_32 ?_
    refine go_iald iM_askedTwo_33 (sh_45 _) rfl (by omega) (by omega) ?_
    try simp (disch := omega) only [am_u_n, am_u_s, am_u_k, e1, e2]
    refine go_iconst (v := nI 2) iM_askedTwo_34 rfl ?_
    first | refine gn_ic_ne iM_askedTwo_35 (by omega) (by omega) (fun c_35 => ?_) (fun c_35 => ?_) | refine go_ic_ne iM_askedTwo_35 (fun c_35 => ?_) (fun c_35 => ?_)
    · (first | omega | exact absurd c_35 (by decide) | (exfalso; simp (disch := omega) only [Int32.lt_iff_toInt_lt, Int32.le_iff_toInt_le, ← Int32.toInt_inj, nI_toInt, i32_m1, i32_0, i32_m20, i32_m40, i32_m30, i32_m9] at *; omega))
    refine go_aloadn_0 iM_askedTwo_38 rfl ?_
    refine go_iconst (v := nI 3) iM_askedTwo_39 rfl ?_
    refine gc_V1 iM_askedTwo_40 rfl (by decide) (sk_43 _) rfl (Nat.le_of_ble_eq_true rfl) (Nat.le_of_ble_eq_true rfl) (by decide) (sp_M_meets (by decide)) ?_
    refine go_goto iM_askedTwo_43 ?_
    refine go_iret iM_askedTwo_47 rfl ?_
    rfl
theorem sp_M_two_t {k1 k2 : Nat} (h8 : n ≤ 8) (hcM : mI 43 5 = nI n) (hp : p < n) (hq : q < n) (e1 : mI 45 p = nI k1) (e2 : mI 45 q = nI k2) (b1 : k1 < 4) (b2 : k2 < 4) (hk1 : k1 ≠ 2) (hk2 : k2 ≠ 2) : Sp S 2 tM_askedTwo (am_sh n, mI, mL, am_mR n) [.ref 43, .int (nI p), .int (nI q)] (fun r => r = (some (.int (nI 0)), (am_sh n, mI, mL, am_mR n))) := by
  show Go _ _ tM_askedTwo (_, 0, [.ref 43, .int (nI p), .int (nI q)], []) _
  refine go_aloadn_0 iM_askedTwo_0 rfl ?_
  refine go_iloadn_1 iM_askedTwo_1 ?_
  refine gc_V1 iM_askedTwo_2 rfl (by decide) (sk_43 _) rfl (Nat.le_of_ble_eq_true rfl) (Nat.le_of_ble_eq_true rfl) (by decide) (sp_M_isPlay_t h8 hcM hp) ?_
  refine go_if_eq iM_askedTwo_5 (fun c_5 => ?_) (fun c_5 => ?_)
  · (first | omega | exact absurd c_5 (by decide) | (exfalso; simp (disch := omega) only [Int32.lt_iff_toInt_lt, Int32.le_iff_toInt_le, ← Int32.toInt_inj, nI_toInt, i32_m1, i32_0, i32_m20, i32_m40, i32_m30, i32_m9] at *; omega))
  refine go_aloadn_0 iM_askedTwo_8 rfl ?_
  refine go_iloadn_2 iM_askedTwo_9 ?_
  refine gc_V1 iM_askedTwo_10 rfl (by decide) (sk_43 _) rfl (Nat.le_of_ble_eq_true rfl) (Nat.le_of_ble_eq_true rfl) (by decide) (sp_M_isPlay_t h8 hcM hq) ?_
  refine go_if_ne iM_askedTwo_13 (fun c_13 => ?_) (fun c_13 => ?_)
  rotate_left
  · (first | omega | exact absurd c_13 (by decide) | (exfalso; simp (disch := omega) only [Int32.lt_iff_toInt_lt, Int32.le_iff_toInt_le, ← Int32.toInt_inj, nI_toInt, i32_m1, i32_0, i32_m20, i32_m40, i32_m30, i32_m9] at *; omega))
  refine go_aloadn_0 iM_askedTwo_18 rfl ?_
  refine go_getR iM_askedTwo_19 rfl (sk_43 _) (mR_43_6 _) ?_
  refine go_iloadn_1 iM_askedTwo_22 ?_
  refine go_iald iM_askedTwo_23 (sh_45 _) rfl (by omega) (by omega) ?_
  try simp (disch := omega) only [am_u_n, am_u_s, am_u_k, e1, e2]
  refine go_iconst (v := nI 2) iM_askedTwo_24 rfl ?_
  first | refine gn_ic_eq iM_askedTwo_25 (by omega) (by omega) (fun c_25 => ?_) (fun c_25 => ?_) | refine go_ic_eq iM_askedTwo_25 (fun c_25 => ?_) (fun c_25 => ?_)
  · (first | omega | exact absurd c_25 (by decide) | (exfalso; simp (disch := omega) only [Int32.lt_iff_toInt_lt, Int32.le_iff_toInt_le, ← Int32.toInt_inj, nI_toInt, i32_m1, i32_0, i32_m20, i32_m40, i32_m30, i32_m9] at *; omega))
  refine go_aloadn_0 iM_askedTwo_28 rfl ?_
  refine go_getR iM_askedTwo_29 rfl (sk_43 _) (mR_43_6 _) ?_
  refine go_iloadn_2 iM_askedTwo_32 ?_
  refine go_iald iM_askedTwo_33 (sh_45 _) rfl (by omega) (by omega) ?_
  try simp (disch := omega) only [am_u_n, am_u_s, am_u_k, e1, e2]
  refine go_iconst (v := nI 2) iM_askedTwo_34 rfl ?_
  first | refine gn_ic_ne iM_askedTwo_35 (by omega) (by omega) (fun c_35 => ?_) (fun c_35 => ?_) | refine go_ic_ne iM_askedTwo_35 (fun c_35 => ?_) (fun c_35 => ?_)
  rotate_left
  · (first | omega | exact absurd c_35 (by decide) | (exfalso; simp (disch := omega) only [Int32.lt_iff_toInt_lt, Int32.le_iff_toInt_le, ← Int32.toInt_inj, nI_toInt, i32_m1, i32_0, i32_m20, i32_m40, i32_m30, i32_m9] at *; omega))
  refine go_iconst (v := nI 0) iM_askedTwo_46 rfl ?_
  refine go_iret iM_askedTwo_47 rfl ?_
  rfl
theorem pr_lot (x y z : Int32) (hR : Rel n mI mL) : Pair S tT_lot tM_lot [.int x, .int y, .int z] n mI mL := by
  have hR0 := hR
  obtain ⟨h8, ⟨m, hm1, hm3, hmT, hmM⟩, hcT, hcM, hpl, hro, hfi, hfs, hu, hl, hch⟩ := hR
  rcases pl_cases x n h8 with ⟨p, hp, rfl⟩ | hx
  · have kp := sk_play hp
    rcases pl_cases y n h8 with ⟨q, hq, rfl⟩ | hy
    · have kq := sk_play hq
      rcases int_cases z 12 (by decide) with ⟨u, huu, rfl⟩ | hz
      · obtain ⟨k1, b1, t1, m1, _⟩ := hpl p hp
        obtain ⟨k2, b2, t2, m2, _⟩ := hpl q hq
        by_cases c : k1 = 2 ∨ k2 = 2
        · refine Pair.refuse (h1 := 4) (h2 := 4) (f := 3) hR0 (by decide) ?_ ?_
          · show Go _ _ tT_lot (_, 0, [.ref 0, .int (nI p), .int (nI q), .int (nI u), am_U, am_U], []) _
            by_cases c1 : k1 = 2
            · refine go_aloadn_0 iT_lot_0 rfl ?_
              refine go_iloadn_1 iT_lot_1 ?_
              refine gc_V1 iT_lot_2 rfl (by decide) (sk_0 _) rfl (Nat.le_of_ble_eq_true rfl) (Nat.le_of_ble_eq_true rfl) (by decide) (sp_T_playAt_t h8 hcT hp) ?_
              refine go_astore_4 iT_lot_5 rfl (by simp [Value.category, am_U]) ?_
              refine go_aloadn_0 iT_lot_7 rfl ?_
              refine go_iloadn_2 iT_lot_8 ?_
              refine gc_V1 iT_lot_9 rfl (by decide) (sk_0 _) rfl (Nat.le_of_ble_eq_true rfl) (Nat.le_of_ble_eq_true rfl) (by decide) (sp_T_playAt_t h8 hcT hq) ?_
              refine go_astore_5 iT_lot_12 rfl (by simp [Value.category, am_U]) ?_
              refine go_aload_4 iT_lot_14 rfl ?_
              refine go_nulR iT_lot_16 ?_
              refine go_aload_5 iT_lot_19 rfl ?_
              refine go_nulR iT_lot_21 ?_
              refine go_iloadn_3 iT_lot_24 ?_
              refine gc_S1 iT_lot_25 (by decide) rfl rfl (Nat.le_of_ble_eq_true rfl) (Nat.le_of_ble_eq_true rfl) (by decide) (sp_T_isOdds_t huu) ?_
              refine go_if_ne iT_lot_28 (fun c_28 => ?_) (fun c_28 => ?_)
              rotate_left
              · (first | omega | exact absurd c_28 (by decide) | (exfalso; simp (disch := omega) only [Int32.lt_iff_toInt_lt, Int32.le_iff_toInt_le, ← Int32.toInt_inj, nI_toInt, i32_m1, i32_0, i32_m20, i32_m40, i32_m30, i32_m9] at *; omega))
              refine go_aload_4 iT_lot_33 rfl ?_
              refine go_getI iT_lot_35 (Or.inl rfl) (by assumption) ?_
              try simp (disch := omega) only [am_u_n, am_u_s, am_u_k, t1]
              refine go_iconst (v := nI 2) iT_lot_38 rfl ?_
              first | refine gn_ic_eq iT_lot_39 (by omega) (by omega) (fun c_39 => ?_) (fun c_39 => ?_) | refine go_ic_eq iT_lot_39 (fun c_39 => ?_) (fun c_39 => ?_)
              rotate_left
              · (first | omega | exact absurd c_39 (by decide) | (exfalso; simp (disch := omega) only [Int32.lt_iff_toInt_lt, Int32.le_iff_toInt_le, ← Int32.toInt_inj, nI_toInt, i32_m1, i32_0, i32_m20, i32_m40, i32_m30, i32_m9] at *; omega))
              refine go_aloadn_0 iT_lot_51 rfl ?_
              refine go_iconst (v := nI 3) iT_lot_52 rfl ?_
              refine gc_V1 iT_lot_53 rfl (by decide) (sk_0 _) rfl (Nat.le_of_ble_eq_true rfl) (Nat.le_of_ble_eq_true rfl) (by decide) (sp_T_refuse (by decide)) ?_
              refine go_iret iT_lot_56 rfl ?_
              rfl
            · refine go_aloadn_0 iT_lot_0 rfl ?_
              refine go_iloadn_1 iT_lot_1 ?_
              refine gc_V1 iT_lot_2 rfl (by decide) (sk_0 _) rfl (Nat.le_of_ble_eq_true rfl) (Nat.le_of_ble_eq_true rfl) (by decide) (sp_T_playAt_t h8 hcT hp) ?_
              refine go_astore_4 iT_lot_5 rfl (by simp [Value.category, am_U]) ?_
              refine go_aloadn_0 iT_lot_7 rfl ?_
              refine go_iloadn_2 iT_lot_8 ?_
              refine gc_V1 iT_lot_9 rfl (by decide) (sk_0 _) rfl (Nat.le_of_ble_eq_true rfl) (Nat.le_of_ble_eq_true rfl) (by decide) (sp_T_playAt_t h8 hcT hq) ?_
              refine go_astore_5 iT_lot_12 rfl (by simp [Value.category, am_U]) ?_
              refine go_aload_4 iT_lot_14 rfl ?_
              refine go_nulR iT_lot_16 ?_
              refine go_aload_5 iT_lot_19 rfl ?_
              refine go_nulR iT_lot_21 ?_
              refine go_iloadn_3 iT_lot_24 ?_
              refine gc_S1 iT_lot_25 (by decide) rfl rfl (Nat.le_of_ble_eq_true rfl) (Nat.le_of_ble_eq_true rfl) (by decide) (sp_T_isOdds_t huu) ?_
              refine go_if_ne iT_lot_28 (fun c_28 => ?_) (fun c_28 => ?_)
              rotate_left
              · (first | omega | exact absurd c_28 (by decide) | (exfalso; simp (disch := omega) only [Int32.lt_iff_toInt_lt, Int32.le_iff_toInt_le, ← Int32.toInt_inj, nI_toInt, i32_m1, i32_0, i32_m20, i32_m40, i32_m30, i32_m9] at *; omega))
              refine go_aload_4 iT_lot_33 rfl ?_
              refine go_getI iT_lot_35 (Or.inl rfl) (by assumption) ?_
              try simp (disch := omega) only [am_u_n, am_u_s, am_u_k, t1, t2]
              refine go_iconst (v := nI 2) iT_lot_38 rfl ?_
              first | refine gn_ic_eq iT_lot_39 (by omega) (by omega) (fun c_39 => ?_) (fun c_39 => ?_) | refine go_ic_eq iT_lot_39 (fun c_39 => ?_) (fun c_39 => ?_)
              · (first | omega | exact absurd c_39 (by decide) | (exfalso; simp (disch := omega) only [Int32.lt_iff_toInt_lt, Int32.le_iff_toInt_le, ← Int32.toInt_inj, nI_toInt, i32_m1, i32_0, i32_m20, i32_m40, i32_m30, i32_m9] at *; omega))
              refine go_aload_5 iT_lot_42 rfl ?_
              refine go_getI iT_lot_44 (Or.inl rfl) (by assumption) ?_
              try simp (disch := omega) only [am_u_n, am_u_s, am_u_k, t1, t2]
              refine go_iconst (v := nI 2) iT_lot_47 rfl ?_
              first | refine gn_ic_ne iT_lot_48 (by omega) (by omega) (fun c_48 => ?_) (fun c_48 => ?_) | refine go_ic_ne iT_lot_48 (fun c_48 => ?_) (fun c_48 => ?_)
              · (first | omega | exact absurd c_48 (by decide) | (exfalso; simp (disch := omega) only [Int32.lt_iff_toInt_lt, Int32.le_iff_toInt_le, ← Int32.toInt_inj, nI_toInt, i32_m1, i32_0, i32_m20, i32_m40, i32_m30, i32_m9] at *; omega))
              refine go_aloadn_0 iT_lot_51 rfl ?_
              refine go_iconst (v := nI 3) iT_lot_52 rfl ?_
              refine gc_V1 iT_lot_53 rfl (by decide) (sk_0 _) rfl (Nat.le_of_ble_eq_true rfl) (Nat.le_of_ble_eq_true rfl) (by decide) (sp_T_refuse (by decide)) ?_
              refine go_iret iT_lot_56 rfl ?_
              rfl
          · have hqq : ∀ a, 42 < a → rfI mI 3 a = mI a := fun a ha => rfI_r (by omega) (by omega)
            show Go _ _ tM_lot (_, 0, [.ref 43, .int (nI p), .int (nI q), .int (nI u), am_U], []) _
            refine go_iloadn_3 iM_lot_0 ?_
            refine go_iconst (v := nI 0) iM_lot_1 rfl ?_
            refine go_bipush (v := nI 12) iM_lot_2 (by decide) ?_
            refine gc_S1 iM_lot_4 (by decide) rfl rfl (Nat.le_of_ble_eq_true rfl) (Nat.le_of_ble_eq_true rfl) (by decide) (sp_M_in_t (by simp (disch := omega) only [nI_toInt]; omega) (by simp (disch := omega) only [nI_toInt]; omega)) ?_
            refine go_if_ne iM_lot_7 (fun c_7 => ?_) (fun c_7 => ?_)
            rotate_left
            · (first | omega | exact absurd c_7 (by decide) | (exfalso; simp (disch := omega) only [Int32.lt_iff_toInt_lt, Int32.le_iff_toInt_le, ← Int32.toInt_inj, nI_toInt, i32_m1, i32_0, i32_m20, i32_m40, i32_m30, i32_m9] at *; omega))
            refine go_aloadn_0 iM_lot_12 rfl ?_
            refine go_iloadn_1 iM_lot_13 ?_
            refine go_iloadn_2 iM_lot_14 ?_
            refine gc_V1 iM_lot_15 rfl (by decide) (sk_43 _) rfl (Nat.le_of_ble_eq_true rfl) (Nat.le_of_ble_eq_true rfl) (by decide) (sp_M_two_u h8 (by rw [hqq 43 (by omega)]; exact hcM) hp hq (by rw [hqq 45 (by omega)]; exact m1) (by rw [hqq 45 (by omega)]; exact m2) b1 b2 c) ?_
            refine go_istore_4 iM_lot_18 (by simp [Value.category, am_U]) ?_
            refine go_iload_4 iM_lot_20 ?_
            refine go_if_ge iM_lot_22 (fun c_22 => ?_) (fun c_22 => ?_)
            · (first | omega | exact absurd c_22 (by decide) | (exfalso; simp (disch := omega) only [Int32.lt_iff_toInt_lt, Int32.le_iff_toInt_le, ← Int32.toInt_inj, nI_toInt, i32_m1, i32_0, i32_m20, i32_m40, i32_m30, i32_m9] at *; omega))
            refine go_iload_4 iM_lot_25 ?_
            refine go_iret iM_lot_27 rfl ?_
            rfl
        · have c1 : k1 ≠ 2 := fun e => c (Or.inl e)
          have c2 : k2 ≠ 2 := fun e => c (Or.inr e)
          have hG := Gm_lot (u := u) hm1 hm3 huu (hpl p hp) (hpl q hq)
          refine Pair.ex (h1 := 4) (h2 := 5) (v := .int (gnA m 144 1 (wL mI p q u))) (P := fun mI1 mL1 => FrC mI mI1 mL mL1 ∧ TlC mL mL1 m 144 1 (wL mI p q u)) ?_ (fun mI1 mL1 hP => ?_)
          · unfold Ex
            show Go _ _ tT_lot (_, 0, [.ref 0, .int (nI p), .int (nI q), .int (nI u), am_U, am_U], []) _
            refine go_aloadn_0 iT_lot_0 rfl ?_
            refine go_iloadn_1 iT_lot_1 ?_
            refine gc_V1 iT_lot_2 rfl (by decide) (sk_0 _) rfl (Nat.le_of_ble_eq_true rfl) (Nat.le_of_ble_eq_true rfl) (by decide) (sp_T_playAt_t h8 hcT hp) ?_
            refine go_astore_4 iT_lot_5 rfl (by simp [Value.category, am_U]) ?_
            refine go_aloadn_0 iT_lot_7 rfl ?_
            refine go_iloadn_2 iT_lot_8 ?_
            refine gc_V1 iT_lot_9 rfl (by decide) (sk_0 _) rfl (Nat.le_of_ble_eq_true rfl) (Nat.le_of_ble_eq_true rfl) (by decide) (sp_T_playAt_t h8 hcT hq) ?_
            refine go_astore_5 iT_lot_12 rfl (by simp [Value.category, am_U]) ?_
            refine go_aload_4 iT_lot_14 rfl ?_
            refine go_nulR iT_lot_16 ?_
            refine go_aload_5 iT_lot_19 rfl ?_
            refine go_nulR iT_lot_21 ?_
            refine go_iloadn_3 iT_lot_24 ?_
            refine gc_S1 iT_lot_25 (by decide) rfl rfl (Nat.le_of_ble_eq_true rfl) (Nat.le_of_ble_eq_true rfl) (by decide) (sp_T_isOdds_t huu) ?_
            refine go_if_ne iT_lot_28 (fun c_28 => ?_) (fun c_28 => ?_)
            rotate_left
            · (first | omega | exact absurd c_28 (by decide) | (exfalso; simp (disch := omega) only [Int32.lt_iff_toInt_lt, Int32.le_iff_toInt_le, ← Int32.toInt_inj, nI_toInt, i32_m1, i32_0, i32_m20, i32_m40, i32_m30, i32_m9] at *; omega))
            refine go_aload_4 iT_lot_33 rfl ?_
            refine go_getI iT_lot_35 (Or.inl rfl) (by assumption) ?_
            try simp (disch := omega) only [am_u_n, am_u_s, am_u_k, t1, t2]
            refine go_iconst (v := nI 2) iT_lot_38 rfl ?_
            first | refine gn_ic_eq iT_lot_39 (by omega) (by omega) (fun c_39 => ?_) (fun c_39 => ?_) | refine go_ic_eq iT_lot_39 (fun c_39 => ?_) (fun c_39 => ?_)
            · (first | omega | exact absurd c_39 (by decide) | (exfalso; simp (disch := omega) only [Int32.lt_iff_toInt_lt, Int32.le_iff_toInt_le, ← Int32.toInt_inj, nI_toInt, i32_m1, i32_0, i32_m20, i32_m40, i32_m30, i32_m9] at *; omega))
            refine go_aload_5 iT_lot_42 rfl ?_
            refine go_getI iT_lot_44 (Or.inl rfl) (by assumption) ?_
            try simp (disch := omega) only [am_u_n, am_u_s, am_u_k, t1, t2]
            refine go_iconst (v := nI 2) iT_lot_47 rfl ?_
            first | refine gn_ic_ne iT_lot_48 (by omega) (by omega) (fun c_48 => ?_) (fun c_48 => ?_) | refine go_ic_ne iT_lot_48 (fun c_48 => ?_) (fun c_48 => ?_)
            rotate_left
            · (first | omega | exact absurd c_48 (by decide) | (exfalso; simp (disch := omega) only [Int32.lt_iff_toInt_lt, Int32.le_iff_toInt_le, ← Int32.toInt_inj, nI_toInt, i32_m1, i32_0, i32_m20, i32_m40, i32_m30, i32_m9] at *; omega))
            refine go_aloadn_0 iT_lot_57 rfl ?_
            refine go_aloadn_0 iT_lot_58 rfl ?_
            refine go_aload_4 iT_lot_59 rfl ?_
            refine go_aload_5 iT_lot_61 rfl ?_
            refine go_iloadn_3 iT_lot_63 ?_
            refine gx_V1 iT_lot_64 rfl (by decide) (sk_0 _) rfl (Nat.le_of_ble_eq_true rfl) (Nat.le_of_ble_eq_true rfl) (by decide) (ex_T_lot h8 hm1 hm3 hp hq huu hmT (hpl p hp) (hpl q hq)) (fun mI64_ mL64_ h64_ => ?_)
            obtain ⟨e1, e2, e3⟩ := h64_
            refine gx_V1 iT_lot_67 rfl (by decide) (sk_0 _) rfl (Nat.le_of_ble_eq_true rfl) (Nat.le_of_ble_eq_true rfl) (by decide) (ex_T_tellGain (k := 1) (w := wL mI p q u) (by omega) hG e1) (fun mI67_ mL67_ h67_ => ?_)
            refine go_iret iT_lot_70 rfl ?_
            exact ex_i ⟨⟨fun a ha => (h67_.1.1 a ha).trans (e2 a (by omega) (by omega)), fun a ha h4 => (h67_.1.2 a ha h4).trans (e3 a (by omega))⟩, h67_.2.1, fun q => (h67_.2.2 q).trans (e3 4 (by omega))⟩
          · obtain ⟨kA, kB⟩ := hP
            have hqq : ∀ a, 42 < a → mI1 a = mI a := fun a ha => kA.1 a (by omega)
            have has := ex_M_setLot (S := S) (n := n) (mL := mL1) (show p < 8 by omega) (show q < 8 by omega) huu ((hpl p hp).c (mI' := mI1) (fun a ha _ _ _ => hqq a ha)) ((hpl q hq).c (mI' := mI1) (fun a ha _ _ _ => hqq a ha))
            rw [wL_fr hqq] at has
            unfold Ex
            show Go _ _ tM_lot (_, 0, [.ref 43, .int (nI p), .int (nI q), .int (nI u), am_U], []) _
            refine go_iloadn_3 iM_lot_0 ?_
            refine go_iconst (v := nI 0) iM_lot_1 rfl ?_
            refine go_bipush (v := nI 12) iM_lot_2 (by decide) ?_
            refine gc_S1 iM_lot_4 (by decide) rfl rfl (Nat.le_of_ble_eq_true rfl) (Nat.le_of_ble_eq_true rfl) (by decide) (sp_M_in_t (by simp (disch := omega) only [nI_toInt]; omega) (by simp (disch := omega) only [nI_toInt]; omega)) ?_
            refine go_if_ne iM_lot_7 (fun c_7 => ?_) (fun c_7 => ?_)
            rotate_left
            · (first | omega | exact absurd c_7 (by decide) | (exfalso; simp (disch := omega) only [Int32.lt_iff_toInt_lt, Int32.le_iff_toInt_le, ← Int32.toInt_inj, nI_toInt, i32_m1, i32_0, i32_m20, i32_m40, i32_m30, i32_m9] at *; omega))
            refine go_aloadn_0 iM_lot_12 rfl ?_
            refine go_iloadn_1 iM_lot_13 ?_
            refine go_iloadn_2 iM_lot_14 ?_
            refine gc_V1 iM_lot_15 rfl (by decide) (sk_43 _) rfl (Nat.le_of_ble_eq_true rfl) (Nat.le_of_ble_eq_true rfl) (by decide) (sp_M_two_t h8 (by rw [hqq 43 (by omega)]; exact hcM) hp hq (by rw [hqq 45 (by omega)]; exact m1) (by rw [hqq 45 (by omega)]; exact m2) b1 b2 c1 c2) ?_
            refine go_istore_4 iM_lot_18 (by simp [Value.category, am_U]) ?_
            refine go_iload_4 iM_lot_20 ?_
            refine go_if_ge iM_lot_22 (fun c_22 => ?_) (fun c_22 => ?_)
            rotate_left
            · (first | omega | exact absurd c_22 (by decide) | (exfalso; simp (disch := omega) only [Int32.lt_iff_toInt_lt, Int32.le_iff_toInt_le, ← Int32.toInt_inj, nI_toInt, i32_m1, i32_0, i32_m20, i32_m40, i32_m30, i32_m9] at *; omega))
            refine go_aloadn_0 iM_lot_28 rfl ?_
            refine go_iloadn_1 iM_lot_29 ?_
            refine go_iloadn_2 iM_lot_30 ?_
            refine go_iloadn_3 iM_lot_31 ?_
            refine gx_V0 iM_lot_32 rfl (by decide) (sk_43 _) rfl (Nat.le_of_ble_eq_true rfl) (Nat.le_of_ble_eq_true rfl) (by decide) has (fun mI32_ mL32_ h32_ => ?_)
            obtain ⟨a1, a2, a3, a4, a5⟩ := h32_
            subst mI32_
            refine go_aloadn_0 iM_lot_35 rfl ?_
            refine gx_V1 iM_lot_36 rfl (by decide) (sk_43 _) rfl (Nat.le_of_ble_eq_true rfl) (Nat.le_of_ble_eq_true rfl) (by decide) (ex_M_tellGain hG (by rw [am_u_k (by decide), hqq 43 (by omega)]; exact hmM) am_u_s a4 (fun t i ht hi => a5 t i ht (by omega))) (fun mI36_ mL36_ h36_ => ?_)
            obtain ⟨b0, b1, b2⟩ := h36_
            subst mI36_
            refine go_iret iM_lot_39 rfl ?_
            refine ex_i (hR0.keep kA ⟨fun a e1 e2 e3 => by rw [am_u_r e1], fun y hy => by rw [am_u_k hy], fun a ha => (b1 a ha).trans (a2 a (by omega) (by omega))⟩ ?_ ?_)
            · by_cases c : 0 < Wz m 144 1 (wL mI p q u)
              · rw [(kB.1 c).1, (b2.1 c).1]
              · rw [kB.2 c, (b2.2 c).1, a3 2 (by decide), kA.2 43 (by omega) (by decide)]; exact hu
            · by_cases c : 0 < Wz m 144 1 (wL mI p q u)
              · rw [(kB.1 c).2, (b2.1 c).2]
              · rw [kB.2 c, (b2.2 c).2, a3 3 (by decide), kA.2 43 (by omega) (by decide)]; exact hl
      · refine Pair.same (h1 := 1) (h2 := 4) (v := .int (-1)) hR0 ?_ ?_
        · show Go _ _ tT_lot (_, 0, [.ref 0, .int (nI p), .int (nI q), .int z, am_U, am_U], []) _
          refine go_aloadn_0 iT_lot_0 rfl ?_
          refine go_iloadn_1 iT_lot_1 ?_
          refine gc_V1 iT_lot_2 rfl (by decide) (sk_0 _) rfl (Nat.le_of_ble_eq_true rfl) (Nat.le_of_ble_eq_true rfl) (by decide) (sp_T_playAt_t h8 hcT hp) ?_
          refine go_astore_4 iT_lot_5 rfl (by simp [Value.category, am_U]) ?_
          refine go_aloadn_0 iT_lot_7 rfl ?_
          refine go_iloadn_2 iT_lot_8 ?_
          refine gc_V1 iT_lot_9 rfl (by decide) (sk_0 _) rfl (Nat.le_of_ble_eq_true rfl) (Nat.le_of_ble_eq_true rfl) (by decide) (sp_T_playAt_t h8 hcT hq) ?_
          refine go_astore_5 iT_lot_12 rfl (by simp [Value.category, am_U]) ?_
          refine go_aload_4 iT_lot_14 rfl ?_
          refine go_nulR iT_lot_16 ?_
          refine go_aload_5 iT_lot_19 rfl ?_
          refine go_nulR iT_lot_21 ?_
          refine go_iloadn_3 iT_lot_24 ?_
          refine gc_S1 iT_lot_25 (by decide) rfl rfl (Nat.le_of_ble_eq_true rfl) (Nat.le_of_ble_eq_true rfl) (by decide) (sp_T_isOdds_f (by omega)) ?_
          refine go_if_ne iT_lot_28 (fun c_28 => ?_) (fun c_28 => ?_)
          · (first | omega | exact absurd c_28 (by decide) | (exfalso; simp (disch := omega) only [Int32.lt_iff_toInt_lt, Int32.le_iff_toInt_le, ← Int32.toInt_inj, nI_toInt, i32_m1, i32_0, i32_m20, i32_m40, i32_m30, i32_m9] at *; omega))
          refine go_iconst (v := (-1)) iT_lot_31 rfl ?_
          refine go_iret iT_lot_32 rfl ?_
          rfl
        · show Go _ _ tM_lot (_, 0, [.ref 43, .int (nI p), .int (nI q), .int z, am_U], []) _
          refine go_iloadn_3 iM_lot_0 ?_
          refine go_iconst (v := nI 0) iM_lot_1 rfl ?_
          refine go_bipush (v := nI 12) iM_lot_2 (by decide) ?_
          refine gc_S1 iM_lot_4 (by decide) rfl rfl (Nat.le_of_ble_eq_true rfl) (Nat.le_of_ble_eq_true rfl) (by decide) (sp_M_in_f (by simp (disch := omega) only [nI_toInt]; omega)) ?_
          refine go_if_ne iM_lot_7 (fun c_7 => ?_) (fun c_7 => ?_)
          · (first | omega | exact absurd c_7 (by decide) | (exfalso; simp (disch := omega) only [Int32.lt_iff_toInt_lt, Int32.le_iff_toInt_le, ← Int32.toInt_inj, nI_toInt, i32_m1, i32_0, i32_m20, i32_m40, i32_m30, i32_m9] at *; omega))
          refine go_iconst (v := (-1)) iM_lot_10 rfl ?_
          refine go_iret iM_lot_11 rfl ?_
          rfl
    · refine Pair.same (h1 := 1) (h2 := 4) (v := .int (-1)) hR0 ?_ ?_
      · show Go _ _ tT_lot (_, 0, [.ref 0, .int (nI p), .int y, .int z, am_U, am_U], []) _
        refine go_aloadn_0 iT_lot_0 rfl ?_
        refine go_iloadn_1 iT_lot_1 ?_
        refine gc_V1 iT_lot_2 rfl (by decide) (sk_0 _) rfl (Nat.le_of_ble_eq_true rfl) (Nat.le_of_ble_eq_true rfl) (by decide) (sp_T_playAt_t h8 hcT hp) ?_
        refine go_astore_4 iT_lot_5 rfl (by simp [Value.category, am_U]) ?_
        refine go_aloadn_0 iT_lot_7 rfl ?_
        refine go_iloadn_2 iT_lot_8 ?_
        refine gc_V1 iT_lot_9 rfl (by decide) (sk_0 _) rfl (Nat.le_of_ble_eq_true rfl) (Nat.le_of_ble_eq_true rfl) (by decide) (sp_T_playAt_f h8 hcT hy) ?_
        refine go_astore_5 iT_lot_12 rfl (by simp [Value.category, am_U]) ?_
        refine go_aload_4 iT_lot_14 rfl ?_
        refine go_nulR iT_lot_16 ?_
        refine go_aload_5 iT_lot_19 rfl ?_
        refine go_nulN iT_lot_21 ?_
        refine go_iconst (v := (-1)) iT_lot_31 rfl ?_
        refine go_iret iT_lot_32 rfl ?_
        rfl
      · rcases int_cases z 12 (by decide) with ⟨u, huu, rfl⟩ | hz
        · show Go _ _ tM_lot (_, 0, [.ref 43, .int (nI p), .int y, .int (nI u), am_U], []) _
          refine go_iloadn_3 iM_lot_0 ?_
          refine go_iconst (v := nI 0) iM_lot_1 rfl ?_
          refine go_bipush (v := nI 12) iM_lot_2 (by decide) ?_
          refine gc_S1 iM_lot_4 (by decide) rfl rfl (Nat.le_of_ble_eq_true rfl) (Nat.le_of_ble_eq_true rfl) (by decide) (sp_M_in_t (by simp (disch := omega) only [nI_toInt]; omega) (by simp (disch := omega) only [nI_toInt]; omega)) ?_
          refine go_if_ne iM_lot_7 (fun c_7 => ?_) (fun c_7 => ?_)
          rotate_left
          · (first | omega | exact absurd c_7 (by decide) | (exfalso; simp (disch := omega) only [Int32.lt_iff_toInt_lt, Int32.le_iff_toInt_le, ← Int32.toInt_inj, nI_toInt, i32_m1, i32_0, i32_m20, i32_m40, i32_m30, i32_m9] at *; omega))
          refine go_aloadn_0 iM_lot_12 rfl ?_
          refine go_iloadn_1 iM_lot_13 ?_
          refine go_iloadn_2 iM_lot_14 ?_
          refine gc_V1 iM_lot_15 rfl (by decide) (sk_43 _) rfl (Nat.le_of_ble_eq_true rfl) (Nat.le_of_ble_eq_true rfl) (by decide) (sp_M_two_b2 h8 hcM hp hy) ?_
          refine go_istore_4 iM_lot_18 (by simp [Value.category, am_U]) ?_
          refine go_iload_4 iM_lot_20 ?_
          refine go_if_ge iM_lot_22 (fun c_22 => ?_) (fun c_22 => ?_)
          · (first | omega | exact absurd c_22 (by decide) | (exfalso; simp (disch := omega) only [Int32.lt_iff_toInt_lt, Int32.le_iff_toInt_le, ← Int32.toInt_inj, nI_toInt, i32_m1, i32_0, i32_m20, i32_m40, i32_m30, i32_m9] at *; omega))
          refine go_iload_4 iM_lot_25 ?_
          refine go_iret iM_lot_27 rfl ?_
          rfl
        · show Go _ _ tM_lot (_, 0, [.ref 43, .int (nI p), .int y, .int z, am_U], []) _
          refine go_iloadn_3 iM_lot_0 ?_
          refine go_iconst (v := nI 0) iM_lot_1 rfl ?_
          refine go_bipush (v := nI 12) iM_lot_2 (by decide) ?_
          refine gc_S1 iM_lot_4 (by decide) rfl rfl (Nat.le_of_ble_eq_true rfl) (Nat.le_of_ble_eq_true rfl) (by decide) (sp_M_in_f (by simp (disch := omega) only [nI_toInt]; omega)) ?_
          refine go_if_ne iM_lot_7 (fun c_7 => ?_) (fun c_7 => ?_)
          · (first | omega | exact absurd c_7 (by decide) | (exfalso; simp (disch := omega) only [Int32.lt_iff_toInt_lt, Int32.le_iff_toInt_le, ← Int32.toInt_inj, nI_toInt, i32_m1, i32_0, i32_m20, i32_m40, i32_m30, i32_m9] at *; omega))
          refine go_iconst (v := (-1)) iM_lot_10 rfl ?_
          refine go_iret iM_lot_11 rfl ?_
          rfl
  · refine Pair.same (h1 := 1) (h2 := 4) (v := .int (-1)) hR0 ?_ ?_
    · rcases pl_cases y n h8 with ⟨q, hq, rfl⟩ | hy
      · show Go _ _ tT_lot (_, 0, [.ref 0, .int x, .int (nI q), .int z, am_U, am_U], []) _
        refine go_aloadn_0 iT_lot_0 rfl ?_
        refine go_iloadn_1 iT_lot_1 ?_
        refine gc_V1 iT_lot_2 rfl (by decide) (sk_0 _) rfl (Nat.le_of_ble_eq_true rfl) (Nat.le_of_ble_eq_true rfl) (by decide) (sp_T_playAt_f h8 hcT hx) ?_
        refine go_astore_4 iT_lot_5 rfl (by simp [Value.category, am_U]) ?_
        refine go_aloadn_0 iT_lot_7 rfl ?_
        refine go_iloadn_2 iT_lot_8 ?_
        refine gc_V1 iT_lot_9 rfl (by decide) (sk_0 _) rfl (Nat.le_of_ble_eq_true rfl) (Nat.le_of_ble_eq_true rfl) (by decide) (sp_T_playAt_t h8 hcT hq) ?_
        refine go_astore_5 iT_lot_12 rfl (by simp [Value.category, am_U]) ?_
        refine go_aload_4 iT_lot_14 rfl ?_
        refine go_nulN iT_lot_16 ?_
        refine go_iconst (v := (-1)) iT_lot_31 rfl ?_
        refine go_iret iT_lot_32 rfl ?_
        rfl
      · show Go _ _ tT_lot (_, 0, [.ref 0, .int x, .int y, .int z, am_U, am_U], []) _
        refine go_aloadn_0 iT_lot_0 rfl ?_
        refine go_iloadn_1 iT_lot_1 ?_
        refine gc_V1 iT_lot_2 rfl (by decide) (sk_0 _) rfl (Nat.le_of_ble_eq_true rfl) (Nat.le_of_ble_eq_true rfl) (by decide) (sp_T_playAt_f h8 hcT hx) ?_
        refine go_astore_4 iT_lot_5 rfl (by simp [Value.category, am_U]) ?_
        refine go_aloadn_0 iT_lot_7 rfl ?_
        refine go_iloadn_2 iT_lot_8 ?_
        refine gc_V1 iT_lot_9 rfl (by decide) (sk_0 _) rfl (Nat.le_of_ble_eq_true rfl) (Nat.le_of_ble_eq_true rfl) (by decide) (sp_T_playAt_f h8 hcT hy) ?_
        refine go_astore_5 iT_lot_12 rfl (by simp [Value.category, am_U]) ?_
        refine go_aload_4 iT_lot_14 rfl ?_
        refine go_nulN iT_lot_16 ?_
        refine go_iconst (v := (-1)) iT_lot_31 rfl ?_
        refine go_iret iT_lot_32 rfl ?_
        rfl
    · rcases int_cases z 12 (by decide) with ⟨u, huu, rfl⟩ | hz
      · show Go _ _ tM_lot (_, 0, [.ref 43, .int x, .int y, .int (nI u), am_U], []) _
        refine go_iloadn_3 iM_lot_0 ?_
        refine go_iconst (v := nI 0) iM_lot_1 rfl ?_
        refine go_bipush (v := nI 12) iM_lot_2 (by decide) ?_
        refine gc_S1 iM_lot_4 (by decide) rfl rfl (Nat.le_of_ble_eq_true rfl) (Nat.le_of_ble_eq_true rfl) (by decide) (sp_M_in_t (by simp (disch := omega) only [nI_toInt]; omega) (by simp (disch := omega) only [nI_toInt]; omega)) ?_
        refine go_if_ne iM_lot_7 (fun c_7 => ?_) (fun c_7 => ?_)
        rotate_left
        · (first | omega | exact absurd c_7 (by decide) | (exfalso; simp (disch := omega) only [Int32.lt_iff_toInt_lt, Int32.le_iff_toInt_le, ← Int32.toInt_inj, nI_toInt, i32_m1, i32_0, i32_m20, i32_m40, i32_m30, i32_m9] at *; omega))
        refine go_aloadn_0 iM_lot_12 rfl ?_
        refine go_iloadn_1 iM_lot_13 ?_
        refine go_iloadn_2 iM_lot_14 ?_
        refine gc_V1 iM_lot_15 rfl (by decide) (sk_43 _) rfl (Nat.le_of_ble_eq_true rfl) (Nat.le_of_ble_eq_true rfl) (by decide) (sp_M_two_b1 h8 hcM hx) ?_
        refine go_istore_4 iM_lot_18 (by simp [Value.category, am_U]) ?_
        refine go_iload_4 iM_lot_20 ?_
        refine go_if_ge iM_lot_22 (fun c_22 => ?_) (fun c_22 => ?_)
        · (first | omega | exact absurd c_22 (by decide) | (exfalso; simp (disch := omega) only [Int32.lt_iff_toInt_lt, Int32.le_iff_toInt_le, ← Int32.toInt_inj, nI_toInt, i32_m1, i32_0, i32_m20, i32_m40, i32_m30, i32_m9] at *; omega))
        refine go_iload_4 iM_lot_25 ?_
        refine go_iret iM_lot_27 rfl ?_
        rfl
      · show Go _ _ tM_lot (_, 0, [.ref 43, .int x, .int y, .int z, am_U], []) _
        refine go_iloadn_3 iM_lot_0 ?_
        refine go_iconst (v := nI 0) iM_lot_1 rfl ?_
        refine go_bipush (v := nI 12) iM_lot_2 (by decide) ?_
        refine gc_S1 iM_lot_4 (by decide) rfl rfl (Nat.le_of_ble_eq_true rfl) (Nat.le_of_ble_eq_true rfl) (by decide) (sp_M_in_f (by simp (disch := omega) only [nI_toInt]; omega)) ?_
        refine go_if_ne iM_lot_7 (fun c_7 => ?_) (fun c_7 => ?_)
        · (first | omega | exact absurd c_7 (by decide) | (exfalso; simp (disch := omega) only [Int32.lt_iff_toInt_lt, Int32.le_iff_toInt_le, ← Int32.toInt_inj, nI_toInt, i32_m1, i32_0, i32_m20, i32_m40, i32_m30, i32_m9] at *; omega))
        refine go_iconst (v := (-1)) iM_lot_10 rfl ?_
        refine go_iret iM_lot_11 rfl ?_
        rfl
end LOT
