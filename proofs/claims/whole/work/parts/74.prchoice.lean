/-! ===== bestChoice ===== -/
def ChP (m : Nat) (f : Nat → Nat) (mI mI1 : Nat → Nat → Int32) (mL mL1 : Nat → Nat → Int64) : Prop := (∀ a, (a < 7 ∨ (14 < a ∧ a < 23) ∨ 42 < a) → a ≠ 5 → mI1 a = mI a) ∧ (∀ a, (a < 7 ∨ (14 < a ∧ a < 23) ∨ 42 < a) → a ≠ 4 → mL1 a = mL a) ∧ ∀ j, j < 3 → mI1 5 j = if j < m then nI (f j) else (-9)
theorem Rel.cho {n m0 : Nat} {f : Nat → Nat} {mI mI1 mI2 : Nat → Nat → Int32} {mL mL1 mL2 : Nat → Nat → Int64} (h : Rel n mI mL) (k1 : ChP m0 f mI mI1 mL mL1) (d1 : ∀ a, a ≠ 43 → a ≠ 49 → a ≠ 56 → a ≠ 57 → mI2 a = mI1 a) (d2 : ∀ y, y ≠ 11 → mI2 43 y = mI1 43 y) (d3 : ∀ j, j < 3 → mI2 57 j = if j < m0 then nI (f j) else (-9)) (e1 : ∀ a, a < 43 → mL2 a = mL1 a) (k5 : mL1 4 0 = mL2 43 2) (k6 : mL1 4 1 = mL2 43 3) : Rel n mI2 mL2 := by
  obtain ⟨h8, ⟨m, hm1, hm3, hmT, hmM⟩, hcT, hcM, hpl, hro, hfi, hfs, hu, hl, hch⟩ := h
  obtain ⟨j1, j2, j3⟩ := k1
  have c1 : ∀ a, (a < 7 ∨ (14 < a ∧ a < 23) ∨ 42 < a) → a ≠ 5 → a ≠ 43 → a ≠ 49 → a ≠ 56 → a ≠ 57 → mI2 a = mI a := fun a b1 b2 b4 b5 b6 b7 => (d1 a b4 b5 b6 b7).trans (j1 a b1 b2)
  have c2 : ∀ y, y ≠ 11 → mI2 43 y = mI 43 y := fun y hy => by rw [d2 y hy, j1 43 (by omega) (by omega)]
  refine ⟨h8, ⟨m, hm1, hm3, ?_, ?_⟩, ?_, ?_, fun p hp => (hpl p hp).of ?_ ?_ ?_ (fun j hj => ?_), fun q hq => (hro q hq).of ?_ ?_ ?_ (fun j hj => ?_), ?_, fun g hg => ?_, ?_, ?_, fun j hj => ?_⟩
  · rw [c1 0 (by omega) (by omega) (by omega) (by omega) (by omega) (by omega)]; exact hmT
  · rw [c2 4 (by omega)]; exact hmM
  · rw [c1 0 (by omega) (by omega) (by omega) (by omega) (by omega) (by omega)]; exact hcT
  · rw [c2 5 (by omega)]; exact hcM
  · exact c1 _ (by omega) (by omega) (by omega) (by omega) (by omega) (by omega)
  · exact c1 _ (by omega) (by omega) (by omega) (by omega) (by omega) (by omega)
  · rw [c1 45 (by omega) (by omega) (by omega) (by omega) (by omega) (by omega)]
  · rw [c1 46 (by omega) (by omega) (by omega) (by omega) (by omega) (by omega)]
  · exact c1 _ (by omega) (by omega) (by omega) (by omega) (by omega) (by omega)
  · exact c1 _ (by omega) (by omega) (by omega) (by omega) (by omega) (by omega)
  · rw [c1 47 (by omega) (by omega) (by omega) (by omega) (by omega) (by omega)]
  · rw [c1 48 (by omega) (by omega) (by omega) (by omega) (by omega) (by omega)]
  · rw [c1 0 (by omega) (by omega) (by omega) (by omega) (by omega) (by omega), c2 0 (by omega)]; exact hfi
  · rw [c1 3 (by omega) (by omega) (by omega) (by omega) (by omega) (by omega), c1 44 (by omega) (by omega) (by omega) (by omega) (by omega) (by omega)]; exact hfs g hg
  · rw [e1 4 (by omega)]; exact k5
  · rw [e1 4 (by omega)]; exact k6
  · rw [d1 5 (by omega) (by omega) (by omega) (by omega), j3 j hj, d3 j hj]
section PCH
variable {S : am_S} {mI mI1 : Nat → Nat → Int32} {mL mL1 : Nat → Nat → Int64} {n m : Nat} {o : Nat → Nat → Nat} {kd : Nat → Nat}
theorem go_T_bcho (h8 : n ≤ 8) (hm1 : 1 ≤ m) (hm3 : m ≤ 3) (hmT : mI 0 0 = nI m) (hcT : mI 0 1 = nI n) (hpl : ∀ p, p < n → PlR mI p) (hod : odN mI = o) (hkd : kdN mI = kd) {Q : Option Value × am_M → Prop} (kq : ∀ mI' mL', FrD mI mI' mL mL' → ChT o m n mI' mL' (choF kd o m n (n ^ m)) → Go S 14 tT_bestChoice ((am_sh n, mI', mL', am_mR n), 26, [.ref 0, am_U], []) Q) : Go S 14 tT_bestChoice ((am_sh n, mI, mL, am_mR n), 0, [.ref 0, am_U], []) Q := by
  have ho12 : ∀ p i, p < n → i < 3 → o p i ≤ 12 := fun p i hp hi => by rw [← hod]; exact ((odN_ok (hpl p hp)).1 i (by omega)).2
  have hR0 := sk_rnd n (show 0 < 5 by omega)
  refine go_aloadn_0 iT_bestChoice_0 rfl ?_
  refine go_getR iT_bestChoice_1 rfl (sk_0 _) (mR_0_12 _) ?_
  refine go_iconst (v := nI 0) iT_bestChoice_4 rfl ?_
  refine go_putZ iT_bestChoice_5 rfl (sk_11 _) (by first | exact Or.inl rfl | exact Or.inr rfl) ?_
  refine go_aloadn_0 iT_bestChoice_8 rfl ?_
  refine go_getR iT_bestChoice_9 rfl (sk_0 _) (mR_0_8 _) ?_
  refine go_iconst (v := nI 0) iT_bestChoice_12 rfl ?_
  refine go_aald iT_bestChoice_13 (sh_6 _) (by decide) (by decide) rfl (by omega) (by omega) (sh_rnd n (show 0 < 5 by omega)).2.1 ?_
  refine go_aloadn_0 iT_bestChoice_14 rfl ?_
  refine go_getI iT_bestChoice_15 (Or.inl rfl) (sk_0 _) ?_
  try simp (disch := omega) only [am_u_n, am_u_s, am_u_k, hmT]
  refine gx_V0 iT_bestChoice_18 rfl (by decide) hR0 rfl (Nat.le_of_ble_eq_true rfl) (Nat.le_of_ble_eq_true rfl) (by omega) (ex_R_begin (k := 0) (by omega) hm3) (fun mI18_ mL18_ h18_ => ?_)
  obtain ⟨e1, e2⟩ := h18_
  have fr1 : ∀ a, a ≠ 11 → (a < 23 ∨ 42 < a) → mI18_ a = mI a := fun a h1 h2 => by rw [e2.1 a (by omega), am_u_r h1]
  have hT : ChH n m o kd 0 0 mI18_ mL18_ := ⟨⟨by rw [fr1 0 (by omega) (by omega)]; exact hmT, by rw [fr1 0 (by omega) (by omega)]; exact hcT⟩, fun p hp => (hpl p hp).c (fun a ha _ _ _ => fr1 a (by omega) (by omega)), ⟨by rw [od_fr (fun a ha => fr1 a (by omega) (by omega))]; exact hod, by rw [← hkd]; funext p; unfold kdN; rw [fr1 45 (by omega) (by omega)]⟩, e1, fun t ht => by omega, fun t ht => by omega⟩
  have htr := cho_all (S := S) (n := n) (m := m) (o := o) (kd := kd) hm1 hm3 h8 (fun _ => ho12) m 0 (by omega) (Or.inl (by omega)) 0 mI18_ mL18_ hT (by rw [Nat.zero_mul]; show mI18_ 11 0 = nI 0; rw [e2.1 11 (by omega), am_u_s])
  rw [Nat.zero_add, Nat.one_mul] at htr
  refine go_aloadn_0 iT_bestChoice_21 rfl ?_
  refine go_iconst (v := nI 0) iT_bestChoice_22 rfl ?_
  refine gx_V0 iT_bestChoice_23 rfl (by decide) (sk_0 _) rfl (Nat.le_of_ble_eq_true rfl) (Nat.le_of_ble_eq_true rfl) (by omega) htr (fun mI23_ mL23_ h23_ => ?_)
  obtain ⟨s1, s2, s3, s4⟩ := h23_
  exact kq _ _ ⟨⟨fun a ha => (s2 a (by omega) (by omega) (by omega) (by omega) (by omega)).trans (fr1 a (by omega) (by omega)), fun a ha _ => (s4 a (by omega) (by omega)).trans (e2.2 a (by omega) (by omega) (by omega) (by omega))⟩, (s4 4 (by omega) (by omega)).trans (e2.2 4 (by omega) (by omega) (by omega) (by omega))⟩ s1
theorem lo_T_bcE {f : Nat → Nat} (hm3 : m ≤ 3) (hmT : mI1 0 0 = nI m) (hf : ∀ s, s < m → mI1 12 s = nI (f s)) {Q : Option Value × am_M → Prop} (kq : ∀ mI', ((∀ a, a ≠ 5 → mI' a = mI1 a) ∧ ∀ j, j < 3 → mI' 5 j = if j < m then nI (f j) else (-9)) → Go S 14 tT_bestChoice ((am_sh n, mI', mL, am_mR n), 80, [.ref 0, .int (nI 3)], []) Q) : ∀ l i (mI' : Nat → Nat → Int32), i + l = 3 → ((∀ a, a ≠ 5 → mI' a = mI1 a) ∧ ∀ j, j < i → mI' 5 j = if j < m then nI (f j) else (-9)) → Go S 14 tT_bestChoice ((am_sh n, mI', mL, am_mR n), 41, [.ref 0, .int (nI i)], []) Q
  | 0, i, mI', hi, hF => by
    obtain rfl : i = 3 := by omega
    refine go_iloadn_1 iT_bestChoice_41 ?_
    refine go_iconst (v := nI 3) iT_bestChoice_42 rfl ?_
    first | refine gn_ic_ge iT_bestChoice_43 (by omega) (by omega) (fun c_43 => ?_) (fun c_43 => ?_) | refine go_ic_ge iT_bestChoice_43 (fun c_43 => ?_) (fun c_43 => ?_)
    rotate_left
    · (first | omega | exact absurd c_43 (by decide) | (exfalso; simp (disch := omega) only [Int32.lt_iff_toInt_lt, Int32.le_iff_toInt_le, ← Int32.toInt_inj, nI_toInt, i32_m1, i32_0, i32_m20, i32_m40, i32_m30, i32_m9] at *; omega))
    exact kq _ hF
  | l + 1, i, mI', hi, hF => by
    obtain ⟨f1, f3⟩ := hF
    have hA := sh_5 n
    have q0 := hmT
    rw [← f1 0 (by decide)] at q0
    have nx : ∀ v : Int32, v = (if i < m then nI (f i) else (-9)) → Go S 14 tT_bestChoice ((am_sh n, am_u mI' 5 i v, mL, am_mR n), 41, [.ref 0, .int (nI (i + 1))], []) Q := by
      intro v hv
      refine lo_T_bcE hm3 hmT hf kq l (i + 1) _ (by omega) ⟨fun a ha => by rw [am_u_r ha]; exact f1 a ha, fun j hj => ?_⟩
      by_cases q : j = i
      · rw [q, am_u_s, hv]
      · rw [am_u_k (by omega)]; exact f3 j (by omega)
    by_cases c : i < m
    · have r1 := hf i c
      rw [← f1 12 (by decide)] at r1
      refine go_iloadn_1 iT_bestChoice_41 ?_
      refine go_iconst (v := nI 3) iT_bestChoice_42 rfl ?_
      first | refine gn_ic_ge iT_bestChoice_43 (by omega) (by omega) (fun c_43 => ?_) (fun c_43 => ?_) | refine go_ic_ge iT_bestChoice_43 (fun c_43 => ?_) (fun c_43 => ?_)
      · (first | omega | exact absurd c_43 (by decide) | (exfalso; simp (disch := omega) only [Int32.lt_iff_toInt_lt, Int32.le_iff_toInt_le, ← Int32.toInt_inj, nI_toInt, i32_m1, i32_0, i32_m20, i32_m40, i32_m30, i32_m9] at *; omega))
      refine go_aloadn_0 iT_bestChoice_46 rfl ?_
      refine go_getR iT_bestChoice_47 rfl (sk_0 _) (mR_0_7 _) ?_
      refine go_iloadn_1 iT_bestChoice_50 ?_
      refine go_iloadn_1 iT_bestChoice_51 ?_
      refine go_aloadn_0 iT_bestChoice_52 rfl ?_
      refine go_getI iT_bestChoice_53 (Or.inl rfl) (sk_0 _) ?_
      try simp (disch := omega) only [am_u_n, am_u_s, am_u_k, q0, r1]
      first | refine gn_ic_ge iT_bestChoice_56 (by omega) (by omega) (fun c_56 => ?_) (fun c_56 => ?_) | refine go_ic_ge iT_bestChoice_56 (fun c_56 => ?_) (fun c_56 => ?_)
      · (first | omega | exact absurd c_56 (by decide) | (exfalso; simp (disch := omega) only [Int32.lt_iff_toInt_lt, Int32.le_iff_toInt_le, ← Int32.toInt_inj, nI_toInt, i32_m1, i32_0, i32_m20, i32_m40, i32_m30, i32_m9] at *; omega))
      refine go_aloadn_0 iT_bestChoice_59 rfl ?_
      refine go_getR iT_bestChoice_60 rfl (sk_0 _) (mR_0_12 _) ?_
      refine go_getR iT_bestChoice_63 rfl (sk_11 _) (mR_11_4 _) ?_
      refine go_iloadn_1 iT_bestChoice_66 ?_
      refine go_iald iT_bestChoice_67 (sh_12 _) rfl (by omega) (by omega) ?_
      try simp (disch := omega) only [am_u_n, am_u_s, am_u_k, q0, r1]
      refine go_goto iT_bestChoice_68 ?_
      refine go_iast iT_bestChoice_73 (by assumption) rfl (by omega) (by omega) ?_
      first | refine go_iinc_1 iT_bestChoice_74 (ni_inc _ 1) (by simp [Value.category, am_U]) ?_ | refine go_iinc_1 iT_bestChoice_74 rfl (by simp [Value.category, am_U]) ?_
      refine go_goto iT_bestChoice_77 ?_
      exact nx _ (by rw [if_pos c])
    · refine go_iloadn_1 iT_bestChoice_41 ?_
      refine go_iconst (v := nI 3) iT_bestChoice_42 rfl ?_
      first | refine gn_ic_ge iT_bestChoice_43 (by omega) (by omega) (fun c_43 => ?_) (fun c_43 => ?_) | refine go_ic_ge iT_bestChoice_43 (fun c_43 => ?_) (fun c_43 => ?_)
      · (first | omega | exact absurd c_43 (by decide) | (exfalso; simp (disch := omega) only [Int32.lt_iff_toInt_lt, Int32.le_iff_toInt_le, ← Int32.toInt_inj, nI_toInt, i32_m1, i32_0, i32_m20, i32_m40, i32_m30, i32_m9] at *; omega))
      refine go_aloadn_0 iT_bestChoice_46 rfl ?_
      refine go_getR iT_bestChoice_47 rfl (sk_0 _) (mR_0_7 _) ?_
      refine go_iloadn_1 iT_bestChoice_50 ?_
      refine go_iloadn_1 iT_bestChoice_51 ?_
      refine go_aloadn_0 iT_bestChoice_52 rfl ?_
      refine go_getI iT_bestChoice_53 (Or.inl rfl) (sk_0 _) ?_
      try simp (disch := omega) only [am_u_n, am_u_s, am_u_k, q0]
      first | refine gn_ic_ge iT_bestChoice_56 (by omega) (by omega) (fun c_56 => ?_) (fun c_56 => ?_) | refine go_ic_ge iT_bestChoice_56 (fun c_56 => ?_) (fun c_56 => ?_)
      rotate_left
      · (first | omega | exact absurd c_56 (by decide) | (exfalso; simp (disch := omega) only [Int32.lt_iff_toInt_lt, Int32.le_iff_toInt_le, ← Int32.toInt_inj, nI_toInt, i32_m1, i32_0, i32_m20, i32_m40, i32_m30, i32_m9] at *; omega))
      refine go_bipush (v := (-9)) iT_bestChoice_71 (by decide) ?_
      refine go_iast iT_bestChoice_73 (by assumption) rfl (by omega) (by omega) ?_
      first | refine go_iinc_1 iT_bestChoice_74 (ni_inc _ 1) (by simp [Value.category, am_U]) ?_ | refine go_iinc_1 iT_bestChoice_74 rfl (by simp [Value.category, am_U]) ?_
      refine go_goto iT_bestChoice_77 ?_
      exact nx _ (by rw [if_neg c])
theorem lo_M_bcE {f : Nat → Nat} {x1 x2 : Int32} {y4 y5 y6 y7 y8 : Value} (hm3 : m ≤ 3) (hmM : mI1 43 4 = nI m) (hf : ∀ s, s < m → mI1 56 s = nI (f s)) {Q : Option Value × am_M → Prop} (kq : ∀ mI', ((∀ a, a ≠ 57 → mI' a = mI1 a) ∧ ∀ j, j < 3 → mI' 57 j = if j < m then nI (f j) else (-9)) → Go S 4 tM_bestChoice ((am_sh n, mI', mL, am_mR n), 272, [.ref 43, .int x1, .int x2, .int (nI 3), y4, y5, y6, y7, y8], []) Q) : ∀ l i (mI' : Nat → Nat → Int32), i + l = 3 → ((∀ a, a ≠ 57 → mI' a = mI1 a) ∧ ∀ j, j < i → mI' 57 j = if j < m then nI (f j) else (-9)) → Go S 4 tM_bestChoice ((am_sh n, mI', mL, am_mR n), 236, [.ref 43, .int x1, .int x2, .int (nI i), y4, y5, y6, y7, y8], []) Q
  | 0, i, mI', hi, hF => by
    obtain rfl : i = 3 := by omega
    refine go_iloadn_3 iM_bestChoice_236 ?_
    refine go_iconst (v := nI 3) iM_bestChoice_237 rfl ?_
    first | refine gn_ic_ge iM_bestChoice_238 (by omega) (by omega) (fun c_238 => ?_) (fun c_238 => ?_) | refine go_ic_ge iM_bestChoice_238 (fun c_238 => ?_) (fun c_238 => ?_)
    rotate_left
    · (first | omega | exact absurd c_238 (by decide) | (exfalso; simp (disch := omega) only [Int32.lt_iff_toInt_lt, Int32.le_iff_toInt_le, ← Int32.toInt_inj, nI_toInt, i32_m1, i32_0, i32_m20, i32_m40, i32_m30, i32_m9] at *; omega))
    exact kq _ hF
  | l + 1, i, mI', hi, hF => by
    obtain ⟨f1, f3⟩ := hF
    have hA := sh_57 n
    have q0 := hmM
    rw [← f1 43 (by decide)] at q0
    have nx : ∀ v : Int32, v = (if i < m then nI (f i) else (-9)) → Go S 4 tM_bestChoice ((am_sh n, am_u mI' 57 i v, mL, am_mR n), 236, [.ref 43, .int x1, .int x2, .int (nI (i + 1)), y4, y5, y6, y7, y8], []) Q := by
      intro v hv
      refine lo_M_bcE hm3 hmM hf kq l (i + 1) _ (by omega) ⟨fun a ha => by rw [am_u_r ha]; exact f1 a ha, fun j hj => ?_⟩
      by_cases q : j = i
      · rw [q, am_u_s, hv]
      · rw [am_u_k (by omega)]; exact f3 j (by omega)
    by_cases c : i < m
    · have r1 := hf i c
      rw [← f1 56 (by decide)] at r1
      refine go_iloadn_3 iM_bestChoice_236 ?_
      refine go_iconst (v := nI 3) iM_bestChoice_237 rfl ?_
      first | refine gn_ic_ge iM_bestChoice_238 (by omega) (by omega) (fun c_238 => ?_) (fun c_238 => ?_) | refine go_ic_ge iM_bestChoice_238 (fun c_238 => ?_) (fun c_238 => ?_)
      · (first | omega | exact absurd c_238 (by decide) | (exfalso; simp (disch := omega) only [Int32.lt_iff_toInt_lt, Int32.le_iff_toInt_le, ← Int32.toInt_inj, nI_toInt, i32_m1, i32_0, i32_m20, i32_m40, i32_m30, i32_m9] at *; omega))
      refine go_aloadn_0 iM_bestChoice_241 rfl ?_
      refine go_getR iM_bestChoice_242 rfl (sk_43 _) (mR_43_26 _) ?_
      refine go_iloadn_3 iM_bestChoice_245 ?_
      refine go_iloadn_3 iM_bestChoice_246 ?_
      refine go_aloadn_0 iM_bestChoice_247 rfl ?_
      refine go_getI iM_bestChoice_248 (Or.inl rfl) (sk_43 _) ?_
      try simp (disch := omega) only [am_u_n, am_u_s, am_u_k, q0, r1]
      first | refine gn_ic_ge iM_bestChoice_251 (by omega) (by omega) (fun c_251 => ?_) (fun c_251 => ?_) | refine go_ic_ge iM_bestChoice_251 (fun c_251 => ?_) (fun c_251 => ?_)
      · (first | omega | exact absurd c_251 (by decide) | (exfalso; simp (disch := omega) only [Int32.lt_iff_toInt_lt, Int32.le_iff_toInt_le, ← Int32.toInt_inj, nI_toInt, i32_m1, i32_0, i32_m20, i32_m40, i32_m30, i32_m9] at *; omega))
      refine go_aloadn_0 iM_bestChoice_254 rfl ?_
      refine go_getR iM_bestChoice_255 rfl (sk_43 _) (mR_43_25 _) ?_
      refine go_iloadn_3 iM_bestChoice_258 ?_
      refine go_iald iM_bestChoice_259 (sh_56 _) rfl (by omega) (by omega) ?_
      try simp (disch := omega) only [am_u_n, am_u_s, am_u_k, q0, r1]
      refine go_goto iM_bestChoice_260 ?_
      refine go_iast iM_bestChoice_265 (by assumption) rfl (by omega) (by omega) ?_
      first | refine go_iinc_3 iM_bestChoice_266 (ni_inc _ 1) (by simp [Value.category, am_U]) ?_ | refine go_iinc_3 iM_bestChoice_266 rfl (by simp [Value.category, am_U]) ?_
      refine go_goto iM_bestChoice_269 ?_
      exact nx _ (by rw [if_pos c])
    · refine go_iloadn_3 iM_bestChoice_236 ?_
      refine go_iconst (v := nI 3) iM_bestChoice_237 rfl ?_
      first | refine gn_ic_ge iM_bestChoice_238 (by omega) (by omega) (fun c_238 => ?_) (fun c_238 => ?_) | refine go_ic_ge iM_bestChoice_238 (fun c_238 => ?_) (fun c_238 => ?_)
      · (first | omega | exact absurd c_238 (by decide) | (exfalso; simp (disch := omega) only [Int32.lt_iff_toInt_lt, Int32.le_iff_toInt_le, ← Int32.toInt_inj, nI_toInt, i32_m1, i32_0, i32_m20, i32_m40, i32_m30, i32_m9] at *; omega))
      refine go_aloadn_0 iM_bestChoice_241 rfl ?_
      refine go_getR iM_bestChoice_242 rfl (sk_43 _) (mR_43_26 _) ?_
      refine go_iloadn_3 iM_bestChoice_245 ?_
      refine go_iloadn_3 iM_bestChoice_246 ?_
      refine go_aloadn_0 iM_bestChoice_247 rfl ?_
      refine go_getI iM_bestChoice_248 (Or.inl rfl) (sk_43 _) ?_
      try simp (disch := omega) only [am_u_n, am_u_s, am_u_k, q0]
      first | refine gn_ic_ge iM_bestChoice_251 (by omega) (by omega) (fun c_251 => ?_) (fun c_251 => ?_) | refine go_ic_ge iM_bestChoice_251 (fun c_251 => ?_) (fun c_251 => ?_)
      rotate_left
      · (first | omega | exact absurd c_251 (by decide) | (exfalso; simp (disch := omega) only [Int32.lt_iff_toInt_lt, Int32.le_iff_toInt_le, ← Int32.toInt_inj, nI_toInt, i32_m1, i32_0, i32_m20, i32_m40, i32_m30, i32_m9] at *; omega))
      refine go_bipush (v := (-9)) iM_bestChoice_263 (by decide) ?_
      refine go_iast iM_bestChoice_265 (by assumption) rfl (by omega) (by omega) ?_
      first | refine go_iinc_3 iM_bestChoice_266 (ni_inc _ 1) (by simp [Value.category, am_U]) ?_ | refine go_iinc_3 iM_bestChoice_266 rfl (by simp [Value.category, am_U]) ?_
      refine go_goto iM_bestChoice_269 ?_
      exact nx _ (by rw [if_neg c])
theorem go_M_bcho (h8 : n ≤ 8) (hm1 : 1 ≤ m) (hm3 : m ≤ 3) (hmM : mI 43 4 = nI m) (hcM : mI 43 5 = nI n) (hpl : ∀ p, p < n → PlR mI p) (hod : odN mI = o) (hkd : kdN mI = kd) {Q : Option Value × am_M → Prop} (kq : ∀ mI' mL' z3 z4 z5 z6 z7 z8, FrN mI mI' mL mL' → ChM o m n mI' mL' (choF kd o m n (n ^ m)) → Go S 4 tM_bestChoice ((am_sh n, mI', mL', am_mR n), 227, [.ref 43, .int (nI (n ^ m)), .int (nI (anyN (choF kd o m n (n ^ m)))), z3, z4, z5, z6, z7, z8], []) Q) : Go S 4 tM_bestChoice ((am_sh n, mI, mL, am_mR n), 0, [.ref 43, am_U, am_U, am_U, am_U, am_U, am_U, am_U, am_U], []) Q := by
  have hbd := pow_bd h8 (show m ≤ 4 by omega)
  refine go_iconst (v := nI 1) iM_bestChoice_0 rfl ?_
  refine go_istoren_1 iM_bestChoice_1 (by simp [Value.category, am_U]) ?_
  refine go_iconst (v := nI 0) iM_bestChoice_2 rfl ?_
  refine go_istoren_2 iM_bestChoice_3 (by simp [Value.category, am_U]) ?_
  refine lo_M_bcA h8 hm3 hmM hcM ?_ m 0 (by omega)
  by_cases h0 : n = 0
  · have e0 : n ^ m = 0 := by rw [h0]; exact Nat.zero_pow (by omega)
    have kq2 := kq mI mL (.int (nI 0)) am_U am_U am_U am_U am_U FrN.rfl' (by rw [e0]; exact trivial)
    rw [e0] at kq2 ⊢
    refine go_iconst (v := nI 0) iM_bestChoice_25 rfl ?_
    refine go_istoren_2 iM_bestChoice_26 (by simp [Value.category, am_U]) ?_
    refine go_iconst (v := nI 0) iM_bestChoice_27 rfl ?_
    refine go_istoren_3 iM_bestChoice_28 (by simp [Value.category, am_U]) ?_
    refine go_iloadn_3 iM_bestChoice_29 ?_
    refine go_iloadn_1 iM_bestChoice_30 ?_
    first | refine gn_ic_ge iM_bestChoice_31 (by omega) (by omega) (fun c_31 => ?_) (fun c_31 => ?_) | refine go_ic_ge iM_bestChoice_31 (fun c_31 => ?_) (fun c_31 => ?_)
    rotate_left
    · (first | omega | exact absurd c_31 (by decide) | (exfalso; simp (disch := omega) only [Int32.lt_iff_toInt_lt, Int32.le_iff_toInt_le, ← Int32.toInt_inj, nI_toInt, i32_m1, i32_0, i32_m20, i32_m40, i32_m30, i32_m9] at *; omega))
    exact kq2
  · refine go_iconst (v := nI 0) iM_bestChoice_25 rfl ?_
    refine go_istoren_2 iM_bestChoice_26 (by simp [Value.category, am_U]) ?_
    refine go_iconst (v := nI 0) iM_bestChoice_27 rfl ?_
    refine go_istoren_3 iM_bestChoice_28 (by simp [Value.category, am_U]) ?_
    exact lo_M_bcB (by omega) h8 hm1 hm3 hmM hcM hpl hod hkd kq (n ^ m) 0 _ _ _ _ _ _ _ (by omega) FrN.rfl' trivial
theorem pr_bestChoice (hR : Rel n mI mL) : Pair S tT_bestChoice tM_bestChoice [] n mI mL := by
  have hR0 := hR
  obtain ⟨h8, ⟨m, hm1, hm3, hmT, hmM⟩, hcT, hcM, hpl, hro, hfi, hfs, hu, hl, hch⟩ := hR
  cases hs : choF (kdN mI) (odN mI) m n (n ^ m) with
  | none =>
    refine Pair.ex (h1 := 14) (h2 := 4) (v := .int (-4)) (P := fun mI1 mL1 => FrD mI mI1 mL mL1) ?_ (fun mI1 mL1 hP => ?_)
    · unfold Ex
      show Go _ _ tT_bestChoice (_, 0, [.ref 0, am_U], []) _
      refine go_T_bcho h8 hm1 hm3 hmT hcT hpl rfl rfl (fun mI1 mL1 hF hB => ?_)
      rw [hs] at hB
      have f0 : mI1 11 0 = nI 0 := hB
      refine go_aloadn_0 iT_bestChoice_26 rfl ?_
      refine go_getR iT_bestChoice_27 rfl (sk_0 _) (mR_0_12 _) ?_
      refine go_getI iT_bestChoice_30 (Or.inr rfl) (sk_11 _) ?_
      try simp (disch := omega) only [am_u_n, am_u_s, am_u_k, f0]
      refine go_if_ne iT_bestChoice_33 (fun c_33 => ?_) (fun c_33 => ?_)
      · (first | omega | exact absurd c_33 (by decide) | (exfalso; simp (disch := omega) only [Int32.lt_iff_toInt_lt, Int32.le_iff_toInt_le, ← Int32.toInt_inj, nI_toInt, i32_m1, i32_0, i32_m20, i32_m40, i32_m30, i32_m9] at *; omega))
      refine go_bipush (v := (-4)) iT_bestChoice_36 (by decide) ?_
      refine go_iret iT_bestChoice_38 rfl ?_
      exact ex_i hF
    · have hq : ∀ a, 42 < a → mI1 a = mI a := fun a ha => hP.1.1 a (by omega)
      unfold Ex
      show Go _ _ tM_bestChoice (_, 0, [.ref 43, am_U, am_U, am_U, am_U, am_U, am_U, am_U, am_U], []) _
      refine go_M_bcho (o := odN mI) (kd := kdN mI) h8 hm1 hm3 (by rw [hq 43 (by omega)]; exact hmM) (by rw [hq 43 (by omega)]; exact hcM) (fun p hp => (hpl p hp).c (fun a ha _ _ _ => hq a ha)) (od_fr (fun a ha => hq a (by omega))) (by funext p; unfold kdN; rw [hq 45 (by omega)]) (fun mI2 mL2 z3 z4 z5 z6 z7 z8 hN2 hB => ?_)
      rw [hs, show anyN none = 0 from rfl]
      refine go_iloadn_2 iM_bestChoice_227 ?_
      refine go_if_ne iM_bestChoice_228 (fun c_228 => ?_) (fun c_228 => ?_)
      · (first | omega | exact absurd c_228 (by decide) | (exfalso; simp (disch := omega) only [Int32.lt_iff_toInt_lt, Int32.le_iff_toInt_le, ← Int32.toInt_inj, nI_toInt, i32_m1, i32_0, i32_m20, i32_m40, i32_m30, i32_m9] at *; omega))
      refine go_bipush (v := (-4)) iM_bestChoice_231 (by decide) ?_
      refine go_iret iM_bestChoice_233 rfl ?_
      refine ex_i (hR0.keep hP.1 hN2.1 ?_ ?_)
      · rw [hP.2, hN2.2.1, hP.1.2 43 (by omega) (by decide)]; exact hu
      · rw [hP.2, hN2.2.2, hP.1.2 43 (by omega) (by decide)]; exact hl
  | some b =>
    have hn : 0 < n := by
      rcases Nat.eq_zero_or_pos n with e | e
      · rw [e, Nat.zero_pow (by omega)] at hs
        cases hs
      · exact e
    have ho12 : ∀ p i, p < n → i < 3 → odN mI p i ≤ 12 := fun p i hp hi => ((odN_ok (hpl p hp)).1 i (by omega)).2
    obtain ⟨hGb, hWb⟩ := ch_some hm1 hm3 hn ho12 hs
    obtain ⟨l1, l2, l3⟩ := hGb.l hWb
    have hUb := hGb.b
    obtain ⟨p3, p4⟩ := f_red (u := Uz m 12 1 (wE (odN mI) n m b)) l1
    have p0 := f_le (Uz m 12 1 (wE (odN mI) n m b)) (Lz m 12 1 (wE (odN mI) n m b))
    have g0 : 0 < Nat.gcd (Uz m 12 1 (wE (odN mI) n m b)).natAbs (Lz m 12 1 (wE (odN mI) n m b)) := Nat.gcd_pos_of_pos_right _ l1
    have g1 := Nat.gcd_le_right (Uz m 12 1 (wE (odN mI) n m b)).natAbs l1
    have p5 : 0 < Lz m 12 1 (wE (odN mI) n m b) / Nat.gcd (Uz m 12 1 (wE (odN mI) n m b)).natAbs (Lz m 12 1 (wE (odN mI) n m b)) := Nat.div_pos g1 g0
    have p6 : Lz m 12 1 (wE (odN mI) n m b) / Nat.gcd (Uz m 12 1 (wE (odN mI) n m b)).natAbs (Lz m 12 1 (wE (odN mI) n m b)) ≤ Lz m 12 1 (wE (odN mI) n m b) := Nat.div_le_self _ _
    refine Pair.ex (h1 := 14) (h2 := 4) (v := .int (nI 1)) (P := fun mI1 mL1 => ChP m (dg n m b) mI mI1 mL mL1 ∧ mL1 4 0 = zL (fU (Uz m 12 1 (wE (odN mI) n m b)) (Lz m 12 1 (wE (odN mI) n m b))) ∧ mL1 4 1 = zL (fL (Uz m 12 1 (wE (odN mI) n m b)) (Lz m 12 1 (wE (odN mI) n m b)))) ?_ (fun mI1 mL1 hP => ?_)
    · unfold Ex
      show Go _ _ tT_bestChoice (_, 0, [.ref 0, am_U], []) _
      refine go_T_bcho h8 hm1 hm3 hmT hcT hpl rfl rfl (fun mI1 mL1 hF hB => ?_)
      rw [hs] at hB
      obtain ⟨f0, f1, f2, f3, f4⟩ := hB
      have f1 : mL1 11 1 = zL (Uz m 12 1 (wE (odN mI) n m b)) := f1
      have f3 : mL1 11 3 = zL ((Lz m 12 1 (wE (odN mI) n m b) : Nat) : Int) := by rw [← l3]; exact f3
      refine go_aloadn_0 iT_bestChoice_26 rfl ?_
      refine go_getR iT_bestChoice_27 rfl (sk_0 _) (mR_0_12 _) ?_
      refine go_getI iT_bestChoice_30 (Or.inr rfl) (sk_11 _) ?_
      try simp (disch := omega) only [am_u_n, am_u_s, am_u_k, f0]
      refine go_if_ne iT_bestChoice_33 (fun c_33 => ?_) (fun c_33 => ?_)
      rotate_left
      · (first | omega | exact absurd c_33 (by decide) | (exfalso; simp (disch := omega) only [Int32.lt_iff_toInt_lt, Int32.le_iff_toInt_le, ← Int32.toInt_inj, nI_toInt, i32_m1, i32_0, i32_m20, i32_m40, i32_m30, i32_m9] at *; omega))
      refine go_iconst (v := nI 0) iT_bestChoice_39 rfl ?_
      refine go_istoren_1 iT_bestChoice_40 (by simp [Value.category, am_U]) ?_
      refine lo_T_bcE (mI1 := mI1) (f := dg n m b) hm3 (by rw [hF.1.1 0 (by omega)]; exact hmT) f4 (fun mI4 h4 => ?_) 3 0 _ (by omega) ⟨fun a _ => rfl, fun j hj => by omega⟩
      refine go_aloadn_0 iT_bestChoice_80 rfl ?_
      refine go_getR iT_bestChoice_81 rfl (sk_0 _) (mR_0_6 _) ?_
      refine go_aloadn_0 iT_bestChoice_84 rfl ?_
      refine go_getR iT_bestChoice_85 rfl (sk_0 _) (mR_0_12 _) ?_
      refine go_getL iT_bestChoice_88 rfl (sk_11 _) ?_
      try simp (disch := omega) only [am_u_n, am_u_s, am_u_k, f1, f3]
      refine go_aloadn_0 iT_bestChoice_91 rfl ?_
      refine go_getR iT_bestChoice_92 rfl (sk_0 _) (mR_0_12 _) ?_
      refine go_getL iT_bestChoice_95 rfl (sk_11 _) ?_
      try simp (disch := omega) only [am_u_n, am_u_s, am_u_k, f1, f3]
      refine gc_V0 iT_bestChoice_98 rfl (by decide) (sk_4 _) rfl (Nat.le_of_ble_eq_true rfl) (Nat.le_of_ble_eq_true rfl) (by decide) (sp_F_tell (u := Uz m 12 1 (wE (odN mI) n m b)) (l := Lz m 12 1 (wE (odN mI) n m b)) (by omega) l1 (by omega)) ?_
      refine go_iconst (v := nI 1) iT_bestChoice_101 rfl ?_
      refine go_iret iT_bestChoice_102 rfl ?_
      refine ex_i ⟨⟨fun a a1 a2 => (h4.1 a a2).trans (hF.1.1 a a1), fun a a1 a2 => ?_, h4.2⟩, ?_, ?_⟩
      · rw [am_u_r a2, am_u_r a2]; exact hF.1.2 a a1 a2
      · rw [am_u_k (by decide), am_u_s]
      · rw [am_u_s]
    · obtain ⟨k1, k2, k3⟩ := hP
      have hq : ∀ a, 42 < a → mI1 a = mI a := fun a ha => k1.1 a (by omega) (by omega)
      unfold Ex
      show Go _ _ tM_bestChoice (_, 0, [.ref 43, am_U, am_U, am_U, am_U, am_U, am_U, am_U, am_U], []) _
      refine go_M_bcho (o := odN mI) (kd := kdN mI) h8 hm1 hm3 (by rw [hq 43 (by omega)]; exact hmM) (by rw [hq 43 (by omega)]; exact hcM) (fun p hp => (hpl p hp).c (fun a ha _ _ _ => hq a ha)) (od_fr (fun a ha => hq a (by omega))) (by funext p; unfold kdN; rw [hq 45 (by omega)]) (fun mI2 mL2 z3 z4 z5 z6 z7 z8 hN2 hB => ?_)
      rw [hs] at hB ⊢
      rw [show anyN (some b) = 1 from rfl]
      obtain ⟨j1, j2, j3⟩ := hB
      have j1 : mL2 43 23 = zL (fU (Uz m 12 1 (wE (odN mI) n m b)) (Lz m 12 1 (wE (odN mI) n m b))) := j1
      have j2 : mL2 43 24 = zL ((Lz m 12 1 (wE (odN mI) n m b) / Nat.gcd (Uz m 12 1 (wE (odN mI) n m b)).natAbs (Lz m 12 1 (wE (odN mI) n m b)) : Nat) : Int) := j2
      refine go_iloadn_2 iM_bestChoice_227 ?_
      refine go_if_ne iM_bestChoice_228 (fun c_228 => ?_) (fun c_228 => ?_)
      rotate_left
      · (first | omega | exact absurd c_228 (by decide) | (exfalso; simp (disch := omega) only [Int32.lt_iff_toInt_lt, Int32.le_iff_toInt_le, ← Int32.toInt_inj, nI_toInt, i32_m1, i32_0, i32_m20, i32_m40, i32_m30, i32_m9] at *; omega))
      refine go_iconst (v := nI 0) iM_bestChoice_234 rfl ?_
      refine go_istoren_3 iM_bestChoice_235 (by simp [Value.category, am_U]) ?_
      refine lo_M_bcE (mI1 := mI2) (f := dg n m b) hm3 (by rw [hN2.1.2.1 4 (by decide), hq 43 (by omega)]; exact hmM) j3 (fun mI4 h4 => ?_) 3 0 _ (by omega) ⟨fun a _ => rfl, fun j hj => by omega⟩
      obtain ⟨d1, d3⟩ := h4
      refine go_aloadn_0 iM_bestChoice_272 rfl ?_
      refine go_aloadn_0 iM_bestChoice_273 rfl ?_
      refine go_getL iM_bestChoice_274 rfl (sk_43 _) ?_
      try simp (disch := omega) only [am_u_n, am_u_s, am_u_k, j1, j2]
      refine go_aloadn_0 iM_bestChoice_277 rfl ?_
      refine go_getL iM_bestChoice_278 rfl (sk_43 _) ?_
      try simp (disch := omega) only [am_u_n, am_u_s, am_u_k, j1, j2]
      refine go_iconst (v := nI 1) iM_bestChoice_281 rfl ?_
      refine gc_V1 iM_bestChoice_282 rfl (by decide) (sk_43 _) rfl (Nat.le_of_ble_eq_true rfl) (Nat.le_of_ble_eq_true rfl) (by decide) (sp_M_tell (u := fU (Uz m 12 1 (wE (odN mI) n m b)) (Lz m 12 1 (wE (odN mI) n m b))) (l := Lz m 12 1 (wE (odN mI) n m b) / Nat.gcd (Uz m 12 1 (wE (odN mI) n m b)).natAbs (Lz m 12 1 (wE (odN mI) n m b))) (by omega) p5 (by omega)) ?_
      refine go_iret iM_bestChoice_285 rfl ?_
      refine ex_i (hR0.cho k1 (fun a e1 e2 e3 e4 => ?_) (fun y hy => ?_) d3 (fun a ha => ?_) ?_ ?_)
      · rw [d1 a e4]; exact hN2.1.1 a e1 e2 e3
      · rw [d1 43 (by decide)]; exact hN2.1.2.1 y hy
      · rw [am_u_r (by omega), am_u_r (by omega)]; exact hN2.1.2.2 a ha
      · rw [am_u_k (by decide), am_u_s, p3]; exact k2
      · rw [am_u_s, p4]; exact k3
end PCH
