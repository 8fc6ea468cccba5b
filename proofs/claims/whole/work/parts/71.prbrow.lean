/-! ===== bestRow ===== -/
def BrP (r N : Nat) (f : Nat → Nat) (mI mI1 : Nat → Nat → Int32) (mL mL1 : Nat → Nat → Int64) : Prop := (∀ a, (a < 7 ∨ (14 < a ∧ a < 23) ∨ 42 < a) → a ≠ 15 + 2 * r → a ≠ 16 + 2 * r → mI1 a = mI a) ∧ (∀ a, (a < 7 ∨ (14 < a ∧ a < 23) ∨ 42 < a) → a ≠ 4 → mL1 a = mL a) ∧ mI1 (15 + 2 * r) 0 = nI N ∧ ∀ j, j < 4 → mI1 (16 + 2 * r) j = if j < N then nI (f j) else nI 0
theorem Rel.row {n r N : Nat} {f : Nat → Nat} {mI mI1 mI2 : Nat → Nat → Int32} {mL mL1 mL2 : Nat → Nat → Int64} (h : Rel n mI mL) (hr : r < 4) (hN : N ≤ 4) (k1 : BrP r N f mI mI1 mL mL1) (d1 : ∀ a, a ≠ 43 → a ≠ 47 → a ≠ 48 → a ≠ 49 → a ≠ 56 → mI2 a = mI1 a) (d2 : ∀ y, y ≠ 11 → mI2 43 y = mI1 43 y) (d3 : ∀ q, q ≠ r → mI2 47 q = mI1 47 q) (d4 : mI2 47 r = nI N) (d5 : ∀ y, (y < 4 * r ∨ 4 * r + 4 ≤ y) → mI2 48 y = mI1 48 y) (d6 : ∀ j, j < 4 → mI2 48 (4 * r + j) = if j < N then nI (f j) else nI 0) (e1 : ∀ a, a < 43 → mL2 a = mL1 a) (k5 : mL1 4 0 = mL2 43 2) (k6 : mL1 4 1 = mL2 43 3) : Rel n mI2 mL2 := by
  obtain ⟨h8, ⟨m, hm1, hm3, hmT, hmM⟩, hcT, hcM, hpl, hro, hfi, hfs, hu, hl, hch⟩ := h
  obtain ⟨j1, j2, j3, j4⟩ := k1
  have c1 : ∀ a, (a < 7 ∨ (14 < a ∧ a < 23) ∨ 42 < a) → a ≠ 15 + 2 * r → a ≠ 16 + 2 * r → a ≠ 43 → a ≠ 47 → a ≠ 48 → a ≠ 49 → a ≠ 56 → mI2 a = mI a := fun a b1 b2 b3 b4 b5 b6 b7 b8 => (d1 a b4 b5 b6 b7 b8).trans (j1 a b1 b2 b3)
  have c2 : ∀ y, y ≠ 11 → mI2 43 y = mI 43 y := fun y hy => by rw [d2 y hy, j1 43 (by omega) (by omega) (by omega)]
  refine ⟨h8, ⟨m, hm1, hm3, ?_, ?_⟩, ?_, ?_, fun p hp => (hpl p hp).of ?_ ?_ ?_ (fun j hj => ?_), fun q hq => ?_, ?_, fun g hg => ?_, ?_, ?_, fun j hj => ?_⟩
  · rw [c1 0 (by omega) (by omega) (by omega) (by omega) (by omega) (by omega) (by omega) (by omega)]; exact hmT
  · rw [c2 4 (by omega)]; exact hmM
  · rw [c1 0 (by omega) (by omega) (by omega) (by omega) (by omega) (by omega) (by omega) (by omega)]; exact hcT
  · rw [c2 5 (by omega)]; exact hcM
  · exact c1 _ (by omega) (by omega) (by omega) (by omega) (by omega) (by omega) (by omega) (by omega)
  · exact c1 _ (by omega) (by omega) (by omega) (by omega) (by omega) (by omega) (by omega) (by omega)
  · rw [c1 45 (by omega) (by omega) (by omega) (by omega) (by omega) (by omega) (by omega) (by omega)]
  · rw [c1 46 (by omega) (by omega) (by omega) (by omega) (by omega) (by omega) (by omega) (by omega)]
  · by_cases e : q = r
    · rw [e]
      refine ⟨Or.inr ⟨N, hN, ?_, d4⟩, fun j hj => ?_⟩
      · rw [d1 _ (by omega) (by omega) (by omega) (by omega) (by omega)]; exact j3
      · rw [d1 _ (by omega) (by omega) (by omega) (by omega) (by omega), d6 j hj]; exact j4 j hj
    · refine (hro q hq).of (c1 _ (by omega) (by omega) (by omega) (by omega) (by omega) (by omega) (by omega) (by omega)) (c1 _ (by omega) (by omega) (by omega) (by omega) (by omega) (by omega) (by omega) (by omega)) ?_ (fun j hj => ?_)
      · rw [d3 q e, j1 47 (by omega) (by omega) (by omega)]
      · rw [d5 _ (by omega), j1 48 (by omega) (by omega) (by omega)]
  · rw [c1 0 (by omega) (by omega) (by omega) (by omega) (by omega) (by omega) (by omega) (by omega), c2 0 (by omega)]; exact hfi
  · rw [c1 3 (by omega) (by omega) (by omega) (by omega) (by omega) (by omega) (by omega) (by omega), c1 44 (by omega) (by omega) (by omega) (by omega) (by omega) (by omega) (by omega) (by omega)]; exact hfs g hg
  · rw [e1 4 (by omega)]; exact k5
  · rw [e1 4 (by omega)]; exact k6
  · rw [c1 5 (by omega) (by omega) (by omega) (by omega) (by omega) (by omega) (by omega) (by omega), c1 57 (by omega) (by omega) (by omega) (by omega) (by omega) (by omega) (by omega) (by omega)]; exact hch j hj
section PBR
variable {S : am_S} {mI mI1 : Nat → Nat → Int32} {mL mL1 : Nat → Nat → Int64} {n m N r : Nat} {o : Nat → Nat → Nat} {kd : Nat → Nat}
theorem go_T_brow (h8 : n ≤ 8) (hm1 : 1 ≤ m) (hm3 : m ≤ 3) (hN1 : 1 ≤ N) (hN : N ≤ 4) (hr : r < 4) (hmT : mI 0 0 = nI m) (hcT : mI 0 1 = nI n) (hpl : ∀ p, p < n → PlR mI p) (hod : odN mI = o) (hkd : kdN mI = kd) {Q : Option Value × am_M → Prop} (kq : ∀ mI' mL', FrD mI mI' mL mL' → SrT o m n N mI' mL' (srF kd o m n N (n ^ N)) → Go S 14 tT_bestRow ((am_sh n, mI', mL', am_mR n), 49, [.ref 0, .int (nI N), .int (nI r), .ref (15 + 2 * r)], []) Q) : Go S 14 tT_bestRow ((am_sh n, mI, mL, am_mR n), 0, [.ref 0, .int (nI N), .int (nI r), am_U], []) Q := by
  have ho12 : ∀ p i, p < n → i < 3 → o p i ≤ 12 := fun p i hp hi => by rw [← hod]; exact ((odN_ok (hpl p hp)).1 i (by omega)).2
  have hR0 := sk_rnd n (show 0 < 5 by omega)
  refine go_aloadn_0 iT_bestRow_0 rfl ?_
  refine go_iloadn_2 iT_bestRow_1 ?_
  refine gc_V1 iT_bestRow_2 rfl (by decide) (sk_0 _) rfl (Nat.le_of_ble_eq_true rfl) (Nat.le_of_ble_eq_true rfl) (by omega) (sp_T_rowAt_t hr) ?_
  refine go_astoren_3 iT_bestRow_5 rfl (by simp [Value.category, am_U]) ?_
  refine go_aloadn_3 iT_bestRow_6 rfl ?_
  refine go_nulR iT_bestRow_7 ?_
  refine go_iloadn_1 iT_bestRow_10 ?_
  refine go_iconst (v := nI 1) iT_bestRow_11 rfl ?_
  first | refine gn_ic_lt iT_bestRow_12 (by omega) (by omega) (fun c_12 => ?_) (fun c_12 => ?_) | refine go_ic_lt iT_bestRow_12 (fun c_12 => ?_) (fun c_12 => ?_)
  · (first | omega | exact absurd c_12 (by decide) | (exfalso; simp (disch := omega) only [Int32.lt_iff_toInt_lt, Int32.le_iff_toInt_le, ← Int32.toInt_inj, nI_toInt, i32_m1, i32_0, i32_m20, i32_m40, i32_m30, i32_m9] at *; omega))
  refine go_iloadn_1 iT_bestRow_15 ?_
  refine go_iconst (v := nI 4) iT_bestRow_16 rfl ?_
  first | refine gn_ic_le iT_bestRow_17 (by omega) (by omega) (fun c_17 => ?_) (fun c_17 => ?_) | refine go_ic_le iT_bestRow_17 (fun c_17 => ?_) (fun c_17 => ?_)
  rotate_left
  · (first | omega | exact absurd c_17 (by decide) | (exfalso; simp (disch := omega) only [Int32.lt_iff_toInt_lt, Int32.le_iff_toInt_le, ← Int32.toInt_inj, nI_toInt, i32_m1, i32_0, i32_m20, i32_m40, i32_m30, i32_m9] at *; omega))
  refine go_aloadn_0 iT_bestRow_22 rfl ?_
  refine go_getR iT_bestRow_23 rfl (sk_0 _) (mR_0_12 _) ?_
  refine go_iconst (v := nI 0) iT_bestRow_26 rfl ?_
  refine go_putZ iT_bestRow_27 rfl (sk_11 _) (by first | exact Or.inl rfl | exact Or.inr rfl) ?_
  refine go_aloadn_0 iT_bestRow_30 rfl ?_
  refine go_getR iT_bestRow_31 rfl (sk_0 _) (mR_0_8 _) ?_
  refine go_iconst (v := nI 0) iT_bestRow_34 rfl ?_
  refine go_aald iT_bestRow_35 (sh_6 _) (by decide) (by decide) rfl (by omega) (by omega) (sh_rnd n (show 0 < 5 by omega)).2.1 ?_
  refine go_aloadn_0 iT_bestRow_36 rfl ?_
  refine go_getI iT_bestRow_37 (Or.inl rfl) (sk_0 _) ?_
  try simp (disch := omega) only [am_u_n, am_u_s, am_u_k, hmT]
  refine gx_V0 iT_bestRow_40 rfl (by decide) hR0 rfl (Nat.le_of_ble_eq_true rfl) (Nat.le_of_ble_eq_true rfl) (by omega) (ex_R_begin (k := 0) (by omega) hm3) (fun mI40_ mL40_ h40_ => ?_)
  obtain ⟨e1, e2⟩ := h40_
  have fr1 : ∀ a, a ≠ 11 → (a < 23 ∨ 42 < a) → mI40_ a = mI a := fun a h1 h2 => by rw [e2.1 a (by omega), am_u_r h1]
  have hT : TrH n m o kd 0 0 mI40_ mL40_ := ⟨by rw [fr1 0 (by omega) (by omega)]; exact hcT, fun p hp => (hpl p hp).c (fun a ha _ _ _ => fr1 a (by omega) (by omega)), ⟨by rw [od_fr (fun a ha => fr1 a (by omega) (by omega))]; exact hod, by rw [← hkd]; funext p; unfold kdN; rw [fr1 45 (by omega) (by omega)]⟩, e1, fun t ht => by omega, fun t ht => by omega⟩
  have htr := try_all (S := S) (n := n) (m := m) (N := N) (o := o) (kd := kd) hm1 hm3 hN1 hN h8 (fun _ => ho12) N 0 (by omega) (Or.inl (by omega)) 0 mI40_ mL40_ hT (by rw [Nat.zero_mul]; show mI40_ 11 0 = nI 0; rw [e2.1 11 (by omega), am_u_s])
  rw [Nat.zero_add, Nat.one_mul] at htr
  refine go_aloadn_0 iT_bestRow_43 rfl ?_
  refine go_iconst (v := nI 0) iT_bestRow_44 rfl ?_
  refine go_iloadn_1 iT_bestRow_45 ?_
  refine gx_V0 iT_bestRow_46 rfl (by decide) (sk_0 _) rfl (Nat.le_of_ble_eq_true rfl) (Nat.le_of_ble_eq_true rfl) (by omega) htr (fun mI46_ mL46_ h46_ => ?_)
  obtain ⟨s1, s2, s3, s4⟩ := h46_
  exact kq _ _ ⟨⟨fun a ha => (s2 a (by omega) (by omega) (by omega) (by omega)).trans (fr1 a (by omega) (by omega)), fun a ha _ => (s4 a (by omega) (by omega)).trans (e2.2 a (by omega) (by omega) (by omega) (by omega))⟩, (s4 4 (by omega) (by omega)).trans (e2.2 4 (by omega) (by omega) (by omega) (by omega))⟩ s1
theorem lo_M_brE {f : Nat → Nat} {x3 x4 : Int32} {y6 y7 y8 y9 : Value} (hr : r < 4) (hN : N ≤ 4) (hf : ∀ s, s < N → mI1 56 s = nI (f s)) {Q : Option Value × am_M → Prop} (kq : ∀ mI', ((∀ a, a ≠ 48 → mI' a = mI1 a) ∧ (∀ y, (y < 4 * r ∨ 4 * r + 4 ≤ y) → mI' 48 y = mI1 48 y) ∧ ∀ j, j < 4 → mI' 48 (4 * r + j) = if j < N then nI (f j) else nI 0) → Go S 4 tM_bestRow ((am_sh n, mI', mL, am_mR n), 296, [.ref 43, .int (nI N), .int (nI r), .int x3, .int x4, .int (nI 4), y6, y7, y8, y9], []) Q) : ∀ l i (mI' : Nat → Nat → Int32), i + l = 4 → ((∀ a, a ≠ 48 → mI' a = mI1 a) ∧ (∀ y, (y < 4 * r ∨ 4 * r + 4 ≤ y) → mI' 48 y = mI1 48 y) ∧ ∀ j, j < i → mI' 48 (4 * r + j) = if j < N then nI (f j) else nI 0) → Go S 4 tM_bestRow ((am_sh n, mI', mL, am_mR n), 256, [.ref 43, .int (nI N), .int (nI r), .int x3, .int x4, .int (nI i), y6, y7, y8, y9], []) Q
  | 0, i, mI', hi, hF => by
    obtain rfl : i = 4 := by omega
    refine go_iload_5 iM_bestRow_256 ?_
    refine go_iconst (v := nI 4) iM_bestRow_258 rfl ?_
    first | refine gn_ic_ge iM_bestRow_259 (by omega) (by omega) (fun c_259 => ?_) (fun c_259 => ?_) | refine go_ic_ge iM_bestRow_259 (fun c_259 => ?_) (fun c_259 => ?_)
    rotate_left
    · (first | omega | exact absurd c_259 (by decide) | (exfalso; simp (disch := omega) only [Int32.lt_iff_toInt_lt, Int32.le_iff_toInt_le, ← Int32.toInt_inj, nI_toInt, i32_m1, i32_0, i32_m20, i32_m40, i32_m30, i32_m9] at *; omega))
    exact kq _ hF
  | l + 1, i, mI', hi, hF => by
    obtain ⟨f1, f2, f3⟩ := hF
    have hA := sh_48 n
    have nx : ∀ v : Int32, v = (if i < N then nI (f i) else nI 0) → Go S 4 tM_bestRow ((am_sh n, am_u mI' 48 (4 * r + i) v, mL, am_mR n), 256, [.ref 43, .int (nI N), .int (nI r), .int x3, .int x4, .int (nI (i + 1)), y6, y7, y8, y9], []) Q := by
      intro v hv
      refine lo_M_brE hr hN hf kq l (i + 1) _ (by omega) ⟨fun a ha => by rw [am_u_r ha]; exact f1 a ha, fun y hy => by rw [am_u_k (by omega)]; exact f2 y hy, fun j hj => ?_⟩
      by_cases q : j = i
      · rw [q, am_u_s, hv]
      · rw [am_u_k (by omega)]; exact f3 j (by omega)
    by_cases c : i < N
    · have r1 := hf i c
      rw [← f1 56 (by decide)] at r1
      refine go_iload_5 iM_bestRow_256 ?_
      refine go_iconst (v := nI 4) iM_bestRow_258 rfl ?_
      first | refine gn_ic_ge iM_bestRow_259 (by omega) (by omega) (fun c_259 => ?_) (fun c_259 => ?_) | refine go_ic_ge iM_bestRow_259 (fun c_259 => ?_) (fun c_259 => ?_)
      · (first | omega | exact absurd c_259 (by decide) | (exfalso; simp (disch := omega) only [Int32.lt_iff_toInt_lt, Int32.le_iff_toInt_le, ← Int32.toInt_inj, nI_toInt, i32_m1, i32_0, i32_m20, i32_m40, i32_m30, i32_m9] at *; omega))
      refine go_aloadn_0 iM_bestRow_262 rfl ?_
      refine go_getR iM_bestRow_263 rfl (sk_43 _) (mR_43_9 _) ?_
      refine go_iconst (v := nI 4) iM_bestRow_266 rfl ?_
      refine go_iloadn_2 iM_bestRow_267 ?_
      first | refine gn_imul iM_bestRow_268 ?_ | refine go_imul iM_bestRow_268 ?_
      refine go_iload_5 iM_bestRow_269 ?_
      first | refine gn_iadd iM_bestRow_271 ?_ | refine go_iadd iM_bestRow_271 ?_
      refine go_iload_5 iM_bestRow_272 ?_
      refine go_iloadn_1 iM_bestRow_274 ?_
      first | refine gn_ic_ge iM_bestRow_275 (by omega) (by omega) (fun c_275 => ?_) (fun c_275 => ?_) | refine go_ic_ge iM_bestRow_275 (fun c_275 => ?_) (fun c_275 => ?_)
      · (first | omega | exact absurd c_275 (by decide) | (exfalso; simp (disch := omega) only [Int32.lt_iff_toInt_lt, Int32.le_iff_toInt_le, ← Int32.toInt_inj, nI_toInt, i32_m1, i32_0, i32_m20, i32_m40, i32_m30, i32_m9] at *; omega))
      refine go_aloadn_0 iM_bestRow_278 rfl ?_
      refine go_getR iM_bestRow_279 rfl (sk_43 _) (mR_43_25 _) ?_
      refine go_iload_5 iM_bestRow_282 ?_
      refine go_iald iM_bestRow_284 (sh_56 _) rfl (by omega) (by omega) ?_
      try simp (disch := omega) only [am_u_n, am_u_s, am_u_k, r1]
      refine go_goto iM_bestRow_285 ?_
      refine go_iast iM_bestRow_289 (by assumption) rfl (by omega) (by omega) ?_
      first | refine go_iinc_5 iM_bestRow_290 (ni_inc _ 1) (by simp [Value.category, am_U]) ?_ | refine go_iinc_5 iM_bestRow_290 rfl (by simp [Value.category, am_U]) ?_
      refine go_goto iM_bestRow_293 ?_
      exact nx _ (by rw [if_pos c])
    · refine go_iload_5 iM_bestRow_256 ?_
      refine go_iconst (v := nI 4) iM_bestRow_258 rfl ?_
      first | refine gn_ic_ge iM_bestRow_259 (by omega) (by omega) (fun c_259 => ?_) (fun c_259 => ?_) | refine go_ic_ge iM_bestRow_259 (fun c_259 => ?_) (fun c_259 => ?_)
      · (first | omega | exact absurd c_259 (by decide) | (exfalso; simp (disch := omega) only [Int32.lt_iff_toInt_lt, Int32.le_iff_toInt_le, ← Int32.toInt_inj, nI_toInt, i32_m1, i32_0, i32_m20, i32_m40, i32_m30, i32_m9] at *; omega))
      refine go_aloadn_0 iM_bestRow_262 rfl ?_
      refine go_getR iM_bestRow_263 rfl (sk_43 _) (mR_43_9 _) ?_
      refine go_iconst (v := nI 4) iM_bestRow_266 rfl ?_
      refine go_iloadn_2 iM_bestRow_267 ?_
      first | refine gn_imul iM_bestRow_268 ?_ | refine go_imul iM_bestRow_268 ?_
      refine go_iload_5 iM_bestRow_269 ?_
      first | refine gn_iadd iM_bestRow_271 ?_ | refine go_iadd iM_bestRow_271 ?_
      refine go_iload_5 iM_bestRow_272 ?_
      refine go_iloadn_1 iM_bestRow_274 ?_
      first | refine gn_ic_ge iM_bestRow_275 (by omega) (by omega) (fun c_275 => ?_) (fun c_275 => ?_) | refine go_ic_ge iM_bestRow_275 (fun c_275 => ?_) (fun c_275 => ?_)
      rotate_left
      · (first | omega | exact absurd c_275 (by decide) | (exfalso; simp (disch := omega) only [Int32.lt_iff_toInt_lt, Int32.le_iff_toInt_le, ← Int32.toInt_inj, nI_toInt, i32_m1, i32_0, i32_m20, i32_m40, i32_m30, i32_m9] at *; omega))
      refine go_iconst (v := nI 0) iM_bestRow_288 rfl ?_
      refine go_iast iM_bestRow_289 (by assumption) rfl (by omega) (by omega) ?_
      first | refine go_iinc_5 iM_bestRow_290 (ni_inc _ 1) (by simp [Value.category, am_U]) ?_ | refine go_iinc_5 iM_bestRow_290 rfl (by simp [Value.category, am_U]) ?_
      refine go_goto iM_bestRow_293 ?_
      exact nx _ (by rw [if_neg c])
/-- the reference's search, from the first instruction on -/
theorem go_M_brow (h8 : n ≤ 8) (hm1 : 1 ≤ m) (hm3 : m ≤ 3) (hN1 : 1 ≤ N) (hN : N ≤ 4) (hr : r < 4) (hmM : mI 43 4 = nI m) (hcM : mI 43 5 = nI n) (hpl : ∀ p, p < n → PlR mI p) (hod : odN mI = o) (hkd : kdN mI = kd) {Q : Option Value × am_M → Prop} (kq : ∀ mI' mL' z5 z6 z7 z8 z9, FrN mI mI' mL mL' → SrM o m n N mI' mL' (srF kd o m n N (n ^ N)) → Go S 4 tM_bestRow ((am_sh n, mI', mL', am_mR n), 238, [.ref 43, .int (nI N), .int (nI r), .int (nI (n ^ N)), .int (nI (anyN (srF kd o m n N (n ^ N)))), z5, z6, z7, z8, z9], []) Q) : Go S 4 tM_bestRow ((am_sh n, mI, mL, am_mR n), 0, [.ref 43, .int (nI N), .int (nI r), am_U, am_U, am_U, am_U, am_U, am_U, am_U], []) Q := by
  have hbd := pow_bd h8 hN
  refine go_iloadn_1 iM_bestRow_0 ?_
  refine go_iconst (v := nI 1) iM_bestRow_1 rfl ?_
  refine go_iconst (v := nI 4) iM_bestRow_2 rfl ?_
  refine gc_S1 iM_bestRow_3 (by decide) rfl rfl (Nat.le_of_ble_eq_true rfl) (Nat.le_of_ble_eq_true rfl) (by decide) (sp_M_in_t (by simp (disch := omega) only [nI_toInt]; omega) (by simp (disch := omega) only [nI_toInt]; omega)) ?_
  refine go_if_eq iM_bestRow_6 (fun c_6 => ?_) (fun c_6 => ?_)
  · (first | omega | exact absurd c_6 (by decide) | (exfalso; simp (disch := omega) only [Int32.lt_iff_toInt_lt, Int32.le_iff_toInt_le, ← Int32.toInt_inj, nI_toInt, i32_m1, i32_0, i32_m20, i32_m40, i32_m30, i32_m9] at *; omega))
  refine go_iloadn_2 iM_bestRow_9 ?_
  refine gc_S1 iM_bestRow_10 (by decide) rfl rfl (Nat.le_of_ble_eq_true rfl) (Nat.le_of_ble_eq_true rfl) (by decide) (sp_M_isRow_t hr) ?_
  refine go_if_ne iM_bestRow_13 (fun c_13 => ?_) (fun c_13 => ?_)
  rotate_left
  · (first | omega | exact absurd c_13 (by decide) | (exfalso; simp (disch := omega) only [Int32.lt_iff_toInt_lt, Int32.le_iff_toInt_le, ← Int32.toInt_inj, nI_toInt, i32_m1, i32_0, i32_m20, i32_m40, i32_m30, i32_m9] at *; omega))
  refine go_iconst (v := nI 1) iM_bestRow_18 rfl ?_
  refine go_istoren_3 iM_bestRow_19 (by simp [Value.category, am_U]) ?_
  refine go_iconst (v := nI 0) iM_bestRow_20 rfl ?_
  refine go_istore_4 iM_bestRow_21 (by simp [Value.category, am_U]) ?_
  refine lo_M_brA h8 hN hcM ?_ N 0 (by omega)
  by_cases h0 : n = 0
  · have e0 : n ^ N = 0 := by rw [h0]; exact Nat.zero_pow (by omega)
    have kq2 := kq mI mL (.int (nI 0)) am_U am_U am_U am_U FrN.rfl' (by rw [e0]; exact trivial)
    rw [e0] at kq2 ⊢
    refine go_iconst (v := nI 0) iM_bestRow_42 rfl ?_
    refine go_istore_4 iM_bestRow_43 (by simp [Value.category, am_U]) ?_
    refine go_iconst (v := nI 0) iM_bestRow_45 rfl ?_
    refine go_istore_5 iM_bestRow_46 (by simp [Value.category, am_U]) ?_
    refine go_iload_5 iM_bestRow_48 ?_
    refine go_iloadn_3 iM_bestRow_50 ?_
    first | refine gn_ic_ge iM_bestRow_51 (by omega) (by omega) (fun c_51 => ?_) (fun c_51 => ?_) | refine go_ic_ge iM_bestRow_51 (fun c_51 => ?_) (fun c_51 => ?_)
    rotate_left
    · (first | omega | exact absurd c_51 (by decide) | (exfalso; simp (disch := omega) only [Int32.lt_iff_toInt_lt, Int32.le_iff_toInt_le, ← Int32.toInt_inj, nI_toInt, i32_m1, i32_0, i32_m20, i32_m40, i32_m30, i32_m9] at *; omega))
    exact kq2
  · refine go_iconst (v := nI 0) iM_bestRow_42 rfl ?_
    refine go_istore_4 iM_bestRow_43 (by simp [Value.category, am_U]) ?_
    refine go_iconst (v := nI 0) iM_bestRow_45 rfl ?_
    refine go_istore_5 iM_bestRow_46 (by simp [Value.category, am_U]) ?_
    exact lo_M_brB (by omega) h8 hm1 hm3 hN1 hN hmM hcM hpl hod hkd kq (n ^ N) 0 _ _ _ _ _ _ (by omega) FrN.rfl' trivial
theorem pr_bestRow (x y : Int32) (hR : Rel n mI mL) : Pair S tT_bestRow tM_bestRow [.int x, .int y] n mI mL := by
  have hR0 := hR
  obtain ⟨h8, ⟨m, hm1, hm3, hmT, hmM⟩, hcT, hcM, hpl, hro, hfi, hfs, hu, hl, hch⟩ := hR
  rcases row_cases y with ⟨r, hr, rfl⟩ | hy
  · rcases int_cases x 4 (by decide) with ⟨N, hN, rfl⟩ | hx
    · by_cases hN1 : 1 ≤ N
      · cases hs : srF (kdN mI) (odN mI) m n N (n ^ N) with
        | none =>
          refine Pair.ex (h1 := 14) (h2 := 4) (v := .int (-4)) (P := fun mI1 mL1 => FrD mI mI1 mL mL1) ?_ (fun mI1 mL1 hP => ?_)
          · unfold Ex
            show Go _ _ tT_bestRow (_, 0, [.ref 0, .int (nI N), .int (nI r), am_U], []) _
            refine go_T_brow h8 hm1 hm3 hN1 hN hr hmT hcT hpl rfl rfl (fun mI1 mL1 hF hB => ?_)
            rw [hs] at hB
            have f0 : mI1 11 0 = nI 0 := hB
            refine go_aloadn_0 iT_bestRow_49 rfl ?_
            refine go_getR iT_bestRow_50 rfl (sk_0 _) (mR_0_12 _) ?_
            refine go_getI iT_bestRow_53 (Or.inr rfl) (sk_11 _) ?_
            try simp (disch := omega) only [am_u_n, am_u_s, am_u_k, f0]
            refine go_if_ne iT_bestRow_56 (fun c_56 => ?_) (fun c_56 => ?_)
            · (first | omega | exact absurd c_56 (by decide) | (exfalso; simp (disch := omega) only [Int32.lt_iff_toInt_lt, Int32.le_iff_toInt_le, ← Int32.toInt_inj, nI_toInt, i32_m1, i32_0, i32_m20, i32_m40, i32_m30, i32_m9] at *; omega))
            refine go_bipush (v := (-4)) iT_bestRow_59 (by decide) ?_
            refine go_iret iT_bestRow_61 rfl ?_
            exact ex_i hF
          · have hq : ∀ a, 42 < a → mI1 a = mI a := fun a ha => hP.1.1 a (by omega)
            unfold Ex
            show Go _ _ tM_bestRow (_, 0, [.ref 43, .int (nI N), .int (nI r), am_U, am_U, am_U, am_U, am_U, am_U, am_U], []) _
            refine go_M_brow (o := odN mI) (kd := kdN mI) h8 hm1 hm3 hN1 hN hr (by rw [hq 43 (by omega)]; exact hmM) (by rw [hq 43 (by omega)]; exact hcM) (fun p hp => (hpl p hp).c (fun a ha _ _ _ => hq a ha)) (od_fr (fun a ha => hq a (by omega))) (by funext p; unfold kdN; rw [hq 45 (by omega)]) (fun mI2 mL2 z5 z6 z7 z8 z9 hN2 hB => ?_)
            rw [hs, show anyN none = 0 from rfl]
            refine go_iload_4 iM_bestRow_238 ?_
            refine go_if_ne iM_bestRow_240 (fun c_240 => ?_) (fun c_240 => ?_)
            · (first | omega | exact absurd c_240 (by decide) | (exfalso; simp (disch := omega) only [Int32.lt_iff_toInt_lt, Int32.le_iff_toInt_le, ← Int32.toInt_inj, nI_toInt, i32_m1, i32_0, i32_m20, i32_m40, i32_m30, i32_m9] at *; omega))
            refine go_bipush (v := (-4)) iM_bestRow_243 (by decide) ?_
            refine go_iret iM_bestRow_245 rfl ?_
            refine ex_i (hR0.keep hP.1 hN2.1 ?_ ?_)
            · rw [hP.2, hN2.2.1, hP.1.2 43 (by omega) (by decide)]; exact hu
            · rw [hP.2, hN2.2.2, hP.1.2 43 (by omega) (by decide)]; exact hl
        | some b =>
          have hn : 0 < n := by
            rcases Nat.eq_zero_or_pos n with e | e
            · rw [e, Nat.zero_pow (by omega)] at hs
              cases hs
            · exact e
          have ho12 : ∀ p i, p < n → i < 3 → odN mI p i ≤ 12 := fun p i hp hi => ((odN_ok (hpl p hp)).1 i (by omega)).2
          obtain ⟨hGb, hWb⟩ := sr_some hm1 hm3 hN1 hN hn ho12 hs
          obtain ⟨l1, l2, l3⟩ := hGb.l hWb
          have hUb := hGb.b
          obtain ⟨p3, p4⟩ := f_red (u := Uz m 12 N (wD (odN mI) n N b)) l1
          have p0 := f_le (Uz m 12 N (wD (odN mI) n N b)) (Lz m 12 N (wD (odN mI) n N b))
          have g0 : 0 < Nat.gcd (Uz m 12 N (wD (odN mI) n N b)).natAbs (Lz m 12 N (wD (odN mI) n N b)) := Nat.gcd_pos_of_pos_right _ l1
          have g1 := Nat.gcd_le_right (Uz m 12 N (wD (odN mI) n N b)).natAbs l1
          have p5 : 0 < Lz m 12 N (wD (odN mI) n N b) / Nat.gcd (Uz m 12 N (wD (odN mI) n N b)).natAbs (Lz m 12 N (wD (odN mI) n N b)) := Nat.div_pos g1 g0
          have p6 : Lz m 12 N (wD (odN mI) n N b) / Nat.gcd (Uz m 12 N (wD (odN mI) n N b)).natAbs (Lz m 12 N (wD (odN mI) n N b)) ≤ Lz m 12 N (wD (odN mI) n N b) := Nat.div_le_self _ _
          have hk := sk_row n hr
          obtain ⟨r1, r2, r3, r4⟩ := sh_row n hr
          refine Pair.ex (h1 := 14) (h2 := 4) (v := .int (nI 1)) (P := fun mI1 mL1 => BrP r N (dg n N b) mI mI1 mL mL1 ∧ mL1 4 0 = zL (fU (Uz m 12 N (wD (odN mI) n N b)) (Lz m 12 N (wD (odN mI) n N b))) ∧ mL1 4 1 = zL (fL (Uz m 12 N (wD (odN mI) n N b)) (Lz m 12 N (wD (odN mI) n N b)))) ?_ (fun mI1 mL1 hP => ?_)
          · unfold Ex
            show Go _ _ tT_bestRow (_, 0, [.ref 0, .int (nI N), .int (nI r), am_U], []) _
            refine go_T_brow h8 hm1 hm3 hN1 hN hr hmT hcT hpl rfl rfl (fun mI1 mL1 hF hB => ?_)
            rw [hs] at hB
            obtain ⟨f0, f1, f2, f3, f4⟩ := hB
            have f1 : mL1 11 1 = zL (Uz m 12 N (wD (odN mI) n N b)) := f1
            have f3 : mL1 11 3 = zL ((Lz m 12 N (wD (odN mI) n N b) : Nat) : Int) := by rw [← l3]; exact f3
            refine go_aloadn_0 iT_bestRow_49 rfl ?_
            refine go_getR iT_bestRow_50 rfl (sk_0 _) (mR_0_12 _) ?_
            refine go_getI iT_bestRow_53 (Or.inr rfl) (sk_11 _) ?_
            try simp (disch := omega) only [am_u_n, am_u_s, am_u_k, f0, f1, f3]
            refine go_if_ne iT_bestRow_56 (fun c_56 => ?_) (fun c_56 => ?_)
            rotate_left
            · (first | omega | exact absurd c_56 (by decide) | (exfalso; simp (disch := omega) only [Int32.lt_iff_toInt_lt, Int32.le_iff_toInt_le, ← Int32.toInt_inj, nI_toInt, i32_m1, i32_0, i32_m20, i32_m40, i32_m30, i32_m9] at *; omega))
            refine go_aloadn_3 iT_bestRow_62 rfl ?_
            refine go_iloadn_1 iT_bestRow_63 ?_
            refine gc_V0 iT_bestRow_64 rfl (by decide) hk rfl (Nat.le_of_ble_eq_true rfl) (Nat.le_of_ble_eq_true rfl) (by decide) (sp_W_become hk r4 r2 (by omega)) ?_
            refine go_aloadn_0 iT_bestRow_67 rfl ?_
            refine go_getR iT_bestRow_68 rfl (sk_0 _) (mR_0_12 _) ?_
            refine go_getR iT_bestRow_71 rfl (sk_11 _) (mR_11_4 _) ?_
            refine go_iconst (v := nI 0) iT_bestRow_74 rfl ?_
            refine go_aloadn_3 iT_bestRow_75 rfl ?_
            refine go_getR iT_bestRow_76 rfl (by assumption) (by assumption) ?_
            refine go_iconst (v := nI 0) iT_bestRow_79 rfl ?_
            refine go_iloadn_1 iT_bestRow_80 ?_
            refine go_acp iT_bestRow_81 rfl (sh_12 _) r2 rfl rfl rfl (by omega) (by omega) (by decide) (by decide) (Nat.le_of_ble_eq_true rfl) ?_
            refine go_aloadn_0 iT_bestRow_84 rfl ?_
            refine go_getR iT_bestRow_85 rfl (sk_0 _) (mR_0_6 _) ?_
            refine go_aloadn_0 iT_bestRow_88 rfl ?_
            refine go_getR iT_bestRow_89 rfl (sk_0 _) (mR_0_12 _) ?_
            refine go_getL iT_bestRow_92 rfl (sk_11 _) ?_
            try simp (disch := omega) only [am_u_n, am_u_s, am_u_k, f0, f1, f3]
            refine go_aloadn_0 iT_bestRow_95 rfl ?_
            refine go_getR iT_bestRow_96 rfl (sk_0 _) (mR_0_12 _) ?_
            refine go_getL iT_bestRow_99 rfl (sk_11 _) ?_
            try simp (disch := omega) only [am_u_n, am_u_s, am_u_k, f0, f1, f3]
            refine gc_V0 iT_bestRow_102 rfl (by decide) (sk_4 _) rfl (Nat.le_of_ble_eq_true rfl) (Nat.le_of_ble_eq_true rfl) (by decide) (sp_F_tell (u := Uz m 12 N (wD (odN mI) n N b)) (l := Lz m 12 N (wD (odN mI) n N b)) (by omega) l1 (by omega)) ?_
            refine go_iconst (v := nI 1) iT_bestRow_105 rfl ?_
            refine go_iret iT_bestRow_106 rfl ?_
            refine ex_i ⟨⟨fun a a1 a2 a3 => ?_, fun a a1 a2 => ?_, ?_, fun j hj => ?_⟩, ?_, ?_⟩
            · rw [va_up_ne _ _ a3, roI_r a2 a3]; exact hF.1.1 a a1
            · rw [am_u_r a2, am_u_r a2]; exact hF.1.2 a a1 a2
            · rw [va_up_ne _ _ (by omega), roI_0 (by omega)]
            · rw [va_up_self]
              unfold va_cpy
              by_cases c : j < N
              · rw [if_pos (by omega), if_pos c, roI_r (by omega) (by omega), show 0 + (j - 0) = j by omega]; exact f4 j c
              · rw [if_neg (by omega), if_neg c]; unfold roI; rw [va_up_self]; simp only [fl]; rw [if_pos hj]
            · rw [am_u_k (by decide), am_u_s]
            · rw [am_u_s]
          · obtain ⟨k1, k2, k3⟩ := hP
            have hq : ∀ a, 42 < a → mI1 a = mI a := fun a ha => k1.1 a (by omega) (by omega) (by omega)
            unfold Ex
            show Go _ _ tM_bestRow (_, 0, [.ref 43, .int (nI N), .int (nI r), am_U, am_U, am_U, am_U, am_U, am_U, am_U], []) _
            refine go_M_brow (o := odN mI) (kd := kdN mI) h8 hm1 hm3 hN1 hN hr (by rw [hq 43 (by omega)]; exact hmM) (by rw [hq 43 (by omega)]; exact hcM) (fun p hp => (hpl p hp).c (fun a ha _ _ _ => hq a ha)) (od_fr (fun a ha => hq a (by omega))) (by funext p; unfold kdN; rw [hq 45 (by omega)]) (fun mI2 mL2 z5 z6 z7 z8 z9 hN2 hB => ?_)
            rw [hs] at hB ⊢
            rw [show anyN (some b) = 1 from rfl]
            obtain ⟨j1, j2, j3⟩ := hB
            have j1 : mL2 43 23 = zL (fU (Uz m 12 N (wD (odN mI) n N b)) (Lz m 12 N (wD (odN mI) n N b))) := j1
            have j2 : mL2 43 24 = zL ((Lz m 12 N (wD (odN mI) n N b) / Nat.gcd (Uz m 12 N (wD (odN mI) n N b)).natAbs (Lz m 12 N (wD (odN mI) n N b)) : Nat) : Int) := j2
            refine go_iload_4 iM_bestRow_238 ?_
            refine go_if_ne iM_bestRow_240 (fun c_240 => ?_) (fun c_240 => ?_)
            rotate_left
            · (first | omega | exact absurd c_240 (by decide) | (exfalso; simp (disch := omega) only [Int32.lt_iff_toInt_lt, Int32.le_iff_toInt_le, ← Int32.toInt_inj, nI_toInt, i32_m1, i32_0, i32_m20, i32_m40, i32_m30, i32_m9] at *; omega))
            refine go_aloadn_0 iM_bestRow_246 rfl ?_
            refine go_getR iM_bestRow_247 rfl (sk_43 _) (mR_43_8 _) ?_
            refine go_iloadn_2 iM_bestRow_250 ?_
            refine go_iloadn_1 iM_bestRow_251 ?_
            refine go_iast iM_bestRow_252 (sh_47 _) rfl (by omega) (by omega) ?_
            refine go_iconst (v := nI 0) iM_bestRow_253 rfl ?_
            refine go_istore_5 iM_bestRow_254 (by simp [Value.category, am_U]) ?_
            refine lo_M_brE (mI1 := am_u mI2 47 r (nI N)) (f := dg n N b) hr hN (fun s hs => by rw [am_u_n (by decide)]; exact j3 s hs) (fun mI4 h4 => ?_) 4 0 _ (by omega) ⟨fun a _ => rfl, fun _ _ => rfl, fun j hj => by omega⟩
            obtain ⟨d1, d2, d3⟩ := h4
            refine go_aloadn_0 iM_bestRow_296 rfl ?_
            refine go_aloadn_0 iM_bestRow_297 rfl ?_
            refine go_getL iM_bestRow_298 rfl (sk_43 _) ?_
            try simp (disch := omega) only [am_u_n, am_u_s, am_u_k, j1, j2]
            refine go_aloadn_0 iM_bestRow_301 rfl ?_
            refine go_getL iM_bestRow_302 rfl (sk_43 _) ?_
            try simp (disch := omega) only [am_u_n, am_u_s, am_u_k, j1, j2]
            refine go_iconst (v := nI 1) iM_bestRow_305 rfl ?_
            refine gc_V1 iM_bestRow_306 rfl (by decide) (sk_43 _) rfl (Nat.le_of_ble_eq_true rfl) (Nat.le_of_ble_eq_true rfl) (by decide) (sp_M_tell (u := fU (Uz m 12 N (wD (odN mI) n N b)) (Lz m 12 N (wD (odN mI) n N b))) (l := Lz m 12 N (wD (odN mI) n N b) / Nat.gcd (Uz m 12 N (wD (odN mI) n N b)).natAbs (Lz m 12 N (wD (odN mI) n N b))) (by omega) p5 (by omega)) ?_
            refine go_iret iM_bestRow_309 rfl ?_
            refine ex_i (hR0.row hr hN k1 (fun a e1 e2 e3 e4 e5 => ?_) (fun y hy => ?_) (fun q hq2 => ?_) ?_ (fun y hy => ?_) d3 (fun a ha => ?_) ?_ ?_)
            · rw [d1 a e3, am_u_r e2]; exact hN2.1.1 a e1 e4 e5
            · rw [d1 43 (by decide), am_u_r (by decide)]; exact hN2.1.2.1 y hy
            · rw [d1 47 (by decide), am_u_k hq2]; rw [hN2.1.1 47 (by decide) (by decide) (by decide)]
            · rw [d1 47 (by decide), am_u_s]
            · rw [d2 y hy, am_u_r (by decide)]; rw [hN2.1.1 48 (by decide) (by decide) (by decide)]
            · rw [am_u_r (by omega), am_u_r (by omega)]; exact hN2.1.2.2 a ha
            · rw [am_u_k (by decide), am_u_s, p3]; exact k2
            · rw [am_u_s, p4]; exact k3
      · refine Pair.same (h1 := 1) (h2 := 2) (v := .int (-1)) hR0 ?_ ?_
        · show Go _ _ tT_bestRow (_, 0, [.ref 0, .int (nI N), .int (nI r), am_U], []) _
          refine go_aloadn_0 iT_bestRow_0 rfl ?_
          refine go_iloadn_2 iT_bestRow_1 ?_
          refine gc_V1 iT_bestRow_2 rfl (by decide) (sk_0 _) rfl (Nat.le_of_ble_eq_true rfl) (Nat.le_of_ble_eq_true rfl) (by decide) (sp_T_rowAt_t hr) ?_
          refine go_astoren_3 iT_bestRow_5 rfl (by simp [Value.category, am_U]) ?_
          refine go_aloadn_3 iT_bestRow_6 rfl ?_
          refine go_nulR iT_bestRow_7 ?_
          refine go_iloadn_1 iT_bestRow_10 ?_
          refine go_iconst (v := nI 1) iT_bestRow_11 rfl ?_
          first | refine gn_ic_lt iT_bestRow_12 (by omega) (by omega) (fun c_12 => ?_) (fun c_12 => ?_) | refine go_ic_lt iT_bestRow_12 (fun c_12 => ?_) (fun c_12 => ?_)
          rotate_left
          · (first | omega | exact absurd c_12 (by decide) | (exfalso; simp (disch := omega) only [Int32.lt_iff_toInt_lt, Int32.le_iff_toInt_le, ← Int32.toInt_inj, nI_toInt, i32_m1, i32_0, i32_m20, i32_m40, i32_m30, i32_m9] at *; omega))
          refine go_iconst (v := (-1)) iT_bestRow_20 rfl ?_
          refine go_iret iT_bestRow_21 rfl ?_
          rfl
        · show Go _ _ tM_bestRow (_, 0, [.ref 43, .int (nI N), .int (nI r), am_U, am_U, am_U, am_U, am_U, am_U, am_U], []) _
          refine go_iloadn_1 iM_bestRow_0 ?_
          refine go_iconst (v := nI 1) iM_bestRow_1 rfl ?_
          refine go_iconst (v := nI 4) iM_bestRow_2 rfl ?_
          refine gc_S1 iM_bestRow_3 (by decide) rfl rfl (Nat.le_of_ble_eq_true rfl) (Nat.le_of_ble_eq_true rfl) (by decide) (sp_M_in_f (by simp (disch := omega) only [nI_toInt]; omega)) ?_
          refine go_if_eq iM_bestRow_6 (fun c_6 => ?_) (fun c_6 => ?_)
          rotate_left
          · (first | omega | exact absurd c_6 (by decide) | (exfalso; simp (disch := omega) only [Int32.lt_iff_toInt_lt, Int32.le_iff_toInt_le, ← Int32.toInt_inj, nI_toInt, i32_m1, i32_0, i32_m20, i32_m40, i32_m30, i32_m9] at *; omega))
          refine go_iconst (v := (-1)) iM_bestRow_16 rfl ?_
          refine go_iret iM_bestRow_17 rfl ?_
          rfl
    · refine Pair.same (h1 := 1) (h2 := 2) (v := .int (-1)) hR0 ?_ ?_
      · show Go _ _ tT_bestRow (_, 0, [.ref 0, .int x, .int (nI r), am_U], []) _
        refine go_aloadn_0 iT_bestRow_0 rfl ?_
        refine go_iloadn_2 iT_bestRow_1 ?_
        refine gc_V1 iT_bestRow_2 rfl (by decide) (sk_0 _) rfl (Nat.le_of_ble_eq_true rfl) (Nat.le_of_ble_eq_true rfl) (by decide) (sp_T_rowAt_t hr) ?_
        refine go_astoren_3 iT_bestRow_5 rfl (by simp [Value.category, am_U]) ?_
        refine go_aloadn_3 iT_bestRow_6 rfl ?_
        refine go_nulR iT_bestRow_7 ?_
        refine go_iloadn_1 iT_bestRow_10 ?_
        refine go_iconst (v := nI 1) iT_bestRow_11 rfl ?_
        first | refine gn_ic_lt iT_bestRow_12 (by omega) (by omega) (fun c_12 => ?_) (fun c_12 => ?_) | refine go_ic_lt iT_bestRow_12 (fun c_12 => ?_) (fun c_12 => ?_)
        · refine go_iconst (v := (-1)) iT_bestRow_20 rfl ?_
          refine go_iret iT_bestRow_21 rfl ?_
          rfl
        · refine go_iloadn_1 iT_bestRow_15 ?_
          refine go_iconst (v := nI 4) iT_bestRow_16 rfl ?_
          first | refine gn_ic_le iT_bestRow_17 (by omega) (by omega) (fun c_17 => ?_) (fun c_17 => ?_) | refine go_ic_le iT_bestRow_17 (fun c_17 => ?_) (fun c_17 => ?_)
          · (first | omega | exact absurd c_17 (by decide) | (exfalso; simp (disch := omega) only [Int32.lt_iff_toInt_lt, Int32.le_iff_toInt_le, ← Int32.toInt_inj, nI_toInt, i32_m1, i32_0, i32_m20, i32_m40, i32_m30, i32_m9] at *; omega))
          · refine go_iconst (v := (-1)) iT_bestRow_20 rfl ?_
            refine go_iret iT_bestRow_21 rfl ?_
            rfl
      · show Go _ _ tM_bestRow (_, 0, [.ref 43, .int x, .int (nI r), am_U, am_U, am_U, am_U, am_U, am_U, am_U], []) _
        refine go_iloadn_1 iM_bestRow_0 ?_
        refine go_iconst (v := nI 1) iM_bestRow_1 rfl ?_
        refine go_iconst (v := nI 4) iM_bestRow_2 rfl ?_
        refine gc_S1 iM_bestRow_3 (by decide) rfl rfl (Nat.le_of_ble_eq_true rfl) (Nat.le_of_ble_eq_true rfl) (by decide) (sp_M_in_f (by simp (disch := omega) only [nI_toInt]; omega)) ?_
        refine go_if_eq iM_bestRow_6 (fun c_6 => ?_) (fun c_6 => ?_)
        rotate_left
        · (first | omega | exact absurd c_6 (by decide) | (exfalso; simp (disch := omega) only [Int32.lt_iff_toInt_lt, Int32.le_iff_toInt_le, ← Int32.toInt_inj, nI_toInt, i32_m1, i32_0, i32_m20, i32_m40, i32_m30, i32_m9] at *; omega))
        refine go_iconst (v := (-1)) iM_bestRow_16 rfl ?_
        refine go_iret iM_bestRow_17 rfl ?_
        rfl
  · refine Pair.same (h1 := 1) (h2 := 2) (v := .int (-1)) hR0 ?_ ?_
    · show Go _ _ tT_bestRow (_, 0, [.ref 0, .int x, .int y, am_U], []) _
      refine go_aloadn_0 iT_bestRow_0 rfl ?_
      refine go_iloadn_2 iT_bestRow_1 ?_
      refine gc_V1 iT_bestRow_2 rfl (by decide) (sk_0 _) rfl (Nat.le_of_ble_eq_true rfl) (Nat.le_of_ble_eq_true rfl) (by decide) (sp_T_rowAt_f hy) ?_
      refine go_astoren_3 iT_bestRow_5 rfl (by simp [Value.category, am_U]) ?_
      refine go_aloadn_3 iT_bestRow_6 rfl ?_
      refine go_nulN iT_bestRow_7 ?_
      refine go_iconst (v := (-1)) iT_bestRow_20 rfl ?_
      refine go_iret iT_bestRow_21 rfl ?_
      rfl
    · rcases int_cases x 4 (by decide) with ⟨N, hN, rfl⟩ | hx
      · by_cases hN1 : 1 ≤ N
        · show Go _ _ tM_bestRow (_, 0, [.ref 43, .int (nI N), .int y, am_U, am_U, am_U, am_U, am_U, am_U, am_U], []) _
          refine go_iloadn_1 iM_bestRow_0 ?_
          refine go_iconst (v := nI 1) iM_bestRow_1 rfl ?_
          refine go_iconst (v := nI 4) iM_bestRow_2 rfl ?_
          refine gc_S1 iM_bestRow_3 (by decide) rfl rfl (Nat.le_of_ble_eq_true rfl) (Nat.le_of_ble_eq_true rfl) (by decide) (sp_M_in_t (by simp (disch := omega) only [nI_toInt]; omega) (by simp (disch := omega) only [nI_toInt]; omega)) ?_
          refine go_if_eq iM_bestRow_6 (fun c_6 => ?_) (fun c_6 => ?_)
          · (first | omega | exact absurd c_6 (by decide) | (exfalso; simp (disch := omega) only [Int32.lt_iff_toInt_lt, Int32.le_iff_toInt_le, ← Int32.toInt_inj, nI_toInt, i32_m1, i32_0, i32_m20, i32_m40, i32_m30, i32_m9] at *; omega))
          refine go_iloadn_2 iM_bestRow_9 ?_
          refine gc_S1 iM_bestRow_10 (by decide) rfl rfl (Nat.le_of_ble_eq_true rfl) (Nat.le_of_ble_eq_true rfl) (by decide) (sp_M_isRow_f hy) ?_
          refine go_if_ne iM_bestRow_13 (fun c_13 => ?_) (fun c_13 => ?_)
          · (first | omega | exact absurd c_13 (by decide) | (exfalso; simp (disch := omega) only [Int32.lt_iff_toInt_lt, Int32.le_iff_toInt_le, ← Int32.toInt_inj, nI_toInt, i32_m1, i32_0, i32_m20, i32_m40, i32_m30, i32_m9] at *; omega))
          refine go_iconst (v := (-1)) iM_bestRow_16 rfl ?_
          refine go_iret iM_bestRow_17 rfl ?_
          rfl
        · show Go _ _ tM_bestRow (_, 0, [.ref 43, .int (nI N), .int y, am_U, am_U, am_U, am_U, am_U, am_U, am_U], []) _
          refine go_iloadn_1 iM_bestRow_0 ?_
          refine go_iconst (v := nI 1) iM_bestRow_1 rfl ?_
          refine go_iconst (v := nI 4) iM_bestRow_2 rfl ?_
          refine gc_S1 iM_bestRow_3 (by decide) rfl rfl (Nat.le_of_ble_eq_true rfl) (Nat.le_of_ble_eq_true rfl) (by decide) (sp_M_in_f (by simp (disch := omega) only [nI_toInt]; omega)) ?_
          refine go_if_eq iM_bestRow_6 (fun c_6 => ?_) (fun c_6 => ?_)
          rotate_left
          · (first | omega | exact absurd c_6 (by decide) | (exfalso; simp (disch := omega) only [Int32.lt_iff_toInt_lt, Int32.le_iff_toInt_le, ← Int32.toInt_inj, nI_toInt, i32_m1, i32_0, i32_m20, i32_m40, i32_m30, i32_m9] at *; omega))
          refine go_iconst (v := (-1)) iM_bestRow_16 rfl ?_
          refine go_iret iM_bestRow_17 rfl ?_
          rfl
      · show Go _ _ tM_bestRow (_, 0, [.ref 43, .int x, .int y, am_U, am_U, am_U, am_U, am_U, am_U, am_U], []) _
        refine go_iloadn_1 iM_bestRow_0 ?_
        refine go_iconst (v := nI 1) iM_bestRow_1 rfl ?_
        refine go_iconst (v := nI 4) iM_bestRow_2 rfl ?_
        refine gc_S1 iM_bestRow_3 (by decide) rfl rfl (Nat.le_of_ble_eq_true rfl) (Nat.le_of_ble_eq_true rfl) (by decide) (sp_M_in_f (by simp (disch := omega) only [nI_toInt]; omega)) ?_
        refine go_if_eq iM_bestRow_6 (fun c_6 => ?_) (fun c_6 => ?_)
        rotate_left
        · (first | omega | exact absurd c_6 (by decide) | (exfalso; simp (disch := omega) only [Int32.lt_iff_toInt_lt, Int32.le_iff_toInt_le, ← Int32.toInt_inj, nI_toInt, i32_m1, i32_0, i32_m20, i32_m40, i32_m30, i32_m9] at *; omega))
        refine go_iconst (v := (-1)) iM_bestRow_16 rfl ?_
        refine go_iret iM_bestRow_17 rfl ?_
        rfl
end PBR
