/-! ===== THE RELATION between the class and the reference, in one memory ===== -/
def szK (kd : Nat) : Nat := if kd = 0 then 0 else if kd = 1 then 3 else if kd = 2 then 4 else 1
def PlR (mI : Nat → Nat → Int32) (p : Nat) : Prop := ∃ kd, kd < 4 ∧ mI (60 + 2 * p) 0 = nI kd ∧ mI 45 p = nI kd ∧ mI (60 + 2 * p) 1 = nI (szK kd) ∧ (∀ j, j < 4 → ∃ a, a ≤ 12 ∧ mI (61 + 2 * p) j = nI a) ∧ (∀ j, j < 3 → mI 46 (4 * p + j) = mI (61 + 2 * p) j) ∧ (kd = 2 → mI 46 (4 * p + 3) = mI (61 + 2 * p) 3)
def RoR (mI : Nat → Nat → Int32) (r : Nat) : Prop := ((mI (15 + 2 * r) 0 = -1 ∧ mI 47 r = -9) ∨ ∃ s, s ≤ 4 ∧ mI (15 + 2 * r) 0 = nI s ∧ mI 47 r = nI s) ∧ ∀ j, j < 4 → mI (16 + 2 * r) j = mI 48 (4 * r + j)
def Rel (n : Nat) (mI : Nat → Nat → Int32) (mL : Nat → Nat → Int64) : Prop := n ≤ 8 ∧ (∃ m, 1 ≤ m ∧ m ≤ 3 ∧ mI 0 0 = nI m ∧ mI 43 4 = nI m) ∧ mI 0 1 = nI n ∧ mI 43 5 = nI n ∧ (∀ p, p < n → PlR mI p) ∧ (∀ r, r < 4 → RoR mI r) ∧ mI 0 4 = mI 43 0 ∧ (∀ f, f < 6 → mI 3 f = mI 44 f) ∧ mL 4 0 = mL 43 2 ∧ mL 4 1 = mL 43 3 ∧ ∀ j, j < 3 → mI 5 j = mI 57 j
theorem am_u_r {α : Type} {f : Nat → Nat → α} {i k a : Nat} {v : α} (h : a ≠ i) : am_u f i k v a = f a := by
  unfold am_u
  rw [va_up_ne _ _ h]
theorem PlR.of {mI mI' : Nat → Nat → Int32} {p : Nat} (h : PlR mI p) (h1 : mI' (60 + 2 * p) = mI (60 + 2 * p)) (h2 : mI' (61 + 2 * p) = mI (61 + 2 * p)) (h3 : mI' 45 p = mI 45 p) (h4 : ∀ j, j < 4 → mI' 46 (4 * p + j) = mI 46 (4 * p + j)) : PlR mI' p := by
  obtain ⟨kd, a1, a2, a3, a4, a5, a6, a7⟩ := h
  refine ⟨kd, a1, by rw [h1]; exact a2, by rw [h3]; exact a3, by rw [h1]; exact a4, fun j hj => by rw [h2]; exact a5 j hj, fun j hj => by rw [h2, h4 j (by omega)]; exact a6 j hj, fun hk => by rw [h2, h4 3 (by omega)]; exact a7 hk⟩
theorem RoR.of {mI mI' : Nat → Nat → Int32} {r : Nat} (h : RoR mI r) (h1 : mI' (15 + 2 * r) = mI (15 + 2 * r)) (h2 : mI' (16 + 2 * r) = mI (16 + 2 * r)) (h3 : mI' 47 r = mI 47 r) (h4 : ∀ j, j < 4 → mI' 48 (4 * r + j) = mI 48 (4 * r + j)) : RoR mI' r := by
  obtain ⟨a1, a2⟩ := h
  refine ⟨by rw [h1, h3]; exact a1, fun j hj => by rw [h2, h4 j hj]; exact a2 j hj⟩
/-- two calls, one of each side: the same answer, and they are alike again -/
def Pair (S : am_S) (tT tM : am_T) (as : List Value) (n : Nat) (mI : Nat → Nat → Int32) (mL : Nat → Nat → Int64) : Prop := ∃ (v : Value) (n1 : Nat) (mI1 : Nat → Nat → Int32) (mL1 : Nat → Nat → Int64) (mI2 : Nat → Nat → Int32) (mL2 : Nat → Nat → Int64), Sp S 20 tT (am_sh n, mI, mL, am_mR n) (.ref 0 :: as) (fun q => q = (some v, (am_sh n1, mI1, mL1, am_mR n1))) ∧ Sp S 20 tM (am_sh n1, mI1, mL1, am_mR n1) (.ref 43 :: as) (fun q => q = (some v, (am_sh n1, mI2, mL2, am_mR n1))) ∧ Rel n1 mI2 mL2 ∧ n ≤ n1 ∧ n1 ≤ n + 1
theorem Pair.mk {S : am_S} {tT tM : am_T} {as : List Value} {n n1 h1 h2 : Nat} {mI mI1 mI2 : Nat → Nat → Int32} {mL mL1 mL2 : Nat → Nat → Int64} {v : Value} (a : Sp S h1 tT (am_sh n, mI, mL, am_mR n) (.ref 0 :: as) (fun q => q = (some v, (am_sh n1, mI1, mL1, am_mR n1)))) (b : Sp S h2 tM (am_sh n1, mI1, mL1, am_mR n1) (.ref 43 :: as) (fun q => q = (some v, (am_sh n1, mI2, mL2, am_mR n1)))) (c : Rel n1 mI2 mL2) (e1 : h1 ≤ 20) (e2 : h2 ≤ 20) (e3 : n ≤ n1) (e4 : n1 ≤ n + 1) : Pair S tT tM as n mI mL := ⟨v, n1, mI1, mL1, mI2, mL2, go_mono a e1 (fun _ h => h), go_mono b e2 (fun _ h => h), c, e3, e4⟩
section PR1
variable {S : am_S} {mI : Nat → Nat → Int32} {mL : Nat → Nat → Int64} {n : Nat}
theorem sp_T_rest_t {a : Nat} (h1 : 1 ≤ a) (h3 : a ≤ 3) : Sp S 0 tT_rest (am_sh n, mI, mL, am_mR n) [.ref 0, .int (nI a)] (fun q => q = (some (.int (mI 0 0)), (am_sh n, am_u mI 0 0 (nI a), mL, am_mR n))) := by
  show Go _ _ tT_rest (_, 0, [.ref 0, .int (nI a), am_U], []) _
  refine go_iloadn_1 iT_rest_0 ?_
  refine go_iconst (v := nI 1) iT_rest_1 rfl ?_
  first | refine gn_ic_lt iT_rest_2 (by omega) (by omega) (fun c_2 => ?_) (fun c_2 => ?_) | refine go_ic_lt iT_rest_2 (fun c_2 => ?_) (fun c_2 => ?_)
  · (first | omega | exact absurd c_2 (by decide) | (exfalso; simp (disch := omega) only [Int32.lt_iff_toInt_lt, Int32.le_iff_toInt_le, ← Int32.toInt_inj, nI_toInt, i32_m1, i32_0, i32_m20, i32_m40, i32_m30, i32_m9] at *; omega))
  refine go_iloadn_1 iT_rest_5 ?_
  refine go_iconst (v := nI 3) iT_rest_6 rfl ?_
  first | refine gn_ic_le iT_rest_7 (by omega) (by omega) (fun c_7 => ?_) (fun c_7 => ?_) | refine go_ic_le iT_rest_7 (fun c_7 => ?_) (fun c_7 => ?_)
  rotate_left
  · (first | omega | exact absurd c_7 (by decide) | (exfalso; simp (disch := omega) only [Int32.lt_iff_toInt_lt, Int32.le_iff_toInt_le, ← Int32.toInt_inj, nI_toInt, i32_m1, i32_0, i32_m20, i32_m40, i32_m30, i32_m9] at *; omega))
  refine go_aloadn_0 iT_rest_12 rfl ?_
  refine go_getI iT_rest_13 (Or.inl rfl) (sk_0 _) ?_
  refine go_istoren_2 iT_rest_16 (by simp [Value.category, am_U]) ?_
  refine go_aloadn_0 iT_rest_17 rfl ?_
  refine go_iloadn_1 iT_rest_18 ?_
  refine go_putI iT_rest_19 rfl (sk_0 _) ?_
  refine go_iloadn_2 iT_rest_22 ?_
  refine go_iret iT_rest_23 rfl ?_
  rfl
theorem sp_T_rest_f {x : Int32} (hx : x.toInt < 1 ∨ 3 < x.toInt) : Sp S 0 tT_rest (am_sh n, mI, mL, am_mR n) [.ref 0, .int x] (fun q => q = (some (.int (-1)), (am_sh n, mI, mL, am_mR n))) := by
  show Go _ _ tT_rest (_, 0, [.ref 0, .int x, am_U], []) _
  refine go_iloadn_1 iT_rest_0 ?_
  refine go_iconst (v := nI 1) iT_rest_1 rfl ?_
  first | refine gn_ic_lt iT_rest_2 (by omega) (by omega) (fun c_2 => ?_) (fun c_2 => ?_) | refine go_ic_lt iT_rest_2 (fun c_2 => ?_) (fun c_2 => ?_)
  · refine go_iconst (v := (-1)) iT_rest_10 rfl ?_
    refine go_iret iT_rest_11 rfl ?_
    first | rfl | omega | (exfalso; simp (disch := omega) only [Int32.lt_iff_toInt_lt, Int32.le_iff_toInt_le, Int32.not_lt, Int32.not_le, ← Int32.toInt_inj, nI_toInt, i32_m1, i32_0, i32_m20, i32_m40, i32_m30, i32_m9] at *; omega)
  · refine go_iloadn_1 iT_rest_5 ?_
    refine go_iconst (v := nI 3) iT_rest_6 rfl ?_
    first | refine gn_ic_le iT_rest_7 (by omega) (by omega) (fun c_7 => ?_) (fun c_7 => ?_) | refine go_ic_le iT_rest_7 (fun c_7 => ?_) (fun c_7 => ?_)
    · (first | omega | exact absurd c_7 (by decide) | (exfalso; simp (disch := omega) only [Int32.lt_iff_toInt_lt, Int32.le_iff_toInt_le, ← Int32.toInt_inj, nI_toInt, i32_m1, i32_0, i32_m20, i32_m40, i32_m30, i32_m9] at *; omega))
    · refine go_iconst (v := (-1)) iT_rest_10 rfl ?_
      refine go_iret iT_rest_11 rfl ?_
      first | rfl | omega | (exfalso; simp (disch := omega) only [Int32.lt_iff_toInt_lt, Int32.le_iff_toInt_le, Int32.not_lt, Int32.not_le, ← Int32.toInt_inj, nI_toInt, i32_m1, i32_0, i32_m20, i32_m40, i32_m30, i32_m9] at *; omega)
theorem sp_M_rest_t {a : Nat} (h1 : 1 ≤ a) (h3 : a ≤ 3) : Sp S 1 tM_rest (am_sh n, mI, mL, am_mR n) [.ref 43, .int (nI a)] (fun q => q = (some (.int (mI 43 4)), (am_sh n, am_u mI 43 4 (nI a), mL, am_mR n))) := by
  show Go _ _ tM_rest (_, 0, [.ref 43, .int (nI a), am_U], []) _
  refine go_iloadn_1 iM_rest_0 ?_
  refine go_iconst (v := nI 1) iM_rest_1 rfl ?_
  refine go_iconst (v := nI 3) iM_rest_2 rfl ?_
  refine gc_S1 iM_rest_3 (by decide) rfl rfl (Nat.le_of_ble_eq_true rfl) (Nat.le_of_ble_eq_true rfl) (by decide) (sp_M_in_t (by simp (disch := omega) only [nI_toInt]; omega) (by simp (disch := omega) only [nI_toInt]; omega)) ?_
  refine go_if_ne iM_rest_6 (fun c_6 => ?_) (fun c_6 => ?_)
  rotate_left
  · (first | omega | exact absurd c_6 (by decide) | (exfalso; simp (disch := omega) only [Int32.lt_iff_toInt_lt, Int32.le_iff_toInt_le, ← Int32.toInt_inj, nI_toInt, i32_m1, i32_0, i32_m20, i32_m40, i32_m30, i32_m9] at *; omega))
  refine go_aloadn_0 iM_rest_11 rfl ?_
  refine go_getI iM_rest_12 (Or.inl rfl) (sk_43 _) ?_
  refine go_istoren_2 iM_rest_15 (by simp [Value.category, am_U]) ?_
  refine go_aloadn_0 iM_rest_16 rfl ?_
  refine go_iloadn_1 iM_rest_17 ?_
  refine go_putI iM_rest_18 rfl (sk_43 _) ?_
  refine go_iloadn_2 iM_rest_21 ?_
  refine go_iret iM_rest_22 rfl ?_
  rfl
theorem sp_M_rest_f {x : Int32} (hx : x.toInt < 1 ∨ 3 < x.toInt) : Sp S 1 tM_rest (am_sh n, mI, mL, am_mR n) [.ref 43, .int x] (fun q => q = (some (.int (-1)), (am_sh n, mI, mL, am_mR n))) := by
  show Go _ _ tM_rest (_, 0, [.ref 43, .int x, am_U], []) _
  refine go_iloadn_1 iM_rest_0 ?_
  refine go_iconst (v := nI 1) iM_rest_1 rfl ?_
  refine go_iconst (v := nI 3) iM_rest_2 rfl ?_
  refine gc_S1 iM_rest_3 (by decide) rfl rfl (Nat.le_of_ble_eq_true rfl) (Nat.le_of_ble_eq_true rfl) (by decide) (sp_M_in_f (by simp (disch := omega) only [nI_toInt]; omega)) ?_
  refine go_if_ne iM_rest_6 (fun c_6 => ?_) (fun c_6 => ?_)
  · (first | omega | exact absurd c_6 (by decide) | (exfalso; simp (disch := omega) only [Int32.lt_iff_toInt_lt, Int32.le_iff_toInt_le, ← Int32.toInt_inj, nI_toInt, i32_m1, i32_0, i32_m20, i32_m40, i32_m30, i32_m9] at *; omega))
  refine go_iconst (v := (-1)) iM_rest_9 rfl ?_
  refine go_iret iM_rest_10 rfl ?_
  rfl
theorem pr_rest (x : Int32) (hR : Rel n mI mL) : Pair S tT_rest tM_rest [.int x] n mI mL := by
  have hR' := hR
  obtain ⟨h8, ⟨m, hm1, hm3, hmT, hmM⟩, hcT, hcM, hpl, hro, hfi, hfs, hu, hl, hch⟩ := hR
  by_cases hx : x.toInt < 1 ∨ 3 < x.toInt
  · exact Pair.mk (sp_T_rest_f hx) (sp_M_rest_f hx) hR' (by decide) (by decide) (Nat.le_refl _) (by omega)
  · obtain ⟨a, ha, rfl⟩ : ∃ a, (1 ≤ a ∧ a ≤ 3) ∧ x = nI a := by
      rcases int_cases x 3 (by decide) with ⟨a, ha, rfl⟩ | h
      · rw [nI_toInt (by omega)] at hx
        exact ⟨a, by omega, rfl⟩
      · omega
    have b := sp_M_rest_t (S := S) (mI := am_u mI 0 0 (nI a)) (mL := mL) (n := n) ha.1 ha.2
    rw [show am_u mI 0 0 (nI a) 43 4 = mI 0 0 by rw [am_u_n (by decide), hmM, hmT]] at b
    refine Pair.mk (sp_T_rest_t ha.1 ha.2) b ⟨h8, ⟨a, ha.1, ha.2, ?_, ?_⟩, ?_, ?_, fun p hp => (hpl p hp).of ?_ ?_ ?_ (fun j hj => ?_), fun r hr => (hro r hr).of ?_ ?_ ?_ (fun j hj => ?_), ?_, fun f hf => ?_, hu, hl, fun j hj => ?_⟩ (by decide) (by decide) (Nat.le_refl _) (by omega)
    all_goals (simp (disch := omega) only [am_u_n, am_u_s, am_u_k, am_u_r]; try first | assumption | exact hfs _ hf | exact hch _ hj)
end PR1
