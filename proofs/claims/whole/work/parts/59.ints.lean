/-! ===== ints with a sign; floorMod, restOf ===== -/
def zI (z : Int) : Int32 := Int32.ofInt z
theorem zI_toInt {z : Int} (h : -2147483648 ≤ z ∧ z < 2147483648) : (zI z).toInt = z := Int32.toInt_ofInt_of_le (by omega) (by omega)
theorem zI_of (x : Int32) : zI x.toInt = x := by unfold zI; simp
theorem zI_add (x y : Int) : zI x + zI y = zI (x + y) := (Int32.ofInt_add x y).symm
theorem zI_sub (x y : Int) : zI x - zI y = zI (x - y) := (Int32.ofInt_sub x y).symm
theorem zi_inc (x : Int) (n : Nat) : zI x + Int32.ofInt (n : Int) = zI (x + n) := zI_add x n
theorem nI_zI (k : Nat) : nI k = zI k := by
  have h := ni_inc 0 k
  rw [Nat.zero_add] at h
  rw [← h]
  show zI 0 + zI k = zI k
  rw [zI_add, Int.zero_add]
theorem zI_nI {z : Int} (h : 0 ≤ z) : zI z = nI z.toNat := by rw [nI_zI]; congr 1; omega
theorem zI_ex (x : Int32) : ∃ a : Int, (-2147483648 ≤ a ∧ a < 2147483648) ∧ x = zI a := ⟨x.toInt, by have := Int32.le_toInt x; have := Int32.toInt_lt x; omega, (zI_of x).symm⟩
section GI
variable {S : am_S} {d : Nat} {t : am_T} {M : am_M} {pc nx a b h : Nat} {la st : List Value} {Q : Option Value × am_M → Prop} {x y : Int} {k l : Nat}
theorem gi_iadd (hl : At t pc (.iadd, nx, a, b, h)) (kk : Go S d t (M, nx, la, .int (zI (x + y)) :: st) Q) : Go S d t (M, pc, la, .int (zI y) :: .int (zI x) :: st) Q := go_iadd hl (by rw [zI_add]; exact kk)
theorem gi_isub (hl : At t pc (.isub, nx, a, b, h)) (kk : Go S d t (M, nx, la, .int (zI (x - y)) :: st) Q) : Go S d t (M, pc, la, .int (zI y) :: .int (zI x) :: st) Q := go_isub hl (by rw [zI_sub]; exact kk)
theorem gm_iadd (hl : At t pc (.iadd, nx, a, b, h)) (kk : Go S d t (M, nx, la, .int (zI (x + (k : Int))) :: st) Q) : Go S d t (M, pc, la, .int (nI k) :: .int (zI x) :: st) Q := go_iadd hl (by rw [nI_zI, zI_add]; exact kk)
theorem gm_isub (hl : At t pc (.isub, nx, a, b, h)) (kk : Go S d t (M, nx, la, .int (zI (x - (k : Int))) :: st) Q) : Go S d t (M, pc, la, .int (nI k) :: .int (zI x) :: st) Q := go_isub hl (by rw [nI_zI, zI_sub]; exact kk)
theorem gk_isub (hl : At t pc (.isub, nx, a, b, h)) (kk : Go S d t (M, nx, la, .int (zI ((l : Int) - (k : Int))) :: st) Q) : Go S d t (M, pc, la, .int (nI k) :: .int (nI l) :: st) Q := go_isub hl (by rw [nI_zI, nI_zI, zI_sub]; exact kk)
theorem zI_lt (hx : -2147483648 ≤ x ∧ x < 2147483648) (hy : -2147483648 ≤ y ∧ y < 2147483648) : (zI x < zI y) ↔ x < y := by rw [Int32.lt_iff_toInt_lt, zI_toInt hx, zI_toInt hy]
theorem zI_le (hx : -2147483648 ≤ x ∧ x < 2147483648) (hy : -2147483648 ≤ y ∧ y < 2147483648) : (zI x ≤ zI y) ↔ x ≤ y := by rw [Int32.le_iff_toInt_le, zI_toInt hx, zI_toInt hy]
theorem zI_eq (hx : -2147483648 ≤ x ∧ x < 2147483648) (hy : -2147483648 ≤ y ∧ y < 2147483648) : (zI x = zI y) ↔ x = y := by rw [← Int32.toInt_inj, zI_toInt hx, zI_toInt hy]
theorem gi_ic_lt {z : Int} (hl : At t pc (.if_icmp .lt z, nx, a, b, h)) (hx : -2147483648 ≤ x ∧ x < 2147483648) (hy : -2147483648 ≤ y ∧ y < 2147483648) (kt : x < y → Go S d t (M, a, la, st) Q) (kf : y ≤ x → Go S d t (M, nx, la, st) Q) : Go S d t (M, pc, la, .int (zI y) :: .int (zI x) :: st) Q := go_ic_lt hl (fun c => kt ((zI_lt hx hy).mp c)) (fun c => kf (by rw [zI_lt hx hy] at c; omega))
theorem gi_ic_ge {z : Int} (hl : At t pc (.if_icmp .ge z, nx, a, b, h)) (hx : -2147483648 ≤ x ∧ x < 2147483648) (hy : -2147483648 ≤ y ∧ y < 2147483648) (kt : y ≤ x → Go S d t (M, a, la, st) Q) (kf : x < y → Go S d t (M, nx, la, st) Q) : Go S d t (M, pc, la, .int (zI y) :: .int (zI x) :: st) Q := go_ic_ge hl (fun c => kt ((zI_le hy hx).mp c)) (fun c => kf (by rw [zI_le hy hx] at c; omega))
theorem gi_ic_gt {z : Int} (hl : At t pc (.if_icmp .gt z, nx, a, b, h)) (hx : -2147483648 ≤ x ∧ x < 2147483648) (hy : -2147483648 ≤ y ∧ y < 2147483648) (kt : y < x → Go S d t (M, a, la, st) Q) (kf : x ≤ y → Go S d t (M, nx, la, st) Q) : Go S d t (M, pc, la, .int (zI y) :: .int (zI x) :: st) Q := go_ic_gt hl (fun c => kt ((zI_lt hy hx).mp c)) (fun c => kf (by rw [zI_lt hy hx] at c; omega))
theorem gi_ic_le {z : Int} (hl : At t pc (.if_icmp .le z, nx, a, b, h)) (hx : -2147483648 ≤ x ∧ x < 2147483648) (hy : -2147483648 ≤ y ∧ y < 2147483648) (kt : x ≤ y → Go S d t (M, a, la, st) Q) (kf : y < x → Go S d t (M, nx, la, st) Q) : Go S d t (M, pc, la, .int (zI y) :: .int (zI x) :: st) Q := go_ic_le hl (fun c => kt ((zI_le hx hy).mp c)) (fun c => kf (by rw [zI_le hx hy] at c; omega))
theorem gm_ic_lt {z : Int} (hl : At t pc (.if_icmp .lt z, nx, a, b, h)) (hx : -2147483648 ≤ x ∧ x < 2147483648) (hy : k < 2147483648) (kt : x < (k : Int) → Go S d t (M, a, la, st) Q) (kf : (k : Int) ≤ x → Go S d t (M, nx, la, st) Q) : Go S d t (M, pc, la, .int (nI k) :: .int (zI x) :: st) Q := by rw [nI_zI]; exact gi_ic_lt hl hx (by omega) kt kf
theorem gm_ic_ge {z : Int} (hl : At t pc (.if_icmp .ge z, nx, a, b, h)) (hx : -2147483648 ≤ x ∧ x < 2147483648) (hy : k < 2147483648) (kt : (k : Int) ≤ x → Go S d t (M, a, la, st) Q) (kf : x < (k : Int) → Go S d t (M, nx, la, st) Q) : Go S d t (M, pc, la, .int (nI k) :: .int (zI x) :: st) Q := by rw [nI_zI]; exact gi_ic_ge hl hx (by omega) kt kf
theorem gm_ic_gt {z : Int} (hl : At t pc (.if_icmp .gt z, nx, a, b, h)) (hx : -2147483648 ≤ x ∧ x < 2147483648) (hy : k < 2147483648) (kt : (k : Int) < x → Go S d t (M, a, la, st) Q) (kf : x ≤ (k : Int) → Go S d t (M, nx, la, st) Q) : Go S d t (M, pc, la, .int (nI k) :: .int (zI x) :: st) Q := by rw [nI_zI]; exact gi_ic_gt hl hx (by omega) kt kf
theorem gm_ic_le {z : Int} (hl : At t pc (.if_icmp .le z, nx, a, b, h)) (hx : -2147483648 ≤ x ∧ x < 2147483648) (hy : k < 2147483648) (kt : x ≤ (k : Int) → Go S d t (M, a, la, st) Q) (kf : (k : Int) < x → Go S d t (M, nx, la, st) Q) : Go S d t (M, pc, la, .int (nI k) :: .int (zI x) :: st) Q := by rw [nI_zI]; exact gi_ic_le hl hx (by omega) kt kf
end GI
/-- what a purse leaves over -/
def rsZ (m : Nat) (z : Int) : Nat := (z % (m : Int)).toNat
theorem rsZ_lt {m : Nat} (h : 1 ≤ m) (z : Int) : rsZ m z < m := by
  have h1 := Int.emod_lt_of_pos z (show (0 : Int) < (m : Int) by omega)
  have h2 := Int.emod_nonneg z (show ((m : Int)) ≠ 0 by omega)
  unfold rsZ
  omega
set_option maxRecDepth 20000 in
theorem fm_a : ∀ j : Nat, j < 141 → ∀ m : Nat, m < 3 → (if ¬ (0 ≤ zI ((j : Int) - 70) ^^^ nI (m + 1)) ∧ ¬ (zI ((j : Int) - 70) - zI ((j : Int) - 70) / nI (m + 1) * nI (m + 1) = 0) then zI ((j : Int) - 70) - zI ((j : Int) - 70) / nI (m + 1) * nI (m + 1) + nI (m + 1) else zI ((j : Int) - 70) - zI ((j : Int) - 70) / nI (m + 1) * nI (m + 1)) = nI (rsZ (m + 1) ((j : Int) - 70)) := by decide +kernel
set_option maxRecDepth 20000 in
theorem fm_b : ∀ j : Nat, j < 141 → ∀ m : Nat, m < 3 → (zI ((j : Int) - 70) - zI ((j : Int) - 70) / nI (m + 1) * nI (m + 1) + nI (m + 1)) - (zI ((j : Int) - 70) - zI ((j : Int) - 70) / nI (m + 1) * nI (m + 1) + nI (m + 1)) / nI (m + 1) * nI (m + 1) = nI (rsZ (m + 1) ((j : Int) - 70)) := by decide +kernel
section FLM
variable {S : am_S} {M : am_M} {mI : Nat → Nat → Int32} {mL : Nat → Nat → Int64} {n m : Nat} {z : Int}
theorem sp_J_floorMod (hz : -70 ≤ z ∧ z ≤ 70) (hm1 : 1 ≤ m) (hm3 : m ≤ 3) : Sp S 0 tJ_floorMod M [.int (zI z), .int (nI m)] (fun q => q = (some (.int (nI (rsZ m z))), M)) := by
  have hf := fm_a (z + 70).toNat (by omega) (m - 1) (by omega)
  rw [show (((z + 70).toNat : Nat) : Int) - 70 = z by omega, show m - 1 + 1 = m by omega] at hf
  have hne : ¬ nI m = 0 := nI_ne0 (by omega) (by omega)
  show Go _ _ tJ_floorMod (_, 0, [.int (zI z), .int (nI m), am_U], []) _
  refine go_iloadn_0 iJ_floorMod_0 ?_
  refine go_iloadn_1 iJ_floorMod_1 ?_
  refine go_irem iJ_floorMod_2 hne ?_
  refine go_istoren_2 iJ_floorMod_3 (by simp [Value.category, am_U]) ?_
  refine go_iloadn_0 iJ_floorMod_4 ?_
  refine go_iloadn_1 iJ_floorMod_5 ?_
  refine go_ixor iJ_floorMod_6 ?_
  refine go_if_ge iJ_floorMod_7 (fun c_7 => ?_) (fun c_7 => ?_)
  · refine go_iloadn_2 iJ_floorMod_18 ?_
    refine go_iret iJ_floorMod_19 rfl ?_
    first | (rw [if_pos ⟨c_7, c_11⟩] at hf; rw [hf]) | (rw [if_neg (not_and_of_not_left _ (not_not_intro c_7))] at hf; rw [hf]) | (rw [if_neg (not_and_of_not_right _ (not_not_intro c_11))] at hf; rw [hf])
  · refine go_iloadn_2 iJ_floorMod_10 ?_
    refine go_if_eq iJ_floorMod_11 (fun c_11 => ?_) (fun c_11 => ?_)
    · refine go_iloadn_2 iJ_floorMod_18 ?_
      refine go_iret iJ_floorMod_19 rfl ?_
      first | (rw [if_pos ⟨c_7, c_11⟩] at hf; rw [hf]) | (rw [if_neg (not_and_of_not_left _ (not_not_intro c_7))] at hf; rw [hf]) | (rw [if_neg (not_and_of_not_right _ (not_not_intro c_11))] at hf; rw [hf])
    · refine go_iloadn_2 iJ_floorMod_14 ?_
      refine go_iloadn_1 iJ_floorMod_15 ?_
      refine go_iadd iJ_floorMod_16 ?_
      refine go_iret iJ_floorMod_17 rfl ?_
      first | (rw [if_pos ⟨c_7, c_11⟩] at hf; rw [hf]) | (rw [if_neg (not_and_of_not_left _ (not_not_intro c_7))] at hf; rw [hf]) | (rw [if_neg (not_and_of_not_right _ (not_not_intro c_11))] at hf; rw [hf])
theorem sp_M_restOf (hz : -70 ≤ z ∧ z ≤ 70) (hm1 : 1 ≤ m) (hm3 : m ≤ 3) (hmM : mI 43 4 = nI m) : Sp S 0 tM_restOf (am_sh n, mI, mL, am_mR n) [.ref 43, .int (zI z)] (fun q => q = (some (.int (nI (rsZ m z))), (am_sh n, mI, mL, am_mR n))) := by
  have hf := fm_b (z + 70).toNat (by omega) (m - 1) (by omega)
  rw [show (((z + 70).toNat : Nat) : Int) - 70 = z by omega, show m - 1 + 1 = m by omega] at hf
  have hne : ¬ nI m = 0 := nI_ne0 (by omega) (by omega)
  show Go _ _ tM_restOf (_, 0, [.ref 43, .int (zI z)], []) _
  refine go_iloadn_1 iM_restOf_0 ?_
  refine go_aloadn_0 iM_restOf_1 rfl ?_
  refine go_getI iM_restOf_2 (Or.inl rfl) (sk_43 _) ?_
  try simp (disch := omega) only [am_u_n, am_u_s, am_u_k, hmM]
  refine go_irem iM_restOf_5 hne ?_
  refine go_aloadn_0 iM_restOf_6 rfl ?_
  refine go_getI iM_restOf_7 (Or.inl rfl) (sk_43 _) ?_
  try simp (disch := omega) only [am_u_n, am_u_s, am_u_k, hmM]
  refine go_iadd iM_restOf_10 ?_
  refine go_aloadn_0 iM_restOf_11 rfl ?_
  refine go_getI iM_restOf_12 (Or.inl rfl) (sk_43 _) ?_
  try simp (disch := omega) only [am_u_n, am_u_s, am_u_k, hmM]
  refine go_irem iM_restOf_15 hne ?_
  refine go_iret iM_restOf_16 rfl ?_
  rw [hf]
theorem sp_T_restOf (hz : -70 ≤ z ∧ z ≤ 70) (hm1 : 1 ≤ m) (hm3 : m ≤ 3) (hmT : mI 0 0 = nI m) : Sp S 1 tT_restOf (am_sh n, mI, mL, am_mR n) [.ref 0, .int (zI z)] (fun q => q = (some (.int (nI (rsZ m z))), (am_sh n, mI, mL, am_mR n))) := by
  show Go _ _ tT_restOf (_, 0, [.ref 0, .int (zI z)], []) _
  refine go_aloadn_0 iT_restOf_0 rfl ?_
  refine go_getI iT_restOf_1 (Or.inl rfl) (sk_0 _) ?_
  try simp (disch := omega) only [am_u_n, am_u_s, am_u_k, hmT]
  refine go_iconst (v := nI 1) iT_restOf_4 rfl ?_
  first | refine gn_ic_ge iT_restOf_5 (by omega) (by omega) (fun c_5 => ?_) (fun c_5 => ?_) | refine go_ic_ge iT_restOf_5 (fun c_5 => ?_) (fun c_5 => ?_)
  rotate_left
  · (first | omega | exact absurd c_5 (by decide) | (exfalso; simp (disch := omega) only [Int32.lt_iff_toInt_lt, Int32.le_iff_toInt_le, ← Int32.toInt_inj, nI_toInt, i32_m1, i32_0, i32_m20, i32_m40, i32_m30, i32_m9] at *; omega))
  refine go_iloadn_1 iT_restOf_12 ?_
  refine go_aloadn_0 iT_restOf_13 rfl ?_
  refine go_getI iT_restOf_14 (Or.inl rfl) (sk_0 _) ?_
  try simp (disch := omega) only [am_u_n, am_u_s, am_u_k, hmT]
  refine gc_S1 iT_restOf_17 (by decide) rfl rfl (Nat.le_of_ble_eq_true rfl) (Nat.le_of_ble_eq_true rfl) (by decide) (sp_J_floorMod hz hm1 hm3) ?_
  refine go_iret iT_restOf_20 rfl ?_
  rfl
end FLM
