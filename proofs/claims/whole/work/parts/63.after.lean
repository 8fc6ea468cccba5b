/-! ===== after, meanAfter ===== -/
theorem wQ_le {mI : Nat → Nat → Int32} {n r s : Nat} (hs0 : 0 < s) (hw : ∀ t i, t < s → i < 3 → wR mI r t i ≤ 12) : ∀ t i, i < 3 → wQ (wR mI r) s t i ≤ 12 := fun t i hi => hw (t % s) i (Nat.mod_lt t hs0) hi
theorem sm_shift {m N : Nat} {w : Nat → Nat → Nat} {P : Int} (hN : N ≤ 9) (hP : -20 ≤ P ∧ P ≤ 20) : smZ (fun k => pz m w P N ((k : Int) - 30) * ((k : Int) - 30)) 61 = smZ (fun x => pz m w P N (P + (x : Int) - 9) * (P + (x : Int) - 9)) 19 := by
  have h1 : ∀ k, smZ (fun k => pz m w P N ((k : Int) - 30) * ((k : Int) - 30)) ((P + 21).toNat + k) = smZ (fun x => pz m w P N (P + (x : Int) - 9) * (P + (x : Int) - 9)) k := smZ_sh (fun j hj => by rw [pz_0 _ _ (by omega), Int.zero_mul]) (fun i => by rw [show (((P + 21).toNat + i : Nat) : Int) - 30 = P + (i : Int) - 9 by omega])
  have h2 : ∀ k, smZ (fun x => pz m w P N (P + (x : Int) - 9) * (P + (x : Int) - 9)) (19 + k) = smZ (fun x => pz m w P N (P + (x : Int) - 9) * (P + (x : Int) - 9)) 19 := smZ_hi (fun j hj => by rw [pz_0 _ _ (by omega), Int.zero_mul])
  have e := h1 (19 + (42 - (P + 21).toNat))
  rw [h2, show (P + 21).toNat + (19 + (42 - (P + 21).toNat)) = 61 by omega] at e
  exact e
theorem sm_bd {m N : Nat} {w : Nat → Nat → Nat} {P : Int} (h1 : 1 ≤ m) (h3 : m ≤ 3) (hN : N ≤ 9) (hP : -20 ≤ P ∧ P ≤ 20) (hw : ∀ t i, i < 3 → w t i ≤ 12) : (smZ (fun x => pz m w P N (P + (x : Int) - 9) * (P + (x : Int) - 9)) 19).natAbs < 2 ^ 62 := by
  have hb := smZ_le (f := fun x => pz m w P N (P + (x : Int) - 9) * (P + (x : Int) - 9)) (c := 76612418666496) (fun j => by
    by_cases hj : j < 19
    · have a := pz_le (P := P) h1 h3 hw N (P + (j : Int) - 9)
      have b := pw24 hN
      have c1 := Int.mul_le_mul_of_nonneg_left (show P + (j : Int) - 9 ≤ 29 by omega) a.1
      have c2 := Int.mul_le_mul_of_nonneg_left (show -29 ≤ P + (j : Int) - 9 by omega) a.1
      omega
    · rw [pz_0 _ _ (by omega), Int.zero_mul]
      decide) 19
  omega
section AFT
variable {S : am_S} {mI : Nat → Nat → Int32} {mL mL0 : Nat → Nat → Int64} {n : Nat}
theorem lo_M_mnA {f : Nat → Int} (hf : ∀ x, x < 61 → mL 58 x = zL (f x)) {x1 x2 x3 x4 : Value} {a : Int64} {Q : Option Value × am_M → Prop} (kq : Go S 4 tM_meanAfter ((am_sh n, mI, mL, am_mR n), 84, [.ref 43, x1, x2, x3, x4, .long a, am_U, .long (zL (smZ (fun k => f k * ((k : Int) - 30)) 61)), am_U, .int (nI 61)], []) Q) : ∀ l k, k + l = 61 → Go S 4 tM_meanAfter ((am_sh n, mI, mL, am_mR n), 52, [.ref 43, x1, x2, x3, x4, .long a, am_U, .long (zL (smZ (fun k => f k * ((k : Int) - 30)) k)), am_U, .int (nI k)], []) Q
  | 0, k, hi => by
    obtain rfl : k = 61 := by omega
    refine go_iload_9 iM_meanAfter_52 ?_
    refine go_bipush (v := nI 61) iM_meanAfter_54 (by decide) ?_
    first | refine gn_ic_ge iM_meanAfter_56 (by omega) (by omega) (fun c_56 => ?_) (fun c_56 => ?_) | refine go_ic_ge iM_meanAfter_56 (fun c_56 => ?_) (fun c_56 => ?_)
    rotate_left
    · (first | omega | exact absurd c_56 (by decide) | (exfalso; simp (disch := omega) only [Int32.lt_iff_toInt_lt, Int32.le_iff_toInt_le, ← Int32.toInt_inj, nI_toInt, i32_m1, i32_0, i32_m20, i32_m40, i32_m30, i32_m9] at *; omega))
    exact kq
  | l + 1, k, hi => by
    have r1 := hf k (by omega)
    refine go_iload_9 iM_meanAfter_52 ?_
    refine go_bipush (v := nI 61) iM_meanAfter_54 (by decide) ?_
    first | refine gn_ic_ge iM_meanAfter_56 (by omega) (by omega) (fun c_56 => ?_) (fun c_56 => ?_) | refine go_ic_ge iM_meanAfter_56 (fun c_56 => ?_) (fun c_56 => ?_)
    · (first | omega | exact absurd c_56 (by decide) | (exfalso; simp (disch := omega) only [Int32.lt_iff_toInt_lt, Int32.le_iff_toInt_le, ← Int32.toInt_inj, nI_toInt, i32_m1, i32_0, i32_m20, i32_m40, i32_m30, i32_m9] at *; omega))
    refine go_lload_7 iM_meanAfter_59 ?_
    refine go_aloadn_0 iM_meanAfter_61 rfl ?_
    refine go_getR iM_meanAfter_62 rfl (sk_43 _) (mR_43_27 _) ?_
    refine go_iload_9 iM_meanAfter_65 ?_
    refine go_lald iM_meanAfter_67 (sh_58 _) rfl (by omega) (by omega) ?_
    try simp (disch := omega) only [am_u_n, am_u_s, am_u_k, r1]
    refine go_iload_9 iM_meanAfter_68 ?_
    refine go_bipush (v := nI 30) iM_meanAfter_70 (by decide) ?_
    refine gk_isub iM_meanAfter_72 ?_
    refine gz_i2lz iM_meanAfter_73 (by omega) ?_
    first | refine gz_lmul iM_meanAfter_74 ?_ | refine go_lmul iM_meanAfter_74 ?_
    first | refine gz_ladd iM_meanAfter_75 ?_ | refine go_ladd iM_meanAfter_75 ?_
    refine go_lstore_7 iM_meanAfter_76 (by simp [Value.category, am_U]) ?_
    first | refine go_iinc_9 iM_meanAfter_78 (ni_inc _ 1) (by simp [Value.category, am_U]) ?_ | refine go_iinc_9 iM_meanAfter_78 rfl (by simp [Value.category, am_U]) ?_
    refine go_goto iM_meanAfter_81 ?_
    exact lo_M_mnA hf kq l (k + 1) (by omega)
theorem pr_after (x y z e : Int32) (hR : Rel n mI mL) : Pair S tT_after tM_after [.int x, .int y, .int z, .int e] n mI mL := by
  have hR0 := hR
  obtain ⟨h8, ⟨m, hm1, hm3, hmT, hmM⟩, hcT, hcM, hpl, hro, hfi, hfs, hu, hl, hch⟩ := hR
  obtain ⟨P, b1, rfl⟩ := zI_ex y
  obtain ⟨th, b2, rfl⟩ := zI_ex e
  rcases int_cases z 9 (by decide) with ⟨N, hN, rfl⟩ | hz
  · by_cases hP : -20 ≤ P ∧ P ≤ 20
    · by_cases hT : -40 ≤ th ∧ th ≤ 40
      · rcases row_cases x with ⟨r, hr, rfl⟩ | hx
        · obtain ⟨⟨s1, s2⟩ | ⟨s, hs4, s1, s2⟩, hpc⟩ := hro r hr
          · refine Pair.refuse (h1 := 4) (h2 := 4) (f := 1) hR0 (by decide) ?_ ?_
            · show Go _ _ tT_after (_, 0, [.ref 0, .int (nI r), .int (zI P), .int (nI N), .int (zI th), am_U, am_U], []) _
              refine go_aloadn_0 iT_after_0 rfl ?_
              refine go_iloadn_1 iT_after_1 ?_
              refine gc_V1 iT_after_2 rfl (by decide) (sk_0 _) rfl (Nat.le_of_ble_eq_true rfl) (Nat.le_of_ble_eq_true rfl) (by decide) (sp_T_rowAt_t hr) ?_
              refine go_astore_5 iT_after_5 rfl (by simp [Value.category, am_U]) ?_
              refine go_aload_5 iT_after_7 rfl ?_
              refine go_nulR iT_after_9 ?_
              refine go_iloadn_3 iT_after_12 ?_
              refine gc_S1 iT_after_13 (by decide) rfl rfl (Nat.le_of_ble_eq_true rfl) (Nat.le_of_ble_eq_true rfl) (by decide) (sp_T_areTurns_t hN) ?_
              refine go_if_eq iT_after_16 (fun c_16 => ?_) (fun c_16 => ?_)
              · (first | omega | exact absurd c_16 (by decide) | (exfalso; simp (disch := omega) only [Int32.lt_iff_toInt_lt, Int32.le_iff_toInt_le, ← Int32.toInt_inj, nI_toInt, i32_m1, i32_0, i32_m20, i32_m40, i32_m30, i32_m9] at *; omega))
              refine go_iloadn_2 iT_after_19 ?_
              refine gc_S1 iT_after_20 (by decide) rfl rfl (Nat.le_of_ble_eq_true rfl) (Nat.le_of_ble_eq_true rfl) (by decide) (sp_T_isFirstPurse_t (by rw [zI_toInt (by omega)]; omega) (by rw [zI_toInt (by omega)]; omega)) ?_
              refine go_if_eq iT_after_23 (fun c_23 => ?_) (fun c_23 => ?_)
              · (first | omega | exact absurd c_23 (by decide) | (exfalso; simp (disch := omega) only [Int32.lt_iff_toInt_lt, Int32.le_iff_toInt_le, ← Int32.toInt_inj, nI_toInt, i32_m1, i32_0, i32_m20, i32_m40, i32_m30, i32_m9] at *; omega))
              refine go_iload_4 iT_after_26 ?_
              refine gc_S1 iT_after_28 (by decide) rfl rfl (Nat.le_of_ble_eq_true rfl) (Nat.le_of_ble_eq_true rfl) (by decide) (sp_T_isLaterPurse_t (by rw [zI_toInt (by omega)]; omega) (by rw [zI_toInt (by omega)]; omega)) ?_
              refine go_if_ne iT_after_31 (fun c_31 => ?_) (fun c_31 => ?_)
              rotate_left
              · (first | omega | exact absurd c_31 (by decide) | (exfalso; simp (disch := omega) only [Int32.lt_iff_toInt_lt, Int32.le_iff_toInt_le, ← Int32.toInt_inj, nI_toInt, i32_m1, i32_0, i32_m20, i32_m40, i32_m30, i32_m9] at *; omega))
              refine go_aloadn_0 iT_after_36 rfl ?_
              refine go_aload_5 iT_after_37 rfl ?_
              refine gc_V1 iT_after_39 rfl (by decide) (sk_0 _) rfl (Nat.le_of_ble_eq_true rfl) (Nat.le_of_ble_eq_true rfl) (by decide) (sp_T_refusal_m hr s1) ?_
              refine go_istore_6 iT_after_42 (by simp [Value.category, am_U]) ?_
              refine go_iload_6 iT_after_44 ?_
              refine go_if_eq iT_after_46 (fun c_46 => ?_) (fun c_46 => ?_)
              · (first | omega | exact absurd c_46 (by decide) | (exfalso; simp (disch := omega) only [Int32.lt_iff_toInt_lt, Int32.le_iff_toInt_le, ← Int32.toInt_inj, nI_toInt, i32_m1, i32_0, i32_m20, i32_m40, i32_m30, i32_m9] at *; omega))
              refine go_iload_6 iT_after_49 ?_
              refine go_iret iT_after_51 rfl ?_
              rfl
            · have hq : ∀ a, 42 < a → rfI mI 1 a = mI a := fun a ha => rfI_r (by omega) (by omega)
              show Go _ _ tM_after (_, 0, [.ref 43, .int (nI r), .int (zI P), .int (nI N), .int (zI th), am_U, am_U, am_U], []) _
              refine go_iloadn_3 iM_after_0 ?_
              refine go_iconst (v := nI 0) iM_after_1 rfl ?_
              refine go_bipush (v := nI 9) iM_after_2 (by decide) ?_
              refine gc_S1 iM_after_4 (by decide) rfl rfl (Nat.le_of_ble_eq_true rfl) (Nat.le_of_ble_eq_true rfl) (by decide) (sp_M_in_t (by simp (disch := omega) only [nI_toInt, zI_toInt, i32_m20, i32_m40, i32_m30, i32_0, i32_m1]; omega) (by simp (disch := omega) only [nI_toInt, zI_toInt, i32_m20, i32_m40, i32_m30, i32_0, i32_m1]; omega)) ?_
              refine go_if_eq iM_after_7 (fun c_7 => ?_) (fun c_7 => ?_)
              · (first | omega | exact absurd c_7 (by decide) | (exfalso; simp (disch := omega) only [Int32.lt_iff_toInt_lt, Int32.le_iff_toInt_le, ← Int32.toInt_inj, nI_toInt, i32_m1, i32_0, i32_m20, i32_m40, i32_m30, i32_m9] at *; omega))
              refine go_iloadn_2 iM_after_10 ?_
              refine go_bipush (v := (-20)) iM_after_11 (by decide) ?_
              refine go_bipush (v := nI 20) iM_after_13 (by decide) ?_
              refine gc_S1 iM_after_15 (by decide) rfl rfl (Nat.le_of_ble_eq_true rfl) (Nat.le_of_ble_eq_true rfl) (by decide) (sp_M_in_t (by simp (disch := omega) only [nI_toInt, zI_toInt, i32_m20, i32_m40, i32_m30, i32_0, i32_m1]; omega) (by simp (disch := omega) only [nI_toInt, zI_toInt, i32_m20, i32_m40, i32_m30, i32_0, i32_m1]; omega)) ?_
              refine go_if_eq iM_after_18 (fun c_18 => ?_) (fun c_18 => ?_)
              · (first | omega | exact absurd c_18 (by decide) | (exfalso; simp (disch := omega) only [Int32.lt_iff_toInt_lt, Int32.le_iff_toInt_le, ← Int32.toInt_inj, nI_toInt, i32_m1, i32_0, i32_m20, i32_m40, i32_m30, i32_m9] at *; omega))
              refine go_iload_4 iM_after_21 ?_
              refine go_bipush (v := (-40)) iM_after_23 (by decide) ?_
              refine go_bipush (v := nI 40) iM_after_25 (by decide) ?_
              refine gc_S1 iM_after_27 (by decide) rfl rfl (Nat.le_of_ble_eq_true rfl) (Nat.le_of_ble_eq_true rfl) (by decide) (sp_M_in_t (by simp (disch := omega) only [nI_toInt, zI_toInt, i32_m20, i32_m40, i32_m30, i32_0, i32_m1]; omega) (by simp (disch := omega) only [nI_toInt, zI_toInt, i32_m20, i32_m40, i32_m30, i32_0, i32_m1]; omega)) ?_
              refine go_if_ne iM_after_30 (fun c_30 => ?_) (fun c_30 => ?_)
              rotate_left
              · (first | omega | exact absurd c_30 (by decide) | (exfalso; simp (disch := omega) only [Int32.lt_iff_toInt_lt, Int32.le_iff_toInt_le, ← Int32.toInt_inj, nI_toInt, i32_m1, i32_0, i32_m20, i32_m40, i32_m30, i32_m9] at *; omega))
              refine go_aloadn_0 iM_after_35 rfl ?_
              refine go_iloadn_1 iM_after_36 ?_
              refine gc_V1 iM_after_37 rfl (by decide) (sk_43 _) rfl (Nat.le_of_ble_eq_true rfl) (Nat.le_of_ble_eq_true rfl) (by decide) (sp_M_asked_m hr (by rw [hq 47 (by omega)]; exact s2)) ?_
              refine go_istore_5 iM_after_40 (by simp [Value.category, am_U]) ?_
              refine go_iload_5 iM_after_42 ?_
              refine go_if_ge iM_after_44 (fun c_44 => ?_) (fun c_44 => ?_)
              · (first | omega | exact absurd c_44 (by decide) | (exfalso; simp (disch := omega) only [Int32.lt_iff_toInt_lt, Int32.le_iff_toInt_le, ← Int32.toInt_inj, nI_toInt, i32_m1, i32_0, i32_m20, i32_m40, i32_m30, i32_m9] at *; omega))
              refine go_iload_5 iM_after_47 ?_
              refine go_iret iM_after_49 rfl ?_
              rfl
          · have hcg := ftN_congr (mI := mI) (n := n) (s := s) (g := mI (16 + 2 * r)) (g' := fun j => mI 48 (4 * r + j)) (fun j hj => hpc j (by omega))
            rcases ftN_01 (mI := mI) (n := n) (s := s) (g := fun j => mI 48 (4 * r + j)) with hft | hft
            · refine Pair.refuse (h1 := 4) (h2 := 4) (f := 3) hR0 (by decide) ?_ ?_
              · show Go _ _ tT_after (_, 0, [.ref 0, .int (nI r), .int (zI P), .int (nI N), .int (zI th), am_U, am_U], []) _
                refine go_aloadn_0 iT_after_0 rfl ?_
                refine go_iloadn_1 iT_after_1 ?_
                refine gc_V1 iT_after_2 rfl (by decide) (sk_0 _) rfl (Nat.le_of_ble_eq_true rfl) (Nat.le_of_ble_eq_true rfl) (by decide) (sp_T_rowAt_t hr) ?_
                refine go_astore_5 iT_after_5 rfl (by simp [Value.category, am_U]) ?_
                refine go_aload_5 iT_after_7 rfl ?_
                refine go_nulR iT_after_9 ?_
                refine go_iloadn_3 iT_after_12 ?_
                refine gc_S1 iT_after_13 (by decide) rfl rfl (Nat.le_of_ble_eq_true rfl) (Nat.le_of_ble_eq_true rfl) (by decide) (sp_T_areTurns_t hN) ?_
                refine go_if_eq iT_after_16 (fun c_16 => ?_) (fun c_16 => ?_)
                · (first | omega | exact absurd c_16 (by decide) | (exfalso; simp (disch := omega) only [Int32.lt_iff_toInt_lt, Int32.le_iff_toInt_le, ← Int32.toInt_inj, nI_toInt, i32_m1, i32_0, i32_m20, i32_m40, i32_m30, i32_m9] at *; omega))
                refine go_iloadn_2 iT_after_19 ?_
                refine gc_S1 iT_after_20 (by decide) rfl rfl (Nat.le_of_ble_eq_true rfl) (Nat.le_of_ble_eq_true rfl) (by decide) (sp_T_isFirstPurse_t (by rw [zI_toInt (by omega)]; omega) (by rw [zI_toInt (by omega)]; omega)) ?_
                refine go_if_eq iT_after_23 (fun c_23 => ?_) (fun c_23 => ?_)
                · (first | omega | exact absurd c_23 (by decide) | (exfalso; simp (disch := omega) only [Int32.lt_iff_toInt_lt, Int32.le_iff_toInt_le, ← Int32.toInt_inj, nI_toInt, i32_m1, i32_0, i32_m20, i32_m40, i32_m30, i32_m9] at *; omega))
                refine go_iload_4 iT_after_26 ?_
                refine gc_S1 iT_after_28 (by decide) rfl rfl (Nat.le_of_ble_eq_true rfl) (Nat.le_of_ble_eq_true rfl) (by decide) (sp_T_isLaterPurse_t (by rw [zI_toInt (by omega)]; omega) (by rw [zI_toInt (by omega)]; omega)) ?_
                refine go_if_ne iT_after_31 (fun c_31 => ?_) (fun c_31 => ?_)
                rotate_left
                · (first | omega | exact absurd c_31 (by decide) | (exfalso; simp (disch := omega) only [Int32.lt_iff_toInt_lt, Int32.le_iff_toInt_le, ← Int32.toInt_inj, nI_toInt, i32_m1, i32_0, i32_m20, i32_m40, i32_m30, i32_m9] at *; omega))
                refine go_aloadn_0 iT_after_36 rfl ?_
                refine go_aload_5 iT_after_37 rfl ?_
                refine gc_V1 iT_after_39 rfl (by decide) (sk_0 _) rfl (Nat.le_of_ble_eq_true rfl) (Nat.le_of_ble_eq_true rfl) (by decide) (sp_T_refusal_u hr s1 hs4 h8 hcT hpl (hcg.trans hft)) ?_
                refine go_istore_6 iT_after_42 (by simp [Value.category, am_U]) ?_
                refine go_iload_6 iT_after_44 ?_
                refine go_if_eq iT_after_46 (fun c_46 => ?_) (fun c_46 => ?_)
                · (first | omega | exact absurd c_46 (by decide) | (exfalso; simp (disch := omega) only [Int32.lt_iff_toInt_lt, Int32.le_iff_toInt_le, ← Int32.toInt_inj, nI_toInt, i32_m1, i32_0, i32_m20, i32_m40, i32_m30, i32_m9] at *; omega))
                refine go_iload_6 iT_after_49 ?_
                refine go_iret iT_after_51 rfl ?_
                rfl
              · have hq : ∀ a, 42 < a → rfI mI 3 a = mI a := fun a ha => rfI_r (by omega) (by omega)
                show Go _ _ tM_after (_, 0, [.ref 43, .int (nI r), .int (zI P), .int (nI N), .int (zI th), am_U, am_U, am_U], []) _
                refine go_iloadn_3 iM_after_0 ?_
                refine go_iconst (v := nI 0) iM_after_1 rfl ?_
                refine go_bipush (v := nI 9) iM_after_2 (by decide) ?_
                refine gc_S1 iM_after_4 (by decide) rfl rfl (Nat.le_of_ble_eq_true rfl) (Nat.le_of_ble_eq_true rfl) (by decide) (sp_M_in_t (by simp (disch := omega) only [nI_toInt, zI_toInt, i32_m20, i32_m40, i32_m30, i32_0, i32_m1]; omega) (by simp (disch := omega) only [nI_toInt, zI_toInt, i32_m20, i32_m40, i32_m30, i32_0, i32_m1]; omega)) ?_
                refine go_if_eq iM_after_7 (fun c_7 => ?_) (fun c_7 => ?_)
                · (first | omega | exact absurd c_7 (by decide) | (exfalso; simp (disch := omega) only [Int32.lt_iff_toInt_lt, Int32.le_iff_toInt_le, ← Int32.toInt_inj, nI_toInt, i32_m1, i32_0, i32_m20, i32_m40, i32_m30, i32_m9] at *; omega))
                refine go_iloadn_2 iM_after_10 ?_
                refine go_bipush (v := (-20)) iM_after_11 (by decide) ?_
                refine go_bipush (v := nI 20) iM_after_13 (by decide) ?_
                refine gc_S1 iM_after_15 (by decide) rfl rfl (Nat.le_of_ble_eq_true rfl) (Nat.le_of_ble_eq_true rfl) (by decide) (sp_M_in_t (by simp (disch := omega) only [nI_toInt, zI_toInt, i32_m20, i32_m40, i32_m30, i32_0, i32_m1]; omega) (by simp (disch := omega) only [nI_toInt, zI_toInt, i32_m20, i32_m40, i32_m30, i32_0, i32_m1]; omega)) ?_
                refine go_if_eq iM_after_18 (fun c_18 => ?_) (fun c_18 => ?_)
                · (first | omega | exact absurd c_18 (by decide) | (exfalso; simp (disch := omega) only [Int32.lt_iff_toInt_lt, Int32.le_iff_toInt_le, ← Int32.toInt_inj, nI_toInt, i32_m1, i32_0, i32_m20, i32_m40, i32_m30, i32_m9] at *; omega))
                refine go_iload_4 iM_after_21 ?_
                refine go_bipush (v := (-40)) iM_after_23 (by decide) ?_
                refine go_bipush (v := nI 40) iM_after_25 (by decide) ?_
                refine gc_S1 iM_after_27 (by decide) rfl rfl (Nat.le_of_ble_eq_true rfl) (Nat.le_of_ble_eq_true rfl) (by decide) (sp_M_in_t (by simp (disch := omega) only [nI_toInt, zI_toInt, i32_m20, i32_m40, i32_m30, i32_0, i32_m1]; omega) (by simp (disch := omega) only [nI_toInt, zI_toInt, i32_m20, i32_m40, i32_m30, i32_0, i32_m1]; omega)) ?_
                refine go_if_ne iM_after_30 (fun c_30 => ?_) (fun c_30 => ?_)
                rotate_left
                · (first | omega | exact absurd c_30 (by decide) | (exfalso; simp (disch := omega) only [Int32.lt_iff_toInt_lt, Int32.le_iff_toInt_le, ← Int32.toInt_inj, nI_toInt, i32_m1, i32_0, i32_m20, i32_m40, i32_m30, i32_m9] at *; omega))
                refine go_aloadn_0 iM_after_35 rfl ?_
                refine go_iloadn_1 iM_after_36 ?_
                refine gc_V1 iM_after_37 rfl (by decide) (sk_43 _) rfl (Nat.le_of_ble_eq_true rfl) (Nat.le_of_ble_eq_true rfl) (by decide) (sp_M_asked_u hr (by rw [hq 47 (by omega)]; exact s2) hs4 h8 (by rw [hq 43 (by omega)]; exact hcM) (fun p hp => (hpl p hp).of (hq _ (by omega)) (hq _ (by omega)) (by rw [hq 45 (by omega)]) (fun j _ => by rw [hq 46 (by omega)])) ((ftN_fr hq).trans hft)) ?_
                refine go_istore_5 iM_after_40 (by simp [Value.category, am_U]) ?_
                refine go_iload_5 iM_after_42 ?_
                refine go_if_ge iM_after_44 (fun c_44 => ?_) (fun c_44 => ?_)
                · (first | omega | exact absurd c_44 (by decide) | (exfalso; simp (disch := omega) only [Int32.lt_iff_toInt_lt, Int32.le_iff_toInt_le, ← Int32.toInt_inj, nI_toInt, i32_m1, i32_0, i32_m20, i32_m40, i32_m30, i32_m9] at *; omega))
                refine go_iload_5 iM_after_47 ?_
                refine go_iret iM_after_49 rfl ?_
                rfl
            · obtain ⟨s0, hps⟩ := fit_ps h8 hft
              have hw12 : ∀ t i, t < s → i < 3 → wR mI r t i ≤ 12 := fun t i ht hi => ((odN_ok (hpl _ (hps t ht).2.1)).1 i (by omega)).2
              have hwq := wQ_le (n := n) s0 hw12
              have hV0 := pz_le (P := P) hm1 hm3 hwq N th
              have hV1 := pw24 hN
              have hV : (pz m (wQ (wR mI r) s) P N th).natAbs < 2 ^ 62 := by omega
              have l0 : 0 < 12 ^ N := Nat.pow_pos (by omega)
              have l1 := pw12_le (show N ≤ 12 by omega)
              refine Pair.ex (h1 := 4) (h2 := 4) (v := .int (nI 1)) (P := fun mI1 mL1 => FrC mI mI1 mL mL1 ∧ mL1 4 0 = zL (fU (pz m (wQ (wR mI r) s) P N th) (12 ^ N)) ∧ mL1 4 1 = zL (fL (pz m (wQ (wR mI r) s) P N th) (12 ^ N))) ?_ (fun mI1 mL1 hP1 => ?_)
              · unfold Ex
                show Go _ _ tT_after (_, 0, [.ref 0, .int (nI r), .int (zI P), .int (nI N), .int (zI th), am_U, am_U], []) _
                refine go_aloadn_0 iT_after_0 rfl ?_
                refine go_iloadn_1 iT_after_1 ?_
                refine gc_V1 iT_after_2 rfl (by decide) (sk_0 _) rfl (Nat.le_of_ble_eq_true rfl) (Nat.le_of_ble_eq_true rfl) (by decide) (sp_T_rowAt_t hr) ?_
                refine go_astore_5 iT_after_5 rfl (by simp [Value.category, am_U]) ?_
                refine go_aload_5 iT_after_7 rfl ?_
                refine go_nulR iT_after_9 ?_
                refine go_iloadn_3 iT_after_12 ?_
                refine gc_S1 iT_after_13 (by decide) rfl rfl (Nat.le_of_ble_eq_true rfl) (Nat.le_of_ble_eq_true rfl) (by decide) (sp_T_areTurns_t hN) ?_
                refine go_if_eq iT_after_16 (fun c_16 => ?_) (fun c_16 => ?_)
                · (first | omega | exact absurd c_16 (by decide) | (exfalso; simp (disch := omega) only [Int32.lt_iff_toInt_lt, Int32.le_iff_toInt_le, ← Int32.toInt_inj, nI_toInt, i32_m1, i32_0, i32_m20, i32_m40, i32_m30, i32_m9] at *; omega))
                refine go_iloadn_2 iT_after_19 ?_
                refine gc_S1 iT_after_20 (by decide) rfl rfl (Nat.le_of_ble_eq_true rfl) (Nat.le_of_ble_eq_true rfl) (by decide) (sp_T_isFirstPurse_t (by rw [zI_toInt (by omega)]; omega) (by rw [zI_toInt (by omega)]; omega)) ?_
                refine go_if_eq iT_after_23 (fun c_23 => ?_) (fun c_23 => ?_)
                · (first | omega | exact absurd c_23 (by decide) | (exfalso; simp (disch := omega) only [Int32.lt_iff_toInt_lt, Int32.le_iff_toInt_le, ← Int32.toInt_inj, nI_toInt, i32_m1, i32_0, i32_m20, i32_m40, i32_m30, i32_m9] at *; omega))
                refine go_iload_4 iT_after_26 ?_
                refine gc_S1 iT_after_28 (by decide) rfl rfl (Nat.le_of_ble_eq_true rfl) (Nat.le_of_ble_eq_true rfl) (by decide) (sp_T_isLaterPurse_t (by rw [zI_toInt (by omega)]; omega) (by rw [zI_toInt (by omega)]; omega)) ?_
                refine go_if_ne iT_after_31 (fun c_31 => ?_) (fun c_31 => ?_)
                rotate_left
                · (first | omega | exact absurd c_31 (by decide) | (exfalso; simp (disch := omega) only [Int32.lt_iff_toInt_lt, Int32.le_iff_toInt_le, ← Int32.toInt_inj, nI_toInt, i32_m1, i32_0, i32_m20, i32_m40, i32_m30, i32_m9] at *; omega))
                refine go_aloadn_0 iT_after_36 rfl ?_
                refine go_aload_5 iT_after_37 rfl ?_
                refine gc_V1 iT_after_39 rfl (by decide) (sk_0 _) rfl (Nat.le_of_ble_eq_true rfl) (Nat.le_of_ble_eq_true rfl) (by decide) (sp_T_refusal_t hr s1 hs4 h8 hcT hpl (hcg.trans hft)) ?_
                refine go_istore_6 iT_after_42 (by simp [Value.category, am_U]) ?_
                refine go_iload_6 iT_after_44 ?_
                refine go_if_eq iT_after_46 (fun c_46 => ?_) (fun c_46 => ?_)
                rotate_left
                · (first | omega | exact absurd c_46 (by decide) | (exfalso; simp (disch := omega) only [Int32.lt_iff_toInt_lt, Int32.le_iff_toInt_le, ← Int32.toInt_inj, nI_toInt, i32_m1, i32_0, i32_m20, i32_m40, i32_m30, i32_m9] at *; omega))
                refine go_aloadn_0 iT_after_52 rfl ?_
                refine go_aload_5 iT_after_53 rfl ?_
                refine go_iloadn_2 iT_after_55 ?_
                refine go_iloadn_3 iT_after_56 ?_
                refine gx_V0 iT_after_57 rfl (by decide) (sk_0 _) rfl (Nat.le_of_ble_eq_true rfl) (Nat.le_of_ble_eq_true rfl) (by decide) (ex_T_spread (ps := psN (fun j => mI 48 (4 * r + j))) h8 hm1 hm3 s0 hs4 hr hN hP hmT hcT s1 (fun i hi => ⟨by rw [hpc i (by omega)]; exact (hps i hi).1, (hps i hi).2.1⟩) hpl) (fun mI57_ mL57_ h57_ => ?_)
                obtain ⟨e1, e2⟩ := h57_
                have q2 := e1.2.2.1
                refine go_aloadn_0 iT_after_60 rfl ?_
                refine go_getR iT_after_61 rfl (sk_0 _) (mR_0_6 _) ?_
                refine go_aloadn_0 iT_after_64 rfl ?_
                refine go_getR iT_after_65 rfl (sk_0 _) (mR_0_13 _) ?_
                refine go_iload_4 iT_after_68 ?_
                refine gc_V1 iT_after_70 rfl (by decide) (sk_13 _) rfl (Nat.le_of_ble_eq_true rfl) (Nat.le_of_ble_eq_true rfl) (by decide) (sp_U_chanceOf hN hP hT e1) ?_
                refine go_aloadn_0 iT_after_73 rfl ?_
                refine go_getR iT_after_74 rfl (sk_0 _) (mR_0_13 _) ?_
                refine go_getL iT_after_77 rfl (sk_13 _) ?_
                try simp (disch := omega) only [am_u_n, am_u_s, am_u_k, q2]
                refine gc_V0 iT_after_80 rfl (by decide) (sk_4 _) rfl (Nat.le_of_ble_eq_true rfl) (Nat.le_of_ble_eq_true rfl) (by decide) (sp_F_tell (u := (pz m (wQ (wR mI r) s) P N th)) (l := 12 ^ N) hV l0 (by omega)) ?_
                refine go_iconst (v := nI 1) iT_after_83 rfl ?_
                refine go_iret iT_after_84 rfl ?_
                refine ex_i ⟨⟨fun a ha => e2.1 a (by omega), fun a ha h4 => ?_⟩, ?_, ?_⟩
                · rw [am_u_r h4, am_u_r h4]; exact e2.2 a (by omega) (by omega)
                · rw [am_u_k (by decide), am_u_s]
                · rw [am_u_s]
              · obtain ⟨k1, k2, k3⟩ := hP1
                have hq : ∀ a, 42 < a → mI1 a = mI a := fun a ha => k1.1 a (by omega)
                have hmM2 : mI1 43 4 = nI m := by rw [hq 43 (by omega)]; exact hmM
                have has := ex_M_asked (S := S) (mL := mL1) hr (by rw [hq 47 (by omega)]; exact s2) hs4 h8 (by rw [hq 43 (by omega)]; exact hcM) (fun p hp => (hpl p hp).of (hq _ (by omega)) (hq _ (by omega)) (by rw [hq 45 (by omega)]) (fun j _ => by rw [hq 46 (by omega)])) ((ftN_fr hq).trans hft)
                rw [show (fun t => odN mI1 (psN (fun j => mI1 48 (4 * r + j)) t)) = wR mI r from wR_fr hq] at has
                unfold Ex
                show Go _ _ tM_after (_, 0, [.ref 43, .int (nI r), .int (zI P), .int (nI N), .int (zI th), am_U, am_U, am_U], []) _
                have hA := sh_58 n
                by_cases ct : -30 ≤ th ∧ th ≤ 30
                · refine go_iloadn_3 iM_after_0 ?_
                  refine go_iconst (v := nI 0) iM_after_1 rfl ?_
                  refine go_bipush (v := nI 9) iM_after_2 (by decide) ?_
                  refine gc_S1 iM_after_4 (by decide) rfl rfl (Nat.le_of_ble_eq_true rfl) (Nat.le_of_ble_eq_true rfl) (by decide) (sp_M_in_t (by simp (disch := omega) only [nI_toInt, zI_toInt, i32_m20, i32_m40, i32_m30, i32_0, i32_m1]; omega) (by simp (disch := omega) only [nI_toInt, zI_toInt, i32_m20, i32_m40, i32_m30, i32_0, i32_m1]; omega)) ?_
                  refine go_if_eq iM_after_7 (fun c_7 => ?_) (fun c_7 => ?_)
                  · (first | omega | exact absurd c_7 (by decide) | (exfalso; simp (disch := omega) only [Int32.lt_iff_toInt_lt, Int32.le_iff_toInt_le, ← Int32.toInt_inj, nI_toInt, i32_m1, i32_0, i32_m20, i32_m40, i32_m30, i32_m9] at *; omega))
                  refine go_iloadn_2 iM_after_10 ?_
                  refine go_bipush (v := (-20)) iM_after_11 (by decide) ?_
                  refine go_bipush (v := nI 20) iM_after_13 (by decide) ?_
                  refine gc_S1 iM_after_15 (by decide) rfl rfl (Nat.le_of_ble_eq_true rfl) (Nat.le_of_ble_eq_true rfl) (by decide) (sp_M_in_t (by simp (disch := omega) only [nI_toInt, zI_toInt, i32_m20, i32_m40, i32_m30, i32_0, i32_m1]; omega) (by simp (disch := omega) only [nI_toInt, zI_toInt, i32_m20, i32_m40, i32_m30, i32_0, i32_m1]; omega)) ?_
                  refine go_if_eq iM_after_18 (fun c_18 => ?_) (fun c_18 => ?_)
                  · (first | omega | exact absurd c_18 (by decide) | (exfalso; simp (disch := omega) only [Int32.lt_iff_toInt_lt, Int32.le_iff_toInt_le, ← Int32.toInt_inj, nI_toInt, i32_m1, i32_0, i32_m20, i32_m40, i32_m30, i32_m9] at *; omega))
                  refine go_iload_4 iM_after_21 ?_
                  refine go_bipush (v := (-40)) iM_after_23 (by decide) ?_
                  refine go_bipush (v := nI 40) iM_after_25 (by decide) ?_
                  refine gc_S1 iM_after_27 (by decide) rfl rfl (Nat.le_of_ble_eq_true rfl) (Nat.le_of_ble_eq_true rfl) (by decide) (sp_M_in_t (by simp (disch := omega) only [nI_toInt, zI_toInt, i32_m20, i32_m40, i32_m30, i32_0, i32_m1]; omega) (by simp (disch := omega) only [nI_toInt, zI_toInt, i32_m20, i32_m40, i32_m30, i32_0, i32_m1]; omega)) ?_
                  refine go_if_ne iM_after_30 (fun c_30 => ?_) (fun c_30 => ?_)
                  rotate_left
                  · (first | omega | exact absurd c_30 (by decide) | (exfalso; simp (disch := omega) only [Int32.lt_iff_toInt_lt, Int32.le_iff_toInt_le, ← Int32.toInt_inj, nI_toInt, i32_m1, i32_0, i32_m20, i32_m40, i32_m30, i32_m9] at *; omega))
                  refine go_aloadn_0 iM_after_35 rfl ?_
                  refine go_iloadn_1 iM_after_36 ?_
                  refine gx_V1 iM_after_37 rfl (by decide) (sk_43 _) rfl (Nat.le_of_ble_eq_true rfl) (Nat.le_of_ble_eq_true rfl) (by decide) has (fun mI37_ mL37_ h37_ => ?_)
                  obtain ⟨a1, a2, a3, a4, a5⟩ := h37_
                  subst mI37_
                  refine go_istore_5 iM_after_40 (by simp [Value.category, am_U]) ?_
                  refine go_iload_5 iM_after_42 ?_
                  refine go_if_ge iM_after_44 (fun c_44 => ?_) (fun c_44 => ?_)
                  rotate_left
                  · (first | omega | exact absurd c_44 (by decide) | (exfalso; simp (disch := omega) only [Int32.lt_iff_toInt_lt, Int32.le_iff_toInt_le, ← Int32.toInt_inj, nI_toInt, i32_m1, i32_0, i32_m20, i32_m40, i32_m30, i32_m9] at *; omega))
                  refine go_aloadn_0 iM_after_50 rfl ?_
                  refine go_iloadn_2 iM_after_51 ?_
                  refine go_iloadn_3 iM_after_52 ?_
                  refine gx_V1 iM_after_53 rfl (by decide) (sk_43 _) rfl (Nat.le_of_ble_eq_true rfl) (Nat.le_of_ble_eq_true rfl) (by decide) (ex_M_setPurses (w := wR mI r) hm1 hm3 s0 hs4 hN hP (by rw [am_u_k (by decide)]; exact hmM2) am_u_s a5 hw12) (fun mI53_ mL53_ h53_ => ?_)
                  obtain ⟨b0, c1, c2⟩ := h53_
                  subst mI53_
                  have q3 := c2 (th + 30).toNat (by omega)
                  rw [show (((th + 30).toNat : Nat) : Int) - 30 = th by omega] at q3
                  refine go_lstore_6 iM_after_56 (by simp [Value.category, am_U]) ?_
                  refine go_aloadn_0 iM_after_58 rfl ?_
                  refine go_iload_4 iM_after_59 ?_
                  refine go_bipush (v := (-30)) iM_after_61 (by decide) ?_
                  refine go_bipush (v := nI 30) iM_after_63 (by decide) ?_
                  refine gc_S1 iM_after_65 (by decide) rfl rfl (Nat.le_of_ble_eq_true rfl) (Nat.le_of_ble_eq_true rfl) (by decide) (sp_M_in_t (by simp (disch := omega) only [nI_toInt, zI_toInt, i32_m20, i32_m40, i32_m30, i32_0, i32_m1]; omega) (by simp (disch := omega) only [nI_toInt, zI_toInt, i32_m20, i32_m40, i32_m30, i32_0, i32_m1]; omega)) ?_
                  refine go_if_eq iM_after_68 (fun c_68 => ?_) (fun c_68 => ?_)
                  · (first | omega | exact absurd c_68 (by decide) | (exfalso; simp (disch := omega) only [Int32.lt_iff_toInt_lt, Int32.le_iff_toInt_le, ← Int32.toInt_inj, nI_toInt, i32_m1, i32_0, i32_m20, i32_m40, i32_m30, i32_m9] at *; omega))
                  refine go_aloadn_0 iM_after_71 rfl ?_
                  refine go_getR iM_after_72 rfl (sk_43 _) (mR_43_27 _) ?_
                  refine go_iload_4 iM_after_75 ?_
                  refine go_bipush (v := nI 30) iM_after_77 (by decide) ?_
                  first | refine gn_iadd iM_after_79 ?_ | refine gm_iadd iM_after_79 ?_ | refine gi_iadd iM_after_79 ?_ | refine go_iadd iM_after_79 ?_
                  rw [show zI (th + ((30 : Nat) : Int)) = nI (th + 30).toNat from zI_nI (by omega)]
                  refine go_lald iM_after_80 (by assumption) rfl (by omega) (by omega) ?_
                  refine go_goto iM_after_81 ?_
                  rw [q3]
                  refine go_lload_6 iM_after_85 ?_
                  refine go_iconst (v := nI 1) iM_after_87 rfl ?_
                  refine gc_V1 iM_after_88 rfl (by decide) (sk_43 _) rfl (Nat.le_of_ble_eq_true rfl) (Nat.le_of_ble_eq_true rfl) (by decide) (sp_M_tell (u := (pz m (wQ (wR mI r) s) P N th)) (l := 12 ^ N) hV l0 (by omega)) ?_
                  refine go_iret iM_after_91 rfl ?_
                  refine ex_i (hR0.keep k1 ⟨fun a e1 e2 e3 => by rw [am_u_r e1], fun y hy => by rw [am_u_k hy], fun a ha => ?_⟩ ?_ ?_)
                  · rw [am_u_r (by omega), am_u_r (by omega), c1 a (by omega) (by omega)]; exact a2 a (by omega) (by omega)
                  · rw [am_u_k (by decide), am_u_s]; exact k2
                  · rw [am_u_s]; exact k3
                · have hz0 : zL 0 = zL (pz m (wQ (wR mI r) s) P N th) := by rw [pz_0 N th (by omega)]
                  refine go_iloadn_3 iM_after_0 ?_
                  refine go_iconst (v := nI 0) iM_after_1 rfl ?_
                  refine go_bipush (v := nI 9) iM_after_2 (by decide) ?_
                  refine gc_S1 iM_after_4 (by decide) rfl rfl (Nat.le_of_ble_eq_true rfl) (Nat.le_of_ble_eq_true rfl) (by decide) (sp_M_in_t (by simp (disch := omega) only [nI_toInt, zI_toInt, i32_m20, i32_m40, i32_m30, i32_0, i32_m1]; omega) (by simp (disch := omega) only [nI_toInt, zI_toInt, i32_m20, i32_m40, i32_m30, i32_0, i32_m1]; omega)) ?_
                  refine go_if_eq iM_after_7 (fun c_7 => ?_) (fun c_7 => ?_)
                  · (first | omega | exact absurd c_7 (by decide) | (exfalso; simp (disch := omega) only [Int32.lt_iff_toInt_lt, Int32.le_iff_toInt_le, ← Int32.toInt_inj, nI_toInt, i32_m1, i32_0, i32_m20, i32_m40, i32_m30, i32_m9] at *; omega))
                  refine go_iloadn_2 iM_after_10 ?_
                  refine go_bipush (v := (-20)) iM_after_11 (by decide) ?_
                  refine go_bipush (v := nI 20) iM_after_13 (by decide) ?_
                  refine gc_S1 iM_after_15 (by decide) rfl rfl (Nat.le_of_ble_eq_true rfl) (Nat.le_of_ble_eq_true rfl) (by decide) (sp_M_in_t (by simp (disch := omega) only [nI_toInt, zI_toInt, i32_m20, i32_m40, i32_m30, i32_0, i32_m1]; omega) (by simp (disch := omega) only [nI_toInt, zI_toInt, i32_m20, i32_m40, i32_m30, i32_0, i32_m1]; omega)) ?_
                  refine go_if_eq iM_after_18 (fun c_18 => ?_) (fun c_18 => ?_)
                  · (first | omega | exact absurd c_18 (by decide) | (exfalso; simp (disch := omega) only [Int32.lt_iff_toInt_lt, Int32.le_iff_toInt_le, ← Int32.toInt_inj, nI_toInt, i32_m1, i32_0, i32_m20, i32_m40, i32_m30, i32_m9] at *; omega))
                  refine go_iload_4 iM_after_21 ?_
                  refine go_bipush (v := (-40)) iM_after_23 (by decide) ?_
                  refine go_bipush (v := nI 40) iM_after_25 (by decide) ?_
                  refine gc_S1 iM_after_27 (by decide) rfl rfl (Nat.le_of_ble_eq_true rfl) (Nat.le_of_ble_eq_true rfl) (by decide) (sp_M_in_t (by simp (disch := omega) only [nI_toInt, zI_toInt, i32_m20, i32_m40, i32_m30, i32_0, i32_m1]; omega) (by simp (disch := omega) only [nI_toInt, zI_toInt, i32_m20, i32_m40, i32_m30, i32_0, i32_m1]; omega)) ?_
                  refine go_if_ne iM_after_30 (fun c_30 => ?_) (fun c_30 => ?_)
                  rotate_left
                  · (first | omega | exact absurd c_30 (by decide) | (exfalso; simp (disch := omega) only [Int32.lt_iff_toInt_lt, Int32.le_iff_toInt_le, ← Int32.toInt_inj, nI_toInt, i32_m1, i32_0, i32_m20, i32_m40, i32_m30, i32_m9] at *; omega))
                  refine go_aloadn_0 iM_after_35 rfl ?_
                  refine go_iloadn_1 iM_after_36 ?_
                  refine gx_V1 iM_after_37 rfl (by decide) (sk_43 _) rfl (Nat.le_of_ble_eq_true rfl) (Nat.le_of_ble_eq_true rfl) (by decide) has (fun mI37_ mL37_ h37_ => ?_)
                  obtain ⟨a1, a2, a3, a4, a5⟩ := h37_
                  subst mI37_
                  refine go_istore_5 iM_after_40 (by simp [Value.category, am_U]) ?_
                  refine go_iload_5 iM_after_42 ?_
                  refine go_if_ge iM_after_44 (fun c_44 => ?_) (fun c_44 => ?_)
                  rotate_left
                  · (first | omega | exact absurd c_44 (by decide) | (exfalso; simp (disch := omega) only [Int32.lt_iff_toInt_lt, Int32.le_iff_toInt_le, ← Int32.toInt_inj, nI_toInt, i32_m1, i32_0, i32_m20, i32_m40, i32_m30, i32_m9] at *; omega))
                  refine go_aloadn_0 iM_after_50 rfl ?_
                  refine go_iloadn_2 iM_after_51 ?_
                  refine go_iloadn_3 iM_after_52 ?_
                  refine gx_V1 iM_after_53 rfl (by decide) (sk_43 _) rfl (Nat.le_of_ble_eq_true rfl) (Nat.le_of_ble_eq_true rfl) (by decide) (ex_M_setPurses (w := wR mI r) hm1 hm3 s0 hs4 hN hP (by rw [am_u_k (by decide)]; exact hmM2) am_u_s a5 hw12) (fun mI53_ mL53_ h53_ => ?_)
                  obtain ⟨b0, c1, c2⟩ := h53_
                  subst mI53_
                  refine go_lstore_6 iM_after_56 (by simp [Value.category, am_U]) ?_
                  refine go_aloadn_0 iM_after_58 rfl ?_
                  refine go_iload_4 iM_after_59 ?_
                  refine go_bipush (v := (-30)) iM_after_61 (by decide) ?_
                  refine go_bipush (v := nI 30) iM_after_63 (by decide) ?_
                  refine gc_S1 iM_after_65 (by decide) rfl rfl (Nat.le_of_ble_eq_true rfl) (Nat.le_of_ble_eq_true rfl) (by decide) (sp_M_in_f (by simp (disch := omega) only [nI_toInt, zI_toInt, i32_m20, i32_m40, i32_m30, i32_0, i32_m1]; omega)) ?_
                  refine go_if_eq iM_after_68 (fun c_68 => ?_) (fun c_68 => ?_)
                  rotate_left
                  · (first | omega | exact absurd c_68 (by decide) | (exfalso; simp (disch := omega) only [Int32.lt_iff_toInt_lt, Int32.le_iff_toInt_le, ← Int32.toInt_inj, nI_toInt, i32_m1, i32_0, i32_m20, i32_m40, i32_m30, i32_m9] at *; omega))
                  refine go_lconst (v := zL 0) iM_after_84 rfl ?_
                  rw [hz0]
                  refine go_lload_6 iM_after_85 ?_
                  refine go_iconst (v := nI 1) iM_after_87 rfl ?_
                  refine gc_V1 iM_after_88 rfl (by decide) (sk_43 _) rfl (Nat.le_of_ble_eq_true rfl) (Nat.le_of_ble_eq_true rfl) (by decide) (sp_M_tell (u := (pz m (wQ (wR mI r) s) P N th)) (l := 12 ^ N) hV l0 (by omega)) ?_
                  refine go_iret iM_after_91 rfl ?_
                  refine ex_i (hR0.keep k1 ⟨fun a e1 e2 e3 => by rw [am_u_r e1], fun y hy => by rw [am_u_k hy], fun a ha => ?_⟩ ?_ ?_)
                  · rw [am_u_r (by omega), am_u_r (by omega), c1 a (by omega) (by omega)]; exact a2 a (by omega) (by omega)
                  · rw [am_u_k (by decide), am_u_s]; exact k2
                  · rw [am_u_s]; exact k3
        · refine Pair.same (h1 := 2) (h2 := 4) (v := .int (-1)) hR0 ?_ ?_
          · show Go _ _ tT_after (_, 0, [.ref 0, .int x, .int (zI P), .int (nI N), .int (zI th), am_U, am_U], []) _
            refine go_aloadn_0 iT_after_0 rfl ?_
            refine go_iloadn_1 iT_after_1 ?_
            refine gc_V1 iT_after_2 rfl (by decide) (sk_0 _) rfl (Nat.le_of_ble_eq_true rfl) (Nat.le_of_ble_eq_true rfl) (by decide) (sp_T_rowAt_f hx) ?_
            refine go_astore_5 iT_after_5 rfl (by simp [Value.category, am_U]) ?_
            refine go_aload_5 iT_after_7 rfl ?_
            refine go_nulN iT_after_9 ?_
            refine go_iconst (v := (-1)) iT_after_34 rfl ?_
            refine go_iret iT_after_35 rfl ?_
            rfl
          · show Go _ _ tM_after (_, 0, [.ref 43, .int x, .int (zI P), .int (nI N), .int (zI th), am_U, am_U, am_U], []) _
            refine go_iloadn_3 iM_after_0 ?_
            refine go_iconst (v := nI 0) iM_after_1 rfl ?_
            refine go_bipush (v := nI 9) iM_after_2 (by decide) ?_
            refine gc_S1 iM_after_4 (by decide) rfl rfl (Nat.le_of_ble_eq_true rfl) (Nat.le_of_ble_eq_true rfl) (by decide) (sp_M_in_t (by simp (disch := omega) only [nI_toInt, zI_toInt, i32_m20, i32_m40, i32_m30, i32_0, i32_m1]; omega) (by simp (disch := omega) only [nI_toInt, zI_toInt, i32_m20, i32_m40, i32_m30, i32_0, i32_m1]; omega)) ?_
            refine go_if_eq iM_after_7 (fun c_7 => ?_) (fun c_7 => ?_)
            · (first | omega | exact absurd c_7 (by decide) | (exfalso; simp (disch := omega) only [Int32.lt_iff_toInt_lt, Int32.le_iff_toInt_le, ← Int32.toInt_inj, nI_toInt, i32_m1, i32_0, i32_m20, i32_m40, i32_m30, i32_m9] at *; omega))
            refine go_iloadn_2 iM_after_10 ?_
            refine go_bipush (v := (-20)) iM_after_11 (by decide) ?_
            refine go_bipush (v := nI 20) iM_after_13 (by decide) ?_
            refine gc_S1 iM_after_15 (by decide) rfl rfl (Nat.le_of_ble_eq_true rfl) (Nat.le_of_ble_eq_true rfl) (by decide) (sp_M_in_t (by simp (disch := omega) only [nI_toInt, zI_toInt, i32_m20, i32_m40, i32_m30, i32_0, i32_m1]; omega) (by simp (disch := omega) only [nI_toInt, zI_toInt, i32_m20, i32_m40, i32_m30, i32_0, i32_m1]; omega)) ?_
            refine go_if_eq iM_after_18 (fun c_18 => ?_) (fun c_18 => ?_)
            · (first | omega | exact absurd c_18 (by decide) | (exfalso; simp (disch := omega) only [Int32.lt_iff_toInt_lt, Int32.le_iff_toInt_le, ← Int32.toInt_inj, nI_toInt, i32_m1, i32_0, i32_m20, i32_m40, i32_m30, i32_m9] at *; omega))
            refine go_iload_4 iM_after_21 ?_
            refine go_bipush (v := (-40)) iM_after_23 (by decide) ?_
            refine go_bipush (v := nI 40) iM_after_25 (by decide) ?_
            refine gc_S1 iM_after_27 (by decide) rfl rfl (Nat.le_of_ble_eq_true rfl) (Nat.le_of_ble_eq_true rfl) (by decide) (sp_M_in_t (by simp (disch := omega) only [nI_toInt, zI_toInt, i32_m20, i32_m40, i32_m30, i32_0, i32_m1]; omega) (by simp (disch := omega) only [nI_toInt, zI_toInt, i32_m20, i32_m40, i32_m30, i32_0, i32_m1]; omega)) ?_
            refine go_if_ne iM_after_30 (fun c_30 => ?_) (fun c_30 => ?_)
            rotate_left
            · (first | omega | exact absurd c_30 (by decide) | (exfalso; simp (disch := omega) only [Int32.lt_iff_toInt_lt, Int32.le_iff_toInt_le, ← Int32.toInt_inj, nI_toInt, i32_m1, i32_0, i32_m20, i32_m40, i32_m30, i32_m9] at *; omega))
            refine go_aloadn_0 iM_after_35 rfl ?_
            refine go_iloadn_1 iM_after_36 ?_
            refine gc_V1 iM_after_37 rfl (by decide) (sk_43 _) rfl (Nat.le_of_ble_eq_true rfl) (Nat.le_of_ble_eq_true rfl) (by decide) (sp_M_asked_b hx) ?_
            refine go_istore_5 iM_after_40 (by simp [Value.category, am_U]) ?_
            refine go_iload_5 iM_after_42 ?_
            refine go_if_ge iM_after_44 (fun c_44 => ?_) (fun c_44 => ?_)
            · (first | omega | exact absurd c_44 (by decide) | (exfalso; simp (disch := omega) only [Int32.lt_iff_toInt_lt, Int32.le_iff_toInt_le, ← Int32.toInt_inj, nI_toInt, i32_m1, i32_0, i32_m20, i32_m40, i32_m30, i32_m9] at *; omega))
            refine go_iload_5 iM_after_47 ?_
            refine go_iret iM_after_49 rfl ?_
            rfl
      · refine Pair.same (h1 := 2) (h2 := 4) (v := .int (-1)) hR0 ?_ ?_
        · rcases row_cases x with ⟨r, hr, rfl⟩ | hx
          · show Go _ _ tT_after (_, 0, [.ref 0, .int (nI r), .int (zI P), .int (nI N), .int (zI th), am_U, am_U], []) _
            refine go_aloadn_0 iT_after_0 rfl ?_
            refine go_iloadn_1 iT_after_1 ?_
            refine gc_V1 iT_after_2 rfl (by decide) (sk_0 _) rfl (Nat.le_of_ble_eq_true rfl) (Nat.le_of_ble_eq_true rfl) (by decide) (sp_T_rowAt_t hr) ?_
            refine go_astore_5 iT_after_5 rfl (by simp [Value.category, am_U]) ?_
            refine go_aload_5 iT_after_7 rfl ?_
            refine go_nulR iT_after_9 ?_
            refine go_iloadn_3 iT_after_12 ?_
            refine gc_S1 iT_after_13 (by decide) rfl rfl (Nat.le_of_ble_eq_true rfl) (Nat.le_of_ble_eq_true rfl) (by decide) (sp_T_areTurns_t hN) ?_
            refine go_if_eq iT_after_16 (fun c_16 => ?_) (fun c_16 => ?_)
            · (first | omega | exact absurd c_16 (by decide) | (exfalso; simp (disch := omega) only [Int32.lt_iff_toInt_lt, Int32.le_iff_toInt_le, ← Int32.toInt_inj, nI_toInt, i32_m1, i32_0, i32_m20, i32_m40, i32_m30, i32_m9] at *; omega))
            refine go_iloadn_2 iT_after_19 ?_
            refine gc_S1 iT_after_20 (by decide) rfl rfl (Nat.le_of_ble_eq_true rfl) (Nat.le_of_ble_eq_true rfl) (by decide) (sp_T_isFirstPurse_t (by rw [zI_toInt (by omega)]; omega) (by rw [zI_toInt (by omega)]; omega)) ?_
            refine go_if_eq iT_after_23 (fun c_23 => ?_) (fun c_23 => ?_)
            · (first | omega | exact absurd c_23 (by decide) | (exfalso; simp (disch := omega) only [Int32.lt_iff_toInt_lt, Int32.le_iff_toInt_le, ← Int32.toInt_inj, nI_toInt, i32_m1, i32_0, i32_m20, i32_m40, i32_m30, i32_m9] at *; omega))
            refine go_iload_4 iT_after_26 ?_
            refine gc_S1 iT_after_28 (by decide) rfl rfl (Nat.le_of_ble_eq_true rfl) (Nat.le_of_ble_eq_true rfl) (by decide) (sp_T_isLaterPurse_f (by rw [zI_toInt (by omega)]; omega)) ?_
            refine go_if_ne iT_after_31 (fun c_31 => ?_) (fun c_31 => ?_)
            · (first | omega | exact absurd c_31 (by decide) | (exfalso; simp (disch := omega) only [Int32.lt_iff_toInt_lt, Int32.le_iff_toInt_le, ← Int32.toInt_inj, nI_toInt, i32_m1, i32_0, i32_m20, i32_m40, i32_m30, i32_m9] at *; omega))
            refine go_iconst (v := (-1)) iT_after_34 rfl ?_
            refine go_iret iT_after_35 rfl ?_
            rfl
          · show Go _ _ tT_after (_, 0, [.ref 0, .int x, .int (zI P), .int (nI N), .int (zI th), am_U, am_U], []) _
            refine go_aloadn_0 iT_after_0 rfl ?_
            refine go_iloadn_1 iT_after_1 ?_
            refine gc_V1 iT_after_2 rfl (by decide) (sk_0 _) rfl (Nat.le_of_ble_eq_true rfl) (Nat.le_of_ble_eq_true rfl) (by decide) (sp_T_rowAt_f hx) ?_
            refine go_astore_5 iT_after_5 rfl (by simp [Value.category, am_U]) ?_
            refine go_aload_5 iT_after_7 rfl ?_
            refine go_nulN iT_after_9 ?_
            refine go_iconst (v := (-1)) iT_after_34 rfl ?_
            refine go_iret iT_after_35 rfl ?_
            rfl
        · show Go _ _ tM_after (_, 0, [.ref 43, .int x, .int (zI P), .int (nI N), .int (zI th), am_U, am_U, am_U], []) _
          refine go_iloadn_3 iM_after_0 ?_
          refine go_iconst (v := nI 0) iM_after_1 rfl ?_
          refine go_bipush (v := nI 9) iM_after_2 (by decide) ?_
          refine gc_S1 iM_after_4 (by decide) rfl rfl (Nat.le_of_ble_eq_true rfl) (Nat.le_of_ble_eq_true rfl) (by decide) (sp_M_in_t (by simp (disch := omega) only [nI_toInt, zI_toInt, i32_m20, i32_m40, i32_m30, i32_0, i32_m1]; omega) (by simp (disch := omega) only [nI_toInt, zI_toInt, i32_m20, i32_m40, i32_m30, i32_0, i32_m1]; omega)) ?_
          refine go_if_eq iM_after_7 (fun c_7 => ?_) (fun c_7 => ?_)
          · (first | omega | exact absurd c_7 (by decide) | (exfalso; simp (disch := omega) only [Int32.lt_iff_toInt_lt, Int32.le_iff_toInt_le, ← Int32.toInt_inj, nI_toInt, i32_m1, i32_0, i32_m20, i32_m40, i32_m30, i32_m9] at *; omega))
          refine go_iloadn_2 iM_after_10 ?_
          refine go_bipush (v := (-20)) iM_after_11 (by decide) ?_
          refine go_bipush (v := nI 20) iM_after_13 (by decide) ?_
          refine gc_S1 iM_after_15 (by decide) rfl rfl (Nat.le_of_ble_eq_true rfl) (Nat.le_of_ble_eq_true rfl) (by decide) (sp_M_in_t (by simp (disch := omega) only [nI_toInt, zI_toInt, i32_m20, i32_m40, i32_m30, i32_0, i32_m1]; omega) (by simp (disch := omega) only [nI_toInt, zI_toInt, i32_m20, i32_m40, i32_m30, i32_0, i32_m1]; omega)) ?_
          refine go_if_eq iM_after_18 (fun c_18 => ?_) (fun c_18 => ?_)
          · (first | omega | exact absurd c_18 (by decide) | (exfalso; simp (disch := omega) only [Int32.lt_iff_toInt_lt, Int32.le_iff_toInt_le, ← Int32.toInt_inj, nI_toInt, i32_m1, i32_0, i32_m20, i32_m40, i32_m30, i32_m9] at *; omega))
          refine go_iload_4 iM_after_21 ?_
          refine go_bipush (v := (-40)) iM_after_23 (by decide) ?_
          refine go_bipush (v := nI 40) iM_after_25 (by decide) ?_
          refine gc_S1 iM_after_27 (by decide) rfl rfl (Nat.le_of_ble_eq_true rfl) (Nat.le_of_ble_eq_true rfl) (by decide) (sp_M_in_f (by simp (disch := omega) only [nI_toInt, zI_toInt, i32_m20, i32_m40, i32_m30, i32_0, i32_m1]; omega)) ?_
          refine go_if_ne iM_after_30 (fun c_30 => ?_) (fun c_30 => ?_)
          · (first | omega | exact absurd c_30 (by decide) | (exfalso; simp (disch := omega) only [Int32.lt_iff_toInt_lt, Int32.le_iff_toInt_le, ← Int32.toInt_inj, nI_toInt, i32_m1, i32_0, i32_m20, i32_m40, i32_m30, i32_m9] at *; omega))
          refine go_iconst (v := (-1)) iM_after_33 rfl ?_
          refine go_iret iM_after_34 rfl ?_
          rfl
    · refine Pair.same (h1 := 2) (h2 := 4) (v := .int (-1)) hR0 ?_ ?_
      · rcases row_cases x with ⟨r, hr, rfl⟩ | hx
        · show Go _ _ tT_after (_, 0, [.ref 0, .int (nI r), .int (zI P), .int (nI N), .int (zI th), am_U, am_U], []) _
          refine go_aloadn_0 iT_after_0 rfl ?_
          refine go_iloadn_1 iT_after_1 ?_
          refine gc_V1 iT_after_2 rfl (by decide) (sk_0 _) rfl (Nat.le_of_ble_eq_true rfl) (Nat.le_of_ble_eq_true rfl) (by decide) (sp_T_rowAt_t hr) ?_
          refine go_astore_5 iT_after_5 rfl (by simp [Value.category, am_U]) ?_
          refine go_aload_5 iT_after_7 rfl ?_
          refine go_nulR iT_after_9 ?_
          refine go_iloadn_3 iT_after_12 ?_
          refine gc_S1 iT_after_13 (by decide) rfl rfl (Nat.le_of_ble_eq_true rfl) (Nat.le_of_ble_eq_true rfl) (by decide) (sp_T_areTurns_t hN) ?_
          refine go_if_eq iT_after_16 (fun c_16 => ?_) (fun c_16 => ?_)
          · (first | omega | exact absurd c_16 (by decide) | (exfalso; simp (disch := omega) only [Int32.lt_iff_toInt_lt, Int32.le_iff_toInt_le, ← Int32.toInt_inj, nI_toInt, i32_m1, i32_0, i32_m20, i32_m40, i32_m30, i32_m9] at *; omega))
          refine go_iloadn_2 iT_after_19 ?_
          refine gc_S1 iT_after_20 (by decide) rfl rfl (Nat.le_of_ble_eq_true rfl) (Nat.le_of_ble_eq_true rfl) (by decide) (sp_T_isFirstPurse_f (by rw [zI_toInt (by omega)]; omega)) ?_
          refine go_if_eq iT_after_23 (fun c_23 => ?_) (fun c_23 => ?_)
          rotate_left
          · (first | omega | exact absurd c_23 (by decide) | (exfalso; simp (disch := omega) only [Int32.lt_iff_toInt_lt, Int32.le_iff_toInt_le, ← Int32.toInt_inj, nI_toInt, i32_m1, i32_0, i32_m20, i32_m40, i32_m30, i32_m9] at *; omega))
          refine go_iconst (v := (-1)) iT_after_34 rfl ?_
          refine go_iret iT_after_35 rfl ?_
          rfl
        · show Go _ _ tT_after (_, 0, [.ref 0, .int x, .int (zI P), .int (nI N), .int (zI th), am_U, am_U], []) _
          refine go_aloadn_0 iT_after_0 rfl ?_
          refine go_iloadn_1 iT_after_1 ?_
          refine gc_V1 iT_after_2 rfl (by decide) (sk_0 _) rfl (Nat.le_of_ble_eq_true rfl) (Nat.le_of_ble_eq_true rfl) (by decide) (sp_T_rowAt_f hx) ?_
          refine go_astore_5 iT_after_5 rfl (by simp [Value.category, am_U]) ?_
          refine go_aload_5 iT_after_7 rfl ?_
          refine go_nulN iT_after_9 ?_
          refine go_iconst (v := (-1)) iT_after_34 rfl ?_
          refine go_iret iT_after_35 rfl ?_
          rfl
      · show Go _ _ tM_after (_, 0, [.ref 43, .int x, .int (zI P), .int (nI N), .int (zI th), am_U, am_U, am_U], []) _
        refine go_iloadn_3 iM_after_0 ?_
        refine go_iconst (v := nI 0) iM_after_1 rfl ?_
        refine go_bipush (v := nI 9) iM_after_2 (by decide) ?_
        refine gc_S1 iM_after_4 (by decide) rfl rfl (Nat.le_of_ble_eq_true rfl) (Nat.le_of_ble_eq_true rfl) (by decide) (sp_M_in_t (by simp (disch := omega) only [nI_toInt, zI_toInt, i32_m20, i32_m40, i32_m30, i32_0, i32_m1]; omega) (by simp (disch := omega) only [nI_toInt, zI_toInt, i32_m20, i32_m40, i32_m30, i32_0, i32_m1]; omega)) ?_
        refine go_if_eq iM_after_7 (fun c_7 => ?_) (fun c_7 => ?_)
        · (first | omega | exact absurd c_7 (by decide) | (exfalso; simp (disch := omega) only [Int32.lt_iff_toInt_lt, Int32.le_iff_toInt_le, ← Int32.toInt_inj, nI_toInt, i32_m1, i32_0, i32_m20, i32_m40, i32_m30, i32_m9] at *; omega))
        refine go_iloadn_2 iM_after_10 ?_
        refine go_bipush (v := (-20)) iM_after_11 (by decide) ?_
        refine go_bipush (v := nI 20) iM_after_13 (by decide) ?_
        refine gc_S1 iM_after_15 (by decide) rfl rfl (Nat.le_of_ble_eq_true rfl) (Nat.le_of_ble_eq_true rfl) (by decide) (sp_M_in_f (by simp (disch := omega) only [nI_toInt, zI_toInt, i32_m20, i32_m40, i32_m30, i32_0, i32_m1]; omega)) ?_
        refine go_if_eq iM_after_18 (fun c_18 => ?_) (fun c_18 => ?_)
        rotate_left
        · (first | omega | exact absurd c_18 (by decide) | (exfalso; simp (disch := omega) only [Int32.lt_iff_toInt_lt, Int32.le_iff_toInt_le, ← Int32.toInt_inj, nI_toInt, i32_m1, i32_0, i32_m20, i32_m40, i32_m30, i32_m9] at *; omega))
        refine go_iconst (v := (-1)) iM_after_33 rfl ?_
        refine go_iret iM_after_34 rfl ?_
        rfl
  · refine Pair.same (h1 := 2) (h2 := 4) (v := .int (-1)) hR0 ?_ ?_
    · rcases row_cases x with ⟨r, hr, rfl⟩ | hx
      · show Go _ _ tT_after (_, 0, [.ref 0, .int (nI r), .int (zI P), .int z, .int (zI th), am_U, am_U], []) _
        refine go_aloadn_0 iT_after_0 rfl ?_
        refine go_iloadn_1 iT_after_1 ?_
        refine gc_V1 iT_after_2 rfl (by decide) (sk_0 _) rfl (Nat.le_of_ble_eq_true rfl) (Nat.le_of_ble_eq_true rfl) (by decide) (sp_T_rowAt_t hr) ?_
        refine go_astore_5 iT_after_5 rfl (by simp [Value.category, am_U]) ?_
        refine go_aload_5 iT_after_7 rfl ?_
        refine go_nulR iT_after_9 ?_
        refine go_iloadn_3 iT_after_12 ?_
        refine gc_S1 iT_after_13 (by decide) rfl rfl (Nat.le_of_ble_eq_true rfl) (Nat.le_of_ble_eq_true rfl) (by decide) (sp_T_areTurns_f (by omega)) ?_
        refine go_if_eq iT_after_16 (fun c_16 => ?_) (fun c_16 => ?_)
        rotate_left
        · (first | omega | exact absurd c_16 (by decide) | (exfalso; simp (disch := omega) only [Int32.lt_iff_toInt_lt, Int32.le_iff_toInt_le, ← Int32.toInt_inj, nI_toInt, i32_m1, i32_0, i32_m20, i32_m40, i32_m30, i32_m9] at *; omega))
        refine go_iconst (v := (-1)) iT_after_34 rfl ?_
        refine go_iret iT_after_35 rfl ?_
        rfl
      · show Go _ _ tT_after (_, 0, [.ref 0, .int x, .int (zI P), .int z, .int (zI th), am_U, am_U], []) _
        refine go_aloadn_0 iT_after_0 rfl ?_
        refine go_iloadn_1 iT_after_1 ?_
        refine gc_V1 iT_after_2 rfl (by decide) (sk_0 _) rfl (Nat.le_of_ble_eq_true rfl) (Nat.le_of_ble_eq_true rfl) (by decide) (sp_T_rowAt_f hx) ?_
        refine go_astore_5 iT_after_5 rfl (by simp [Value.category, am_U]) ?_
        refine go_aload_5 iT_after_7 rfl ?_
        refine go_nulN iT_after_9 ?_
        refine go_iconst (v := (-1)) iT_after_34 rfl ?_
        refine go_iret iT_after_35 rfl ?_
        rfl
    · show Go _ _ tM_after (_, 0, [.ref 43, .int x, .int (zI P), .int z, .int (zI th), am_U, am_U, am_U], []) _
      refine go_iloadn_3 iM_after_0 ?_
      refine go_iconst (v := nI 0) iM_after_1 rfl ?_
      refine go_bipush (v := nI 9) iM_after_2 (by decide) ?_
      refine gc_S1 iM_after_4 (by decide) rfl rfl (Nat.le_of_ble_eq_true rfl) (Nat.le_of_ble_eq_true rfl) (by decide) (sp_M_in_f (by simp (disch := omega) only [nI_toInt, zI_toInt, i32_m20, i32_m40, i32_m30, i32_0, i32_m1]; omega)) ?_
      refine go_if_eq iM_after_7 (fun c_7 => ?_) (fun c_7 => ?_)
      rotate_left
      · (first | omega | exact absurd c_7 (by decide) | (exfalso; simp (disch := omega) only [Int32.lt_iff_toInt_lt, Int32.le_iff_toInt_le, ← Int32.toInt_inj, nI_toInt, i32_m1, i32_0, i32_m20, i32_m40, i32_m30, i32_m9] at *; omega))
      refine go_iconst (v := (-1)) iM_after_33 rfl ?_
      refine go_iret iM_after_34 rfl ?_
      rfl
theorem pr_meanAfter (x y z : Int32) (hR : Rel n mI mL) : Pair S tT_meanAfter tM_meanAfter [.int x, .int y, .int z] n mI mL := by
  have hR0 := hR
  obtain ⟨h8, ⟨m, hm1, hm3, hmT, hmM⟩, hcT, hcM, hpl, hro, hfi, hfs, hu, hl, hch⟩ := hR
  obtain ⟨P, b1, rfl⟩ := zI_ex y
  rcases int_cases z 9 (by decide) with ⟨N, hN, rfl⟩ | hz
  · by_cases hP : -20 ≤ P ∧ P ≤ 20
    · rcases row_cases x with ⟨r, hr, rfl⟩ | hx
      · obtain ⟨⟨s1, s2⟩ | ⟨s, hs4, s1, s2⟩, hpc⟩ := hro r hr
        · refine Pair.refuse (h1 := 4) (h2 := 4) (f := 1) hR0 (by decide) ?_ ?_
          · show Go _ _ tT_meanAfter (_, 0, [.ref 0, .int (nI r), .int (zI P), .int (nI N), am_U, am_U], []) _
            refine go_aloadn_0 iT_meanAfter_0 rfl ?_
            refine go_iloadn_1 iT_meanAfter_1 ?_
            refine gc_V1 iT_meanAfter_2 rfl (by decide) (sk_0 _) rfl (Nat.le_of_ble_eq_true rfl) (Nat.le_of_ble_eq_true rfl) (by decide) (sp_T_rowAt_t hr) ?_
            refine go_astore_4 iT_meanAfter_5 rfl (by simp [Value.category, am_U]) ?_
            refine go_aload_4 iT_meanAfter_7 rfl ?_
            refine go_nulR iT_meanAfter_9 ?_
            refine go_iloadn_3 iT_meanAfter_12 ?_
            refine gc_S1 iT_meanAfter_13 (by decide) rfl rfl (Nat.le_of_ble_eq_true rfl) (Nat.le_of_ble_eq_true rfl) (by decide) (sp_T_areTurns_t hN) ?_
            refine go_if_eq iT_meanAfter_16 (fun c_16 => ?_) (fun c_16 => ?_)
            · (first | omega | exact absurd c_16 (by decide) | (exfalso; simp (disch := omega) only [Int32.lt_iff_toInt_lt, Int32.le_iff_toInt_le, ← Int32.toInt_inj, nI_toInt, i32_m1, i32_0, i32_m20, i32_m40, i32_m30, i32_m9] at *; omega))
            refine go_iloadn_2 iT_meanAfter_19 ?_
            refine gc_S1 iT_meanAfter_20 (by decide) rfl rfl (Nat.le_of_ble_eq_true rfl) (Nat.le_of_ble_eq_true rfl) (by decide) (sp_T_isFirstPurse_t (by rw [zI_toInt (by omega)]; omega) (by rw [zI_toInt (by omega)]; omega)) ?_
            refine go_if_ne iT_meanAfter_23 (fun c_23 => ?_) (fun c_23 => ?_)
            rotate_left
            · (first | omega | exact absurd c_23 (by decide) | (exfalso; simp (disch := omega) only [Int32.lt_iff_toInt_lt, Int32.le_iff_toInt_le, ← Int32.toInt_inj, nI_toInt, i32_m1, i32_0, i32_m20, i32_m40, i32_m30, i32_m9] at *; omega))
            refine go_aloadn_0 iT_meanAfter_28 rfl ?_
            refine go_aload_4 iT_meanAfter_29 rfl ?_
            refine gc_V1 iT_meanAfter_31 rfl (by decide) (sk_0 _) rfl (Nat.le_of_ble_eq_true rfl) (Nat.le_of_ble_eq_true rfl) (by decide) (sp_T_refusal_m hr s1) ?_
            refine go_istore_5 iT_meanAfter_34 (by simp [Value.category, am_U]) ?_
            refine go_iload_5 iT_meanAfter_36 ?_
            refine go_if_eq iT_meanAfter_38 (fun c_38 => ?_) (fun c_38 => ?_)
            · (first | omega | exact absurd c_38 (by decide) | (exfalso; simp (disch := omega) only [Int32.lt_iff_toInt_lt, Int32.le_iff_toInt_le, ← Int32.toInt_inj, nI_toInt, i32_m1, i32_0, i32_m20, i32_m40, i32_m30, i32_m9] at *; omega))
            refine go_iload_5 iT_meanAfter_41 ?_
            refine go_iret iT_meanAfter_43 rfl ?_
            rfl
          · have hq : ∀ a, 42 < a → rfI mI 1 a = mI a := fun a ha => rfI_r (by omega) (by omega)
            show Go _ _ tM_meanAfter (_, 0, [.ref 43, .int (nI r), .int (zI P), .int (nI N), am_U, am_U, am_U, am_U, am_U, am_U], []) _
            refine go_iloadn_3 iM_meanAfter_0 ?_
            refine go_iconst (v := nI 0) iM_meanAfter_1 rfl ?_
            refine go_bipush (v := nI 9) iM_meanAfter_2 (by decide) ?_
            refine gc_S1 iM_meanAfter_4 (by decide) rfl rfl (Nat.le_of_ble_eq_true rfl) (Nat.le_of_ble_eq_true rfl) (by decide) (sp_M_in_t (by simp (disch := omega) only [nI_toInt, zI_toInt, i32_m20, i32_m40, i32_m30, i32_0, i32_m1]; omega) (by simp (disch := omega) only [nI_toInt, zI_toInt, i32_m20, i32_m40, i32_m30, i32_0, i32_m1]; omega)) ?_
            refine go_if_eq iM_meanAfter_7 (fun c_7 => ?_) (fun c_7 => ?_)
            · (first | omega | exact absurd c_7 (by decide) | (exfalso; simp (disch := omega) only [Int32.lt_iff_toInt_lt, Int32.le_iff_toInt_le, ← Int32.toInt_inj, nI_toInt, i32_m1, i32_0, i32_m20, i32_m40, i32_m30, i32_m9] at *; omega))
            refine go_iloadn_2 iM_meanAfter_10 ?_
            refine go_bipush (v := (-20)) iM_meanAfter_11 (by decide) ?_
            refine go_bipush (v := nI 20) iM_meanAfter_13 (by decide) ?_
            refine gc_S1 iM_meanAfter_15 (by decide) rfl rfl (Nat.le_of_ble_eq_true rfl) (Nat.le_of_ble_eq_true rfl) (by decide) (sp_M_in_t (by simp (disch := omega) only [nI_toInt, zI_toInt, i32_m20, i32_m40, i32_m30, i32_0, i32_m1]; omega) (by simp (disch := omega) only [nI_toInt, zI_toInt, i32_m20, i32_m40, i32_m30, i32_0, i32_m1]; omega)) ?_
            refine go_if_ne iM_meanAfter_18 (fun c_18 => ?_) (fun c_18 => ?_)
            rotate_left
            · (first | omega | exact absurd c_18 (by decide) | (exfalso; simp (disch := omega) only [Int32.lt_iff_toInt_lt, Int32.le_iff_toInt_le, ← Int32.toInt_inj, nI_toInt, i32_m1, i32_0, i32_m20, i32_m40, i32_m30, i32_m9] at *; omega))
            refine go_aloadn_0 iM_meanAfter_23 rfl ?_
            refine go_iloadn_1 iM_meanAfter_24 ?_
            refine gc_V1 iM_meanAfter_25 rfl (by decide) (sk_43 _) rfl (Nat.le_of_ble_eq_true rfl) (Nat.le_of_ble_eq_true rfl) (by decide) (sp_M_asked_m hr (by rw [hq 47 (by omega)]; exact s2)) ?_
            refine go_istore_4 iM_meanAfter_28 (by simp [Value.category, am_U]) ?_
            refine go_iload_4 iM_meanAfter_30 ?_
            refine go_if_ge iM_meanAfter_32 (fun c_32 => ?_) (fun c_32 => ?_)
            · (first | omega | exact absurd c_32 (by decide) | (exfalso; simp (disch := omega) only [Int32.lt_iff_toInt_lt, Int32.le_iff_toInt_le, ← Int32.toInt_inj, nI_toInt, i32_m1, i32_0, i32_m20, i32_m40, i32_m30, i32_m9] at *; omega))
            refine go_iload_4 iM_meanAfter_35 ?_
            refine go_iret iM_meanAfter_37 rfl ?_
            rfl
        · have hcg := ftN_congr (mI := mI) (n := n) (s := s) (g := mI (16 + 2 * r)) (g' := fun j => mI 48 (4 * r + j)) (fun j hj => hpc j (by omega))
          rcases ftN_01 (mI := mI) (n := n) (s := s) (g := fun j => mI 48 (4 * r + j)) with hft | hft
          · refine Pair.refuse (h1 := 4) (h2 := 4) (f := 3) hR0 (by decide) ?_ ?_
            · show Go _ _ tT_meanAfter (_, 0, [.ref 0, .int (nI r), .int (zI P), .int (nI N), am_U, am_U], []) _
              refine go_aloadn_0 iT_meanAfter_0 rfl ?_
              refine go_iloadn_1 iT_meanAfter_1 ?_
              refine gc_V1 iT_meanAfter_2 rfl (by decide) (sk_0 _) rfl (Nat.le_of_ble_eq_true rfl) (Nat.le_of_ble_eq_true rfl) (by decide) (sp_T_rowAt_t hr) ?_
              refine go_astore_4 iT_meanAfter_5 rfl (by simp [Value.category, am_U]) ?_
              refine go_aload_4 iT_meanAfter_7 rfl ?_
              refine go_nulR iT_meanAfter_9 ?_
              refine go_iloadn_3 iT_meanAfter_12 ?_
              refine gc_S1 iT_meanAfter_13 (by decide) rfl rfl (Nat.le_of_ble_eq_true rfl) (Nat.le_of_ble_eq_true rfl) (by decide) (sp_T_areTurns_t hN) ?_
              refine go_if_eq iT_meanAfter_16 (fun c_16 => ?_) (fun c_16 => ?_)
              · (first | omega | exact absurd c_16 (by decide) | (exfalso; simp (disch := omega) only [Int32.lt_iff_toInt_lt, Int32.le_iff_toInt_le, ← Int32.toInt_inj, nI_toInt, i32_m1, i32_0, i32_m20, i32_m40, i32_m30, i32_m9] at *; omega))
              refine go_iloadn_2 iT_meanAfter_19 ?_
              refine gc_S1 iT_meanAfter_20 (by decide) rfl rfl (Nat.le_of_ble_eq_true rfl) (Nat.le_of_ble_eq_true rfl) (by decide) (sp_T_isFirstPurse_t (by rw [zI_toInt (by omega)]; omega) (by rw [zI_toInt (by omega)]; omega)) ?_
              refine go_if_ne iT_meanAfter_23 (fun c_23 => ?_) (fun c_23 => ?_)
              rotate_left
              · (first | omega | exact absurd c_23 (by decide) | (exfalso; simp (disch := omega) only [Int32.lt_iff_toInt_lt, Int32.le_iff_toInt_le, ← Int32.toInt_inj, nI_toInt, i32_m1, i32_0, i32_m20, i32_m40, i32_m30, i32_m9] at *; omega))
              refine go_aloadn_0 iT_meanAfter_28 rfl ?_
              refine go_aload_4 iT_meanAfter_29 rfl ?_
              refine gc_V1 iT_meanAfter_31 rfl (by decide) (sk_0 _) rfl (Nat.le_of_ble_eq_true rfl) (Nat.le_of_ble_eq_true rfl) (by decide) (sp_T_refusal_u hr s1 hs4 h8 hcT hpl (hcg.trans hft)) ?_
              refine go_istore_5 iT_meanAfter_34 (by simp [Value.category, am_U]) ?_
              refine go_iload_5 iT_meanAfter_36 ?_
              refine go_if_eq iT_meanAfter_38 (fun c_38 => ?_) (fun c_38 => ?_)
              · (first | omega | exact absurd c_38 (by decide) | (exfalso; simp (disch := omega) only [Int32.lt_iff_toInt_lt, Int32.le_iff_toInt_le, ← Int32.toInt_inj, nI_toInt, i32_m1, i32_0, i32_m20, i32_m40, i32_m30, i32_m9] at *; omega))
              refine go_iload_5 iT_meanAfter_41 ?_
              refine go_iret iT_meanAfter_43 rfl ?_
              rfl
            · have hq : ∀ a, 42 < a → rfI mI 3 a = mI a := fun a ha => rfI_r (by omega) (by omega)
              show Go _ _ tM_meanAfter (_, 0, [.ref 43, .int (nI r), .int (zI P), .int (nI N), am_U, am_U, am_U, am_U, am_U, am_U], []) _
              refine go_iloadn_3 iM_meanAfter_0 ?_
              refine go_iconst (v := nI 0) iM_meanAfter_1 rfl ?_
              refine go_bipush (v := nI 9) iM_meanAfter_2 (by decide) ?_
              refine gc_S1 iM_meanAfter_4 (by decide) rfl rfl (Nat.le_of_ble_eq_true rfl) (Nat.le_of_ble_eq_true rfl) (by decide) (sp_M_in_t (by simp (disch := omega) only [nI_toInt, zI_toInt, i32_m20, i32_m40, i32_m30, i32_0, i32_m1]; omega) (by simp (disch := omega) only [nI_toInt, zI_toInt, i32_m20, i32_m40, i32_m30, i32_0, i32_m1]; omega)) ?_
              refine go_if_eq iM_meanAfter_7 (fun c_7 => ?_) (fun c_7 => ?_)
              · (first | omega | exact absurd c_7 (by decide) | (exfalso; simp (disch := omega) only [Int32.lt_iff_toInt_lt, Int32.le_iff_toInt_le, ← Int32.toInt_inj, nI_toInt, i32_m1, i32_0, i32_m20, i32_m40, i32_m30, i32_m9] at *; omega))
              refine go_iloadn_2 iM_meanAfter_10 ?_
              refine go_bipush (v := (-20)) iM_meanAfter_11 (by decide) ?_
              refine go_bipush (v := nI 20) iM_meanAfter_13 (by decide) ?_
              refine gc_S1 iM_meanAfter_15 (by decide) rfl rfl (Nat.le_of_ble_eq_true rfl) (Nat.le_of_ble_eq_true rfl) (by decide) (sp_M_in_t (by simp (disch := omega) only [nI_toInt, zI_toInt, i32_m20, i32_m40, i32_m30, i32_0, i32_m1]; omega) (by simp (disch := omega) only [nI_toInt, zI_toInt, i32_m20, i32_m40, i32_m30, i32_0, i32_m1]; omega)) ?_
              refine go_if_ne iM_meanAfter_18 (fun c_18 => ?_) (fun c_18 => ?_)
              rotate_left
              · (first | omega | exact absurd c_18 (by decide) | (exfalso; simp (disch := omega) only [Int32.lt_iff_toInt_lt, Int32.le_iff_toInt_le, ← Int32.toInt_inj, nI_toInt, i32_m1, i32_0, i32_m20, i32_m40, i32_m30, i32_m9] at *; omega))
              refine go_aloadn_0 iM_meanAfter_23 rfl ?_
              refine go_iloadn_1 iM_meanAfter_24 ?_
              refine gc_V1 iM_meanAfter_25 rfl (by decide) (sk_43 _) rfl (Nat.le_of_ble_eq_true rfl) (Nat.le_of_ble_eq_true rfl) (by decide) (sp_M_asked_u hr (by rw [hq 47 (by omega)]; exact s2) hs4 h8 (by rw [hq 43 (by omega)]; exact hcM) (fun p hp => (hpl p hp).of (hq _ (by omega)) (hq _ (by omega)) (by rw [hq 45 (by omega)]) (fun j _ => by rw [hq 46 (by omega)])) ((ftN_fr hq).trans hft)) ?_
              refine go_istore_4 iM_meanAfter_28 (by simp [Value.category, am_U]) ?_
              refine go_iload_4 iM_meanAfter_30 ?_
              refine go_if_ge iM_meanAfter_32 (fun c_32 => ?_) (fun c_32 => ?_)
              · (first | omega | exact absurd c_32 (by decide) | (exfalso; simp (disch := omega) only [Int32.lt_iff_toInt_lt, Int32.le_iff_toInt_le, ← Int32.toInt_inj, nI_toInt, i32_m1, i32_0, i32_m20, i32_m40, i32_m30, i32_m9] at *; omega))
              refine go_iload_4 iM_meanAfter_35 ?_
              refine go_iret iM_meanAfter_37 rfl ?_
              rfl
          · obtain ⟨s0, hps⟩ := fit_ps h8 hft
            have hw12 : ∀ t i, t < s → i < 3 → wR mI r t i ≤ 12 := fun t i ht hi => ((odN_ok (hpl _ (hps t ht).2.1)).1 i (by omega)).2
            have hwq := wQ_le (n := n) s0 hw12
            have hV := sm_bd (N := N) (P := P) hm1 hm3 hN hP hwq
            have l0 : 0 < 12 ^ N := Nat.pow_pos (by omega)
            have l1 := pw12_le (show N ≤ 12 by omega)
            refine Pair.ex (h1 := 4) (h2 := 4) (v := .int (nI 1)) (P := fun mI1 mL1 => FrC mI mI1 mL mL1 ∧ mL1 4 0 = zL (fU (smZ (fun x => pz m (wQ (wR mI r) s) P N (P + (x : Int) - 9) * (P + (x : Int) - 9)) 19) (12 ^ N)) ∧ mL1 4 1 = zL (fL (smZ (fun x => pz m (wQ (wR mI r) s) P N (P + (x : Int) - 9) * (P + (x : Int) - 9)) 19) (12 ^ N))) ?_ (fun mI1 mL1 hP1 => ?_)
            · unfold Ex
              show Go _ _ tT_meanAfter (_, 0, [.ref 0, .int (nI r), .int (zI P), .int (nI N), am_U, am_U], []) _
              refine go_aloadn_0 iT_meanAfter_0 rfl ?_
              refine go_iloadn_1 iT_meanAfter_1 ?_
              refine gc_V1 iT_meanAfter_2 rfl (by decide) (sk_0 _) rfl (Nat.le_of_ble_eq_true rfl) (Nat.le_of_ble_eq_true rfl) (by decide) (sp_T_rowAt_t hr) ?_
              refine go_astore_4 iT_meanAfter_5 rfl (by simp [Value.category, am_U]) ?_
              refine go_aload_4 iT_meanAfter_7 rfl ?_
              refine go_nulR iT_meanAfter_9 ?_
              refine go_iloadn_3 iT_meanAfter_12 ?_
              refine gc_S1 iT_meanAfter_13 (by decide) rfl rfl (Nat.le_of_ble_eq_true rfl) (Nat.le_of_ble_eq_true rfl) (by decide) (sp_T_areTurns_t hN) ?_
              refine go_if_eq iT_meanAfter_16 (fun c_16 => ?_) (fun c_16 => ?_)
              · (first | omega | exact absurd c_16 (by decide) | (exfalso; simp (disch := omega) only [Int32.lt_iff_toInt_lt, Int32.le_iff_toInt_le, ← Int32.toInt_inj, nI_toInt, i32_m1, i32_0, i32_m20, i32_m40, i32_m30, i32_m9] at *; omega))
              refine go_iloadn_2 iT_meanAfter_19 ?_
              refine gc_S1 iT_meanAfter_20 (by decide) rfl rfl (Nat.le_of_ble_eq_true rfl) (Nat.le_of_ble_eq_true rfl) (by decide) (sp_T_isFirstPurse_t (by rw [zI_toInt (by omega)]; omega) (by rw [zI_toInt (by omega)]; omega)) ?_
              refine go_if_ne iT_meanAfter_23 (fun c_23 => ?_) (fun c_23 => ?_)
              rotate_left
              · (first | omega | exact absurd c_23 (by decide) | (exfalso; simp (disch := omega) only [Int32.lt_iff_toInt_lt, Int32.le_iff_toInt_le, ← Int32.toInt_inj, nI_toInt, i32_m1, i32_0, i32_m20, i32_m40, i32_m30, i32_m9] at *; omega))
              refine go_aloadn_0 iT_meanAfter_28 rfl ?_
              refine go_aload_4 iT_meanAfter_29 rfl ?_
              refine gc_V1 iT_meanAfter_31 rfl (by decide) (sk_0 _) rfl (Nat.le_of_ble_eq_true rfl) (Nat.le_of_ble_eq_true rfl) (by decide) (sp_T_refusal_t hr s1 hs4 h8 hcT hpl (hcg.trans hft)) ?_
              refine go_istore_5 iT_meanAfter_34 (by simp [Value.category, am_U]) ?_
              refine go_iload_5 iT_meanAfter_36 ?_
              refine go_if_eq iT_meanAfter_38 (fun c_38 => ?_) (fun c_38 => ?_)
              rotate_left
              · (first | omega | exact absurd c_38 (by decide) | (exfalso; simp (disch := omega) only [Int32.lt_iff_toInt_lt, Int32.le_iff_toInt_le, ← Int32.toInt_inj, nI_toInt, i32_m1, i32_0, i32_m20, i32_m40, i32_m30, i32_m9] at *; omega))
              refine go_aloadn_0 iT_meanAfter_44 rfl ?_
              refine go_aload_4 iT_meanAfter_45 rfl ?_
              refine go_iloadn_2 iT_meanAfter_47 ?_
              refine go_iloadn_3 iT_meanAfter_48 ?_
              refine gx_V0 iT_meanAfter_49 rfl (by decide) (sk_0 _) rfl (Nat.le_of_ble_eq_true rfl) (Nat.le_of_ble_eq_true rfl) (by decide) (ex_T_spread (ps := psN (fun j => mI 48 (4 * r + j))) h8 hm1 hm3 s0 hs4 hr hN hP hmT hcT s1 (fun i hi => ⟨by rw [hpc i (by omega)]; exact (hps i hi).1, (hps i hi).2.1⟩) hpl) (fun mI49_ mL49_ h49_ => ?_)
              obtain ⟨e1, e2⟩ := h49_
              have q2 := e1.2.2.1
              refine go_aloadn_0 iT_meanAfter_52 rfl ?_
              refine go_getR iT_meanAfter_53 rfl (sk_0 _) (mR_0_6 _) ?_
              refine go_aloadn_0 iT_meanAfter_56 rfl ?_
              refine go_getR iT_meanAfter_57 rfl (sk_0 _) (mR_0_13 _) ?_
              refine gc_V1 iT_meanAfter_60 rfl (by decide) (sk_13 _) rfl (Nat.le_of_ble_eq_true rfl) (Nat.le_of_ble_eq_true rfl) (by decide) (sp_U_weighed hP e1) ?_
              refine go_aloadn_0 iT_meanAfter_63 rfl ?_
              refine go_getR iT_meanAfter_64 rfl (sk_0 _) (mR_0_13 _) ?_
              refine go_getL iT_meanAfter_67 rfl (sk_13 _) ?_
              try simp (disch := omega) only [am_u_n, am_u_s, am_u_k, q2]
              refine gc_V0 iT_meanAfter_70 rfl (by decide) (sk_4 _) rfl (Nat.le_of_ble_eq_true rfl) (Nat.le_of_ble_eq_true rfl) (by decide) (sp_F_tell (u := (smZ (fun x => pz m (wQ (wR mI r) s) P N (P + (x : Int) - 9) * (P + (x : Int) - 9)) 19)) (l := 12 ^ N) hV l0 (by omega)) ?_
              refine go_iconst (v := nI 1) iT_meanAfter_73 rfl ?_
              refine go_iret iT_meanAfter_74 rfl ?_
              refine ex_i ⟨⟨fun a ha => e2.1 a (by omega), fun a ha h4 => ?_⟩, ?_, ?_⟩
              · rw [am_u_r h4, am_u_r h4]; exact e2.2 a (by omega) (by omega)
              · rw [am_u_k (by decide), am_u_s]
              · rw [am_u_s]
            · obtain ⟨k1, k2, k3⟩ := hP1
              have hq : ∀ a, 42 < a → mI1 a = mI a := fun a ha => k1.1 a (by omega)
              have hmM2 : mI1 43 4 = nI m := by rw [hq 43 (by omega)]; exact hmM
              have has := ex_M_asked (S := S) (mL := mL1) hr (by rw [hq 47 (by omega)]; exact s2) hs4 h8 (by rw [hq 43 (by omega)]; exact hcM) (fun p hp => (hpl p hp).of (hq _ (by omega)) (hq _ (by omega)) (by rw [hq 45 (by omega)]) (fun j _ => by rw [hq 46 (by omega)])) ((ftN_fr hq).trans hft)
              rw [show (fun t => odN mI1 (psN (fun j => mI1 48 (4 * r + j)) t)) = wR mI r from wR_fr hq] at has
              unfold Ex
              show Go _ _ tM_meanAfter (_, 0, [.ref 43, .int (nI r), .int (zI P), .int (nI N), am_U, am_U, am_U, am_U, am_U, am_U], []) _
              refine go_iloadn_3 iM_meanAfter_0 ?_
              refine go_iconst (v := nI 0) iM_meanAfter_1 rfl ?_
              refine go_bipush (v := nI 9) iM_meanAfter_2 (by decide) ?_
              refine gc_S1 iM_meanAfter_4 (by decide) rfl rfl (Nat.le_of_ble_eq_true rfl) (Nat.le_of_ble_eq_true rfl) (by decide) (sp_M_in_t (by simp (disch := omega) only [nI_toInt, zI_toInt, i32_m20, i32_m40, i32_m30, i32_0, i32_m1]; omega) (by simp (disch := omega) only [nI_toInt, zI_toInt, i32_m20, i32_m40, i32_m30, i32_0, i32_m1]; omega)) ?_
              refine go_if_eq iM_meanAfter_7 (fun c_7 => ?_) (fun c_7 => ?_)
              · (first | omega | exact absurd c_7 (by decide) | (exfalso; simp (disch := omega) only [Int32.lt_iff_toInt_lt, Int32.le_iff_toInt_le, ← Int32.toInt_inj, nI_toInt, i32_m1, i32_0, i32_m20, i32_m40, i32_m30, i32_m9] at *; omega))
              refine go_iloadn_2 iM_meanAfter_10 ?_
              refine go_bipush (v := (-20)) iM_meanAfter_11 (by decide) ?_
              refine go_bipush (v := nI 20) iM_meanAfter_13 (by decide) ?_
              refine gc_S1 iM_meanAfter_15 (by decide) rfl rfl (Nat.le_of_ble_eq_true rfl) (Nat.le_of_ble_eq_true rfl) (by decide) (sp_M_in_t (by simp (disch := omega) only [nI_toInt, zI_toInt, i32_m20, i32_m40, i32_m30, i32_0, i32_m1]; omega) (by simp (disch := omega) only [nI_toInt, zI_toInt, i32_m20, i32_m40, i32_m30, i32_0, i32_m1]; omega)) ?_
              refine go_if_ne iM_meanAfter_18 (fun c_18 => ?_) (fun c_18 => ?_)
              rotate_left
              · (first | omega | exact absurd c_18 (by decide) | (exfalso; simp (disch := omega) only [Int32.lt_iff_toInt_lt, Int32.le_iff_toInt_le, ← Int32.toInt_inj, nI_toInt, i32_m1, i32_0, i32_m20, i32_m40, i32_m30, i32_m9] at *; omega))
              refine go_aloadn_0 iM_meanAfter_23 rfl ?_
              refine go_iloadn_1 iM_meanAfter_24 ?_
              refine gx_V1 iM_meanAfter_25 rfl (by decide) (sk_43 _) rfl (Nat.le_of_ble_eq_true rfl) (Nat.le_of_ble_eq_true rfl) (by decide) has (fun mI25_ mL25_ h25_ => ?_)
              obtain ⟨a1, a2, a3, a4, a5⟩ := h25_
              subst mI25_
              refine go_istore_4 iM_meanAfter_28 (by simp [Value.category, am_U]) ?_
              refine go_iload_4 iM_meanAfter_30 ?_
              refine go_if_ge iM_meanAfter_32 (fun c_32 => ?_) (fun c_32 => ?_)
              rotate_left
              · (first | omega | exact absurd c_32 (by decide) | (exfalso; simp (disch := omega) only [Int32.lt_iff_toInt_lt, Int32.le_iff_toInt_le, ← Int32.toInt_inj, nI_toInt, i32_m1, i32_0, i32_m20, i32_m40, i32_m30, i32_m9] at *; omega))
              refine go_aloadn_0 iM_meanAfter_38 rfl ?_
              refine go_iloadn_2 iM_meanAfter_39 ?_
              refine go_iloadn_3 iM_meanAfter_40 ?_
              refine gx_V1 iM_meanAfter_41 rfl (by decide) (sk_43 _) rfl (Nat.le_of_ble_eq_true rfl) (Nat.le_of_ble_eq_true rfl) (by decide) (ex_M_setPurses (w := wR mI r) hm1 hm3 s0 hs4 hN hP (by rw [am_u_k (by decide)]; exact hmM2) am_u_s a5 hw12) (fun mI41_ mL41_ h41_ => ?_)
              obtain ⟨b0, c1, c2⟩ := h41_
              subst mI41_
              refine go_lstore_5 iM_meanAfter_44 (by simp [Value.category, am_U]) ?_
              refine go_lconst (v := zL 0) iM_meanAfter_46 rfl ?_
              refine go_lstore_7 iM_meanAfter_47 (by simp [Value.category, am_U]) ?_
              refine go_iconst (v := nI 0) iM_meanAfter_49 rfl ?_
              refine go_istore_9 iM_meanAfter_50 (by simp [Value.category, am_U]) ?_
              refine lo_M_mnA (f := fun x => pz m (wQ (wR mI r) s) P N ((x : Int) - 30)) c2 ?_ 61 0 (by omega)
              rw [sm_shift hN hP]
              refine go_aloadn_0 iM_meanAfter_84 rfl ?_
              refine go_lload_7 iM_meanAfter_85 ?_
              refine go_lload_5 iM_meanAfter_87 ?_
              refine go_iconst (v := nI 1) iM_meanAfter_89 rfl ?_
              refine gc_V1 iM_meanAfter_90 rfl (by decide) (sk_43 _) rfl (Nat.le_of_ble_eq_true rfl) (Nat.le_of_ble_eq_true rfl) (by decide) (sp_M_tell (u := (smZ (fun x => pz m (wQ (wR mI r) s) P N (P + (x : Int) - 9) * (P + (x : Int) - 9)) 19)) (l := 12 ^ N) hV l0 (by omega)) ?_
              refine go_iret iM_meanAfter_93 rfl ?_
              refine ex_i (hR0.keep k1 ⟨fun a e1 e2 e3 => by rw [am_u_r e1], fun y hy => by rw [am_u_k hy], fun a ha => ?_⟩ ?_ ?_)
              · rw [am_u_r (by omega), am_u_r (by omega), c1 a (by omega) (by omega)]; exact a2 a (by omega) (by omega)
              · rw [am_u_k (by decide), am_u_s]; exact k2
              · rw [am_u_s]; exact k3
      · refine Pair.same (h1 := 2) (h2 := 4) (v := .int (-1)) hR0 ?_ ?_
        · show Go _ _ tT_meanAfter (_, 0, [.ref 0, .int x, .int (zI P), .int (nI N), am_U, am_U], []) _
          refine go_aloadn_0 iT_meanAfter_0 rfl ?_
          refine go_iloadn_1 iT_meanAfter_1 ?_
          refine gc_V1 iT_meanAfter_2 rfl (by decide) (sk_0 _) rfl (Nat.le_of_ble_eq_true rfl) (Nat.le_of_ble_eq_true rfl) (by decide) (sp_T_rowAt_f hx) ?_
          refine go_astore_4 iT_meanAfter_5 rfl (by simp [Value.category, am_U]) ?_
          refine go_aload_4 iT_meanAfter_7 rfl ?_
          refine go_nulN iT_meanAfter_9 ?_
          refine go_iconst (v := (-1)) iT_meanAfter_26 rfl ?_
          refine go_iret iT_meanAfter_27 rfl ?_
          rfl
        · show Go _ _ tM_meanAfter (_, 0, [.ref 43, .int x, .int (zI P), .int (nI N), am_U, am_U, am_U, am_U, am_U, am_U], []) _
          refine go_iloadn_3 iM_meanAfter_0 ?_
          refine go_iconst (v := nI 0) iM_meanAfter_1 rfl ?_
          refine go_bipush (v := nI 9) iM_meanAfter_2 (by decide) ?_
          refine gc_S1 iM_meanAfter_4 (by decide) rfl rfl (Nat.le_of_ble_eq_true rfl) (Nat.le_of_ble_eq_true rfl) (by decide) (sp_M_in_t (by simp (disch := omega) only [nI_toInt, zI_toInt, i32_m20, i32_m40, i32_m30, i32_0, i32_m1]; omega) (by simp (disch := omega) only [nI_toInt, zI_toInt, i32_m20, i32_m40, i32_m30, i32_0, i32_m1]; omega)) ?_
          refine go_if_eq iM_meanAfter_7 (fun c_7 => ?_) (fun c_7 => ?_)
          · (first | omega | exact absurd c_7 (by decide) | (exfalso; simp (disch := omega) only [Int32.lt_iff_toInt_lt, Int32.le_iff_toInt_le, ← Int32.toInt_inj, nI_toInt, i32_m1, i32_0, i32_m20, i32_m40, i32_m30, i32_m9] at *; omega))
          refine go_iloadn_2 iM_meanAfter_10 ?_
          refine go_bipush (v := (-20)) iM_meanAfter_11 (by decide) ?_
          refine go_bipush (v := nI 20) iM_meanAfter_13 (by decide) ?_
          refine gc_S1 iM_meanAfter_15 (by decide) rfl rfl (Nat.le_of_ble_eq_true rfl) (Nat.le_of_ble_eq_true rfl) (by decide) (sp_M_in_t (by simp (disch := omega) only [nI_toInt, zI_toInt, i32_m20, i32_m40, i32_m30, i32_0, i32_m1]; omega) (by simp (disch := omega) only [nI_toInt, zI_toInt, i32_m20, i32_m40, i32_m30, i32_0, i32_m1]; omega)) ?_
          refine go_if_ne iM_meanAfter_18 (fun c_18 => ?_) (fun c_18 => ?_)
          rotate_left
          · (first | omega | exact absurd c_18 (by decide) | (exfalso; simp (disch := omega) only [Int32.lt_iff_toInt_lt, Int32.le_iff_toInt_le, ← Int32.toInt_inj, nI_toInt, i32_m1, i32_0, i32_m20, i32_m40, i32_m30, i32_m9] at *; omega))
          refine go_aloadn_0 iM_meanAfter_23 rfl ?_
          refine go_iloadn_1 iM_meanAfter_24 ?_
          refine gc_V1 iM_meanAfter_25 rfl (by decide) (sk_43 _) rfl (Nat.le_of_ble_eq_true rfl) (Nat.le_of_ble_eq_true rfl) (by decide) (sp_M_asked_b hx) ?_
          refine go_istore_4 iM_meanAfter_28 (by simp [Value.category, am_U]) ?_
          refine go_iload_4 iM_meanAfter_30 ?_
          refine go_if_ge iM_meanAfter_32 (fun c_32 => ?_) (fun c_32 => ?_)
          · (first | omega | exact absurd c_32 (by decide) | (exfalso; simp (disch := omega) only [Int32.lt_iff_toInt_lt, Int32.le_iff_toInt_le, ← Int32.toInt_inj, nI_toInt, i32_m1, i32_0, i32_m20, i32_m40, i32_m30, i32_m9] at *; omega))
          refine go_iload_4 iM_meanAfter_35 ?_
          refine go_iret iM_meanAfter_37 rfl ?_
          rfl
    · refine Pair.same (h1 := 2) (h2 := 4) (v := .int (-1)) hR0 ?_ ?_
      · rcases row_cases x with ⟨r, hr, rfl⟩ | hx
        · show Go _ _ tT_meanAfter (_, 0, [.ref 0, .int (nI r), .int (zI P), .int (nI N), am_U, am_U], []) _
          refine go_aloadn_0 iT_meanAfter_0 rfl ?_
          refine go_iloadn_1 iT_meanAfter_1 ?_
          refine gc_V1 iT_meanAfter_2 rfl (by decide) (sk_0 _) rfl (Nat.le_of_ble_eq_true rfl) (Nat.le_of_ble_eq_true rfl) (by decide) (sp_T_rowAt_t hr) ?_
          refine go_astore_4 iT_meanAfter_5 rfl (by simp [Value.category, am_U]) ?_
          refine go_aload_4 iT_meanAfter_7 rfl ?_
          refine go_nulR iT_meanAfter_9 ?_
          refine go_iloadn_3 iT_meanAfter_12 ?_
          refine gc_S1 iT_meanAfter_13 (by decide) rfl rfl (Nat.le_of_ble_eq_true rfl) (Nat.le_of_ble_eq_true rfl) (by decide) (sp_T_areTurns_t hN) ?_
          refine go_if_eq iT_meanAfter_16 (fun c_16 => ?_) (fun c_16 => ?_)
          · (first | omega | exact absurd c_16 (by decide) | (exfalso; simp (disch := omega) only [Int32.lt_iff_toInt_lt, Int32.le_iff_toInt_le, ← Int32.toInt_inj, nI_toInt, i32_m1, i32_0, i32_m20, i32_m40, i32_m30, i32_m9] at *; omega))
          refine go_iloadn_2 iT_meanAfter_19 ?_
          refine gc_S1 iT_meanAfter_20 (by decide) rfl rfl (Nat.le_of_ble_eq_true rfl) (Nat.le_of_ble_eq_true rfl) (by decide) (sp_T_isFirstPurse_f (by rw [zI_toInt (by omega)]; omega)) ?_
          refine go_if_ne iT_meanAfter_23 (fun c_23 => ?_) (fun c_23 => ?_)
          · (first | omega | exact absurd c_23 (by decide) | (exfalso; simp (disch := omega) only [Int32.lt_iff_toInt_lt, Int32.le_iff_toInt_le, ← Int32.toInt_inj, nI_toInt, i32_m1, i32_0, i32_m20, i32_m40, i32_m30, i32_m9] at *; omega))
          refine go_iconst (v := (-1)) iT_meanAfter_26 rfl ?_
          refine go_iret iT_meanAfter_27 rfl ?_
          rfl
        · show Go _ _ tT_meanAfter (_, 0, [.ref 0, .int x, .int (zI P), .int (nI N), am_U, am_U], []) _
          refine go_aloadn_0 iT_meanAfter_0 rfl ?_
          refine go_iloadn_1 iT_meanAfter_1 ?_
          refine gc_V1 iT_meanAfter_2 rfl (by decide) (sk_0 _) rfl (Nat.le_of_ble_eq_true rfl) (Nat.le_of_ble_eq_true rfl) (by decide) (sp_T_rowAt_f hx) ?_
          refine go_astore_4 iT_meanAfter_5 rfl (by simp [Value.category, am_U]) ?_
          refine go_aload_4 iT_meanAfter_7 rfl ?_
          refine go_nulN iT_meanAfter_9 ?_
          refine go_iconst (v := (-1)) iT_meanAfter_26 rfl ?_
          refine go_iret iT_meanAfter_27 rfl ?_
          rfl
      · show Go _ _ tM_meanAfter (_, 0, [.ref 43, .int x, .int (zI P), .int (nI N), am_U, am_U, am_U, am_U, am_U, am_U], []) _
        refine go_iloadn_3 iM_meanAfter_0 ?_
        refine go_iconst (v := nI 0) iM_meanAfter_1 rfl ?_
        refine go_bipush (v := nI 9) iM_meanAfter_2 (by decide) ?_
        refine gc_S1 iM_meanAfter_4 (by decide) rfl rfl (Nat.le_of_ble_eq_true rfl) (Nat.le_of_ble_eq_true rfl) (by decide) (sp_M_in_t (by simp (disch := omega) only [nI_toInt, zI_toInt, i32_m20, i32_m40, i32_m30, i32_0, i32_m1]; omega) (by simp (disch := omega) only [nI_toInt, zI_toInt, i32_m20, i32_m40, i32_m30, i32_0, i32_m1]; omega)) ?_
        refine go_if_eq iM_meanAfter_7 (fun c_7 => ?_) (fun c_7 => ?_)
        · (first | omega | exact absurd c_7 (by decide) | (exfalso; simp (disch := omega) only [Int32.lt_iff_toInt_lt, Int32.le_iff_toInt_le, ← Int32.toInt_inj, nI_toInt, i32_m1, i32_0, i32_m20, i32_m40, i32_m30, i32_m9] at *; omega))
        refine go_iloadn_2 iM_meanAfter_10 ?_
        refine go_bipush (v := (-20)) iM_meanAfter_11 (by decide) ?_
        refine go_bipush (v := nI 20) iM_meanAfter_13 (by decide) ?_
        refine gc_S1 iM_meanAfter_15 (by decide) rfl rfl (Nat.le_of_ble_eq_true rfl) (Nat.le_of_ble_eq_true rfl) (by decide) (sp_M_in_f (by simp (disch := omega) only [nI_toInt, zI_toInt, i32_m20, i32_m40, i32_m30, i32_0, i32_m1]; omega)) ?_
        refine go_if_ne iM_meanAfter_18 (fun c_18 => ?_) (fun c_18 => ?_)
        · (first | omega | exact absurd c_18 (by decide) | (exfalso; simp (disch := omega) only [Int32.lt_iff_toInt_lt, Int32.le_iff_toInt_le, ← Int32.toInt_inj, nI_toInt, i32_m1, i32_0, i32_m20, i32_m40, i32_m30, i32_m9] at *; omega))
        refine go_iconst (v := (-1)) iM_meanAfter_21 rfl ?_
        refine go_iret iM_meanAfter_22 rfl ?_
        rfl
  · refine Pair.same (h1 := 2) (h2 := 4) (v := .int (-1)) hR0 ?_ ?_
    · rcases row_cases x with ⟨r, hr, rfl⟩ | hx
      · show Go _ _ tT_meanAfter (_, 0, [.ref 0, .int (nI r), .int (zI P), .int z, am_U, am_U], []) _
        refine go_aloadn_0 iT_meanAfter_0 rfl ?_
        refine go_iloadn_1 iT_meanAfter_1 ?_
        refine gc_V1 iT_meanAfter_2 rfl (by decide) (sk_0 _) rfl (Nat.le_of_ble_eq_true rfl) (Nat.le_of_ble_eq_true rfl) (by decide) (sp_T_rowAt_t hr) ?_
        refine go_astore_4 iT_meanAfter_5 rfl (by simp [Value.category, am_U]) ?_
        refine go_aload_4 iT_meanAfter_7 rfl ?_
        refine go_nulR iT_meanAfter_9 ?_
        refine go_iloadn_3 iT_meanAfter_12 ?_
        refine gc_S1 iT_meanAfter_13 (by decide) rfl rfl (Nat.le_of_ble_eq_true rfl) (Nat.le_of_ble_eq_true rfl) (by decide) (sp_T_areTurns_f (by omega)) ?_
        refine go_if_eq iT_meanAfter_16 (fun c_16 => ?_) (fun c_16 => ?_)
        rotate_left
        · (first | omega | exact absurd c_16 (by decide) | (exfalso; simp (disch := omega) only [Int32.lt_iff_toInt_lt, Int32.le_iff_toInt_le, ← Int32.toInt_inj, nI_toInt, i32_m1, i32_0, i32_m20, i32_m40, i32_m30, i32_m9] at *; omega))
        refine go_iconst (v := (-1)) iT_meanAfter_26 rfl ?_
        refine go_iret iT_meanAfter_27 rfl ?_
        rfl
      · show Go _ _ tT_meanAfter (_, 0, [.ref 0, .int x, .int (zI P), .int z, am_U, am_U], []) _
        refine go_aloadn_0 iT_meanAfter_0 rfl ?_
        refine go_iloadn_1 iT_meanAfter_1 ?_
        refine gc_V1 iT_meanAfter_2 rfl (by decide) (sk_0 _) rfl (Nat.le_of_ble_eq_true rfl) (Nat.le_of_ble_eq_true rfl) (by decide) (sp_T_rowAt_f hx) ?_
        refine go_astore_4 iT_meanAfter_5 rfl (by simp [Value.category, am_U]) ?_
        refine go_aload_4 iT_meanAfter_7 rfl ?_
        refine go_nulN iT_meanAfter_9 ?_
        refine go_iconst (v := (-1)) iT_meanAfter_26 rfl ?_
        refine go_iret iT_meanAfter_27 rfl ?_
        rfl
    · show Go _ _ tM_meanAfter (_, 0, [.ref 43, .int x, .int (zI P), .int z, am_U, am_U, am_U, am_U, am_U, am_U], []) _
      refine go_iloadn_3 iM_meanAfter_0 ?_
      refine go_iconst (v := nI 0) iM_meanAfter_1 rfl ?_
      refine go_bipush (v := nI 9) iM_meanAfter_2 (by decide) ?_
      refine gc_S1 iM_meanAfter_4 (by decide) rfl rfl (Nat.le_of_ble_eq_true rfl) (Nat.le_of_ble_eq_true rfl) (by decide) (sp_M_in_f (by simp (disch := omega) only [nI_toInt, zI_toInt, i32_m20, i32_m40, i32_m30, i32_0, i32_m1]; omega)) ?_
      refine go_if_eq iM_meanAfter_7 (fun c_7 => ?_) (fun c_7 => ?_)
      rotate_left
      · (first | omega | exact absurd c_7 (by decide) | (exfalso; simp (disch := omega) only [Int32.lt_iff_toInt_lt, Int32.le_iff_toInt_le, ← Int32.toInt_inj, nI_toInt, i32_m1, i32_0, i32_m20, i32_m40, i32_m30, i32_m9] at *; omega))
      refine go_iconst (v := (-1)) iM_meanAfter_21 rfl ?_
      refine go_iret iM_meanAfter_22 rfl ?_
      rfl
end AFT
