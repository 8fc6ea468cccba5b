/-! ===== middle ===== -/
def midZ (P : Nat → Prop) : Nat → Nat → Int32 → Prop
  | 0, _, v => v = (-9)
  | k + 1, u, v => (P u ∧ v = nI u) ∨ (¬ P u ∧ midZ P k (u + 1) v)
theorem midZ_ex (P : Nat → Prop) : ∀ k u, ∃ v, midZ P k u v
  | 0, _ => ⟨-9, rfl⟩
  | k + 1, u => by
    by_cases h : P u
    · exact ⟨nI u, Or.inl ⟨h, rfl⟩⟩
    · obtain ⟨v, hv⟩ := midZ_ex P k (u + 1)
      exact ⟨v, Or.inr ⟨h, hv⟩⟩
def mdP (m : Nat) (mI : Nat → Nat → Int32) (p q u : Nat) : Prop := 0 < Wz m 144 1 (wL mI p q u) ∧ 0 < Uz m 144 1 (wL mI p q u)
theorem wL_f2 {mI mI1 : Nat → Nat → Int32} {p q u : Nat} (h : ∀ a, 60 < a → mI1 a = mI a) : wL mI1 p q u = wL mI p q u := by
  funext t i
  unfold wL odN
  rw [h (61 + 2 * p) (by omega), h (61 + 2 * q) (by omega)]
theorem midZ_congr {P P' : Nat → Prop} (h : ∀ u, P u ↔ P' u) : ∀ k u v, midZ P k u v → midZ P' k u v
  | 0, _, _, hv => hv
  | k + 1, u, v, hv => by
    rcases hv with ⟨a, b⟩ | ⟨a, b⟩
    · exact Or.inl ⟨(h u).mp a, b⟩
    · exact Or.inr ⟨fun q => a ((h u).mpr q), midZ_congr h k (u + 1) v b⟩
/-- the class's fraction is as it was, too -/
def FrD (mI mI' : Nat → Nat → Int32) (mL mL' : Nat → Nat → Int64) : Prop := FrC mI mI' mL mL' ∧ mL' 4 = mL 4
theorem FrD.rfl' {mI : Nat → Nat → Int32} {mL : Nat → Nat → Int64} : FrD mI mI mL mL := ⟨FrC.rfl', rfl⟩
theorem FrD.trans {mI mI' mI'' : Nat → Nat → Int32} {mL mL' mL'' : Nat → Nat → Int64} (h : FrD mI mI' mL mL') (h' : FrD mI' mI'' mL' mL'') : FrD mI mI'' mL mL'' := ⟨h.1.trans h'.1, h'.2.trans h.2⟩
section MID
variable {S : am_S} {mI : Nat → Nat → Int32} {mL : Nat → Nat → Int64} {n m p q : Nat} {v : Int32}
theorem lo_T_mid (h8 : n ≤ 8) (hm1 : 1 ≤ m) (hm3 : m ≤ 3) (hp : p < n) (hq : q < n) (hmT : mI 0 0 = nI m) (h1 : PlR mI p) (h2 : PlR mI q) : ∀ k u (mI' : Nat → Nat → Int32) (mL' : Nat → Nat → Int64) (z : Value), u + k = 13 → FrD mI mI' mL mL' → midZ (mdP m mI p q) k u v → Go S 3 tT_middle ((am_sh n, mI', mL', am_mR n), 50, [.ref 0, .int (nI p), .int (nI q), .ref (60 + 2 * p), .ref (60 + 2 * q), .int (nI u), z], []) (fun r => ∃ mI'' mL'', r = (some (.int v), (am_sh n, mI'', mL'', am_mR n)) ∧ FrD mI mI'' mL mL'')
  | 0, u, mI', mL', z, hi, hF, hv => by
    obtain rfl : u = 13 := by omega
    obtain rfl : v = (-9) := hv
    refine go_iload_5 iT_middle_50 ?_
    refine go_bipush (v := nI 12) iT_middle_52 (by decide) ?_
    first | refine gn_ic_gt iT_middle_54 (by omega) (by omega) (fun c_54 => ?_) (fun c_54 => ?_) | refine go_ic_gt iT_middle_54 (fun c_54 => ?_) (fun c_54 => ?_)
    rotate_left
    · (first | omega | exact absurd c_54 (by decide) | (exfalso; simp (disch := omega) only [Int32.lt_iff_toInt_lt, Int32.le_iff_toInt_le, ← Int32.toInt_inj, nI_toInt, i32_m1, i32_0, i32_m20, i32_m40, i32_m30, i32_m9] at *; omega))
    refine go_bipush (v := (-9)) iT_middle_94 (by decide) ?_
    refine go_iret iT_middle_96 rfl ?_
    exact ex_i hF
  | k + 1, u, mI', mL', z, hi, hF, hv => by
    have hq' : ∀ a, 42 < a → mI' a = mI a := fun a ha => hF.1.1 a (by omega)
    have hR1 := sk_rnd n (show 1 < 5 by omega)
    have hlt := ex_T_lot (S := S) (mI := mI') (mL := mL') (u := u) h8 hm1 hm3 hp hq (by omega) (by rw [hF.1.1 0 (by omega)]; exact hmT) (h1.c (fun a ha _ _ _ => hq' a ha)) (h2.c (fun a ha _ _ _ => hq' a ha))
    rw [wL_fr hq'] at hlt
    have hG := Gm_lot (u := u) hm1 hm3 (by omega) h1 h2
    have hW := hG.b
    have fr : ∀ (mI2 : Nat → Nat → Int32) (mL2 mL3 : Nat → Nat → Int64), (∀ a, a ≠ 7 → (a < 23 ∨ 42 < a) → mI2 a = mI' a) → (∀ a, (a < 23 ∨ 42 < a) → mL2 a = mL' a) → FrK 1 mI2 mI2 mL2 mL3 → FrD mI mI2 mL mL3 := fun mI2 mL2 mL3 e2 e3 d2 => hF.trans ⟨⟨fun a ha => e2 a (by omega) (by omega), fun a ha _ => (d2.2 a (by omega) (by omega) (by omega) (by omega)).trans (e3 a (by omega))⟩, (d2.2 4 (by omega) (by omega) (by omega) (by omega)).trans (e3 4 (by omega))⟩
    by_cases c : 0 < Wz m 144 1 (wL mI p q u)
    · by_cases c1 : 0 < Uz m 144 1 (wL mI p q u)
      · have hv2 : v = nI u := by
          rcases hv with ⟨a, b⟩ | ⟨a, b⟩
          · exact b
          · exact absurd ⟨c, c1⟩ a
        subst hv2
        refine go_iload_5 iT_middle_50 ?_
        refine go_bipush (v := nI 12) iT_middle_52 (by decide) ?_
        first | refine gn_ic_gt iT_middle_54 (by omega) (by omega) (fun c_54 => ?_) (fun c_54 => ?_) | refine go_ic_gt iT_middle_54 (fun c_54 => ?_) (fun c_54 => ?_)
        · (first | omega | exact absurd c_54 (by decide) | (exfalso; simp (disch := omega) only [Int32.lt_iff_toInt_lt, Int32.le_iff_toInt_le, ← Int32.toInt_inj, nI_toInt, i32_m1, i32_0, i32_m20, i32_m40, i32_m30, i32_m9] at *; omega))
        refine go_aloadn_0 iT_middle_57 rfl ?_
        refine go_aloadn_3 iT_middle_58 rfl ?_
        refine go_aload_4 iT_middle_59 rfl ?_
        refine go_iload_5 iT_middle_61 ?_
        refine gx_V1 iT_middle_63 rfl (by decide) (sk_0 _) rfl (Nat.le_of_ble_eq_true rfl) (Nat.le_of_ble_eq_true rfl) (by decide) hlt (fun mI63_ mL63_ h63_ => ?_)
        obtain ⟨e1, e2, e3⟩ := h63_
        have hst := ex_R_settles (S := S) (n := n) (k := 1) (by omega) hG.1 hG.2.1 (by unfold Wz at hW; omega) e1
        rw [if_pos (show 0 < wsZ m (fun f => nowZ m 144 (wL mI p q u) f 1) m from c)] at hst
        refine go_astore_6 iT_middle_66 rfl (by simp [Value.category, am_U]) ?_
        refine go_aload_6 iT_middle_68 rfl ?_
        refine gx_V1 iT_middle_70 rfl (by decide) hR1 rfl (Nat.le_of_ble_eq_true rfl) (Nat.le_of_ble_eq_true rfl) (by decide) hst (fun mI70_ mL70_ h70_ => ?_)
        obtain ⟨d0, d1, d2, d3, d4, d5⟩ := h70_
        subst mI70_
        have d6 : mL70_ (23 + 4 * 1) 7 = zL (Uz m 144 1 (wL mI p q u)) := d4
        have ho := sp_R_outcome (S := S) (n := n) (mI := mI63_) (k := 1) (by omega) (by omega) d6
        rw [if_pos c1] at ho
        refine go_if_eq iT_middle_73 (fun c_73 => ?_) (fun c_73 => ?_)
        · (first | omega | exact absurd c_73 (by decide) | (exfalso; simp (disch := omega) only [Int32.lt_iff_toInt_lt, Int32.le_iff_toInt_le, ← Int32.toInt_inj, nI_toInt, i32_m1, i32_0, i32_m20, i32_m40, i32_m30, i32_m9] at *; omega))
        refine go_aload_6 iT_middle_76 rfl ?_
        refine gc_V1 iT_middle_78 rfl (by decide) hR1 rfl (Nat.le_of_ble_eq_true rfl) (Nat.le_of_ble_eq_true rfl) (by decide) ho ?_
        refine go_iconst (v := nI 1) iT_middle_81 rfl ?_
        first | refine gn_ic_ne iT_middle_82 (by omega) (by omega) (fun c_82 => ?_) (fun c_82 => ?_) | refine go_ic_ne iT_middle_82 (fun c_82 => ?_) (fun c_82 => ?_)
        · (first | omega | exact absurd c_82 (by decide) | (exfalso; simp (disch := omega) only [Int32.lt_iff_toInt_lt, Int32.le_iff_toInt_le, ← Int32.toInt_inj, nI_toInt, i32_m1, i32_0, i32_m20, i32_m40, i32_m30, i32_m9] at *; omega))
        refine go_iload_5 iT_middle_85 ?_
        refine go_iret iT_middle_87 rfl ?_
        exact ex_i (fr _ _ _ e2 e3 d2)
      · have hv2 : midZ (mdP m mI p q) k (u + 1) v := by
          rcases hv with ⟨a, b⟩ | ⟨a, b⟩
          · exact absurd a.2 c1
          · exact b
        obtain ⟨o, ho1, ho2, ho3⟩ : ∃ o : Nat, o ≤ 2 ∧ o ≠ 1 ∧ (if 0 < Uz m 144 1 (wL mI p q u) then 1 else if Uz m 144 1 (wL mI p q u) < 0 then 2 else 0) = o := by
          rw [if_neg c1]
          by_cases c2 : Uz m 144 1 (wL mI p q u) < 0
          · rw [if_pos c2]; exact ⟨2, by omega, by omega, rfl⟩
          · rw [if_neg c2]; exact ⟨0, by omega, by omega, rfl⟩
        refine go_iload_5 iT_middle_50 ?_
        refine go_bipush (v := nI 12) iT_middle_52 (by decide) ?_
        first | refine gn_ic_gt iT_middle_54 (by omega) (by omega) (fun c_54 => ?_) (fun c_54 => ?_) | refine go_ic_gt iT_middle_54 (fun c_54 => ?_) (fun c_54 => ?_)
        · (first | omega | exact absurd c_54 (by decide) | (exfalso; simp (disch := omega) only [Int32.lt_iff_toInt_lt, Int32.le_iff_toInt_le, ← Int32.toInt_inj, nI_toInt, i32_m1, i32_0, i32_m20, i32_m40, i32_m30, i32_m9] at *; omega))
        refine go_aloadn_0 iT_middle_57 rfl ?_
        refine go_aloadn_3 iT_middle_58 rfl ?_
        refine go_aload_4 iT_middle_59 rfl ?_
        refine go_iload_5 iT_middle_61 ?_
        refine gx_V1 iT_middle_63 rfl (by decide) (sk_0 _) rfl (Nat.le_of_ble_eq_true rfl) (Nat.le_of_ble_eq_true rfl) (by decide) hlt (fun mI63_ mL63_ h63_ => ?_)
        obtain ⟨e1, e2, e3⟩ := h63_
        have hst := ex_R_settles (S := S) (n := n) (k := 1) (by omega) hG.1 hG.2.1 (by unfold Wz at hW; omega) e1
        rw [if_pos (show 0 < wsZ m (fun f => nowZ m 144 (wL mI p q u) f 1) m from c)] at hst
        refine go_astore_6 iT_middle_66 rfl (by simp [Value.category, am_U]) ?_
        refine go_aload_6 iT_middle_68 rfl ?_
        refine gx_V1 iT_middle_70 rfl (by decide) hR1 rfl (Nat.le_of_ble_eq_true rfl) (Nat.le_of_ble_eq_true rfl) (by decide) hst (fun mI70_ mL70_ h70_ => ?_)
        obtain ⟨d0, d1, d2, d3, d4, d5⟩ := h70_
        subst mI70_
        have d6 : mL70_ (23 + 4 * 1) 7 = zL (Uz m 144 1 (wL mI p q u)) := d4
        have ho := sp_R_outcome (S := S) (n := n) (mI := mI63_) (k := 1) (by omega) (by omega) d6
        rw [ho3] at ho
        refine go_if_eq iT_middle_73 (fun c_73 => ?_) (fun c_73 => ?_)
        · (first | omega | exact absurd c_73 (by decide) | (exfalso; simp (disch := omega) only [Int32.lt_iff_toInt_lt, Int32.le_iff_toInt_le, ← Int32.toInt_inj, nI_toInt, i32_m1, i32_0, i32_m20, i32_m40, i32_m30, i32_m9] at *; omega))
        refine go_aload_6 iT_middle_76 rfl ?_
        refine gc_V1 iT_middle_78 rfl (by decide) hR1 rfl (Nat.le_of_ble_eq_true rfl) (Nat.le_of_ble_eq_true rfl) (by decide) ho ?_
        refine go_iconst (v := nI 1) iT_middle_81 rfl ?_
        first | refine gn_ic_ne iT_middle_82 (by omega) (by omega) (fun c_82 => ?_) (fun c_82 => ?_) | refine go_ic_ne iT_middle_82 (fun c_82 => ?_) (fun c_82 => ?_)
        rotate_left
        · (first | omega | exact absurd c_82 (by decide) | (exfalso; simp (disch := omega) only [Int32.lt_iff_toInt_lt, Int32.le_iff_toInt_le, ← Int32.toInt_inj, nI_toInt, i32_m1, i32_0, i32_m20, i32_m40, i32_m30, i32_m9] at *; omega))
        first | refine go_iinc_5 iT_middle_88 (ni_inc _ 1) (by simp [Value.category, am_U]) ?_ | refine go_iinc_5 iT_middle_88 rfl (by simp [Value.category, am_U]) ?_
        refine go_goto iT_middle_91 ?_
        exact lo_T_mid h8 hm1 hm3 hp hq hmT h1 h2 k (u + 1) _ _ _ (by omega) (fr _ _ _ e2 e3 d2) hv2
    · have hv2 : midZ (mdP m mI p q) k (u + 1) v := by
        rcases hv with ⟨a, b⟩ | ⟨a, b⟩
        · exact absurd a.1 c
        · exact b
      refine go_iload_5 iT_middle_50 ?_
      refine go_bipush (v := nI 12) iT_middle_52 (by decide) ?_
      first | refine gn_ic_gt iT_middle_54 (by omega) (by omega) (fun c_54 => ?_) (fun c_54 => ?_) | refine go_ic_gt iT_middle_54 (fun c_54 => ?_) (fun c_54 => ?_)
      · (first | omega | exact absurd c_54 (by decide) | (exfalso; simp (disch := omega) only [Int32.lt_iff_toInt_lt, Int32.le_iff_toInt_le, ← Int32.toInt_inj, nI_toInt, i32_m1, i32_0, i32_m20, i32_m40, i32_m30, i32_m9] at *; omega))
      refine go_aloadn_0 iT_middle_57 rfl ?_
      refine go_aloadn_3 iT_middle_58 rfl ?_
      refine go_aload_4 iT_middle_59 rfl ?_
      refine go_iload_5 iT_middle_61 ?_
      refine gx_V1 iT_middle_63 rfl (by decide) (sk_0 _) rfl (Nat.le_of_ble_eq_true rfl) (Nat.le_of_ble_eq_true rfl) (by decide) hlt (fun mI63_ mL63_ h63_ => ?_)
      obtain ⟨e1, e2, e3⟩ := h63_
      have hst := ex_R_settles (S := S) (n := n) (k := 1) (by omega) hG.1 hG.2.1 (by unfold Wz at hW; omega) e1
      rw [if_neg (show ¬ 0 < wsZ m (fun f => nowZ m 144 (wL mI p q u) f 1) m from c)] at hst
      refine go_astore_6 iT_middle_66 rfl (by simp [Value.category, am_U]) ?_
      refine go_aload_6 iT_middle_68 rfl ?_
      refine gx_V1 iT_middle_70 rfl (by decide) hR1 rfl (Nat.le_of_ble_eq_true rfl) (Nat.le_of_ble_eq_true rfl) (by decide) hst (fun mI70_ mL70_ h70_ => ?_)
      obtain ⟨d0, d1, d2, d3, d4, d5⟩ := h70_
      subst mI70_
      refine go_if_eq iT_middle_73 (fun c_73 => ?_) (fun c_73 => ?_)
      rotate_left
      · (first | omega | exact absurd c_73 (by decide) | (exfalso; simp (disch := omega) only [Int32.lt_iff_toInt_lt, Int32.le_iff_toInt_le, ← Int32.toInt_inj, nI_toInt, i32_m1, i32_0, i32_m20, i32_m40, i32_m30, i32_m9] at *; omega))
      first | refine go_iinc_5 iT_middle_88 (ni_inc _ 1) (by simp [Value.category, am_U]) ?_ | refine go_iinc_5 iT_middle_88 rfl (by simp [Value.category, am_U]) ?_
      refine go_goto iT_middle_91 ?_
      exact lo_T_mid h8 hm1 hm3 hp hq hmT h1 h2 k (u + 1) _ _ _ (by omega) (fr _ _ _ e2 e3 d2) hv2
theorem lo_M_mid (hm1 : 1 ≤ m) (hm3 : m ≤ 3) (hp : p < 8) (hq : q < 8) (hmM : mI 43 4 = nI m) (h1 : PlR mI p) (h2 : PlR mI q) : ∀ k u (mI' : Nat → Nat → Int32) (mL' : Nat → Nat → Int64), u + k = 13 → FrN mI mI' mL mL' → midZ (mdP m mI p q) k u v → Go S 4 tM_middle ((am_sh n, mI', mL', am_mR n), 16, [.ref 43, .int (nI p), .int (nI q), .int (nI 0), .int (nI u)], []) (fun r => ∃ mI'' mL'', r = (some (.int v), (am_sh n, mI'', mL'', am_mR n)) ∧ FrN mI mI'' mL mL'')
  | 0, u, mI', mL', hi, hF, hv => by
    obtain rfl : u = 13 := by omega
    obtain rfl : v = (-9) := hv
    refine go_iload_4 iM_middle_16 ?_
    refine go_bipush (v := nI 12) iM_middle_18 (by decide) ?_
    first | refine gn_ic_gt iM_middle_20 (by omega) (by omega) (fun c_20 => ?_) (fun c_20 => ?_) | refine go_ic_gt iM_middle_20 (fun c_20 => ?_) (fun c_20 => ?_)
    rotate_left
    · (first | omega | exact absurd c_20 (by decide) | (exfalso; simp (disch := omega) only [Int32.lt_iff_toInt_lt, Int32.le_iff_toInt_le, ← Int32.toInt_inj, nI_toInt, i32_m1, i32_0, i32_m20, i32_m40, i32_m30, i32_m9] at *; omega))
    refine go_bipush (v := (-9)) iM_middle_56 (by decide) ?_
    refine go_iret iM_middle_58 rfl ?_
    exact ex_i hF
  | k + 1, u, mI', mL', hi, hF, hv => by
    have hq' : ∀ a, 42 < a → a ≠ 43 → a ≠ 49 → a ≠ 56 → mI' a = mI a := fun a ha e1 e2 e3 => hF.1.1 a e1 e2 e3
    have has := ex_M_setLot (S := S) (n := n) (mL := mL') (u := u) hp hq (by omega) (h1.c hq') (h2.c hq')
    rw [wL_f2 (fun a ha => hF.1.1 a (by omega) (by omega) (by omega))] at has
    have hG := Gm_lot (u := u) hm1 hm3 (by omega) h1 h2
    have hb := hG.b
    have hl := hG.l
    have hmM2 : mI' 43 4 = nI m := by rw [hF.1.2.1 4 (by decide)]; exact hmM
    have fr : ∀ mL2 mL3 : Nat → Nat → Int64, (∀ a, a ≠ 43 → a ≠ 50 → mL2 a = mL' a) → (∀ y, y ≠ 12 → mL2 43 y = mL' 43 y) → FrM mL2 mL3 → FrN mI (am_u mI' 43 11 (nI 1)) mL mL3 := fun mL2 mL3 a2 a3 b1 => hF.trans ⟨⟨fun a e1 e2 e3 => by rw [am_u_r e1], fun y hy => by rw [am_u_k hy], fun a ha => (b1.1 a (by omega) (by omega) (by omega) (by omega) (by omega) (by omega)).trans (a2 a (by omega) (by omega))⟩, (b1.2 2 (by decide) (by decide) (by decide) (by decide)).trans (a3 2 (by decide)), (b1.2 3 (by decide) (by decide) (by decide) (by decide)).trans (a3 3 (by decide))⟩
    by_cases c : 0 < Wz m 144 1 (wL mI p q u)
    · obtain ⟨l1, l2, l3⟩ := hl c
      have p0 := f_le (Uz m 144 1 (wL mI p q u)) (Lz m 144 1 (wL mI p q u))
      obtain ⟨p1, p2⟩ := f_pos (u := Uz m 144 1 (wL mI p q u)) l1
      by_cases c1 : 0 < Uz m 144 1 (wL mI p q u)
      · have hv2 : v = nI u := by
          rcases hv with ⟨a, b⟩ | ⟨a, b⟩
          · exact b
          · exact absurd ⟨c, c1⟩ a
        subst hv2
        have d1 := p1.mpr c1
        refine go_iload_4 iM_middle_16 ?_
        refine go_bipush (v := nI 12) iM_middle_18 (by decide) ?_
        first | refine gn_ic_gt iM_middle_20 (by omega) (by omega) (fun c_20 => ?_) (fun c_20 => ?_) | refine go_ic_gt iM_middle_20 (fun c_20 => ?_) (fun c_20 => ?_)
        · (first | omega | exact absurd c_20 (by decide) | (exfalso; simp (disch := omega) only [Int32.lt_iff_toInt_lt, Int32.le_iff_toInt_le, ← Int32.toInt_inj, nI_toInt, i32_m1, i32_0, i32_m20, i32_m40, i32_m30, i32_m9] at *; omega))
        refine go_aloadn_0 iM_middle_23 rfl ?_
        refine go_iloadn_1 iM_middle_24 ?_
        refine go_iloadn_2 iM_middle_25 ?_
        refine go_iload_4 iM_middle_26 ?_
        refine gx_V0 iM_middle_28 rfl (by decide) (sk_43 _) rfl (Nat.le_of_ble_eq_true rfl) (Nat.le_of_ble_eq_true rfl) (by decide) has (fun mI28_ mL28_ h28_ => ?_)
        obtain ⟨a1, a2, a3, a4, a5⟩ := h28_
        subst mI28_
        have hgn := ex_M_hasGain (S := S) (n := n) (mI := am_u mI' 43 11 (nI 1)) hG (by rw [am_u_k (by decide)]; exact hmM2) am_u_s a4 (fun t i ht hi => a5 t i ht (by omega))
        rw [if_pos c] at hgn
        refine go_aloadn_0 iM_middle_31 rfl ?_
        refine gx_V1 iM_middle_32 rfl (by decide) (sk_43 _) rfl (Nat.le_of_ble_eq_true rfl) (Nat.le_of_ble_eq_true rfl) (by decide) hgn (fun mI32_ mL32_ h32_ => ?_)
        obtain ⟨b0, b1, b2⟩ := h32_
        subst mI32_
        obtain ⟨g2, g3⟩ := b2 c
        refine go_if_eq iM_middle_35 (fun c_35 => ?_) (fun c_35 => ?_)
        · (first | omega | exact absurd c_35 (by decide) | (exfalso; simp (disch := omega) only [Int32.lt_iff_toInt_lt, Int32.le_iff_toInt_le, ← Int32.toInt_inj, nI_toInt, i32_m1, i32_0, i32_m20, i32_m40, i32_m30, i32_m9] at *; omega))
        refine go_aloadn_0 iM_middle_38 rfl ?_
        refine go_getL iM_middle_39 rfl (sk_43 _) ?_
        try simp (disch := omega) only [am_u_n, am_u_s, am_u_k, g2]
        refine go_lconst (v := zL 0) iM_middle_42 rfl ?_
        refine gz_lc_le iM_middle_43 iM_middle_44 (by omega) (by omega) (fun c_43 => ?_) (fun c_43 => ?_)
        · (first | omega | exact absurd c_43 (by decide) | (exfalso; simp (disch := omega) only [Int32.lt_iff_toInt_lt, Int32.le_iff_toInt_le, ← Int32.toInt_inj, nI_toInt, i32_m1, i32_0, i32_m20, i32_m40, i32_m30, i32_m9] at *; omega))
        refine go_iload_4 iM_middle_47 ?_
        refine go_iret iM_middle_49 rfl ?_
        exact ex_i (fr _ _ a2 a3 b1)
      · have hv2 : midZ (mdP m mI p q) k (u + 1) v := by
          rcases hv with ⟨a, b⟩ | ⟨a, b⟩
          · exact absurd a.2 c1
          · exact b
        have d1 : ¬ 0 < fU (Uz m 144 1 (wL mI p q u)) (Lz m 144 1 (wL mI p q u)) := fun q => c1 (p1.mp q)
        refine go_iload_4 iM_middle_16 ?_
        refine go_bipush (v := nI 12) iM_middle_18 (by decide) ?_
        first | refine gn_ic_gt iM_middle_20 (by omega) (by omega) (fun c_20 => ?_) (fun c_20 => ?_) | refine go_ic_gt iM_middle_20 (fun c_20 => ?_) (fun c_20 => ?_)
        · (first | omega | exact absurd c_20 (by decide) | (exfalso; simp (disch := omega) only [Int32.lt_iff_toInt_lt, Int32.le_iff_toInt_le, ← Int32.toInt_inj, nI_toInt, i32_m1, i32_0, i32_m20, i32_m40, i32_m30, i32_m9] at *; omega))
        refine go_aloadn_0 iM_middle_23 rfl ?_
        refine go_iloadn_1 iM_middle_24 ?_
        refine go_iloadn_2 iM_middle_25 ?_
        refine go_iload_4 iM_middle_26 ?_
        refine gx_V0 iM_middle_28 rfl (by decide) (sk_43 _) rfl (Nat.le_of_ble_eq_true rfl) (Nat.le_of_ble_eq_true rfl) (by decide) has (fun mI28_ mL28_ h28_ => ?_)
        obtain ⟨a1, a2, a3, a4, a5⟩ := h28_
        subst mI28_
        have hgn := ex_M_hasGain (S := S) (n := n) (mI := am_u mI' 43 11 (nI 1)) hG (by rw [am_u_k (by decide)]; exact hmM2) am_u_s a4 (fun t i ht hi => a5 t i ht (by omega))
        rw [if_pos c] at hgn
        refine go_aloadn_0 iM_middle_31 rfl ?_
        refine gx_V1 iM_middle_32 rfl (by decide) (sk_43 _) rfl (Nat.le_of_ble_eq_true rfl) (Nat.le_of_ble_eq_true rfl) (by decide) hgn (fun mI32_ mL32_ h32_ => ?_)
        obtain ⟨b0, b1, b2⟩ := h32_
        subst mI32_
        obtain ⟨g2, g3⟩ := b2 c
        refine go_if_eq iM_middle_35 (fun c_35 => ?_) (fun c_35 => ?_)
        · (first | omega | exact absurd c_35 (by decide) | (exfalso; simp (disch := omega) only [Int32.lt_iff_toInt_lt, Int32.le_iff_toInt_le, ← Int32.toInt_inj, nI_toInt, i32_m1, i32_0, i32_m20, i32_m40, i32_m30, i32_m9] at *; omega))
        refine go_aloadn_0 iM_middle_38 rfl ?_
        refine go_getL iM_middle_39 rfl (sk_43 _) ?_
        try simp (disch := omega) only [am_u_n, am_u_s, am_u_k, g2]
        refine go_lconst (v := zL 0) iM_middle_42 rfl ?_
        refine gz_lc_le iM_middle_43 iM_middle_44 (by omega) (by omega) (fun c_43 => ?_) (fun c_43 => ?_)
        rotate_left
        · (first | omega | exact absurd c_43 (by decide) | (exfalso; simp (disch := omega) only [Int32.lt_iff_toInt_lt, Int32.le_iff_toInt_le, ← Int32.toInt_inj, nI_toInt, i32_m1, i32_0, i32_m20, i32_m40, i32_m30, i32_m9] at *; omega))
        first | refine go_iinc_4 iM_middle_50 (ni_inc _ 1) (by simp [Value.category, am_U]) ?_ | refine go_iinc_4 iM_middle_50 rfl (by simp [Value.category, am_U]) ?_
        refine go_goto iM_middle_53 ?_
        exact lo_M_mid hm1 hm3 hp hq hmM h1 h2 k (u + 1) _ _ (by omega) (fr _ _ a2 a3 b1) hv2
    · have hv2 : midZ (mdP m mI p q) k (u + 1) v := by
        rcases hv with ⟨a, b⟩ | ⟨a, b⟩
        · exact absurd a.1 c
        · exact b
      refine go_iload_4 iM_middle_16 ?_
      refine go_bipush (v := nI 12) iM_middle_18 (by decide) ?_
      first | refine gn_ic_gt iM_middle_20 (by omega) (by omega) (fun c_20 => ?_) (fun c_20 => ?_) | refine go_ic_gt iM_middle_20 (fun c_20 => ?_) (fun c_20 => ?_)
      · (first | omega | exact absurd c_20 (by decide) | (exfalso; simp (disch := omega) only [Int32.lt_iff_toInt_lt, Int32.le_iff_toInt_le, ← Int32.toInt_inj, nI_toInt, i32_m1, i32_0, i32_m20, i32_m40, i32_m30, i32_m9] at *; omega))
      refine go_aloadn_0 iM_middle_23 rfl ?_
      refine go_iloadn_1 iM_middle_24 ?_
      refine go_iloadn_2 iM_middle_25 ?_
      refine go_iload_4 iM_middle_26 ?_
      refine gx_V0 iM_middle_28 rfl (by decide) (sk_43 _) rfl (Nat.le_of_ble_eq_true rfl) (Nat.le_of_ble_eq_true rfl) (by decide) has (fun mI28_ mL28_ h28_ => ?_)
      obtain ⟨a1, a2, a3, a4, a5⟩ := h28_
      subst mI28_
      have hgn := ex_M_hasGain (S := S) (n := n) (mI := am_u mI' 43 11 (nI 1)) hG (by rw [am_u_k (by decide)]; exact hmM2) am_u_s a4 (fun t i ht hi => a5 t i ht (by omega))
      rw [if_neg c] at hgn
      refine go_aloadn_0 iM_middle_31 rfl ?_
      refine gx_V1 iM_middle_32 rfl (by decide) (sk_43 _) rfl (Nat.le_of_ble_eq_true rfl) (Nat.le_of_ble_eq_true rfl) (by decide) hgn (fun mI32_ mL32_ h32_ => ?_)
      obtain ⟨b0, b1, b2⟩ := h32_
      subst mI32_
      refine go_if_eq iM_middle_35 (fun c_35 => ?_) (fun c_35 => ?_)
      rotate_left
      · (first | omega | exact absurd c_35 (by decide) | (exfalso; simp (disch := omega) only [Int32.lt_iff_toInt_lt, Int32.le_iff_toInt_le, ← Int32.toInt_inj, nI_toInt, i32_m1, i32_0, i32_m20, i32_m40, i32_m30, i32_m9] at *; omega))
      first | refine go_iinc_4 iM_middle_50 (ni_inc _ 1) (by simp [Value.category, am_U]) ?_ | refine go_iinc_4 iM_middle_50 rfl (by simp [Value.category, am_U]) ?_
      refine go_goto iM_middle_53 ?_
      exact lo_M_mid hm1 hm3 hp hq hmM h1 h2 k (u + 1) _ _ (by omega) (fr _ _ a2 a3 b1) hv2
theorem pr_middle (x y : Int32) (hR : Rel n mI mL) : Pair S tT_middle tM_middle [.int x, .int y] n mI mL := by
  have hR0 := hR
  obtain ⟨h8, ⟨m, hm1, hm3, hmT, hmM⟩, hcT, hcM, hpl, hro, hfi, hfs, hu, hl, hch⟩ := hR
  rcases pl_cases x n h8 with ⟨p, hp, rfl⟩ | hx
  · have kp := sk_play hp
    rcases pl_cases y n h8 with ⟨q, hq, rfl⟩ | hy
    · have kq := sk_play hq
      obtain ⟨k1, b1, t1, m1, _⟩ := hpl p hp
      obtain ⟨k2, b2, t2, m2, _⟩ := hpl q hq
      by_cases c : k1 = 2 ∨ k2 = 2
      · refine Pair.refuse (h1 := 4) (h2 := 4) (f := 3) hR0 (by decide) ?_ ?_
        · show Go _ _ tT_middle (_, 0, [.ref 0, .int (nI p), .int (nI q), am_U, am_U, am_U, am_U], []) _
          by_cases c1 : k1 = 2
          · refine go_aloadn_0 iT_middle_0 rfl ?_
            refine go_iloadn_1 iT_middle_1 ?_
            refine gc_V1 iT_middle_2 rfl (by decide) (sk_0 _) rfl (Nat.le_of_ble_eq_true rfl) (Nat.le_of_ble_eq_true rfl) (by decide) (sp_T_playAt_t h8 hcT hp) ?_
            refine go_astoren_3 iT_middle_5 rfl (by simp [Value.category, am_U]) ?_
            refine go_aloadn_0 iT_middle_6 rfl ?_
            refine go_iloadn_2 iT_middle_7 ?_
            refine gc_V1 iT_middle_8 rfl (by decide) (sk_0 _) rfl (Nat.le_of_ble_eq_true rfl) (Nat.le_of_ble_eq_true rfl) (by decide) (sp_T_playAt_t h8 hcT hq) ?_
            refine go_astore_4 iT_middle_11 rfl (by simp [Value.category, am_U]) ?_
            refine go_aloadn_3 iT_middle_13 rfl ?_
            refine go_nulR iT_middle_14 ?_
            refine go_aload_4 iT_middle_17 rfl ?_
            refine go_nnulR iT_middle_19 ?_
            refine go_aloadn_3 iT_middle_24 rfl ?_
            refine go_getI iT_middle_25 (Or.inl rfl) (by assumption) ?_
            try simp (disch := omega) only [am_u_n, am_u_s, am_u_k, t1]
            refine go_iconst (v := nI 2) iT_middle_28 rfl ?_
            first | refine gn_ic_eq iT_middle_29 (by omega) (by omega) (fun c_29 => ?_) (fun c_29 => ?_) | refine go_ic_eq iT_middle_29 (fun c_29 => ?_) (fun c_29 => ?_)
            rotate_left
            · (first | omega | exact absurd c_29 (by decide) | (exfalso; simp (disch := omega) only [Int32.lt_iff_toInt_lt, Int32.le_iff_toInt_le, ← Int32.toInt_inj, nI_toInt, i32_m1, i32_0, i32_m20, i32_m40, i32_m30, i32_m9] at *; omega))
            refine go_aloadn_0 iT_middle_41 rfl ?_
            refine go_iconst (v := nI 3) iT_middle_42 rfl ?_
            refine gc_V1 iT_middle_43 rfl (by decide) (sk_0 _) rfl (Nat.le_of_ble_eq_true rfl) (Nat.le_of_ble_eq_true rfl) (by decide) (sp_T_refuse (by decide)) ?_
            refine go_iret iT_middle_46 rfl ?_
            rfl
          · refine go_aloadn_0 iT_middle_0 rfl ?_
            refine go_iloadn_1 iT_middle_1 ?_
            refine gc_V1 iT_middle_2 rfl (by decide) (sk_0 _) rfl (Nat.le_of_ble_eq_true rfl) (Nat.le_of_ble_eq_true rfl) (by decide) (sp_T_playAt_t h8 hcT hp) ?_
            refine go_astoren_3 iT_middle_5 rfl (by simp [Value.category, am_U]) ?_
            refine go_aloadn_0 iT_middle_6 rfl ?_
            refine go_iloadn_2 iT_middle_7 ?_
            refine gc_V1 iT_middle_8 rfl (by decide) (sk_0 _) rfl (Nat.le_of_ble_eq_true rfl) (Nat.le_of_ble_eq_true rfl) (by decide) (sp_T_playAt_t h8 hcT hq) ?_
            refine go_astore_4 iT_middle_11 rfl (by simp [Value.category, am_U]) ?_
            refine go_aloadn_3 iT_middle_13 rfl ?_
            refine go_nulR iT_middle_14 ?_
            refine go_aload_4 iT_middle_17 rfl ?_
            refine go_nnulR iT_middle_19 ?_
            refine go_aloadn_3 iT_middle_24 rfl ?_
            refine go_getI iT_middle_25 (Or.inl rfl) (by assumption) ?_
            try simp (disch := omega) only [am_u_n, am_u_s, am_u_k, t1, t2]
            refine go_iconst (v := nI 2) iT_middle_28 rfl ?_
            first | refine gn_ic_eq iT_middle_29 (by omega) (by omega) (fun c_29 => ?_) (fun c_29 => ?_) | refine go_ic_eq iT_middle_29 (fun c_29 => ?_) (fun c_29 => ?_)
            · (first | omega | exact absurd c_29 (by decide) | (exfalso; simp (disch := omega) only [Int32.lt_iff_toInt_lt, Int32.le_iff_toInt_le, ← Int32.toInt_inj, nI_toInt, i32_m1, i32_0, i32_m20, i32_m40, i32_m30, i32_m9] at *; omega))
            refine go_aload_4 iT_middle_32 rfl ?_
            refine go_getI iT_middle_34 (Or.inl rfl) (by assumption) ?_
            try simp (disch := omega) only [am_u_n, am_u_s, am_u_k, t1, t2]
            refine go_iconst (v := nI 2) iT_middle_37 rfl ?_
            first | refine gn_ic_ne iT_middle_38 (by omega) (by omega) (fun c_38 => ?_) (fun c_38 => ?_) | refine go_ic_ne iT_middle_38 (fun c_38 => ?_) (fun c_38 => ?_)
            · (first | omega | exact absurd c_38 (by decide) | (exfalso; simp (disch := omega) only [Int32.lt_iff_toInt_lt, Int32.le_iff_toInt_le, ← Int32.toInt_inj, nI_toInt, i32_m1, i32_0, i32_m20, i32_m40, i32_m30, i32_m9] at *; omega))
            refine go_aloadn_0 iT_middle_41 rfl ?_
            refine go_iconst (v := nI 3) iT_middle_42 rfl ?_
            refine gc_V1 iT_middle_43 rfl (by decide) (sk_0 _) rfl (Nat.le_of_ble_eq_true rfl) (Nat.le_of_ble_eq_true rfl) (by decide) (sp_T_refuse (by decide)) ?_
            refine go_iret iT_middle_46 rfl ?_
            rfl
        · have hqq : ∀ a, 42 < a → rfI mI 3 a = mI a := fun a ha => rfI_r (by omega) (by omega)
          show Go _ _ tM_middle (_, 0, [.ref 43, .int (nI p), .int (nI q), am_U, am_U], []) _
          refine go_aloadn_0 iM_middle_0 rfl ?_
          refine go_iloadn_1 iM_middle_1 ?_
          refine go_iloadn_2 iM_middle_2 ?_
          refine gc_V1 iM_middle_3 rfl (by decide) (sk_43 _) rfl (Nat.le_of_ble_eq_true rfl) (Nat.le_of_ble_eq_true rfl) (by decide) (sp_M_two_u h8 (by rw [hqq 43 (by omega)]; exact hcM) hp hq (by rw [hqq 45 (by omega)]; exact m1) (by rw [hqq 45 (by omega)]; exact m2) b1 b2 c) ?_
          refine go_istoren_3 iM_middle_6 (by simp [Value.category, am_U]) ?_
          refine go_iloadn_3 iM_middle_7 ?_
          refine go_if_ge iM_middle_8 (fun c_8 => ?_) (fun c_8 => ?_)
          · (first | omega | exact absurd c_8 (by decide) | (exfalso; simp (disch := omega) only [Int32.lt_iff_toInt_lt, Int32.le_iff_toInt_le, ← Int32.toInt_inj, nI_toInt, i32_m1, i32_0, i32_m20, i32_m40, i32_m30, i32_m9] at *; omega))
          refine go_iloadn_3 iM_middle_11 ?_
          refine go_iret iM_middle_12 rfl ?_
          rfl
      · have c1 : k1 ≠ 2 := fun e => c (Or.inl e)
        have c2 : k2 ≠ 2 := fun e => c (Or.inr e)
        obtain ⟨v, hv⟩ := midZ_ex (mdP m mI p q) 13 0
        refine Pair.ex (h1 := 3) (h2 := 4) (v := .int v) (P := fun mI1 mL1 => FrD mI mI1 mL mL1) ?_ (fun mI1 mL1 hP => ?_)
        · unfold Ex
          show Go _ _ tT_middle (_, 0, [.ref 0, .int (nI p), .int (nI q), am_U, am_U, am_U, am_U], []) _
          refine go_aloadn_0 iT_middle_0 rfl ?_
          refine go_iloadn_1 iT_middle_1 ?_
          refine gc_V1 iT_middle_2 rfl (by decide) (sk_0 _) rfl (Nat.le_of_ble_eq_true rfl) (Nat.le_of_ble_eq_true rfl) (by decide) (sp_T_playAt_t h8 hcT hp) ?_
          refine go_astoren_3 iT_middle_5 rfl (by simp [Value.category, am_U]) ?_
          refine go_aloadn_0 iT_middle_6 rfl ?_
          refine go_iloadn_2 iT_middle_7 ?_
          refine gc_V1 iT_middle_8 rfl (by decide) (sk_0 _) rfl (Nat.le_of_ble_eq_true rfl) (Nat.le_of_ble_eq_true rfl) (by decide) (sp_T_playAt_t h8 hcT hq) ?_
          refine go_astore_4 iT_middle_11 rfl (by simp [Value.category, am_U]) ?_
          refine go_aloadn_3 iT_middle_13 rfl ?_
          refine go_nulR iT_middle_14 ?_
          refine go_aload_4 iT_middle_17 rfl ?_
          refine go_nnulR iT_middle_19 ?_
          refine go_aloadn_3 iT_middle_24 rfl ?_
          refine go_getI iT_middle_25 (Or.inl rfl) (by assumption) ?_
          try simp (disch := omega) only [am_u_n, am_u_s, am_u_k, t1, t2]
          refine go_iconst (v := nI 2) iT_middle_28 rfl ?_
          first | refine gn_ic_eq iT_middle_29 (by omega) (by omega) (fun c_29 => ?_) (fun c_29 => ?_) | refine go_ic_eq iT_middle_29 (fun c_29 => ?_) (fun c_29 => ?_)
          · (first | omega | exact absurd c_29 (by decide) | (exfalso; simp (disch := omega) only [Int32.lt_iff_toInt_lt, Int32.le_iff_toInt_le, ← Int32.toInt_inj, nI_toInt, i32_m1, i32_0, i32_m20, i32_m40, i32_m30, i32_m9] at *; omega))
          refine go_aload_4 iT_middle_32 rfl ?_
          refine go_getI iT_middle_34 (Or.inl rfl) (by assumption) ?_
          try simp (disch := omega) only [am_u_n, am_u_s, am_u_k, t1, t2]
          refine go_iconst (v := nI 2) iT_middle_37 rfl ?_
          first | refine gn_ic_ne iT_middle_38 (by omega) (by omega) (fun c_38 => ?_) (fun c_38 => ?_) | refine go_ic_ne iT_middle_38 (fun c_38 => ?_) (fun c_38 => ?_)
          rotate_left
          · (first | omega | exact absurd c_38 (by decide) | (exfalso; simp (disch := omega) only [Int32.lt_iff_toInt_lt, Int32.le_iff_toInt_le, ← Int32.toInt_inj, nI_toInt, i32_m1, i32_0, i32_m20, i32_m40, i32_m30, i32_m9] at *; omega))
          refine go_iconst (v := nI 0) iT_middle_47 rfl ?_
          refine go_istore_5 iT_middle_48 (by simp [Value.category, am_U]) ?_
          exact lo_T_mid h8 hm1 hm3 hp hq hmT (hpl p hp) (hpl q hq) 13 0 _ _ _ (by omega) FrD.rfl' hv
        · have hqq : ∀ a, 42 < a → mI1 a = mI a := fun a ha => hP.1.1 a (by omega)
          have hv2 : midZ (mdP m mI1 p q) 13 0 v := midZ_congr (fun u => by unfold mdP; rw [wL_fr hqq]) 13 0 v hv
          unfold Ex
          show Go _ _ tM_middle (_, 0, [.ref 43, .int (nI p), .int (nI q), am_U, am_U], []) _
          refine go_aloadn_0 iM_middle_0 rfl ?_
          refine go_iloadn_1 iM_middle_1 ?_
          refine go_iloadn_2 iM_middle_2 ?_
          refine gc_V1 iM_middle_3 rfl (by decide) (sk_43 _) rfl (Nat.le_of_ble_eq_true rfl) (Nat.le_of_ble_eq_true rfl) (by decide) (sp_M_two_t h8 (by rw [hqq 43 (by omega)]; exact hcM) hp hq (by rw [hqq 45 (by omega)]; exact m1) (by rw [hqq 45 (by omega)]; exact m2) b1 b2 c1 c2) ?_
          refine go_istoren_3 iM_middle_6 (by simp [Value.category, am_U]) ?_
          refine go_iloadn_3 iM_middle_7 ?_
          refine go_if_ge iM_middle_8 (fun c_8 => ?_) (fun c_8 => ?_)
          rotate_left
          · (first | omega | exact absurd c_8 (by decide) | (exfalso; simp (disch := omega) only [Int32.lt_iff_toInt_lt, Int32.le_iff_toInt_le, ← Int32.toInt_inj, nI_toInt, i32_m1, i32_0, i32_m20, i32_m40, i32_m30, i32_m9] at *; omega))
          refine go_iconst (v := nI 0) iM_middle_13 rfl ?_
          refine go_istore_4 iM_middle_14 (by simp [Value.category, am_U]) ?_
          refine go_mono (lo_M_mid (mI := mI1) (mL := mL1) hm1 hm3 (by omega) (by omega) (by rw [hqq 43 (by omega)]; exact hmM) ((hpl p hp).c (fun a ha _ _ _ => hqq a ha)) ((hpl q hq).c (fun a ha _ _ _ => hqq a ha)) 13 0 _ _ (by omega) FrN.rfl' hv2) (Nat.le_refl _) (fun r hr => ?_)
          obtain ⟨mI2, mL2, e, hN⟩ := hr
          refine ⟨mI2, mL2, e, hR0.keep hP.1 hN.1 ?_ ?_⟩
          · rw [hP.2, hN.2.1, hP.1.2 43 (by omega) (by decide)]; exact hu
          · rw [hP.2, hN.2.2, hP.1.2 43 (by omega) (by decide)]; exact hl
    · refine Pair.same (h1 := 1) (h2 := 4) (v := .int (-1)) hR0 ?_ ?_
      · show Go _ _ tT_middle (_, 0, [.ref 0, .int (nI p), .int y, am_U, am_U, am_U, am_U], []) _
        refine go_aloadn_0 iT_middle_0 rfl ?_
        refine go_iloadn_1 iT_middle_1 ?_
        refine gc_V1 iT_middle_2 rfl (by decide) (sk_0 _) rfl (Nat.le_of_ble_eq_true rfl) (Nat.le_of_ble_eq_true rfl) (by decide) (sp_T_playAt_t h8 hcT hp) ?_
        refine go_astoren_3 iT_middle_5 rfl (by simp [Value.category, am_U]) ?_
        refine go_aloadn_0 iT_middle_6 rfl ?_
        refine go_iloadn_2 iT_middle_7 ?_
        refine gc_V1 iT_middle_8 rfl (by decide) (sk_0 _) rfl (Nat.le_of_ble_eq_true rfl) (Nat.le_of_ble_eq_true rfl) (by decide) (sp_T_playAt_f h8 hcT hy) ?_
        refine go_astore_4 iT_middle_11 rfl (by simp [Value.category, am_U]) ?_
        refine go_aloadn_3 iT_middle_13 rfl ?_
        refine go_nulR iT_middle_14 ?_
        refine go_aload_4 iT_middle_17 rfl ?_
        refine go_nnulN iT_middle_19 ?_
        refine go_iconst (v := (-1)) iT_middle_22 rfl ?_
        refine go_iret iT_middle_23 rfl ?_
        rfl
      · show Go _ _ tM_middle (_, 0, [.ref 43, .int (nI p), .int y, am_U, am_U], []) _
        refine go_aloadn_0 iM_middle_0 rfl ?_
        refine go_iloadn_1 iM_middle_1 ?_
        refine go_iloadn_2 iM_middle_2 ?_
        refine gc_V1 iM_middle_3 rfl (by decide) (sk_43 _) rfl (Nat.le_of_ble_eq_true rfl) (Nat.le_of_ble_eq_true rfl) (by decide) (sp_M_two_b2 h8 hcM hp hy) ?_
        refine go_istoren_3 iM_middle_6 (by simp [Value.category, am_U]) ?_
        refine go_iloadn_3 iM_middle_7 ?_
        refine go_if_ge iM_middle_8 (fun c_8 => ?_) (fun c_8 => ?_)
        · (first | omega | exact absurd c_8 (by decide) | (exfalso; simp (disch := omega) only [Int32.lt_iff_toInt_lt, Int32.le_iff_toInt_le, ← Int32.toInt_inj, nI_toInt, i32_m1, i32_0, i32_m20, i32_m40, i32_m30, i32_m9] at *; omega))
        refine go_iloadn_3 iM_middle_11 ?_
        refine go_iret iM_middle_12 rfl ?_
        rfl
  · refine Pair.same (h1 := 1) (h2 := 4) (v := .int (-1)) hR0 ?_ ?_
    · rcases pl_cases y n h8 with ⟨q, hq, rfl⟩ | hy
      · show Go _ _ tT_middle (_, 0, [.ref 0, .int x, .int (nI q), am_U, am_U, am_U, am_U], []) _
        refine go_aloadn_0 iT_middle_0 rfl ?_
        refine go_iloadn_1 iT_middle_1 ?_
        refine gc_V1 iT_middle_2 rfl (by decide) (sk_0 _) rfl (Nat.le_of_ble_eq_true rfl) (Nat.le_of_ble_eq_true rfl) (by decide) (sp_T_playAt_f h8 hcT hx) ?_
        refine go_astoren_3 iT_middle_5 rfl (by simp [Value.category, am_U]) ?_
        refine go_aloadn_0 iT_middle_6 rfl ?_
        refine go_iloadn_2 iT_middle_7 ?_
        refine gc_V1 iT_middle_8 rfl (by decide) (sk_0 _) rfl (Nat.le_of_ble_eq_true rfl) (Nat.le_of_ble_eq_true rfl) (by decide) (sp_T_playAt_t h8 hcT hq) ?_
        refine go_astore_4 iT_middle_11 rfl (by simp [Value.category, am_U]) ?_
        refine go_aloadn_3 iT_middle_13 rfl ?_
        refine go_nulN iT_middle_14 ?_
        refine go_iconst (v := (-1)) iT_middle_22 rfl ?_
        refine go_iret iT_middle_23 rfl ?_
        rfl
      · show Go _ _ tT_middle (_, 0, [.ref 0, .int x, .int y, am_U, am_U, am_U, am_U], []) _
        refine go_aloadn_0 iT_middle_0 rfl ?_
        refine go_iloadn_1 iT_middle_1 ?_
        refine gc_V1 iT_middle_2 rfl (by decide) (sk_0 _) rfl (Nat.le_of_ble_eq_true rfl) (Nat.le_of_ble_eq_true rfl) (by decide) (sp_T_playAt_f h8 hcT hx) ?_
        refine go_astoren_3 iT_middle_5 rfl (by simp [Value.category, am_U]) ?_
        refine go_aloadn_0 iT_middle_6 rfl ?_
        refine go_iloadn_2 iT_middle_7 ?_
        refine gc_V1 iT_middle_8 rfl (by decide) (sk_0 _) rfl (Nat.le_of_ble_eq_true rfl) (Nat.le_of_ble_eq_true rfl) (by decide) (sp_T_playAt_f h8 hcT hy) ?_
        refine go_astore_4 iT_middle_11 rfl (by simp [Value.category, am_U]) ?_
        refine go_aloadn_3 iT_middle_13 rfl ?_
        refine go_nulN iT_middle_14 ?_
        refine go_iconst (v := (-1)) iT_middle_22 rfl ?_
        refine go_iret iT_middle_23 rfl ?_
        rfl
    · show Go _ _ tM_middle (_, 0, [.ref 43, .int x, .int y, am_U, am_U], []) _
      refine go_aloadn_0 iM_middle_0 rfl ?_
      refine go_iloadn_1 iM_middle_1 ?_
      refine go_iloadn_2 iM_middle_2 ?_
      refine gc_V1 iM_middle_3 rfl (by decide) (sk_43 _) rfl (Nat.le_of_ble_eq_true rfl) (Nat.le_of_ble_eq_true rfl) (by decide) (sp_M_two_b1 h8 hcM hx) ?_
      refine go_istoren_3 iM_middle_6 (by simp [Value.category, am_U]) ?_
      refine go_iloadn_3 iM_middle_7 ?_
      refine go_if_ge iM_middle_8 (fun c_8 => ?_) (fun c_8 => ?_)
      · (first | omega | exact absurd c_8 (by decide) | (exfalso; simp (disch := omega) only [Int32.lt_iff_toInt_lt, Int32.le_iff_toInt_le, ← Int32.toInt_inj, nI_toInt, i32_m1, i32_0, i32_m20, i32_m40, i32_m30, i32_m9] at *; omega))
      refine go_iloadn_3 iM_middle_11 ?_
      refine go_iret iM_middle_12 rfl ?_
      rfl
end MID
