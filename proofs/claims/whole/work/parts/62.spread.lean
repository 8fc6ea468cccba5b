/-! ===== spread, setPurses ===== -/
/-- later, when the purses below K have taken their step -/
def laV (m : Nat) (w : Nat → Nat → Nat) (P : Int) (t K j : Nat) : Int := (if 2 ≤ j ∧ j < K + 1 then pz m w P t ((j : Int) - 31) * (w t (rsZ m ((j : Int) - 31)) : Int) else 0) + (if j + 1 < K then pz m w P t ((j : Int) - 29) * ((12 - w t (rsZ m ((j : Int) - 29)) : Nat) : Int) else 0)
theorem la_start {m : Nat} {w : Nat → Nat → Nat} {P : Int} {t j : Nat} : laV m w P t 1 j = 0 := by
  unfold laV
  rw [if_neg (by omega), if_neg (by omega)]
  rfl
theorem la_end {m : Nat} {w : Nat → Nat → Nat} {P : Int} {t j : Nat} (ht : t ≤ 8) (hP : -20 ≤ P ∧ P ≤ 20) : laV m w P t 60 j = pz m w P (t + 1) ((j : Int) - 30) := by
  unfold laV
  simp only [pz]
  rw [show (j : Int) - 30 - 1 = (j : Int) - 31 by omega, show (j : Int) - 30 + 1 = (j : Int) - 29 by omega]
  congr 1
  · by_cases h2 : 2 ≤ j ∧ j < 60 + 1
    · rw [if_pos h2]
    · rw [if_neg h2, pz_0 _ ((j : Int) - 31) (by omega), Int.zero_mul]
  · by_cases h3 : j + 1 < 60
    · rw [if_pos h3]
    · rw [if_neg h3, pz_0 _ ((j : Int) - 29) (by omega), Int.zero_mul]
def LaI (mL0 mL : Nat → Nat → Int64) (m : Nat) (w : Nat → Nat → Nat) (P : Int) (t K : Nat) : Prop := (∀ a, a ≠ 59 → mL a = mL0 a) ∧ ∀ x : Nat, x < 61 → mL 59 x = zL (laV m w P t K x)
theorem LaI.step {mL0 mL : Nat → Nat → Int64} {m : Nat} {w : Nat → Nat → Nat} {P : Int} {t K : Nat} (hK : 1 ≤ K) (hF : LaI mL0 mL m w P t K) : LaI mL0 (am_u (am_u mL 59 (K + 1) (zL (laV m w P t K (K + 1) + pz m w P t ((K : Int) - 30) * (w t (rsZ m ((K : Int) - 30)) : Int)))) 59 (K - 1) (zL (laV m w P t K (K - 1) + pz m w P t ((K : Int) - 30) * ((12 - w t (rsZ m ((K : Int) - 30)) : Nat) : Int)))) m w P t (K + 1) := by
  refine ⟨fun a ha => by rw [am_u_r ha, am_u_r ha]; exact hF.1 a ha, fun x hx => ?_⟩
  by_cases e1 : x = K - 1
  · subst e1
    rw [am_u_s]
    congr 1
    have e8 : ((K - 1 : Nat) : Int) - 29 = (K : Int) - 30 := by omega
    unfold laV
    rw [e8]
    repeat' split
    all_goals omega
  · rw [am_u_k e1]
    by_cases e2 : x = K + 1
    · subst e2
      rw [am_u_s]
      congr 1
      have e8 : ((K + 1 : Nat) : Int) - 31 = (K : Int) - 30 := by omega
      unfold laV
      rw [e8]
      repeat' split
      all_goals omega
    · rw [am_u_k e2, hF.2 x hx]
      congr 1
      unfold laV
      repeat' split
      all_goals omega
/-- the odds turn by turn, the row again and again -/
def wQ (w : Nat → Nat → Nat) (s : Nat) : Nat → Nat → Nat := fun t => w (t % s)
section SPR
variable {S : am_S} {mI : Nat → Nat → Int32} {mL mL0 : Nat → Nat → Int64} {n m t r s N : Nat} {ps : Nat → Nat} {w : Nat → Nat → Nat} {P : Int}
theorem lo_T_sp (h8 : n ≤ 8) (hm1 : 1 ≤ m) (hm3 : m ≤ 3) (hs0 : 0 < s) (h4 : s ≤ 4) (hr : r < 4) (hN : N ≤ 9) (hP : -20 ≤ P ∧ P ≤ 20) (hmT : mI 0 0 = nI m) (hcT : mI 0 1 = nI n) (hsz : mI (15 + 2 * r) 0 = nI s) (hps : ∀ i, i < s → mI (16 + 2 * r) i = nI (ps i) ∧ ps i < n) (hpl : ∀ p, p < n → PlR mI p) {Q : Option Value × am_M → Prop} (kq : ∀ mI' mL', PuI mI' mL' P N m (wQ (fun t => odN mI (ps t)) s) → FrP mI mI' mL mL' → Q (none, (am_sh n, mI', mL', am_mR n))) : ∀ l t (mI' : Nat → Nat → Int32) (mL' : Nat → Nat → Int64) (z : Value), t + l = N → PuI mI' mL' P t m (wQ (fun t => odN mI (ps t)) s) → FrP mI mI' mL mL' → Go S 2 tT_spread ((am_sh n, mI', mL', am_mR n), 11, [.ref 0, .ref (15 + 2 * r), .int (zI P), .int (nI N), .int (nI t), z], []) Q
  | 0, t, mI', mL', z, hi, hI, hF => by
    obtain rfl : t = N := by omega
    refine go_iload_4 iT_spread_11 ?_
    refine go_iloadn_3 iT_spread_13 ?_
    first | refine gn_ic_ge iT_spread_14 (by omega) (by omega) (fun c_14 => ?_) (fun c_14 => ?_) | refine go_ic_ge iT_spread_14 (fun c_14 => ?_) (fun c_14 => ?_)
    rotate_left
    · (first | omega | exact absurd c_14 (by decide) | (exfalso; simp (disch := omega) only [Int32.lt_iff_toInt_lt, Int32.le_iff_toInt_le, ← Int32.toInt_inj, nI_toInt, i32_m1, i32_0, i32_m20, i32_m40, i32_m30, i32_m9] at *; omega))
    refine go_vret iT_spread_69 rfl ?_
    exact kq _ _ hI hF
  | l + 1, t, mI', mL', z, hi, hI, hF => by
    have hk := sk_row n hr
    obtain ⟨g1, g2, g3, g4⟩ := sh_row n hr
    have hts := Nat.mod_lt t hs0
    obtain ⟨q2, hp⟩ := hps (t % s) hts
    rw [← hF.1 (16 + 2 * r) (by omega)] at q2
    have q1 := hsz
    rw [← hF.1 (15 + 2 * r) (by omega)] at q1
    have q3 := hcT
    rw [← hF.1 0 (by omega)] at q3
    have q4 := hmT
    rw [← hF.1 0 (by omega)] at q4
    obtain ⟨o1, o2⟩ := odN_ok (hpl _ hp)
    have hsk := sk_play hp
    have hwr := mR_wins n hp
    refine go_iload_4 iT_spread_11 ?_
    refine go_iloadn_3 iT_spread_13 ?_
    first | refine gn_ic_ge iT_spread_14 (by omega) (by omega) (fun c_14 => ?_) (fun c_14 => ?_) | refine go_ic_ge iT_spread_14 (fun c_14 => ?_) (fun c_14 => ?_)
    · (first | omega | exact absurd c_14 (by decide) | (exfalso; simp (disch := omega) only [Int32.lt_iff_toInt_lt, Int32.le_iff_toInt_le, ← Int32.toInt_inj, nI_toInt, i32_m1, i32_0, i32_m20, i32_m40, i32_m30, i32_m9] at *; omega))
    refine go_aloadn_1 iT_spread_17 rfl ?_
    refine go_getI iT_spread_18 (Or.inl rfl) (by assumption) ?_
    try simp (disch := omega) only [am_u_n, am_u_s, am_u_k, q1, q2, q4]
    refine go_if_le iT_spread_21 (fun c_21 => ?_) (fun c_21 => ?_)
    · (first | omega | exact absurd c_21 (by decide) | (exfalso; simp (disch := omega) only [Int32.lt_iff_toInt_lt, Int32.le_iff_toInt_le, ← Int32.toInt_inj, nI_toInt, i32_m1, i32_0, i32_m20, i32_m40, i32_m30, i32_m9] at *; omega))
    refine go_aloadn_0 iT_spread_24 rfl ?_
    refine go_aloadn_1 iT_spread_25 rfl ?_
    refine go_getR iT_spread_26 rfl (by assumption) (by assumption) ?_
    refine go_iload_4 iT_spread_29 ?_
    refine go_aloadn_1 iT_spread_31 rfl ?_
    refine go_getI iT_spread_32 (Or.inl rfl) (by assumption) ?_
    try simp (disch := omega) only [am_u_n, am_u_s, am_u_k, q1, q2, q4]
    refine gn_irem iT_spread_35 (by omega) (by omega) (by omega) ?_
    refine go_iald iT_spread_36 (by assumption) rfl (by omega) (by omega) ?_
    try simp (disch := omega) only [am_u_n, am_u_s, am_u_k, q1, q2, q4]
    refine gc_V1 iT_spread_37 rfl (by decide) (sk_0 _) rfl (Nat.le_of_ble_eq_true rfl) (Nat.le_of_ble_eq_true rfl) (by decide) (sp_T_playAt_t h8 q3 hp) ?_
    refine go_astore_5 iT_spread_40 rfl (by simp [Value.category, am_U]) ?_
    refine go_aload_5 iT_spread_42 rfl ?_
    refine go_nulR iT_spread_44 ?_
    refine go_aloadn_0 iT_spread_47 rfl ?_
    refine go_getR iT_spread_48 rfl (sk_0 _) (mR_0_13 _) ?_
    refine go_aload_5 iT_spread_51 rfl ?_
    refine go_getR iT_spread_53 rfl (by assumption) (by assumption) ?_
    refine go_aloadn_0 iT_spread_56 rfl ?_
    refine go_getI iT_spread_57 (Or.inl rfl) (sk_0 _) ?_
    try simp (disch := omega) only [am_u_n, am_u_s, am_u_k, q1, q2, q4]
    refine gx_V0 iT_spread_60 rfl (by decide) (sk_13 _) rfl (Nat.le_of_ble_eq_true rfl) (Nat.le_of_ble_eq_true rfl) (by decide) (ex_U_follow (w := wQ (fun t => odN mI (ps t)) s) hm1 hm3 (by omega) (sh_wins hp) hP hI (fun i hi => ⟨by rw [hF.1 _ (by omega)]; exact (o1 i (by omega)).1, (o1 i (by omega)).2⟩)) (fun mI60_ mL60_ h60_ => ?_)
    obtain ⟨e1, e2⟩ := h60_
    first | refine go_iinc_4 iT_spread_63 (ni_inc _ 1) (by simp [Value.category, am_U]) ?_ | refine go_iinc_4 iT_spread_63 rfl (by simp [Value.category, am_U]) ?_
    refine go_goto iT_spread_66 ?_
    exact lo_T_sp h8 hm1 hm3 hs0 h4 hr hN hP hmT hcT hsz hps hpl kq l (t + 1) _ _ _ (by omega) e1 (hF.trans e2)
theorem ex_T_spread (h8 : n ≤ 8) (hm1 : 1 ≤ m) (hm3 : m ≤ 3) (hs0 : 0 < s) (h4 : s ≤ 4) (hr : r < 4) (hN : N ≤ 9) (hP : -20 ≤ P ∧ P ≤ 20) (hmT : mI 0 0 = nI m) (hcT : mI 0 1 = nI n) (hsz : mI (15 + 2 * r) 0 = nI s) (hps : ∀ i, i < s → mI (16 + 2 * r) i = nI (ps i) ∧ ps i < n) (hpl : ∀ p, p < n → PlR mI p) : Ex S 2 tT_spread n mI mL [.ref 0, .ref (15 + 2 * r), .int (zI P), .int (nI N)] none (fun mI' mL' => PuI mI' mL' P N m (wQ (fun t => odN mI (ps t)) s) ∧ FrP mI mI' mL mL') := by
  unfold Ex
  show Go _ _ tT_spread (_, 0, [.ref 0, .ref (15 + 2 * r), .int (zI P), .int (nI N), am_U, am_U], []) _
  refine go_aloadn_0 iT_spread_0 rfl ?_
  refine go_getR iT_spread_1 rfl (sk_0 _) (mR_0_13 _) ?_
  refine go_iloadn_2 iT_spread_4 ?_
  refine gx_V0 iT_spread_5 rfl (by decide) (sk_13 _) rfl (Nat.le_of_ble_eq_true rfl) (Nat.le_of_ble_eq_true rfl) (by decide) (ex_U_begin (m := m) (w := wQ (fun t => odN mI (ps t)) s)) (fun mI5_ mL5_ h5_ => ?_)
  obtain ⟨e1, e2⟩ := h5_
  refine go_iconst (v := nI 0) iT_spread_8 rfl ?_
  refine go_istore_4 iT_spread_9 (by simp [Value.category, am_U]) ?_
  exact lo_T_sp h8 hm1 hm3 hs0 h4 hr hN hP hmT hcT hsz hps hpl (fun mI2 mL2 a b => ex_i ⟨a, b⟩) N 0 _ _ _ (by omega) e1 e2
theorem lo_M_sp0 (hP : -20 ≤ P ∧ P ≤ 20) {y1 y2 y3 y4 y5 : Value} {Q : Option Value × am_M → Prop} (kq : ∀ mL', ((∀ a, a ≠ 58 → mL' a = mL0 a) ∧ ∀ x : Nat, x < 61 → mL' 58 x = zL (pz m w P 0 ((x : Int) - 30))) → Go S 1 tM_setPurses ((am_sh n, mI, mL', am_mR n), 33, [.ref 43, .int (zI P), .int (nI N), .int (nI 61), y1, y2, y3, y4, y5], []) Q) : ∀ l k (mL' : Nat → Nat → Int64), k + l = 61 → ((∀ a, a ≠ 58 → mL' a = mL0 a) ∧ ∀ x : Nat, x < k → mL' 58 x = zL (pz m w P 0 ((x : Int) - 30))) → Go S 1 tM_setPurses ((am_sh n, mI, mL', am_mR n), 2, [.ref 43, .int (zI P), .int (nI N), .int (nI k), y1, y2, y3, y4, y5], []) Q
  | 0, k, mL', hi, hF => by
    obtain rfl : k = 61 := by omega
    refine go_iloadn_3 iM_setPurses_2 ?_
    refine go_bipush (v := nI 61) iM_setPurses_3 (by decide) ?_
    first | refine gn_ic_ge iM_setPurses_5 (by omega) (by omega) (fun c_5 => ?_) (fun c_5 => ?_) | refine go_ic_ge iM_setPurses_5 (fun c_5 => ?_) (fun c_5 => ?_)
    rotate_left
    · (first | omega | exact absurd c_5 (by decide) | (exfalso; simp (disch := omega) only [Int32.lt_iff_toInt_lt, Int32.le_iff_toInt_le, ← Int32.toInt_inj, nI_toInt, i32_m1, i32_0, i32_m20, i32_m40, i32_m30, i32_m9] at *; omega))
    exact kq _ hF
  | l + 1, k, mL', hi, hF => by
    have hA := sh_58 n
    have nx : ∀ v : Int, v = pz m w P 0 ((k : Int) - 30) → Go S 1 tM_setPurses ((am_sh n, am_u mI 0 0 (mI 0 0), am_u mL' 58 k (zL v), am_mR n), 2, [.ref 43, .int (zI P), .int (nI N), .int (nI (k + 1)), y1, y2, y3, y4, y5], []) Q := by
      intro v hv
      rw [show am_u mI 0 0 (mI 0 0) = mI by unfold am_u; rw [va_up_id, va_up_id]]
      refine lo_M_sp0 hP kq l (k + 1) _ (by omega) ⟨fun a ha => by rw [am_u_r ha]; exact hF.1 a ha, fun x hx => ?_⟩
      by_cases e : x = k
      · rw [e, am_u_s, hv]
      · rw [am_u_k e]; exact hF.2 x (by omega)
    rw [show am_u mI 0 0 (mI 0 0) = mI by unfold am_u; rw [va_up_id, va_up_id]] at nx
    by_cases c : k = (P + 30).toNat
    · refine go_iloadn_3 iM_setPurses_2 ?_
      refine go_bipush (v := nI 61) iM_setPurses_3 (by decide) ?_
      first | refine gn_ic_ge iM_setPurses_5 (by omega) (by omega) (fun c_5 => ?_) (fun c_5 => ?_) | refine gm_ic_ge iM_setPurses_5 (by omega) (by omega) (fun c_5 => ?_) (fun c_5 => ?_) | refine gi_ic_ge iM_setPurses_5 (by omega) (by omega) (fun c_5 => ?_) (fun c_5 => ?_) | refine go_ic_ge iM_setPurses_5 (fun c_5 => ?_) (fun c_5 => ?_)
      · (first | omega | exact absurd c_5 (by decide) | (exfalso; simp (disch := omega) only [Int32.lt_iff_toInt_lt, Int32.le_iff_toInt_le, ← Int32.toInt_inj, nI_toInt, i32_m1, i32_0, i32_m20, i32_m40, i32_m30, i32_m9] at *; omega))
      refine go_aloadn_0 iM_setPurses_8 rfl ?_
      refine go_getR iM_setPurses_9 rfl (sk_43 _) (mR_43_27 _) ?_
      refine go_iloadn_3 iM_setPurses_12 ?_
      refine go_iloadn_3 iM_setPurses_13 ?_
      refine go_iloadn_1 iM_setPurses_14 ?_
      refine go_bipush (v := nI 30) iM_setPurses_15 (by decide) ?_
      first | refine gn_iadd iM_setPurses_17 ?_ | refine gm_iadd iM_setPurses_17 ?_ | refine gi_iadd iM_setPurses_17 ?_ | refine go_iadd iM_setPurses_17 ?_
      rw [show zI (P + ((30 : Nat) : Int)) = nI (P + 30).toNat from zI_nI (by omega)]
      first | refine gn_ic_ne iM_setPurses_18 (by omega) (by omega) (fun c_18 => ?_) (fun c_18 => ?_) | refine gm_ic_ne iM_setPurses_18 (by omega) (by omega) (fun c_18 => ?_) (fun c_18 => ?_) | refine gi_ic_ne iM_setPurses_18 (by omega) (by omega) (fun c_18 => ?_) (fun c_18 => ?_) | refine go_ic_ne iM_setPurses_18 (fun c_18 => ?_) (fun c_18 => ?_)
      · (first | omega | exact absurd c_18 (by decide) | (exfalso; simp (disch := omega) only [Int32.lt_iff_toInt_lt, Int32.le_iff_toInt_le, ← Int32.toInt_inj, nI_toInt, i32_m1, i32_0, i32_m20, i32_m40, i32_m30, i32_m9] at *; omega))
      refine go_lconst (v := zL 1) iM_setPurses_21 rfl ?_
      refine go_goto iM_setPurses_22 ?_
      refine go_last iM_setPurses_26 (by assumption) rfl (by omega) (by omega) ?_
      first | refine go_iinc_3 iM_setPurses_27 (ni_inc _ 1) (by simp [Value.category, am_U]) ?_ | refine go_iinc_3 iM_setPurses_27 (zi_inc _ 1) (by simp [Value.category, am_U]) ?_
      refine go_goto iM_setPurses_30 ?_
      exact nx 1 (by unfold pz; rw [if_pos (by omega)])
    · refine go_iloadn_3 iM_setPurses_2 ?_
      refine go_bipush (v := nI 61) iM_setPurses_3 (by decide) ?_
      first | refine gn_ic_ge iM_setPurses_5 (by omega) (by omega) (fun c_5 => ?_) (fun c_5 => ?_) | refine gm_ic_ge iM_setPurses_5 (by omega) (by omega) (fun c_5 => ?_) (fun c_5 => ?_) | refine gi_ic_ge iM_setPurses_5 (by omega) (by omega) (fun c_5 => ?_) (fun c_5 => ?_) | refine go_ic_ge iM_setPurses_5 (fun c_5 => ?_) (fun c_5 => ?_)
      · (first | omega | exact absurd c_5 (by decide) | (exfalso; simp (disch := omega) only [Int32.lt_iff_toInt_lt, Int32.le_iff_toInt_le, ← Int32.toInt_inj, nI_toInt, i32_m1, i32_0, i32_m20, i32_m40, i32_m30, i32_m9] at *; omega))
      refine go_aloadn_0 iM_setPurses_8 rfl ?_
      refine go_getR iM_setPurses_9 rfl (sk_43 _) (mR_43_27 _) ?_
      refine go_iloadn_3 iM_setPurses_12 ?_
      refine go_iloadn_3 iM_setPurses_13 ?_
      refine go_iloadn_1 iM_setPurses_14 ?_
      refine go_bipush (v := nI 30) iM_setPurses_15 (by decide) ?_
      first | refine gn_iadd iM_setPurses_17 ?_ | refine gm_iadd iM_setPurses_17 ?_ | refine gi_iadd iM_setPurses_17 ?_ | refine go_iadd iM_setPurses_17 ?_
      rw [show zI (P + ((30 : Nat) : Int)) = nI (P + 30).toNat from zI_nI (by omega)]
      first | refine gn_ic_ne iM_setPurses_18 (by omega) (by omega) (fun c_18 => ?_) (fun c_18 => ?_) | refine gm_ic_ne iM_setPurses_18 (by omega) (by omega) (fun c_18 => ?_) (fun c_18 => ?_) | refine gi_ic_ne iM_setPurses_18 (by omega) (by omega) (fun c_18 => ?_) (fun c_18 => ?_) | refine go_ic_ne iM_setPurses_18 (fun c_18 => ?_) (fun c_18 => ?_)
      rotate_left
      · (first | omega | exact absurd c_18 (by decide) | (exfalso; simp (disch := omega) only [Int32.lt_iff_toInt_lt, Int32.le_iff_toInt_le, ← Int32.toInt_inj, nI_toInt, i32_m1, i32_0, i32_m20, i32_m40, i32_m30, i32_m9] at *; omega))
      refine go_lconst (v := zL 0) iM_setPurses_25 rfl ?_
      refine go_last iM_setPurses_26 (by assumption) rfl (by omega) (by omega) ?_
      first | refine go_iinc_3 iM_setPurses_27 (ni_inc _ 1) (by simp [Value.category, am_U]) ?_ | refine go_iinc_3 iM_setPurses_27 (zi_inc _ 1) (by simp [Value.category, am_U]) ?_
      refine go_goto iM_setPurses_30 ?_
      exact nx 0 (by unfold pz; rw [if_neg (by omega)])
theorem lo_M_sp1 {x1 x2 x3 x4 x5 y1 y2 : Value} (hx5 : x5.category ≠ 2) {Q : Option Value × am_M → Prop} (kq : ∀ mL', ((∀ a, a ≠ 59 → mL' a = mL0 a) ∧ ∀ x : Nat, x < 61 → mL' 59 x = zL 0) → Go S 1 tM_setPurses ((am_sh n, mI, mL', am_mR n), 68, [.ref 43, x1, x2, x3, x4, x5, .int (nI 61), y1, y2], []) Q) : ∀ l k (mL' : Nat → Nat → Int64), k + l = 61 → ((∀ a, a ≠ 59 → mL' a = mL0 a) ∧ ∀ x : Nat, x < k → mL' 59 x = zL 0) → Go S 1 tM_setPurses ((am_sh n, mI, mL', am_mR n), 47, [.ref 43, x1, x2, x3, x4, x5, .int (nI k), y1, y2], []) Q
  | 0, k, mL', hi, hF => by
    obtain rfl : k = 61 := by omega
    refine go_iload_6 iM_setPurses_47 ?_
    refine go_bipush (v := nI 61) iM_setPurses_49 (by decide) ?_
    first | refine gn_ic_ge iM_setPurses_51 (by omega) (by omega) (fun c_51 => ?_) (fun c_51 => ?_) | refine go_ic_ge iM_setPurses_51 (fun c_51 => ?_) (fun c_51 => ?_)
    rotate_left
    · (first | omega | exact absurd c_51 (by decide) | (exfalso; simp (disch := omega) only [Int32.lt_iff_toInt_lt, Int32.le_iff_toInt_le, ← Int32.toInt_inj, nI_toInt, i32_m1, i32_0, i32_m20, i32_m40, i32_m30, i32_m9] at *; omega))
    exact kq _ hF
  | l + 1, k, mL', hi, hF => by
    refine go_iload_6 iM_setPurses_47 ?_
    refine go_bipush (v := nI 61) iM_setPurses_49 (by decide) ?_
    first | refine gn_ic_ge iM_setPurses_51 (by omega) (by omega) (fun c_51 => ?_) (fun c_51 => ?_) | refine go_ic_ge iM_setPurses_51 (fun c_51 => ?_) (fun c_51 => ?_)
    · (first | omega | exact absurd c_51 (by decide) | (exfalso; simp (disch := omega) only [Int32.lt_iff_toInt_lt, Int32.le_iff_toInt_le, ← Int32.toInt_inj, nI_toInt, i32_m1, i32_0, i32_m20, i32_m40, i32_m30, i32_m9] at *; omega))
    refine go_aloadn_0 iM_setPurses_54 rfl ?_
    refine go_getR iM_setPurses_55 rfl (sk_43 _) (mR_43_28 _) ?_
    refine go_iload_6 iM_setPurses_58 ?_
    refine go_lconst (v := zL 0) iM_setPurses_60 rfl ?_
    refine go_last iM_setPurses_61 (sh_59 _) rfl (by omega) (by omega) ?_
    refine go_iinc_6 iM_setPurses_62 (ni_inc _ 1) hx5 ?_
    refine go_goto iM_setPurses_65 ?_
    refine lo_M_sp1 hx5 kq l (k + 1) _ (by omega) ⟨fun a ha => by rw [am_u_r ha]; exact hF.1 a ha, fun x hx => ?_⟩
    by_cases e : x = k
    · rw [e, am_u_s]
    · rw [am_u_k e]; exact hF.2 x (by omega)
theorem lo_M_sp2 (hm1 : 1 ≤ m) (hm3 : m ≤ 3) (hs0 : 0 < s) (h4 : s ≤ 4) (ht : t ≤ 8) (hmM : mI 43 4 = nI m) (htM : mI 43 11 = nI s) (hw : ∀ t i, t < s → i < 3 → mL0 50 (3 * t + i) = zL (w t i)) (hwB : ∀ t i, t < s → i < 3 → w t i ≤ 12) (hp : ∀ x : Nat, x < 61 → mL0 58 x = zL (pz m (wQ w s) P t ((x : Int) - 30))) {x1 x2 x3 x4 : Value} {Q : Option Value × am_M → Prop} (kq : ∀ mL' y1 y2, LaI mL0 mL' m (wQ w s) P t 60 → Go S 1 tM_setPurses ((am_sh n, mI, mL', am_mR n), 158, [.ref 43, x1, x2, x3, x4, .int (nI t), .int (nI 60), y1, y2], []) Q) : ∀ l K (mL' : Nat → Nat → Int64) (y1 y2 : Value), K + l = 60 → 1 ≤ K → LaI mL0 mL' m (wQ w s) P t K → Go S 1 tM_setPurses ((am_sh n, mI, mL', am_mR n), 71, [.ref 43, x1, x2, x3, x4, .int (nI t), .int (nI K), y1, y2], []) Q
  | 0, K, mL', y1, y2, hi, hK, hF => by
    obtain rfl : K = 60 := by omega
    refine go_iload_6 iM_setPurses_71 ?_
    refine go_bipush (v := nI 60) iM_setPurses_73 (by decide) ?_
    first | refine gn_ic_ge iM_setPurses_75 (by omega) (by omega) (fun c_75 => ?_) (fun c_75 => ?_) | refine go_ic_ge iM_setPurses_75 (fun c_75 => ?_) (fun c_75 => ?_)
    rotate_left
    · (first | omega | exact absurd c_75 (by decide) | (exfalso; simp (disch := omega) only [Int32.lt_iff_toInt_lt, Int32.le_iff_toInt_le, ← Int32.toInt_inj, nI_toInt, i32_m1, i32_0, i32_m20, i32_m40, i32_m30, i32_m9] at *; omega))
    exact kq _ _ _ hF
  | l + 1, K, mL', y1, y2, hi, hK, hF => by
    have hA := sh_59 n
    have hA2 := sh_58 n
    have hA3 := sh_50 n
    have hts := Nat.mod_lt t hs0
    have hz := rsZ_lt hm1 ((K : Int) - 30)
    have r1 := hw (t % s) (rsZ m ((K : Int) - 30)) hts (by omega)
    have rb := hwB (t % s) (rsZ m ((K : Int) - 30)) hts (by omega)
    rw [← hF.1 50 (by decide)] at r1
    have r2 := hp K (by omega)
    rw [← hF.1 58 (by decide)] at r2
    have r3 := hF.2 (K + 1) (by omega)
    have r4 := hF.2 (K - 1) (by omega)
    have e12 : (12 : Int) - (w (t % s) (rsZ m ((K : Int) - 30)) : Int) = ((12 - w (t % s) (rsZ m ((K : Int) - 30)) : Nat) : Int) := by omega
    refine go_iload_6 iM_setPurses_71 ?_
    refine go_bipush (v := nI 60) iM_setPurses_73 (by decide) ?_
    first | refine gn_ic_ge iM_setPurses_75 (by omega) (by omega) (fun c_75 => ?_) (fun c_75 => ?_) | refine go_ic_ge iM_setPurses_75 (fun c_75 => ?_) (fun c_75 => ?_)
    · (first | omega | exact absurd c_75 (by decide) | (exfalso; simp (disch := omega) only [Int32.lt_iff_toInt_lt, Int32.le_iff_toInt_le, ← Int32.toInt_inj, nI_toInt, i32_m1, i32_0, i32_m20, i32_m40, i32_m30, i32_m9] at *; omega))
    refine go_aloadn_0 iM_setPurses_78 rfl ?_
    refine go_getR iM_setPurses_79 rfl (sk_43 _) (mR_43_13 _) ?_
    refine go_iconst (v := nI 3) iM_setPurses_82 rfl ?_
    refine go_iload_5 iM_setPurses_83 ?_
    refine go_aloadn_0 iM_setPurses_85 rfl ?_
    refine go_getI iM_setPurses_86 (Or.inl rfl) (sk_43 _) ?_
    try simp (disch := omega) only [am_u_n, am_u_s, am_u_k, htM, r1, r2, r3, r4]
    refine gn_irem iM_setPurses_89 (by omega) (by omega) (by omega) ?_
    first | refine gn_imul iM_setPurses_90 ?_ | refine go_imul iM_setPurses_90 ?_
    refine go_aloadn_0 iM_setPurses_91 rfl ?_
    refine go_iload_6 iM_setPurses_92 ?_
    refine go_bipush (v := nI 30) iM_setPurses_94 (by decide) ?_
    refine gk_isub iM_setPurses_96 ?_
    rw [show (K : Int) - ((30 : Nat) : Int) = (K : Int) - 30 from rfl]
    refine gc_V1 iM_setPurses_97 rfl (by decide) (sk_43 _) rfl (Nat.le_of_ble_eq_true rfl) (Nat.le_of_ble_eq_true rfl) (by decide) (sp_M_restOf (by omega) hm1 hm3 hmM) ?_
    first | refine gn_iadd iM_setPurses_100 ?_ | refine go_iadd iM_setPurses_100 ?_
    refine go_lald iM_setPurses_101 (by assumption) rfl (by omega) (by omega) ?_
    try simp (disch := omega) only [am_u_n, am_u_s, am_u_k, htM, r1, r2, r3, r4]
    refine go_lstore_7 iM_setPurses_102 (by simp [Value.category, am_U]) ?_
    refine go_aloadn_0 iM_setPurses_104 rfl ?_
    refine go_getR iM_setPurses_105 rfl (sk_43 _) (mR_43_28 _) ?_
    refine go_iload_6 iM_setPurses_108 ?_
    refine go_iconst (v := nI 1) iM_setPurses_110 rfl ?_
    first | refine gn_iadd iM_setPurses_111 ?_ | refine go_iadd iM_setPurses_111 ?_
    refine go_dup2 iM_setPurses_112 ⟨rfl, rfl⟩ ?_
    refine go_lald iM_setPurses_113 (sh_59 _) rfl (by omega) (by omega) ?_
    try simp (disch := omega) only [am_u_n, am_u_s, am_u_k, htM, r1, r2, r3, r4]
    refine go_aloadn_0 iM_setPurses_114 rfl ?_
    refine go_getR iM_setPurses_115 rfl (sk_43 _) (mR_43_27 _) ?_
    refine go_iload_6 iM_setPurses_118 ?_
    refine go_lald iM_setPurses_120 (sh_58 _) rfl (by omega) (by omega) ?_
    try simp (disch := omega) only [am_u_n, am_u_s, am_u_k, htM, r1, r2, r3, r4]
    refine go_lload_7 iM_setPurses_121 ?_
    first | refine gz_lmul iM_setPurses_123 ?_ | refine go_lmul iM_setPurses_123 ?_
    first | refine gz_ladd iM_setPurses_124 ?_ | refine go_ladd iM_setPurses_124 ?_
    refine go_last iM_setPurses_125 (sh_59 _) rfl (by omega) (by omega) ?_
    refine go_aloadn_0 iM_setPurses_126 rfl ?_
    refine go_getR iM_setPurses_127 rfl (sk_43 _) (mR_43_28 _) ?_
    refine go_iload_6 iM_setPurses_130 ?_
    refine go_iconst (v := nI 1) iM_setPurses_132 rfl ?_
    first | refine gn_isub iM_setPurses_133 (by omega) ?_ | refine go_isub iM_setPurses_133 ?_
    refine go_dup2 iM_setPurses_134 ⟨rfl, rfl⟩ ?_
    refine go_lald iM_setPurses_135 (sh_59 _) rfl (by omega) (by omega) ?_
    try simp (disch := omega) only [am_u_n, am_u_s, am_u_k, htM, r1, r2, r3, r4]
    refine go_aloadn_0 iM_setPurses_136 rfl ?_
    refine go_getR iM_setPurses_137 rfl (sk_43 _) (mR_43_27 _) ?_
    refine go_iload_6 iM_setPurses_140 ?_
    refine go_lald iM_setPurses_142 (sh_58 _) rfl (by omega) (by omega) ?_
    try simp (disch := omega) only [am_u_n, am_u_s, am_u_k, htM, r1, r2, r3, r4]
    refine go_ldc2 (v := zL 12) iM_setPurses_143 rfl ?_
    refine go_lload_7 iM_setPurses_146 ?_
    first | refine gz_lsub iM_setPurses_148 ?_ | refine go_lsub iM_setPurses_148 ?_
    rw [e12]
    first | refine gz_lmul iM_setPurses_149 ?_ | refine go_lmul iM_setPurses_149 ?_
    first | refine gz_ladd iM_setPurses_150 ?_ | refine go_ladd iM_setPurses_150 ?_
    refine go_last iM_setPurses_151 (by assumption) rfl (by omega) (by omega) ?_
    first | refine go_iinc_6 iM_setPurses_152 (ni_inc _ 1) (by simp [Value.category, am_U]) ?_ | refine go_iinc_6 iM_setPurses_152 rfl (by simp [Value.category, am_U]) ?_
    refine go_goto iM_setPurses_155 ?_
    exact lo_M_sp2 hm1 hm3 hs0 h4 ht hmM htM hw hwB hp kq l (K + 1) _ _ _ (by omega) (by omega) (hF.step hK)
theorem lo_M_sp3 {f : Nat → Int} (hf : ∀ x : Nat, x < 61 → mL0 59 x = zL (f x)) {x1 x2 x3 x4 x5 y1 y2 : Value} (hx5 : x5.category ≠ 2) {Q : Option Value × am_M → Prop} (kq : ∀ mL', ((∀ a, a ≠ 58 → mL' a = mL0 a) ∧ ∀ x : Nat, x < 61 → mL' 58 x = zL (f x)) → Go S 1 tM_setPurses ((am_sh n, mI, mL', am_mR n), 188, [.ref 43, x1, x2, x3, x4, x5, .int (nI 61), y1, y2], []) Q) : ∀ l k (mL' : Nat → Nat → Int64), k + l = 61 → ((∀ a, a ≠ 58 → mL' a = mL0 a) ∧ ∀ x : Nat, x < k → mL' 58 x = zL (f x)) → Go S 1 tM_setPurses ((am_sh n, mI, mL', am_mR n), 161, [.ref 43, x1, x2, x3, x4, x5, .int (nI k), y1, y2], []) Q
  | 0, k, mL', hi, hF => by
    obtain rfl : k = 61 := by omega
    refine go_iload_6 iM_setPurses_161 ?_
    refine go_bipush (v := nI 61) iM_setPurses_163 (by decide) ?_
    first | refine gn_ic_ge iM_setPurses_165 (by omega) (by omega) (fun c_165 => ?_) (fun c_165 => ?_) | refine go_ic_ge iM_setPurses_165 (fun c_165 => ?_) (fun c_165 => ?_)
    rotate_left
    · (first | omega | exact absurd c_165 (by decide) | (exfalso; simp (disch := omega) only [Int32.lt_iff_toInt_lt, Int32.le_iff_toInt_le, ← Int32.toInt_inj, nI_toInt, i32_m1, i32_0, i32_m20, i32_m40, i32_m30, i32_m9] at *; omega))
    exact kq _ hF
  | l + 1, k, mL', hi, hF => by
    have r1 := hf k (by omega)
    rw [← hF.1 59 (by decide)] at r1
    refine go_iload_6 iM_setPurses_161 ?_
    refine go_bipush (v := nI 61) iM_setPurses_163 (by decide) ?_
    first | refine gn_ic_ge iM_setPurses_165 (by omega) (by omega) (fun c_165 => ?_) (fun c_165 => ?_) | refine go_ic_ge iM_setPurses_165 (fun c_165 => ?_) (fun c_165 => ?_)
    · (first | omega | exact absurd c_165 (by decide) | (exfalso; simp (disch := omega) only [Int32.lt_iff_toInt_lt, Int32.le_iff_toInt_le, ← Int32.toInt_inj, nI_toInt, i32_m1, i32_0, i32_m20, i32_m40, i32_m30, i32_m9] at *; omega))
    refine go_aloadn_0 iM_setPurses_168 rfl ?_
    refine go_getR iM_setPurses_169 rfl (sk_43 _) (mR_43_27 _) ?_
    refine go_iload_6 iM_setPurses_172 ?_
    refine go_aloadn_0 iM_setPurses_174 rfl ?_
    refine go_getR iM_setPurses_175 rfl (sk_43 _) (mR_43_28 _) ?_
    refine go_iload_6 iM_setPurses_178 ?_
    refine go_lald iM_setPurses_180 (sh_59 _) rfl (by omega) (by omega) ?_
    try simp (disch := omega) only [am_u_n, am_u_s, am_u_k, r1]
    refine go_last iM_setPurses_181 (sh_58 _) rfl (by omega) (by omega) ?_
    refine go_iinc_6 iM_setPurses_182 (ni_inc _ 1) hx5 ?_
    refine go_goto iM_setPurses_185 ?_
    refine lo_M_sp3 hf hx5 kq l (k + 1) _ (by omega) ⟨fun a ha => by rw [am_u_r ha]; exact hF.1 a ha, fun x hx => ?_⟩
    by_cases e : x = k
    · rw [e, am_u_s]
    · rw [am_u_k e]; exact hF.2 x (by omega)
theorem lo_M_sp4 (hm1 : 1 ≤ m) (hm3 : m ≤ 3) (hs0 : 0 < s) (h4 : s ≤ 4) (hN : N ≤ 9) (hP : -20 ≤ P ∧ P ≤ 20) (hmM : mI 43 4 = nI m) (htM : mI 43 11 = nI s) (hw : ∀ t i, t < s → i < 3 → mL0 50 (3 * t + i) = zL (w t i)) (hwB : ∀ t i, t < s → i < 3 → w t i ≤ 12) {Q : Option Value × am_M → Prop} (kq : ∀ mL', ((∀ a, a ≠ 58 → a ≠ 59 → mL' a = mL0 a) ∧ ∀ x : Nat, x < 61 → mL' 58 x = zL (pz m (wQ w s) P N ((x : Int) - 30))) → Q (some (.long (zL (pw 12 N))), (am_sh n, mI, mL', am_mR n))) : ∀ l t (mL' : Nat → Nat → Int64) (y1 y2 y3 : Value), t + l = N → ((∀ a, a ≠ 58 → a ≠ 59 → mL' a = mL0 a) ∧ ∀ x : Nat, x < 61 → mL' 58 x = zL (pz m (wQ w s) P t ((x : Int) - 30))) → Go S 1 tM_setPurses ((am_sh n, mI, mL', am_mR n), 38, [.ref 43, .int (zI P), .int (nI N), .long (zL (pw 12 t)), am_U, .int (nI t), y1, y2, y3], []) Q
  | 0, t, mL', y1, y2, y3, hi, hF => by
    obtain rfl : t = N := by omega
    refine go_iload_5 iM_setPurses_38 ?_
    refine go_iloadn_2 iM_setPurses_40 ?_
    first | refine gn_ic_ge iM_setPurses_41 (by omega) (by omega) (fun c_41 => ?_) (fun c_41 => ?_) | refine go_ic_ge iM_setPurses_41 (fun c_41 => ?_) (fun c_41 => ?_)
    rotate_left
    · (first | omega | exact absurd c_41 (by decide) | (exfalso; simp (disch := omega) only [Int32.lt_iff_toInt_lt, Int32.le_iff_toInt_le, ← Int32.toInt_inj, nI_toInt, i32_m1, i32_0, i32_m20, i32_m40, i32_m30, i32_m9] at *; omega))
    refine go_lloadn_3 iM_setPurses_200 ?_
    refine go_lret iM_setPurses_201 rfl ?_
    exact kq _ hF
  | l + 1, t, mL', y1, y2, y3, hi, hF => by
    refine go_iload_5 iM_setPurses_38 ?_
    refine go_iloadn_2 iM_setPurses_40 ?_
    first | refine gn_ic_ge iM_setPurses_41 (by omega) (by omega) (fun c_41 => ?_) (fun c_41 => ?_) | refine go_ic_ge iM_setPurses_41 (fun c_41 => ?_) (fun c_41 => ?_)
    · (first | omega | exact absurd c_41 (by decide) | (exfalso; simp (disch := omega) only [Int32.lt_iff_toInt_lt, Int32.le_iff_toInt_le, ← Int32.toInt_inj, nI_toInt, i32_m1, i32_0, i32_m20, i32_m40, i32_m30, i32_m9] at *; omega))
    refine go_iconst (v := nI 0) iM_setPurses_44 rfl ?_
    refine go_istore_6 iM_setPurses_45 (by simp [Value.category, am_U]) ?_
    refine lo_M_sp1 (mL0 := mL') (by simp [Value.category]) (fun mL1 h1 => ?_) 61 0 _ (by omega) ⟨fun a _ => rfl, fun x hx => by omega⟩
    refine go_iconst (v := nI 1) iM_setPurses_68 rfl ?_
    refine go_istore_6 iM_setPurses_69 (by simp [Value.category, am_U]) ?_
    refine lo_M_sp2 (mL0 := mL1) (P := P) (s := s) (w := w) hm1 hm3 hs0 h4 (by omega) hmM htM (fun u i hu hi => ?_) hwB (fun x hx => ?_) (fun mL2 z1 z2 h2 => ?_) 59 1 _ _ _ (by omega) (by omega) ⟨fun a _ => rfl, fun x hx => ?_⟩
    · rw [h1.1 50 (by decide), hF.1 50 (by decide) (by decide)]; exact hw u i hu hi
    · rw [h1.1 58 (by decide)]; exact hF.2 x hx
    rotate_left
    · rw [h1.2 x hx, la_start]
    refine go_iconst (v := nI 0) iM_setPurses_158 rfl ?_
    refine go_istore_6 iM_setPurses_159 (by simp [Value.category, am_U]) ?_
    refine lo_M_sp3 (mL0 := mL2) (f := fun x => pz m (wQ w s) P (t + 1) ((x : Int) - 30)) (fun x hx => ?_) (by simp [Value.category]) (fun mL3 h3 => ?_) 61 0 _ (by omega) ⟨fun a _ => rfl, fun x hx => by omega⟩
    · rw [h2.2 x hx, la_end (by omega) hP]
    refine go_lloadn_3 iM_setPurses_188 ?_
    refine go_ldc2 (v := zL 12) iM_setPurses_189 rfl ?_
    first | refine gz_lmul iM_setPurses_192 ?_ | refine go_lmul iM_setPurses_192 ?_
    refine go_lstoren_3 iM_setPurses_193 (by simp [Value.category, am_U]) ?_
    first | refine go_iinc_5 iM_setPurses_194 (ni_inc _ 1) (by simp [Value.category, am_U]) ?_ | refine go_iinc_5 iM_setPurses_194 rfl (by simp [Value.category, am_U]) ?_
    refine go_goto iM_setPurses_197 ?_
    rw [pw12]
    exact lo_M_sp4 hm1 hm3 hs0 h4 hN hP hmM htM hw hwB kq l (t + 1) _ _ _ _ (by omega) ⟨fun a a1 a2 => by rw [h3.1 a a1, h2.1 a a2, h1.1 a a2]; exact hF.1 a a1 a2, h3.2⟩
theorem ex_M_setPurses (hm1 : 1 ≤ m) (hm3 : m ≤ 3) (hs0 : 0 < s) (h4 : s ≤ 4) (hN : N ≤ 9) (hP : -20 ≤ P ∧ P ≤ 20) (hmM : mI 43 4 = nI m) (htM : mI 43 11 = nI s) (hw : ∀ t i, t < s → i < 3 → mL 50 (3 * t + i) = zL (w t i)) (hwB : ∀ t i, t < s → i < 3 → w t i ≤ 12) : Ex S 1 tM_setPurses n mI mL [.ref 43, .int (zI P), .int (nI N)] (some (.long (zL (pw 12 N)))) (fun mI' mL' => mI' = mI ∧ (∀ a, a ≠ 58 → a ≠ 59 → mL' a = mL a) ∧ ∀ x : Nat, x < 61 → mL' 58 x = zL (pz m (wQ w s) P N ((x : Int) - 30))) := by
  unfold Ex
  show Go _ _ tM_setPurses (_, 0, [.ref 43, .int (zI P), .int (nI N), am_U, am_U, am_U, am_U, am_U, am_U], []) _
  refine go_iconst (v := nI 0) iM_setPurses_0 rfl ?_
  refine go_istoren_3 iM_setPurses_1 (by simp [Value.category, am_U]) ?_
  refine lo_M_sp0 (mL0 := mL) (m := m) (w := wQ w s) hP (fun mL1 h1 => ?_) 61 0 _ (by omega) ⟨fun a _ => rfl, fun x hx => by omega⟩
  refine go_lconst (v := zL 1) iM_setPurses_33 rfl ?_
  refine go_lstoren_3 iM_setPurses_34 (by simp [Value.category, am_U]) ?_
  refine go_iconst (v := nI 0) iM_setPurses_35 rfl ?_
  refine go_istore_5 iM_setPurses_36 (by simp [Value.category, am_U]) ?_
  refine lo_M_sp4 (mL0 := mL) (w := w) (s := s) hm1 hm3 hs0 h4 hN hP hmM htM hw hwB (fun mL2 h2 => ex_i ⟨rfl, h2⟩) N 0 _ _ _ _ (by omega) ⟨fun a a1 _ => h1.1 a a1, h1.2⟩
end SPR
