/-! ===== rounds of rows; leads, share, gain ===== -/
theorem Pair.ex {S : am_S} {tT tM : am_T} {as : List Value} {n h1 h2 : Nat} {mI : Nat → Nat → Int32} {mL : Nat → Nat → Int64} {v : Value} {P : (Nat → Nat → Int32) → (Nat → Nat → Int64) → Prop} (a : Ex S h1 tT n mI mL (.ref 0 :: as) (some v) P) (b : ∀ mI1 mL1, P mI1 mL1 → Ex S h2 tM n mI1 mL1 (.ref 43 :: as) (some v) (fun mI2 mL2 => Rel n mI2 mL2)) (e1 : h1 ≤ 20 := by decide) (e2 : h2 ≤ 20 := by decide) : Pair S tT tM as n mI mL := by
  obtain ⟨mI1, mL1, hp, hs⟩ := a.get
  obtain ⟨mI2, mL2, hp2, hs2⟩ := (b mI1 mL1 hp).get
  exact Pair.mk hs hs2 hp2 e1 e2 (Nat.le_refl _) (by omega)
/-- the class may have changed its scratch cells and its fraction -/
def FrC (mI mI' : Nat → Nat → Int32) (mL mL' : Nat → Nat → Int64) : Prop := (∀ a, (a < 7 ∨ (14 < a ∧ a < 23) ∨ 42 < a) → mI' a = mI a) ∧ ∀ a, (a < 7 ∨ (14 < a ∧ a < 23) ∨ 42 < a) → a ≠ 4 → mL' a = mL a
theorem FrC.rfl' {mI : Nat → Nat → Int32} {mL : Nat → Nat → Int64} : FrC mI mI mL mL := ⟨fun _ _ => rfl, fun _ _ _ => rfl⟩
theorem FrC.trans {mI mI' mI'' : Nat → Nat → Int32} {mL mL' mL'' : Nat → Nat → Int64} (h : FrC mI mI' mL mL') (h' : FrC mI' mI'' mL' mL'') : FrC mI mI'' mL mL'' := ⟨fun a h1 => (h'.1 a h1).trans (h.1 a h1), fun a h1 h2 => (h'.2 a h1 h2).trans (h.2 a h1 h2)⟩
theorem FrK.c {k : Nat} {mI mI' : Nat → Nat → Int32} {mL mL' : Nat → Nat → Int64} (hk : k < 5) (h : FrK k mI mI' mL mL') : FrC mI mI' mL mL' := ⟨fun a h1 => h.1 a (by omega), fun a h1 _ => h.2 a (by omega) (by omega) (by omega) (by omega)⟩
/-- what the reference may have changed -/
def FrR (mI mI' : Nat → Nat → Int32) (mL mL' : Nat → Nat → Int64) : Prop := (∀ a, a ≠ 43 → a ≠ 49 → a ≠ 56 → mI' a = mI a) ∧ (∀ y, y ≠ 11 → mI' 43 y = mI 43 y) ∧ ∀ a, a < 43 → mL' a = mL a
theorem Rel.keep {n : Nat} {mI mI1 mI2 : Nat → Nat → Int32} {mL mL1 mL2 : Nat → Nat → Int64} (h : Rel n mI mL) (k1 : FrC mI mI1 mL mL1) (k2 : FrR mI1 mI2 mL1 mL2) (k5 : mL1 4 0 = mL2 43 2) (k6 : mL1 4 1 = mL2 43 3) : Rel n mI2 mL2 := by
  obtain ⟨h8, ⟨m, hm1, hm3, hmT, hmM⟩, hcT, hcM, hpl, hro, hfi, hfs, hu, hl, hch⟩ := h
  have c1 : ∀ a, (a < 7 ∨ (14 < a ∧ a < 23) ∨ 42 < a) → a ≠ 43 → a ≠ 49 → a ≠ 56 → mI2 a = mI a := fun a e1 e2 e3 e4 => (k2.1 a e2 e3 e4).trans (k1.1 a e1)
  have c2 : ∀ y, y ≠ 11 → mI2 43 y = mI 43 y := fun y hy => by rw [k2.2.1 y hy, k1.1 43 (by omega)]
  refine ⟨h8, ⟨m, hm1, hm3, ?_, ?_⟩, ?_, ?_, fun p hp => (hpl p hp).of ?_ ?_ ?_ (fun j hj => ?_), fun r hr => (hro r hr).of ?_ ?_ ?_ (fun j hj => ?_), ?_, fun f hf => ?_, ?_, ?_, fun j hj => ?_⟩
  · rw [c1 0 (by omega) (by omega) (by omega) (by omega)]; exact hmT
  · rw [c2 4 (by omega)]; exact hmM
  · rw [c1 0 (by omega) (by omega) (by omega) (by omega)]; exact hcT
  · rw [c2 5 (by omega)]; exact hcM
  · exact c1 _ (by omega) (by omega) (by omega) (by omega)
  · exact c1 _ (by omega) (by omega) (by omega) (by omega)
  · rw [c1 45 (by omega) (by omega) (by omega) (by omega)]
  · rw [c1 46 (by omega) (by omega) (by omega) (by omega)]
  · exact c1 _ (by omega) (by omega) (by omega) (by omega)
  · exact c1 _ (by omega) (by omega) (by omega) (by omega)
  · rw [c1 47 (by omega) (by omega) (by omega) (by omega)]
  · rw [c1 48 (by omega) (by omega) (by omega) (by omega)]
  · rw [c1 0 (by omega) (by omega) (by omega) (by omega), c2 0 (by omega)]; exact hfi
  · rw [c1 3 (by omega) (by omega) (by omega) (by omega), c1 44 (by omega) (by omega) (by omega) (by omega)]; exact hfs f hf
  · rw [k2.2.2 4 (by omega)]; exact k5
  · rw [k2.2.2 4 (by omega)]; exact k6
  · rw [c1 5 (by omega) (by omega) (by omega) (by omega), c1 57 (by omega) (by omega) (by omega) (by omega)]; exact hch j hj
def psN (g : Nat → Int32) (i : Nat) : Nat := (g i).toNatClampNeg
theorem fit_ps {mI : Nat → Nat → Int32} {n s : Nat} {g : Nat → Int32} (h8 : n ≤ 8) (h : ftN mI n g s = 1) : 0 < s ∧ ∀ i, i < s → g i = nI (psN g i) ∧ psN g i < n ∧ kdN mI (psN g i) ≠ 2 := by
  unfold ftN at h
  by_cases e : 0 < s ∧ ft mI n g s = true
  · refine ⟨e.1, fun i hi => ?_⟩
    obtain ⟨p, hp, e1, e2⟩ := hg_in h8 (ft_at s i hi e.2)
    unfold psN
    rw [e1, nI_clamp (by omega)]
    exact ⟨rfl, hp, e2⟩
  · rw [if_neg e] at h; omega
theorem ftN_01 {mI : Nat → Nat → Int32} {n s : Nat} {g : Nat → Int32} : ftN mI n g s = 0 ∨ ftN mI n g s = 1 := by unfold ftN; split <;> simp
theorem ftN_congr {mI : Nat → Nat → Int32} {n s : Nat} {g g' : Nat → Int32} (h : ∀ j, j < s → g j = g' j) : ftN mI n g s = ftN mI n g' s := by unfold ftN; rw [ft_congr s h]
section GAI
variable {S : am_S} {mI : Nat → Nat → Int32} {mL mL0 : Nat → Nat → Int64} {n r s m B T : Nat} {ps : Nat → Nat} {w : Nat → Nat → Nat}
theorem lo_T_round {rc pc : Nat} (h8 : n ≤ 8) (hm3 : m ≤ 3) (h4 : s ≤ 4) (hk : ((am_sh n)[rc]?).map (fun q => q.1) = some 15) (hmr : am_mR n rc 1 = some pc) (hpc : (am_sh n)[pc]? = some (0, 4)) (hrc : rc < 23) (hpc3 : pc < 23) (hcT : mI 0 1 = nI n) (hsz : mI rc 0 = nI s) (hps : ∀ i, i < s → mI pc i = nI (ps i) ∧ ps i < n) (hpl : ∀ p, p < n → PlR mI p) {Q : Option Value × am_M → Prop} (kq : ∀ mI' mL', RdI mI' mL' s m s (pw 12 s) (fun f => nowZ m 12 (fun t => odN mI (ps t)) f s) (fun f => gZ m 12 (fun t => odN mI (ps t)) f s) → ((∀ a, (a < 23 ∨ 42 < a) → mI' a = mI a) ∧ ∀ a, (a < 23 ∨ 42 < a) → mL' a = mL0 a) → Q (some (.ref (23 + 4 * s)), (am_sh n, mI', mL', am_mR n))) : ∀ k t (mI' : Nat → Nat → Int32) (mL' : Nat → Nat → Int64) (z : Value), t + k = s → RdI mI' mL' t m t (pw 12 t) (fun f => nowZ m 12 (fun t => odN mI (ps t)) f t) (fun f => gZ m 12 (fun t => odN mI (ps t)) f t) → ((∀ a, (a < 23 ∨ 42 < a) → mI' a = mI a) ∧ ∀ a, (a < 23 ∨ 42 < a) → mL' a = mL0 a) → Go S 2 tT_roundOf ((am_sh n, mI', mL', am_mR n), 17, [.ref 0, .ref rc, .int (nI t), .int (nI t), z], []) Q
  | 0, t, mI', mL', z, hi, hR, hF => by
    obtain rfl : t = s := by omega
    have q1 := hsz
    rw [← hF.1 rc (by omega)] at q1
    refine go_iloadn_3 iT_roundOf_17 ?_
    refine go_aloadn_1 iT_roundOf_18 rfl ?_
    refine go_getI iT_roundOf_19 (Or.inl rfl) (by assumption) ?_
    try simp (disch := omega) only [am_u_n, am_u_s, am_u_k, q1]
    first | refine gn_ic_ge iT_roundOf_22 (by omega) (by omega) (fun c_22 => ?_) (fun c_22 => ?_) | refine go_ic_ge iT_roundOf_22 (fun c_22 => ?_) (fun c_22 => ?_)
    rotate_left
    · (first | omega | exact absurd c_22 (by decide) | (exfalso; simp (disch := omega) only [Int32.lt_iff_toInt_lt, Int32.le_iff_toInt_le, ← Int32.toInt_inj, nI_toInt, i32_m1, i32_0, i32_m20, i32_m40, i32_m30, i32_m9] at *; omega))
    refine go_aloadn_0 iT_roundOf_75 rfl ?_
    refine go_getR iT_roundOf_76 rfl (sk_0 _) (mR_0_8 _) ?_
    refine go_iloadn_2 iT_roundOf_79 ?_
    refine go_aald iT_roundOf_80 (sh_6 _) (by decide) (by decide) rfl (by omega) (by omega) (sh_rnd n (show t < 5 by omega)).2.1 ?_
    refine go_aret iT_roundOf_81 rfl ?_
    exact kq _ _ hR hF
  | k + 1, t, mI', mL', z, hi, hR, hF => by
    have q1 := hsz
    rw [← hF.1 rc (by omega)] at q1
    obtain ⟨q2, hp⟩ := hps t (by omega)
    rw [← hF.1 pc (by omega)] at q2
    have hcT2 := hcT
    rw [← hF.1 0 (by omega)] at hcT2
    obtain ⟨o1, o2⟩ := odN_ok (hpl (ps t) hp)
    have hsk := sk_play hp
    have hwr := mR_wins n hp
    have hR1 := sk_rnd n (show t + 1 < 5 by omega)
    refine go_iloadn_3 iT_roundOf_17 ?_
    refine go_aloadn_1 iT_roundOf_18 rfl ?_
    refine go_getI iT_roundOf_19 (Or.inl rfl) (by assumption) ?_
    try simp (disch := omega) only [am_u_n, am_u_s, am_u_k, q1, q2]
    first | refine gn_ic_ge iT_roundOf_22 (by omega) (by omega) (fun c_22 => ?_) (fun c_22 => ?_) | refine go_ic_ge iT_roundOf_22 (fun c_22 => ?_) (fun c_22 => ?_)
    · (first | omega | exact absurd c_22 (by decide) | (exfalso; simp (disch := omega) only [Int32.lt_iff_toInt_lt, Int32.le_iff_toInt_le, ← Int32.toInt_inj, nI_toInt, i32_m1, i32_0, i32_m20, i32_m40, i32_m30, i32_m9] at *; omega))
    refine go_aloadn_0 iT_roundOf_25 rfl ?_
    refine go_aloadn_1 iT_roundOf_26 rfl ?_
    refine go_getR iT_roundOf_27 rfl (by assumption) (by assumption) ?_
    refine go_iloadn_3 iT_roundOf_30 ?_
    refine go_iald iT_roundOf_31 (by assumption) rfl (by omega) (by omega) ?_
    try simp (disch := omega) only [am_u_n, am_u_s, am_u_k, q1, q2]
    refine gc_V1 iT_roundOf_32 rfl (by decide) (sk_0 _) rfl (Nat.le_of_ble_eq_true rfl) (Nat.le_of_ble_eq_true rfl) (by decide) (sp_T_playAt_t h8 hcT2 hp) ?_
    refine go_astore_4 iT_roundOf_35 rfl (by simp [Value.category, am_U]) ?_
    refine go_aload_4 iT_roundOf_37 rfl ?_
    refine go_nulR iT_roundOf_39 ?_
    refine go_aloadn_0 iT_roundOf_42 rfl ?_
    refine go_getR iT_roundOf_43 rfl (sk_0 _) (mR_0_8 _) ?_
    refine go_iloadn_2 iT_roundOf_46 ?_
    refine go_iconst (v := nI 1) iT_roundOf_47 rfl ?_
    first | refine gn_iadd iT_roundOf_48 ?_ | refine go_iadd iT_roundOf_48 ?_
    refine go_aald iT_roundOf_49 (sh_6 _) (by decide) (by decide) rfl (by omega) (by omega) (by first | exact (sh_rnd n (show t + 1 < 5 by omega)).2.1 | exact (sh_rnd n (show t < 5 by omega)).2.1) ?_
    refine go_aloadn_0 iT_roundOf_50 rfl ?_
    refine go_getR iT_roundOf_51 rfl (sk_0 _) (mR_0_8 _) ?_
    refine go_iloadn_2 iT_roundOf_54 ?_
    refine go_aald iT_roundOf_55 (sh_6 _) (by decide) (by decide) rfl (by omega) (by omega) (by first | exact (sh_rnd n (show t + 1 < 5 by omega)).2.1 | exact (sh_rnd n (show t < 5 by omega)).2.1) ?_
    refine go_aload_4 iT_roundOf_56 rfl ?_
    refine go_getR iT_roundOf_58 rfl (by assumption) (by assumption) ?_
    refine go_bipush (v := nI 12) iT_roundOf_61 (by decide) ?_
    refine gx_V0 iT_roundOf_63 rfl (by decide) hR1 rfl (Nat.le_of_ble_eq_true rfl) (Nat.le_of_ble_eq_true rfl) (by decide) (ex_R_follow (k := t + 1) (j := t) (w := odN mI (ps t)) (nc := 4) (by omega) (by omega) (by omega) hm3 (by omega) (sh_wins hp) (by omega) (by omega) (by omega) (fun i hi => by rw [hF.1 _ (by omega)]; exact (o1 i (by omega)).1) (fun i hi => (o1 i (by omega)).2) hR) (fun mI63_ mL63_ h63_ => ?_)
    obtain ⟨e1, e2⟩ := h63_
    first | refine go_iinc_2 iT_roundOf_66 (ni_inc _ 1) (by simp [Value.category, am_U]) ?_ | refine go_iinc_2 iT_roundOf_66 rfl (by simp [Value.category, am_U]) ?_
    first | refine go_iinc_3 iT_roundOf_69 (ni_inc _ 1) (by simp [Value.category, am_U]) ?_ | refine go_iinc_3 iT_roundOf_69 rfl (by simp [Value.category, am_U]) ?_
    refine go_goto iT_roundOf_72 ?_
    refine lo_T_round h8 hm3 h4 hk hmr hpc hrc hpc3 hcT hsz hps hpl kq k (t + 1) _ _ _ (by omega) ?_ ⟨fun a ha => (e2.1 a (by omega)).trans (hF.1 a ha), fun a ha => (e2.2 a (by omega) (by omega) (by omega) (by omega)).trans (hF.2 a ha)⟩
    rw [pw_s]
    exact e1
theorem ex_T_roundOf {rc pc : Nat} (h8 : n ≤ 8) (hm3 : m ≤ 3) (h4 : s ≤ 4) (hk : ((am_sh n)[rc]?).map (fun q => q.1) = some 15) (hmr : am_mR n rc 1 = some pc) (hpc : (am_sh n)[pc]? = some (0, 4)) (hrc : rc < 23) (hpc3 : pc < 23) (hmT : mI 0 0 = nI m) (hcT : mI 0 1 = nI n) (hsz : mI rc 0 = nI s) (hps : ∀ i, i < s → mI pc i = nI (ps i) ∧ ps i < n) (hpl : ∀ p, p < n → PlR mI p) : Ex S 2 tT_roundOf n mI mL [.ref 0, .ref rc] (some (.ref (23 + 4 * s))) (fun mI' mL' => RdI mI' mL' s m s (pw 12 s) (fun f => nowZ m 12 (fun t => odN mI (ps t)) f s) (fun f => gZ m 12 (fun t => odN mI (ps t)) f s) ∧ ((∀ a, (a < 23 ∨ 42 < a) → mI' a = mI a) ∧ ∀ a, (a < 23 ∨ 42 < a) → mL' a = mL a)) := by
  have hR0 := sk_rnd n (show 0 < 5 by omega)
  unfold Ex
  show Go _ _ tT_roundOf (_, 0, [.ref 0, .ref rc, am_U, am_U, am_U], []) _
  refine go_aloadn_0 iT_roundOf_0 rfl ?_
  refine go_getR iT_roundOf_1 rfl (sk_0 _) (mR_0_8 _) ?_
  refine go_iconst (v := nI 0) iT_roundOf_4 rfl ?_
  refine go_aald iT_roundOf_5 (sh_6 _) (by decide) (by decide) rfl (by omega) (by omega) (sh_rnd n (show 0 < 5 by omega)).2.1 ?_
  refine go_aloadn_0 iT_roundOf_6 rfl ?_
  refine go_getI iT_roundOf_7 (Or.inl rfl) (sk_0 _) ?_
  try simp (disch := omega) only [am_u_n, am_u_s, am_u_k, hmT]
  refine gx_V0 iT_roundOf_10 rfl (by decide) hR0 rfl (Nat.le_of_ble_eq_true rfl) (Nat.le_of_ble_eq_true rfl) (by decide) (ex_R_begin (k := 0) (by omega) hm3) (fun mI10_ mL10_ h10_ => ?_)
  obtain ⟨e1, e2⟩ := h10_
  refine go_iconst (v := nI 0) iT_roundOf_13 rfl ?_
  refine go_istoren_2 iT_roundOf_14 (by simp [Value.category, am_U]) ?_
  refine go_iconst (v := nI 0) iT_roundOf_15 rfl ?_
  refine go_istoren_3 iT_roundOf_16 (by simp [Value.category, am_U]) ?_
  exact lo_T_round h8 hm3 h4 hk hmr hpc hrc hpc3 hcT hsz hps hpl (fun mI2 mL2 a b => ex_i ⟨a, b⟩) s 0 _ _ _ (by omega) e1 ⟨fun a ha => e2.1 a (by omega), fun a ha => e2.2 a (by omega) (by omega) (by omega) (by omega)⟩
theorem ex_T_row (h8 : n ≤ 8) (hm3 : m ≤ 3) (h4 : s ≤ 4) (hr : r < 4) (hmT : mI 0 0 = nI m) (hcT : mI 0 1 = nI n) (hsz : mI (15 + 2 * r) 0 = nI s) (hps : ∀ i, i < s → mI (16 + 2 * r) i = nI (ps i) ∧ ps i < n) (hpl : ∀ p, p < n → PlR mI p) : Ex S 2 tT_roundOf n mI mL [.ref 0, .ref (15 + 2 * r)] (some (.ref (23 + 4 * s))) (fun mI' mL' => RdI mI' mL' s m s (pw 12 s) (fun f => nowZ m 12 (fun t => odN mI (ps t)) f s) (fun f => gZ m 12 (fun t => odN mI (ps t)) f s) ∧ ((∀ a, (a < 23 ∨ 42 < a) → mI' a = mI a) ∧ ∀ a, (a < 23 ∨ 42 < a) → mL' a = mL a)) :=
  ex_T_roundOf h8 hm3 h4 (sk_row n hr) (sh_row n hr).2.2.2 (sh_row n hr).2.1 (by omega) (by omega) hmT hcT hsz hps hpl
theorem sp_M_asked_b {x : Int32} (hx : x.toInt < 0 ∨ 4 ≤ x.toInt) : Sp S 3 tM_askedFor (am_sh n, mI, mL, am_mR n) [.ref 43, .int x] (fun q => q = (some (.int (-1)), (am_sh n, mI, mL, am_mR n))) := by
  show Go _ _ tM_askedFor (_, 0, [.ref 43, .int x, am_U, am_U], []) _
  refine go_aloadn_0 iM_askedFor_0 rfl ?_
  refine go_iloadn_1 iM_askedFor_1 ?_
  refine gc_V1 iM_askedFor_2 rfl (by decide) (sk_43 _) rfl (Nat.le_of_ble_eq_true rfl) (Nat.le_of_ble_eq_true rfl) (by decide) (sp_M_looked_b hx) ?_
  refine go_istoren_2 iM_askedFor_5 (by simp [Value.category, am_U]) ?_
  refine go_iloadn_2 iM_askedFor_6 ?_
  refine go_if_ge iM_askedFor_7 (fun c_7 => ?_) (fun c_7 => ?_)
  · (first | omega | exact absurd c_7 (by decide) | (exfalso; simp (disch := omega) only [Int32.lt_iff_toInt_lt, Int32.le_iff_toInt_le, ← Int32.toInt_inj, nI_toInt, i32_m1, i32_0, i32_m20, i32_m40, i32_m30, i32_m9] at *; omega))
  refine go_iloadn_2 iM_askedFor_10 ?_
  refine go_iret iM_askedFor_11 rfl ?_
  rfl
theorem sp_M_asked_m (hr : r < 4) (hs : mI 47 r = -9) : Sp S 3 tM_askedFor (am_sh n, mI, mL, am_mR n) [.ref 43, .int (nI r)] (fun q => q = (some (.int (-3)), (am_sh n, mtI mI 1, mL, am_mR n))) := by
  show Go _ _ tM_askedFor (_, 0, [.ref 43, .int (nI r), am_U, am_U], []) _
  refine go_aloadn_0 iM_askedFor_0 rfl ?_
  refine go_iloadn_1 iM_askedFor_1 ?_
  refine gc_V1 iM_askedFor_2 rfl (by decide) (sk_43 _) rfl (Nat.le_of_ble_eq_true rfl) (Nat.le_of_ble_eq_true rfl) (by decide) (sp_M_looked_m hr hs) ?_
  refine go_istoren_2 iM_askedFor_5 (by simp [Value.category, am_U]) ?_
  refine go_iloadn_2 iM_askedFor_6 ?_
  refine go_if_ge iM_askedFor_7 (fun c_7 => ?_) (fun c_7 => ?_)
  · (first | omega | exact absurd c_7 (by decide) | (exfalso; simp (disch := omega) only [Int32.lt_iff_toInt_lt, Int32.le_iff_toInt_le, ← Int32.toInt_inj, nI_toInt, i32_m1, i32_0, i32_m20, i32_m40, i32_m30, i32_m9] at *; omega))
  refine go_iloadn_2 iM_askedFor_10 ?_
  refine go_iret iM_askedFor_11 rfl ?_
  rfl
theorem sp_M_asked_u (hr : r < 4) (hs : mI 47 r = nI s) (h4 : s ≤ 4) (h8 : n ≤ 8) (hcM : mI 43 5 = nI n) (hpl : ∀ p, p < n → PlR mI p) (hf : ftN mI n (fun j => mI 48 (4 * r + j)) s = 0) : Sp S 3 tM_askedFor (am_sh n, mI, mL, am_mR n) [.ref 43, .int (nI r)] (fun q => q = (some (.int (-3)), (am_sh n, mtI mI 3, mL, am_mR n))) := by
  have hh := sp_M_isFit (S := S) (mL := mL) hr hs h4 h8 hcM hpl
  rw [hf] at hh
  show Go _ _ tM_askedFor (_, 0, [.ref 43, .int (nI r), am_U, am_U], []) _
  refine go_aloadn_0 iM_askedFor_0 rfl ?_
  refine go_iloadn_1 iM_askedFor_1 ?_
  refine gc_V1 iM_askedFor_2 rfl (by decide) (sk_43 _) rfl (Nat.le_of_ble_eq_true rfl) (Nat.le_of_ble_eq_true rfl) (by decide) (sp_M_looked_t hr hs h4) ?_
  refine go_istoren_2 iM_askedFor_5 (by simp [Value.category, am_U]) ?_
  refine go_iloadn_2 iM_askedFor_6 ?_
  refine go_if_ge iM_askedFor_7 (fun c_7 => ?_) (fun c_7 => ?_)
  rotate_left
  · (first | omega | exact absurd c_7 (by decide) | (exfalso; simp (disch := omega) only [Int32.lt_iff_toInt_lt, Int32.le_iff_toInt_le, ← Int32.toInt_inj, nI_toInt, i32_m1, i32_0, i32_m20, i32_m40, i32_m30, i32_m9] at *; omega))
  refine go_aloadn_0 iM_askedFor_12 rfl ?_
  refine go_iloadn_1 iM_askedFor_13 ?_
  refine gc_V1 iM_askedFor_14 rfl (by decide) (sk_43 _) rfl (Nat.le_of_ble_eq_true rfl) (Nat.le_of_ble_eq_true rfl) (by decide) hh ?_
  refine go_if_ne iM_askedFor_17 (fun c_17 => ?_) (fun c_17 => ?_)
  · (first | omega | exact absurd c_17 (by decide) | (exfalso; simp (disch := omega) only [Int32.lt_iff_toInt_lt, Int32.le_iff_toInt_le, ← Int32.toInt_inj, nI_toInt, i32_m1, i32_0, i32_m20, i32_m40, i32_m30, i32_m9] at *; omega))
  refine go_aloadn_0 iM_askedFor_20 rfl ?_
  refine go_iconst (v := nI 3) iM_askedFor_21 rfl ?_
  refine gc_V1 iM_askedFor_22 rfl (by decide) (sk_43 _) rfl (Nat.le_of_ble_eq_true rfl) (Nat.le_of_ble_eq_true rfl) (by decide) (sp_M_meets (by decide)) ?_
  refine go_iret iM_askedFor_25 rfl ?_
  rfl
def AsP (mI mI' : Nat → Nat → Int32) (mL mL' : Nat → Nat → Int64) (s : Nat) (w : Nat → Nat → Nat) (B : Nat) : Prop := mI' = am_u mI 43 11 (nI s) ∧ (∀ a, a ≠ 43 → a ≠ 50 → mL' a = mL a) ∧ (∀ y, y ≠ 12 → mL' 43 y = mL 43 y) ∧ mL' 43 12 = zL B ∧ ∀ t i, t < s → i < 3 → mL' 50 (3 * t + i) = zL (w t i)
theorem lo_M_asked (h8 : n ≤ 8) (h4 : s ≤ 4) (hr : r < 4) (hps : ∀ i, i < s → mI 48 (4 * r + i) = nI (ps i) ∧ ps i < n) (hpl : ∀ p, p < n → PlR mI p) {Q : Option Value × am_M → Prop} (kq : ∀ mL', ((∀ a, a ≠ 50 → mL' a = mL0 a) ∧ ∀ t i, t < s → i < 3 → mL' 50 (3 * t + i) = zL (odN mI (ps t) i)) → Q (some (.int (nI 0)), (am_sh n, am_u mI 43 11 (nI s), mL', am_mR n))) : ∀ k t (mL' : Nat → Nat → Int64), t + k = s → ((∀ a, a ≠ 50 → mL' a = mL0 a) ∧ ∀ u i, u < t → i < 3 → mL' 50 (3 * u + i) = zL (odN mI (ps u) i)) → Go S 3 tM_askedFor ((am_sh n, am_u mI 43 11 (nI s), mL', am_mR n), 45, [.ref 43, .int (nI r), .int (nI 0), .int (nI t)], []) Q
  | 0, t, mL', hi, hF => by
    obtain rfl : t = s := by omega
    refine go_iloadn_3 iM_askedFor_45 ?_
    refine go_aloadn_0 iM_askedFor_46 rfl ?_
    refine go_getI iM_askedFor_47 (Or.inl rfl) (sk_43 _) ?_
    try simp (disch := omega) only [am_u_n, am_u_s, am_u_k]
    first | refine gn_ic_ge iM_askedFor_50 (by omega) (by omega) (fun c_50 => ?_) (fun c_50 => ?_) | refine go_ic_ge iM_askedFor_50 (fun c_50 => ?_) (fun c_50 => ?_)
    rotate_left
    · (first | omega | exact absurd c_50 (by decide) | (exfalso; simp (disch := omega) only [Int32.lt_iff_toInt_lt, Int32.le_iff_toInt_le, ← Int32.toInt_inj, nI_toInt, i32_m1, i32_0, i32_m20, i32_m40, i32_m30, i32_m9] at *; omega))
    refine go_iconst (v := nI 0) iM_askedFor_74 rfl ?_
    refine go_iret iM_askedFor_75 rfl ?_
    exact kq _ hF
  | k + 1, t, mL', hi, hF => by
    obtain ⟨q1, hp⟩ := hps t (by omega)
    obtain ⟨o1, o2⟩ := odN_ok (hpl (ps t) hp)
    refine go_iloadn_3 iM_askedFor_45 ?_
    refine go_aloadn_0 iM_askedFor_46 rfl ?_
    refine go_getI iM_askedFor_47 (Or.inl rfl) (sk_43 _) ?_
    try simp (disch := omega) only [am_u_n, am_u_s, am_u_k, q1]
    first | refine gn_ic_ge iM_askedFor_50 (by omega) (by omega) (fun c_50 => ?_) (fun c_50 => ?_) | refine go_ic_ge iM_askedFor_50 (fun c_50 => ?_) (fun c_50 => ?_)
    · (first | omega | exact absurd c_50 (by decide) | (exfalso; simp (disch := omega) only [Int32.lt_iff_toInt_lt, Int32.le_iff_toInt_le, ← Int32.toInt_inj, nI_toInt, i32_m1, i32_0, i32_m20, i32_m40, i32_m30, i32_m9] at *; omega))
    refine go_aloadn_0 iM_askedFor_53 rfl ?_
    refine go_iloadn_3 iM_askedFor_54 ?_
    refine go_aloadn_0 iM_askedFor_55 rfl ?_
    refine go_getR iM_askedFor_56 rfl (sk_43 _) (mR_43_9 _) ?_
    refine go_iconst (v := nI 4) iM_askedFor_59 rfl ?_
    refine go_iloadn_1 iM_askedFor_60 ?_
    first | refine gn_imul iM_askedFor_61 ?_ | refine go_imul iM_askedFor_61 ?_
    refine go_iloadn_3 iM_askedFor_62 ?_
    first | refine gn_iadd iM_askedFor_63 ?_ | refine go_iadd iM_askedFor_63 ?_
    refine go_iald iM_askedFor_64 (sh_48 _) rfl (by omega) (by omega) ?_
    try simp (disch := omega) only [am_u_n, am_u_s, am_u_k, q1]
    refine gx_V0 iM_askedFor_65 rfl (by decide) (sk_43 _) rfl (Nat.le_of_ble_eq_true rfl) (Nat.le_of_ble_eq_true rfl) (by decide) (ex_M_setTurn (o := odN mI (ps t)) (by omega) (by omega) (fun i hi => by rw [am_u_n (by decide)]; exact o2 i hi) (fun i hi => (o1 i (by omega)).2)) (fun mI65_ mL65_ h65_ => ?_)
    obtain ⟨e0, e1, e2, e3⟩ := h65_
    subst mI65_
    first | refine go_iinc_3 iM_askedFor_68 (ni_inc _ 1) (by simp [Value.category, am_U]) ?_ | refine go_iinc_3 iM_askedFor_68 rfl (by simp [Value.category, am_U]) ?_
    refine go_goto iM_askedFor_71 ?_
    refine lo_M_asked h8 h4 hr hps hpl kq k (t + 1) _ (by omega) ⟨fun a ha => (e1 a ha).trans (hF.1 a ha), fun u i hu hj => ?_⟩
    by_cases e : u = t
    · subst e; exact e3 i hj
    · rw [e2 _ (by omega)]; exact hF.2 u i (by omega) hj
theorem ex_M_asked (hr : r < 4) (hs : mI 47 r = nI s) (h4 : s ≤ 4) (h8 : n ≤ 8) (hcM : mI 43 5 = nI n) (hpl : ∀ p, p < n → PlR mI p) (hf : ftN mI n (fun j => mI 48 (4 * r + j)) s = 1) : Ex S 3 tM_askedFor n mI mL [.ref 43, .int (nI r)] (some (.int (nI 0))) (fun mI' mL' => AsP mI mI' mL mL' s (fun t => odN mI (psN (fun j => mI 48 (4 * r + j)) t)) 12) := by
  have hh := sp_M_isFit (S := S) (mL := mL) hr hs h4 h8 hcM hpl
  rw [hf] at hh
  obtain ⟨s0, hps⟩ := fit_ps h8 hf
  unfold Ex
  show Go _ _ tM_askedFor (_, 0, [.ref 43, .int (nI r), am_U, am_U], []) _
  refine go_aloadn_0 iM_askedFor_0 rfl ?_
  refine go_iloadn_1 iM_askedFor_1 ?_
  refine gc_V1 iM_askedFor_2 rfl (by decide) (sk_43 _) rfl (Nat.le_of_ble_eq_true rfl) (Nat.le_of_ble_eq_true rfl) (by decide) (sp_M_looked_t hr hs h4) ?_
  refine go_istoren_2 iM_askedFor_5 (by simp [Value.category, am_U]) ?_
  refine go_iloadn_2 iM_askedFor_6 ?_
  refine go_if_ge iM_askedFor_7 (fun c_7 => ?_) (fun c_7 => ?_)
  rotate_left
  · (first | omega | exact absurd c_7 (by decide) | (exfalso; simp (disch := omega) only [Int32.lt_iff_toInt_lt, Int32.le_iff_toInt_le, ← Int32.toInt_inj, nI_toInt, i32_m1, i32_0, i32_m20, i32_m40, i32_m30, i32_m9] at *; omega))
  refine go_aloadn_0 iM_askedFor_12 rfl ?_
  refine go_iloadn_1 iM_askedFor_13 ?_
  refine gc_V1 iM_askedFor_14 rfl (by decide) (sk_43 _) rfl (Nat.le_of_ble_eq_true rfl) (Nat.le_of_ble_eq_true rfl) (by decide) hh ?_
  refine go_if_ne iM_askedFor_17 (fun c_17 => ?_) (fun c_17 => ?_)
  rotate_left
  · (first | omega | exact absurd c_17 (by decide) | (exfalso; simp (disch := omega) only [Int32.lt_iff_toInt_lt, Int32.le_iff_toInt_le, ← Int32.toInt_inj, nI_toInt, i32_m1, i32_0, i32_m20, i32_m40, i32_m30, i32_m9] at *; omega))
  refine go_aloadn_0 iM_askedFor_26 rfl ?_
  refine go_aloadn_0 iM_askedFor_27 rfl ?_
  refine go_getR iM_askedFor_28 rfl (sk_43 _) (mR_43_8 _) ?_
  refine go_iloadn_1 iM_askedFor_31 ?_
  refine go_iald iM_askedFor_32 (sh_47 _) rfl (by omega) (by omega) ?_
  try simp (disch := omega) only [am_u_n, am_u_s, am_u_k, hs]
  refine go_putI iM_askedFor_33 rfl (sk_43 _) ?_
  refine go_aloadn_0 iM_askedFor_36 rfl ?_
  refine go_ldc2 (v := zL 12) iM_askedFor_37 rfl ?_
  refine go_putL iM_askedFor_40 rfl (sk_43 _) ?_
  refine go_iconst (v := nI 0) iM_askedFor_43 rfl ?_
  refine go_istoren_3 iM_askedFor_44 (by simp [Value.category, am_U]) ?_
  refine lo_M_asked (ps := psN (fun j => mI 48 (4 * r + j))) h8 h4 hr (fun i hi => ⟨(hps i hi).1, (hps i hi).2.1⟩) hpl (fun mL2 hF => ex_i ⟨rfl, fun a h1 h2 => ?_, fun y hy => ?_, ?_, hF.2⟩) s 0 _ (by omega) ⟨fun a _ => rfl, fun u i hu => by omega⟩
  · rw [hF.1 a h2, am_u_r h1]
  · rw [hF.1 43 (by decide), am_u_k hy]
  · rw [hF.1 43 (by decide), am_u_s]; rfl
end GAI
