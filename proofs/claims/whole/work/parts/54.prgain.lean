/-! ===== the gain told; leads, share, gain ===== -/
theorem f_abs (u : Int) (l : Nat) : (fU u l).natAbs = u.natAbs / Nat.gcd u.natAbs l := by unfold fU; rw [Int.natAbs_tdiv, Int.natAbs_natCast]; rfl
theorem f_gcd {u : Int} {l : Nat} (hl : 0 < l) : Nat.gcd (fU u l).natAbs (l / Nat.gcd u.natAbs l) = 1 := by
  rw [f_abs, Nat.gcd_div (Nat.gcd_dvd_left _ _) (Nat.gcd_dvd_right _ _), Nat.div_self (Nat.gcd_pos_of_pos_right _ hl)]
theorem f_red {u : Int} {l : Nat} (hl : 0 < l) : fU (fU u l) (l / Nat.gcd u.natAbs l) = fU u l ∧ fL (fU u l) (l / Nat.gcd u.natAbs l) = fL u l := by
  refine ⟨?_, ?_⟩
  · rw [fU, f_gcd hl, Int.natCast_one, Int.tdiv_one]
  · rw [fL, f_gcd hl, Nat.div_one]; rfl
theorem f_mul (u : Int) (l : Nat) : fU u l * (Nat.gcd u.natAbs l : Nat) = u := by
  unfold fU
  exact Int.tdiv_mul_cancel (Int.ofNat_dvd_left.mpr (Nat.gcd_dvd_left _ _))
theorem f_lmul (u : Int) (l : Nat) : fL u l * (Nat.gcd u.natAbs l : Nat) = l := by
  unfold fL
  rw [← Int.natCast_mul, Nat.div_mul_cancel (Nat.gcd_dvd_right _ _)]
theorem f_pos {u : Int} {l : Nat} (hl : 0 < l) : (0 < fU u l ↔ 0 < u) ∧ (fU u l < 0 ↔ u < 0) := by
  have hg : (0 : Int) < (Nat.gcd u.natAbs l : Nat) := by have := Nat.gcd_pos_of_pos_right u.natAbs hl; omega
  have e := f_mul u l
  constructor
  · constructor
    · intro h; rw [← e]; exact Int.mul_pos h hg
    · intro h
      rcases Int.lt_trichotomy (fU u l) 0 with q | q | q
      · have := Int.mul_neg_of_neg_of_pos q hg; omega
      · rw [q] at e; omega
      · exact q
  · constructor
    · intro h; rw [← e]; exact Int.mul_neg_of_neg_of_pos h hg
    · intro h
      rcases Int.lt_trichotomy (fU u l) 0 with q | q | q
      · exact q
      · rw [q] at e; omega
      · have := Int.mul_pos q hg; omega
theorem f_le (u : Int) (l : Nat) : (fU u l).natAbs ≤ u.natAbs := by rw [f_abs]; exact Nat.div_le_self _ _
section TGN
variable {S : am_S} {mI : Nat → Nat → Int32} {mL mL0 : Nat → Nat → Int64} {n k r s m B T : Nat} {w : Nat → Nat → Nat}
/-- the class's fraction after a gain is told -/
def TlC (mL mL' : Nat → Nat → Int64) (m B T : Nat) (w : Nat → Nat → Nat) : Prop := (0 < Wz m B T w → mL' 4 0 = zL (fU (Uz m B T w) (Lz m B T w)) ∧ mL' 4 1 = zL (fL (Uz m B T w) (Lz m B T w))) ∧ (¬ 0 < Wz m B T w → mL' 4 = mL 4)
def TlR (mL mL' : Nat → Nat → Int64) (m B T : Nat) (w : Nat → Nat → Nat) : Prop := (0 < Wz m B T w → mL' 43 2 = zL (fU (Uz m B T w) (Lz m B T w)) ∧ mL' 43 3 = zL (fL (Uz m B T w) (Lz m B T w))) ∧ (¬ 0 < Wz m B T w → mL' 43 2 = mL 43 2 ∧ mL' 43 3 = mL 43 3)
def gnA (m B T : Nat) (w : Nat → Nat → Nat) : Int32 := if 0 < Wz m B T w then nI (if 0 < Uz m B T w then 1 else if Uz m B T w < 0 then 2 else 0) else (-4)
theorem ex_T_tellGain (hk : k < 5) (hG : Gm m B T w) (hR : RdI mI mL k m T (pw B T) (fun f => nowZ m B w f T) (fun f => gZ m B w f T)) : Ex S 3 tT_tellGain n mI mL [.ref 0, .ref (23 + 4 * k)] (some (.int (gnA m B T w))) (fun mI' mL' => FrC mI mI' mL mL' ∧ TlC mL mL' m B T w) := by
  obtain ⟨b1, b2, b3, b4, b5⟩ := hG.pb
  have hW := hG.b
  have hL := hG.l
  have hst := ex_R_settles (S := S) (n := n) hk hG.1 hG.2.1 (by unfold Wz at hW; omega) hR
  have hsk := sk_rnd n hk
  unfold Ex
  show Go _ _ tT_tellGain (_, 0, [.ref 0, .ref (23 + 4 * k)], []) _
  unfold gnA
  by_cases c : 0 < Wz m B T w
  · obtain ⟨l1, l2, l3⟩ := hL c
    rw [if_pos (show 0 < wsZ m (fun f => nowZ m B w f T) m from c)] at hst
    rw [if_pos c]
    refine go_aloadn_1 iT_tellGain_0 rfl ?_
    refine gx_V1 iT_tellGain_1 rfl (by decide) hsk rfl (Nat.le_of_ble_eq_true rfl) (Nat.le_of_ble_eq_true rfl) (by decide) hst (fun mI1_ mL1_ h1_ => ?_)
    obtain ⟨e0, e1, e2, e3, e4, e5⟩ := h1_
    subst mI1_
    have e6 : mL1_ (23 + 4 * k) 7 = zL (Uz m B T w) := e4
    have e7 : mL1_ (23 + 4 * k) 6 = zL (Wz m B T w) := e3
    refine go_if_ne iT_tellGain_4 (fun c_4 => ?_) (fun c_4 => ?_)
    rotate_left
    · (first | omega | exact absurd c_4 (by decide) | (exfalso; simp (disch := omega) only [Int32.lt_iff_toInt_lt, Int32.le_iff_toInt_le, ← Int32.toInt_inj, nI_toInt, i32_m1, i32_0, i32_m20, i32_m40, i32_m30, i32_m9] at *; omega))
    refine go_aloadn_0 iT_tellGain_10 rfl ?_
    refine go_getR iT_tellGain_11 rfl (sk_0 _) (mR_0_6 _) ?_
    refine go_aloadn_1 iT_tellGain_14 rfl ?_
    refine go_getL iT_tellGain_15 rfl (by assumption) ?_
    rw [e6]
    refine go_aloadn_1 iT_tellGain_18 rfl ?_
    refine gc_V1 iT_tellGain_19 rfl (by decide) hsk rfl (Nat.le_of_ble_eq_true rfl) (Nat.le_of_ble_eq_true rfl) (by decide) (sp_R_gainScale hk b4 e1 e7) ?_
    rw [l3]
    refine gc_V0 iT_tellGain_22 rfl (by decide) (sk_4 _) rfl (Nat.le_of_ble_eq_true rfl) (Nat.le_of_ble_eq_true rfl) (by decide) (sp_F_tell (u := Uz m B T w) (l := Lz m B T w) (by omega) l1 (by omega)) ?_
    refine go_aloadn_1 iT_tellGain_25 rfl ?_
    refine gc_V1 iT_tellGain_26 rfl (by decide) hsk rfl (Nat.le_of_ble_eq_true rfl) (Nat.le_of_ble_eq_true rfl) (by decide) (sp_R_outcome (U := Uz m B T w) hk (by omega) (by rw [am_u_n (by omega), am_u_n (by omega)]; exact e6)) ?_
    refine go_iret iT_tellGain_29 rfl ?_
    refine ex_i ⟨⟨fun a _ => rfl, fun a h1 h4 => ?_⟩, fun _ => ⟨?_, ?_⟩, fun q => absurd c q⟩
    · rw [am_u_r h4, am_u_r h4]; exact e2.2 a (by omega) (by omega) (by omega) (by omega)
    · rw [am_u_k (by decide), am_u_s]
    · rw [am_u_s]
  · rw [if_neg (show ¬ 0 < wsZ m (fun f => nowZ m B w f T) m from c)] at hst
    rw [if_neg c]
    refine go_aloadn_1 iT_tellGain_0 rfl ?_
    refine gx_V1 iT_tellGain_1 rfl (by decide) hsk rfl (Nat.le_of_ble_eq_true rfl) (Nat.le_of_ble_eq_true rfl) (by decide) hst (fun mI1_ mL1_ h1_ => ?_)
    obtain ⟨e0, e1, e2, e3, e4, e5⟩ := h1_
    subst mI1_
    refine go_if_ne iT_tellGain_4 (fun c_4 => ?_) (fun c_4 => ?_)
    · (first | omega | exact absurd c_4 (by decide) | (exfalso; simp (disch := omega) only [Int32.lt_iff_toInt_lt, Int32.le_iff_toInt_le, ← Int32.toInt_inj, nI_toInt, i32_m1, i32_0, i32_m20, i32_m40, i32_m30, i32_m9] at *; omega))
    refine go_bipush (v := (-4)) iT_tellGain_7 (by decide) ?_
    refine go_iret iT_tellGain_9 rfl ?_
    exact ex_i ⟨e2.c hk, fun q => absurd q c, fun _ => e2.2 4 (by omega) (by omega) (by omega) (by omega)⟩
theorem ex_M_tellGain (hG : Gm m B T w) (hmM : mI 43 4 = nI m) (htM : mI 43 11 = nI T) (hwh : mL 43 12 = zL B) (hw : ∀ t i, t < T → i < m → mL 50 (3 * t + i) = zL (w t i)) : Ex S 4 tM_tellGain n mI mL [.ref 43] (some (.int (gnA m B T w))) (fun mI' mL' => mI' = mI ∧ (∀ a, a < 43 → mL' a = mL a) ∧ TlR mL mL' m B T w) := by
  have hW := hG.b
  have hL := hG.l
  have hgn := ex_M_hasGain (S := S) (n := n) hG hmM htM hwh hw
  unfold Ex
  show Go _ _ tM_tellGain (_, 0, [.ref 43], []) _
  unfold gnA
  by_cases c : 0 < Wz m B T w
  · obtain ⟨l1, l2, l3⟩ := hL c
    have p0 := f_le (Uz m B T w) (Lz m B T w)
    obtain ⟨p1, p2⟩ := f_pos (u := Uz m B T w) l1
    obtain ⟨p3, p4⟩ := f_red (u := Uz m B T w) l1
    have g0 : 0 < Nat.gcd (Uz m B T w).natAbs (Lz m B T w) := Nat.gcd_pos_of_pos_right _ l1
    have g1 := Nat.gcd_le_right (Uz m B T w).natAbs l1
    have p5 : 0 < Lz m B T w / Nat.gcd (Uz m B T w).natAbs (Lz m B T w) := Nat.div_pos g1 g0
    have p6 : Lz m B T w / Nat.gcd (Uz m B T w).natAbs (Lz m B T w) ≤ Lz m B T w := Nat.div_le_self _ _
    rw [if_pos c] at hgn
    rw [if_pos c]
    have kk : ∀ (mL1 : Nat → Nat → Int64) (v : Int32), FrM mL mL1 → Go S 4 tM_tellGain ((am_sh n, mI, mL1, am_mR n), 43, [.ref 43], [.int v, .long (zL (fL (Uz m B T w) (Lz m B T w))), .long (zL (fU (Uz m B T w) (Lz m B T w))), .ref 43]) (fun r => ∃ mI' mL', r = (some (.int v), (am_sh n, mI', mL', am_mR n)) ∧ (mI' = mI ∧ (∀ a, a < 43 → mL' a = mL a) ∧ TlR mL mL' m B T w)) := by
      intro mL1 v e1
      refine gc_V1 iM_tellGain_43 rfl (by decide) (sk_43 _) rfl (Nat.le_of_ble_eq_true rfl) (Nat.le_of_ble_eq_true rfl) (by decide) (sp_M_tell (u := fU (Uz m B T w) (Lz m B T w)) (l := Lz m B T w / Nat.gcd (Uz m B T w).natAbs (Lz m B T w)) (by omega) p5 (by omega)) ?_
      refine go_goto iM_tellGain_46 ?_
      refine go_iret iM_tellGain_51 rfl ?_
      refine ex_i ⟨rfl, fun a ha => ?_, fun _ => ⟨?_, ?_⟩, fun q => absurd c q⟩
      · rw [am_u_r (by omega), am_u_r (by omega)]; exact e1.1 a (by omega) (by omega) (by omega) (by omega) (by omega) (by omega)
      · rw [am_u_k (by decide), am_u_s, p3]
      · rw [am_u_s, p4]
    by_cases c1 : 0 < Uz m B T w
    · rw [if_pos c1]
      have d1 := p1.mpr c1
      refine go_aloadn_0 iM_tellGain_0 rfl ?_
      refine gx_V1 iM_tellGain_1 rfl (by decide) (sk_43 _) rfl (Nat.le_of_ble_eq_true rfl) (Nat.le_of_ble_eq_true rfl) (by decide) hgn (fun mI1_ mL1_ h1_ => ?_)
      obtain ⟨e0, e1, e23⟩ := h1_
      subst mI1_
      obtain ⟨e2, e3⟩ := e23 c
      refine go_if_eq iM_tellGain_4 (fun c_4 => ?_) (fun c_4 => ?_)
      · (first | omega | exact absurd c_4 (by decide) | (exfalso; simp (disch := omega) only [Int32.lt_iff_toInt_lt, Int32.le_iff_toInt_le, ← Int32.toInt_inj, nI_toInt, i32_m1, i32_0, i32_m20, i32_m40, i32_m30, i32_m9] at *; omega))
      refine go_aloadn_0 iM_tellGain_7 rfl ?_
      refine go_aloadn_0 iM_tellGain_8 rfl ?_
      refine go_getL iM_tellGain_9 rfl (sk_43 _) ?_
      try simp (disch := omega) only [am_u_n, am_u_s, am_u_k, e2, e3]
      refine go_aloadn_0 iM_tellGain_12 rfl ?_
      refine go_getL iM_tellGain_13 rfl (sk_43 _) ?_
      try simp (disch := omega) only [am_u_n, am_u_s, am_u_k, e2, e3]
      refine go_aloadn_0 iM_tellGain_16 rfl ?_
      refine go_getL iM_tellGain_17 rfl (sk_43 _) ?_
      try simp (disch := omega) only [am_u_n, am_u_s, am_u_k, e2, e3]
      refine go_lconst (v := zL 0) iM_tellGain_20 rfl ?_
      refine gz_lc_le iM_tellGain_21 iM_tellGain_22 (by omega) (by omega) (fun c_21 => ?_) (fun c_21 => ?_)
      · (first | omega | exact absurd c_21 (by decide) | (exfalso; simp (disch := omega) only [Int32.lt_iff_toInt_lt, Int32.le_iff_toInt_le, ← Int32.toInt_inj, nI_toInt, i32_m1, i32_0, i32_m20, i32_m40, i32_m30, i32_m9] at *; omega))
      refine go_iconst (v := nI 1) iM_tellGain_25 rfl ?_
      refine go_goto iM_tellGain_26 ?_
      exact kk _ _ e1
    · rw [if_neg c1]
      have d1 : ¬ 0 < fU (Uz m B T w) (Lz m B T w) := fun q => c1 (p1.mp q)
      by_cases c2 : Uz m B T w < 0
      · rw [if_pos c2]
        have d2 := p2.mpr c2
        refine go_aloadn_0 iM_tellGain_0 rfl ?_
        refine gx_V1 iM_tellGain_1 rfl (by decide) (sk_43 _) rfl (Nat.le_of_ble_eq_true rfl) (Nat.le_of_ble_eq_true rfl) (by decide) hgn (fun mI1_ mL1_ h1_ => ?_)
        obtain ⟨e0, e1, e23⟩ := h1_
        subst mI1_
        obtain ⟨e2, e3⟩ := e23 c
        refine go_if_eq iM_tellGain_4 (fun c_4 => ?_) (fun c_4 => ?_)
        · (first | omega | exact absurd c_4 (by decide) | (exfalso; simp (disch := omega) only [Int32.lt_iff_toInt_lt, Int32.le_iff_toInt_le, ← Int32.toInt_inj, nI_toInt, i32_m1, i32_0, i32_m20, i32_m40, i32_m30, i32_m9] at *; omega))
        refine go_aloadn_0 iM_tellGain_7 rfl ?_
        refine go_aloadn_0 iM_tellGain_8 rfl ?_
        refine go_getL iM_tellGain_9 rfl (sk_43 _) ?_
        try simp (disch := omega) only [am_u_n, am_u_s, am_u_k, e2, e3]
        refine go_aloadn_0 iM_tellGain_12 rfl ?_
        refine go_getL iM_tellGain_13 rfl (sk_43 _) ?_
        try simp (disch := omega) only [am_u_n, am_u_s, am_u_k, e2, e3]
        refine go_aloadn_0 iM_tellGain_16 rfl ?_
        refine go_getL iM_tellGain_17 rfl (sk_43 _) ?_
        try simp (disch := omega) only [am_u_n, am_u_s, am_u_k, e2, e3]
        refine go_lconst (v := zL 0) iM_tellGain_20 rfl ?_
        refine gz_lc_le iM_tellGain_21 iM_tellGain_22 (by omega) (by omega) (fun c_21 => ?_) (fun c_21 => ?_)
        rotate_left
        · (first | omega | exact absurd c_21 (by decide) | (exfalso; simp (disch := omega) only [Int32.lt_iff_toInt_lt, Int32.le_iff_toInt_le, ← Int32.toInt_inj, nI_toInt, i32_m1, i32_0, i32_m20, i32_m40, i32_m30, i32_m9] at *; omega))
        refine go_aloadn_0 iM_tellGain_29 rfl ?_
        refine go_getL iM_tellGain_30 rfl (sk_43 _) ?_
        try simp (disch := omega) only [am_u_n, am_u_s, am_u_k, e2, e3]
        refine go_lconst (v := zL 0) iM_tellGain_33 rfl ?_
        refine gz_lc_ge iM_tellGain_34 iM_tellGain_35 (by omega) (by omega) (fun c_34 => ?_) (fun c_34 => ?_)
        · (first | omega | exact absurd c_34 (by decide) | (exfalso; simp (disch := omega) only [Int32.lt_iff_toInt_lt, Int32.le_iff_toInt_le, ← Int32.toInt_inj, nI_toInt, i32_m1, i32_0, i32_m20, i32_m40, i32_m30, i32_m9] at *; omega))
        refine go_iconst (v := nI 2) iM_tellGain_38 rfl ?_
        refine go_goto iM_tellGain_39 ?_
        exact kk _ _ e1
      · rw [if_neg c2]
        have d2 : ¬ fU (Uz m B T w) (Lz m B T w) < 0 := fun q => c2 (p2.mp q)
        refine go_aloadn_0 iM_tellGain_0 rfl ?_
        refine gx_V1 iM_tellGain_1 rfl (by decide) (sk_43 _) rfl (Nat.le_of_ble_eq_true rfl) (Nat.le_of_ble_eq_true rfl) (by decide) hgn (fun mI1_ mL1_ h1_ => ?_)
        obtain ⟨e0, e1, e23⟩ := h1_
        subst mI1_
        obtain ⟨e2, e3⟩ := e23 c
        refine go_if_eq iM_tellGain_4 (fun c_4 => ?_) (fun c_4 => ?_)
        · (first | omega | exact absurd c_4 (by decide) | (exfalso; simp (disch := omega) only [Int32.lt_iff_toInt_lt, Int32.le_iff_toInt_le, ← Int32.toInt_inj, nI_toInt, i32_m1, i32_0, i32_m20, i32_m40, i32_m30, i32_m9] at *; omega))
        refine go_aloadn_0 iM_tellGain_7 rfl ?_
        refine go_aloadn_0 iM_tellGain_8 rfl ?_
        refine go_getL iM_tellGain_9 rfl (sk_43 _) ?_
        try simp (disch := omega) only [am_u_n, am_u_s, am_u_k, e2, e3]
        refine go_aloadn_0 iM_tellGain_12 rfl ?_
        refine go_getL iM_tellGain_13 rfl (sk_43 _) ?_
        try simp (disch := omega) only [am_u_n, am_u_s, am_u_k, e2, e3]
        refine go_aloadn_0 iM_tellGain_16 rfl ?_
        refine go_getL iM_tellGain_17 rfl (sk_43 _) ?_
        try simp (disch := omega) only [am_u_n, am_u_s, am_u_k, e2, e3]
        refine go_lconst (v := zL 0) iM_tellGain_20 rfl ?_
        refine gz_lc_le iM_tellGain_21 iM_tellGain_22 (by omega) (by omega) (fun c_21 => ?_) (fun c_21 => ?_)
        rotate_left
        · (first | omega | exact absurd c_21 (by decide) | (exfalso; simp (disch := omega) only [Int32.lt_iff_toInt_lt, Int32.le_iff_toInt_le, ← Int32.toInt_inj, nI_toInt, i32_m1, i32_0, i32_m20, i32_m40, i32_m30, i32_m9] at *; omega))
        refine go_aloadn_0 iM_tellGain_29 rfl ?_
        refine go_getL iM_tellGain_30 rfl (sk_43 _) ?_
        try simp (disch := omega) only [am_u_n, am_u_s, am_u_k, e2, e3]
        refine go_lconst (v := zL 0) iM_tellGain_33 rfl ?_
        refine gz_lc_ge iM_tellGain_34 iM_tellGain_35 (by omega) (by omega) (fun c_34 => ?_) (fun c_34 => ?_)
        rotate_left
        · (first | omega | exact absurd c_34 (by decide) | (exfalso; simp (disch := omega) only [Int32.lt_iff_toInt_lt, Int32.le_iff_toInt_le, ← Int32.toInt_inj, nI_toInt, i32_m1, i32_0, i32_m20, i32_m40, i32_m30, i32_m9] at *; omega))
        refine go_iconst (v := nI 0) iM_tellGain_42 rfl ?_
        exact kk _ _ e1
  · rw [if_neg c] at hgn
    rw [if_neg c]
    refine go_aloadn_0 iM_tellGain_0 rfl ?_
    refine gx_V1 iM_tellGain_1 rfl (by decide) (sk_43 _) rfl (Nat.le_of_ble_eq_true rfl) (Nat.le_of_ble_eq_true rfl) (by decide) hgn (fun mI1_ mL1_ h1_ => ?_)
    obtain ⟨e0, e1, e23⟩ := h1_
    subst mI1_
    refine go_if_eq iM_tellGain_4 (fun c_4 => ?_) (fun c_4 => ?_)
    rotate_left
    · (first | omega | exact absurd c_4 (by decide) | (exfalso; simp (disch := omega) only [Int32.lt_iff_toInt_lt, Int32.le_iff_toInt_le, ← Int32.toInt_inj, nI_toInt, i32_m1, i32_0, i32_m20, i32_m40, i32_m30, i32_m9] at *; omega))
    refine go_bipush (v := (-4)) iM_tellGain_49 (by decide) ?_
    refine go_iret iM_tellGain_51 rfl ?_
    exact ex_i ⟨rfl, fun a ha => e1.1 a (by omega) (by omega) (by omega) (by omega) (by omega) (by omega), fun q => absurd q c, fun _ => ⟨e1.2 2 (by decide) (by decide) (by decide) (by decide), e1.2 3 (by decide) (by decide) (by decide) (by decide)⟩⟩
/-- the odds by which row r is played -/
def wR (mI : Nat → Nat → Int32) (r : Nat) : Nat → Nat → Nat := fun t => odN mI (psN (fun j => mI 48 (4 * r + j)) t)
theorem wR_fr {mI1 : Nat → Nat → Int32} (h : ∀ a, 42 < a → mI1 a = mI a) : wR mI1 r = wR mI r := by
  funext t i
  unfold wR odN psN
  rw [h 48 (by omega), h (61 + 2 * _) (by omega)]
theorem Gm_row (h8 : n ≤ 8) (h1 : 1 ≤ m) (hm3 : m ≤ 3) (h4 : s ≤ 4) (hpl : ∀ p, p < n → PlR mI p) (hf : ftN mI n (fun j => mI 48 (4 * r + j)) s = 1) : Gm m 12 s (wR mI r) := by
  obtain ⟨s0, hps⟩ := fit_ps h8 hf
  exact ⟨h1, hm3, Or.inl ⟨rfl, s0, h4⟩, fun t i ht hi => ((odN_ok (hpl _ (hps t ht).2.1)).1 i (by omega)).2⟩
theorem ft_kd {mI1 : Nat → Nat → Int32} {g : Nat → Int32} (h : mI1 45 = mI 45) : ∀ s, ft mI1 n g s = ft mI n g s
  | 0 => rfl
  | s + 1 => by
    have e : ∀ x, kdN mI1 x = kdN mI x := fun x => by unfold kdN; rw [h]
    simp only [ft, ft_kd h s, hgB, e]
theorem ftN_fr {mI1 : Nat → Nat → Int32} (h : ∀ a, 42 < a → mI1 a = mI a) : ftN mI1 n (fun j => mI1 48 (4 * r + j)) s = ftN mI n (fun j => mI 48 (4 * r + j)) s := by
  unfold ftN
  rw [h 48 (by omega), ft_kd (h 45 (by omega))]
theorem pr_gain (x : Int32) (hR : Rel n mI mL) : Pair S tT_gain tM_gain [.int x] n mI mL := by
  have hR0 := hR
  obtain ⟨h8, ⟨m, hm1, hm3, hmT, hmM⟩, hcT, hcM, hpl, hro, hfi, hfs, hu, hl, hch⟩ := hR
  rcases row_cases x with ⟨r, hr, rfl⟩ | hx
  · obtain ⟨⟨s1, s2⟩ | ⟨s, hs4, s1, s2⟩, hpc⟩ := hro r hr
    · refine Pair.refuse (h1 := 4) (h2 := 4) (f := 1) hR0 (by decide) ?_ ?_
      · show Go _ _ tT_gain (_, 0, [.ref 0, .int (nI r), am_U, am_U], []) _
        refine go_aloadn_0 iT_gain_0 rfl ?_
        refine go_iloadn_1 iT_gain_1 ?_
        refine gc_V1 iT_gain_2 rfl (by decide) (sk_0 _) rfl (Nat.le_of_ble_eq_true rfl) (Nat.le_of_ble_eq_true rfl) (by decide) (sp_T_rowAt_t hr) ?_
        refine go_astoren_2 iT_gain_5 rfl (by simp [Value.category, am_U]) ?_
        refine go_aloadn_2 iT_gain_6 rfl ?_
        refine go_nnulR iT_gain_7 ?_
        refine go_aloadn_0 iT_gain_12 rfl ?_
        refine go_aloadn_2 iT_gain_13 rfl ?_
        refine gc_V1 iT_gain_14 rfl (by decide) (sk_0 _) rfl (Nat.le_of_ble_eq_true rfl) (Nat.le_of_ble_eq_true rfl) (by decide) (sp_T_refusal_m hr s1) ?_
        refine go_istoren_3 iT_gain_17 (by simp [Value.category, am_U]) ?_
        refine go_iloadn_3 iT_gain_18 ?_
        refine go_if_eq iT_gain_19 (fun c_19 => ?_) (fun c_19 => ?_)
        · (first | omega | exact absurd c_19 (by decide) | (exfalso; simp (disch := omega) only [Int32.lt_iff_toInt_lt, Int32.le_iff_toInt_le, ← Int32.toInt_inj, nI_toInt, i32_m1, i32_0, i32_m20, i32_m40, i32_m30, i32_m9] at *; omega))
        refine go_iloadn_3 iT_gain_22 ?_
        refine go_iret iT_gain_23 rfl ?_
        rfl
      · show Go _ _ tM_gain (_, 0, [.ref 43, .int (nI r), am_U], []) _
        refine go_aloadn_0 iM_gain_0 rfl ?_
        refine go_iloadn_1 iM_gain_1 ?_
        refine gc_V1 iM_gain_2 rfl (by decide) (sk_43 _) rfl (Nat.le_of_ble_eq_true rfl) (Nat.le_of_ble_eq_true rfl) (by decide) (sp_M_asked_m hr (by rw [rfI_r (by decide) (by decide)]; exact s2)) ?_
        refine go_istoren_2 iM_gain_5 (by simp [Value.category, am_U]) ?_
        refine go_iloadn_2 iM_gain_6 ?_
        refine go_if_ge iM_gain_7 (fun c_7 => ?_) (fun c_7 => ?_)
        · (first | omega | exact absurd c_7 (by decide) | (exfalso; simp (disch := omega) only [Int32.lt_iff_toInt_lt, Int32.le_iff_toInt_le, ← Int32.toInt_inj, nI_toInt, i32_m1, i32_0, i32_m20, i32_m40, i32_m30, i32_m9] at *; omega))
        refine go_iloadn_2 iM_gain_10 ?_
        refine go_goto iM_gain_11 ?_
        refine go_iret iM_gain_18 rfl ?_
        rfl
    · have hcg := ftN_congr (mI := mI) (n := n) (s := s) (g := mI (16 + 2 * r)) (g' := fun j => mI 48 (4 * r + j)) (fun j hj => hpc j (by omega))
      rcases ftN_01 (mI := mI) (n := n) (s := s) (g := fun j => mI 48 (4 * r + j)) with hf | hf
      · refine Pair.refuse (h1 := 4) (h2 := 4) (f := 3) hR0 (by decide) ?_ ?_
        · show Go _ _ tT_gain (_, 0, [.ref 0, .int (nI r), am_U, am_U], []) _
          refine go_aloadn_0 iT_gain_0 rfl ?_
          refine go_iloadn_1 iT_gain_1 ?_
          refine gc_V1 iT_gain_2 rfl (by decide) (sk_0 _) rfl (Nat.le_of_ble_eq_true rfl) (Nat.le_of_ble_eq_true rfl) (by decide) (sp_T_rowAt_t hr) ?_
          refine go_astoren_2 iT_gain_5 rfl (by simp [Value.category, am_U]) ?_
          refine go_aloadn_2 iT_gain_6 rfl ?_
          refine go_nnulR iT_gain_7 ?_
          refine go_aloadn_0 iT_gain_12 rfl ?_
          refine go_aloadn_2 iT_gain_13 rfl ?_
          refine gc_V1 iT_gain_14 rfl (by decide) (sk_0 _) rfl (Nat.le_of_ble_eq_true rfl) (Nat.le_of_ble_eq_true rfl) (by decide) (sp_T_refusal_u hr s1 hs4 h8 hcT hpl (hcg.trans hf)) ?_
          refine go_istoren_3 iT_gain_17 (by simp [Value.category, am_U]) ?_
          refine go_iloadn_3 iT_gain_18 ?_
          refine go_if_eq iT_gain_19 (fun c_19 => ?_) (fun c_19 => ?_)
          · (first | omega | exact absurd c_19 (by decide) | (exfalso; simp (disch := omega) only [Int32.lt_iff_toInt_lt, Int32.le_iff_toInt_le, ← Int32.toInt_inj, nI_toInt, i32_m1, i32_0, i32_m20, i32_m40, i32_m30, i32_m9] at *; omega))
          refine go_iloadn_3 iT_gain_22 ?_
          refine go_iret iT_gain_23 rfl ?_
          rfl
        · have hq : ∀ a, 42 < a → rfI mI 3 a = mI a := fun a ha => rfI_r (by omega) (by omega)
          show Go _ _ tM_gain (_, 0, [.ref 43, .int (nI r), am_U], []) _
          refine go_aloadn_0 iM_gain_0 rfl ?_
          refine go_iloadn_1 iM_gain_1 ?_
          refine gc_V1 iM_gain_2 rfl (by decide) (sk_43 _) rfl (Nat.le_of_ble_eq_true rfl) (Nat.le_of_ble_eq_true rfl) (by decide) (sp_M_asked_u hr (by rw [hq 47 (by omega)]; exact s2) hs4 h8 (by rw [hq 43 (by omega)]; exact hcM) (fun p hp => (hpl p hp).of (hq _ (by omega)) (hq _ (by omega)) (by rw [hq 45 (by omega)]) (fun j _ => by rw [hq 46 (by omega)])) ((ftN_fr hq).trans hf)) ?_
          refine go_istoren_2 iM_gain_5 (by simp [Value.category, am_U]) ?_
          refine go_iloadn_2 iM_gain_6 ?_
          refine go_if_ge iM_gain_7 (fun c_7 => ?_) (fun c_7 => ?_)
          · (first | omega | exact absurd c_7 (by decide) | (exfalso; simp (disch := omega) only [Int32.lt_iff_toInt_lt, Int32.le_iff_toInt_le, ← Int32.toInt_inj, nI_toInt, i32_m1, i32_0, i32_m20, i32_m40, i32_m30, i32_m9] at *; omega))
          refine go_iloadn_2 iM_gain_10 ?_
          refine go_goto iM_gain_11 ?_
          refine go_iret iM_gain_18 rfl ?_
          rfl
      · obtain ⟨s0, hps⟩ := fit_ps h8 hf
        have hG := Gm_row h8 hm1 hm3 hs4 hpl hf
        refine Pair.ex (h1 := 4) (h2 := 5) (v := .int (gnA m 12 s (wR mI r))) (P := fun mI1 mL1 => FrC mI mI1 mL mL1 ∧ TlC mL mL1 m 12 s (wR mI r)) ?_ (fun mI1 mL1 hP => ?_)
        · unfold Ex
          show Go _ _ tT_gain (_, 0, [.ref 0, .int (nI r), am_U, am_U], []) _
          refine go_aloadn_0 iT_gain_0 rfl ?_
          refine go_iloadn_1 iT_gain_1 ?_
          refine gc_V1 iT_gain_2 rfl (by decide) (sk_0 _) rfl (Nat.le_of_ble_eq_true rfl) (Nat.le_of_ble_eq_true rfl) (by decide) (sp_T_rowAt_t hr) ?_
          refine go_astoren_2 iT_gain_5 rfl (by simp [Value.category, am_U]) ?_
          refine go_aloadn_2 iT_gain_6 rfl ?_
          refine go_nnulR iT_gain_7 ?_
          refine go_aloadn_0 iT_gain_12 rfl ?_
          refine go_aloadn_2 iT_gain_13 rfl ?_
          refine gc_V1 iT_gain_14 rfl (by decide) (sk_0 _) rfl (Nat.le_of_ble_eq_true rfl) (Nat.le_of_ble_eq_true rfl) (by decide) (sp_T_refusal_t hr s1 hs4 h8 hcT hpl (hcg.trans hf)) ?_
          refine go_istoren_3 iT_gain_17 (by simp [Value.category, am_U]) ?_
          refine go_iloadn_3 iT_gain_18 ?_
          refine go_if_eq iT_gain_19 (fun c_19 => ?_) (fun c_19 => ?_)
          rotate_left
          · (first | omega | exact absurd c_19 (by decide) | (exfalso; simp (disch := omega) only [Int32.lt_iff_toInt_lt, Int32.le_iff_toInt_le, ← Int32.toInt_inj, nI_toInt, i32_m1, i32_0, i32_m20, i32_m40, i32_m30, i32_m9] at *; omega))
          refine go_aloadn_0 iT_gain_24 rfl ?_
          refine go_aloadn_0 iT_gain_25 rfl ?_
          refine go_aloadn_2 iT_gain_26 rfl ?_
          refine gx_V1 iT_gain_27 rfl (by decide) (sk_0 _) rfl (Nat.le_of_ble_eq_true rfl) (Nat.le_of_ble_eq_true rfl) (by decide) (ex_T_row (ps := psN (fun j => mI 48 (4 * r + j))) h8 hm3 hs4 hr hmT hcT s1 (fun i hi => ⟨by rw [hpc i (by omega)]; exact (hps i hi).1, (hps i hi).2.1⟩) hpl) (fun mI27_ mL27_ h27_ => ?_)
          obtain ⟨e1, e2, e3⟩ := h27_
          refine gx_V1 iT_gain_30 rfl (by decide) (sk_0 _) rfl (Nat.le_of_ble_eq_true rfl) (Nat.le_of_ble_eq_true rfl) (by decide) (ex_T_tellGain (w := wR mI r) (by omega) hG e1) (fun mI30_ mL30_ h30_ => ?_)
          refine go_iret iT_gain_33 rfl ?_
          exact ex_i ⟨⟨fun a ha => (h30_.1.1 a ha).trans (e2 a (by omega)), fun a ha h4 => (h30_.1.2 a ha h4).trans (e3 a (by omega))⟩, h30_.2.1, fun q => (h30_.2.2 q).trans (e3 4 (by omega))⟩
        · obtain ⟨k1, k2⟩ := hP
          have hq : ∀ a, 42 < a → mI1 a = mI a := fun a ha => k1.1 a (by omega)
          have has := ex_M_asked (S := S) (mL := mL1) hr (by rw [hq 47 (by omega)]; exact s2) hs4 h8 (by rw [hq 43 (by omega)]; exact hcM) (fun p hp => (hpl p hp).of (hq _ (by omega)) (hq _ (by omega)) (by rw [hq 45 (by omega)]) (fun j _ => by rw [hq 46 (by omega)])) ((ftN_fr hq).trans hf)
          rw [show (fun t => odN mI1 (psN (fun j => mI1 48 (4 * r + j)) t)) = wR mI r from wR_fr hq] at has
          unfold Ex
          show Go _ _ tM_gain (_, 0, [.ref 43, .int (nI r), am_U], []) _
          refine go_aloadn_0 iM_gain_0 rfl ?_
          refine go_iloadn_1 iM_gain_1 ?_
          refine gx_V1 iM_gain_2 rfl (by decide) (sk_43 _) rfl (Nat.le_of_ble_eq_true rfl) (Nat.le_of_ble_eq_true rfl) (by decide) has (fun mI2_ mL2_ h2_ => ?_)
          obtain ⟨a1, a2, a3, a4, a5⟩ := h2_
          subst mI2_
          refine go_istoren_2 iM_gain_5 (by simp [Value.category, am_U]) ?_
          refine go_iloadn_2 iM_gain_6 ?_
          refine go_if_ge iM_gain_7 (fun c_7 => ?_) (fun c_7 => ?_)
          rotate_left
          · (first | omega | exact absurd c_7 (by decide) | (exfalso; simp (disch := omega) only [Int32.lt_iff_toInt_lt, Int32.le_iff_toInt_le, ← Int32.toInt_inj, nI_toInt, i32_m1, i32_0, i32_m20, i32_m40, i32_m30, i32_m9] at *; omega))
          refine go_aloadn_0 iM_gain_14 rfl ?_
          refine gx_V1 iM_gain_15 rfl (by decide) (sk_43 _) rfl (Nat.le_of_ble_eq_true rfl) (Nat.le_of_ble_eq_true rfl) (by decide) (ex_M_tellGain hG (by rw [am_u_k (by decide), hq 43 (by omega)]; exact hmM) am_u_s a4 (fun t i ht hi => a5 t i ht (by omega))) (fun mI15_ mL15_ h15_ => ?_)
          obtain ⟨b0, b1, b2⟩ := h15_
          subst mI15_
          refine go_iret iM_gain_18 rfl ?_
          refine ex_i (hR0.keep k1 ⟨fun a e1 e2 e3 => by rw [am_u_r e1], fun y hy => by rw [am_u_k hy], fun a ha => (b1 a ha).trans (a2 a (by omega) (by omega))⟩ ?_ ?_)
          · by_cases c : 0 < Wz m 12 s (wR mI r)
            · rw [(k2.1 c).1, (b2.1 c).1]
            · rw [k2.2 c, (b2.2 c).1, a3 2 (by decide), k1.2 43 (by omega) (by decide)]; exact hu
          · by_cases c : 0 < Wz m 12 s (wR mI r)
            · rw [(k2.1 c).2, (b2.1 c).2]
            · rw [k2.2 c, (b2.2 c).2, a3 3 (by decide), k1.2 43 (by omega) (by decide)]; exact hl
  · refine Pair.same (h1 := 1) (h2 := 4) (v := .int (-1)) hR0 ?_ ?_
    · show Go _ _ tT_gain (_, 0, [.ref 0, .int x, am_U, am_U], []) _
      refine go_aloadn_0 iT_gain_0 rfl ?_
      refine go_iloadn_1 iT_gain_1 ?_
      refine gc_V1 iT_gain_2 rfl (by decide) (sk_0 _) rfl (Nat.le_of_ble_eq_true rfl) (Nat.le_of_ble_eq_true rfl) (by decide) (sp_T_rowAt_f hx) ?_
      refine go_astoren_2 iT_gain_5 rfl (by simp [Value.category, am_U]) ?_
      refine go_aloadn_2 iT_gain_6 rfl ?_
      refine go_nnulN iT_gain_7 ?_
      refine go_iconst (v := (-1)) iT_gain_10 rfl ?_
      refine go_iret iT_gain_11 rfl ?_
      rfl
    · show Go _ _ tM_gain (_, 0, [.ref 43, .int x, am_U], []) _
      refine go_aloadn_0 iM_gain_0 rfl ?_
      refine go_iloadn_1 iM_gain_1 ?_
      refine gc_V1 iM_gain_2 rfl (by decide) (sk_43 _) rfl (Nat.le_of_ble_eq_true rfl) (Nat.le_of_ble_eq_true rfl) (by decide) (sp_M_asked_b hx) ?_
      refine go_istoren_2 iM_gain_5 (by simp [Value.category, am_U]) ?_
      refine go_iloadn_2 iM_gain_6 ?_
      refine go_if_ge iM_gain_7 (fun c_7 => ?_) (fun c_7 => ?_)
      · (first | omega | exact absurd c_7 (by decide) | (exfalso; simp (disch := omega) only [Int32.lt_iff_toInt_lt, Int32.le_iff_toInt_le, ← Int32.toInt_inj, nI_toInt, i32_m1, i32_0, i32_m20, i32_m40, i32_m30, i32_m9] at *; omega))
      refine go_iloadn_2 iM_gain_10 ?_
      refine go_goto iM_gain_11 ?_
      refine go_iret iM_gain_18 rfl ?_
      rfl
end TGN
