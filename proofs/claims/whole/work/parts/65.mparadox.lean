/-! ===== the reference's paradoxes ===== -/
theorem FrN_st {mI : Nat → Nat → Int32} {mL mL2 mL3 : Nat → Nat → Int64} {T : Nat} (a2 : ∀ a, a ≠ 43 → a ≠ 50 → mL2 a = mL a) (a3 : ∀ y, y ≠ 12 → mL2 43 y = mL 43 y) (b1 : FrM mL2 mL3) : FrN mI (am_u mI 43 11 (nI T)) mL mL3 := ⟨⟨fun a e1 e2 e3 => by rw [am_u_r e1], fun y hy => by rw [am_u_k hy], fun a ha => (b1.1 a (by omega) (by omega) (by omega) (by omega) (by omega) (by omega)).trans (a2 a (by omega) (by omega))⟩, (b1.2 2 (by decide) (by decide) (by decide) (by decide)).trans (a3 2 (by decide)), (b1.2 3 (by decide) (by decide) (by decide) (by decide)).trans (a3 3 (by decide))⟩
theorem FrN.plr {mI mI' : Nat → Nat → Int32} {mL mL' : Nat → Nat → Int64} {p : Nat} (h : FrN mI mI' mL mL') (hp : PlR mI p) : PlR mI' p := hp.c (fun a _ e1 e2 e3 => h.1.1 a e1 e2 e3)
theorem FrN.od {mI mI' : Nat → Nat → Int32} {mL mL' : Nat → Nat → Int64} (h : FrN mI mI' mL mL') : odN mI' = odN mI := od_fr (fun a ha => h.1.1 a (by omega) (by omega) (by omega))
theorem FrN.px {mI mI' : Nat → Nat → Int32} {mL mL' : Nat → Nat → Int64} (h : FrN mI mI' mL mL') : pxB mI' = pxB mI ∧ lsB mI' = lsB mI ∧ laB mI' = laB mI := px_fr (h.1.1 45 (by decide) (by decide) (by decide)) (fun a ha => h.1.1 a (by omega) (by omega) (by omega))
section MPX
variable {S : am_S} {mI : Nat → Nat → Int32} {mL : Nat → Nat → Int64} {n m p q b : Nat}
theorem ex_M_loses (hm1 : 1 ≤ m) (hm3 : m ≤ 3) (hp : p < 8) (h1 : PlR mI p) (hmM : mI 43 4 = nI m) (hb : b = if laB mI m p = true then 1 else 0) : Ex S 4 tM_loses n mI mL [.ref 43, .int (nI p)] (some (.int (nI b))) (fun mI' mL' => FrN mI mI' mL mL') := by
  have hG := Gm_1 hm1 hm3 h1
  have hB := hG.b
  have hL := hG.l
  have hod := odN_ok h1
  have hst := ex_M_setTurn (S := S) (n := n) (mI := am_u mI 43 11 (nI 1)) (mL := am_u mL 43 12 (zL 12)) (t := 0) (p := p) (o := odN mI p) (by omega) hp (fun i hi => by rw [am_u_n (by decide)]; exact hod.2 i hi) (fun i hi => (hod.1 i (by omega)).2)
  unfold Ex
  show Go _ _ tM_loses (_, 0, [.ref 43, .int (nI p)], []) _
  have hgn0 : ∀ mL2 : Nat → Nat → Int64, (∀ a, a ≠ 50 → mL2 a = am_u mL 43 12 (zL 12) a) → (∀ i, i < 3 → mL2 50 (3 * 0 + i) = zL (odN mI p i)) → _ := fun mL2 e1 e3 => ex_M_hasGain (S := S) (n := n) (mI := am_u mI 43 11 (nI 1)) (mL := mL2) hG (by rw [am_u_k (by decide)]; exact hmM) am_u_s (by rw [e1 43 (by decide)]; exact am_u_s) (fun t i ht hi => by
    obtain rfl : t = 0 := by omega
    exact e3 i (by omega))
  have fr : ∀ mL2 mL3 : Nat → Nat → Int64, (∀ a, a ≠ 50 → mL2 a = am_u mL 43 12 (zL 12) a) → FrM mL2 mL3 → FrN mI (am_u mI 43 11 (nI 1)) mL mL3 := fun mL2 mL3 e1 b1 => FrN_st (mL2 := mL2) (fun a h1 h2 => by rw [e1 a h2, am_u_r h1]) (fun y hy => by rw [e1 43 (by decide), am_u_k hy]) b1
  by_cases c : 0 < Wz m 12 1 (w1 mI p)
  · obtain ⟨l1, l2, l3⟩ := hL c
    have p0 := f_le (Uz m 12 1 (w1 mI p)) (Lz m 12 1 (w1 mI p))
    obtain ⟨p1, p2⟩ := f_pos (u := Uz m 12 1 (w1 mI p)) l1
    by_cases c1 : Uz m 12 1 (w1 mI p) < 0
    · obtain rfl : b = 1 := by rw [hb, if_pos]; unfold laB; simp [c, c1]
      have d1 := p2.mpr c1
      refine go_aloadn_0 iM_loses_0 rfl ?_
      refine go_iconst (v := nI 1) iM_loses_1 rfl ?_
      refine go_putI iM_loses_2 rfl (sk_43 _) ?_
      refine go_aloadn_0 iM_loses_5 rfl ?_
      refine go_ldc2 (v := zL 12) iM_loses_6 rfl ?_
      refine go_putL iM_loses_9 rfl (sk_43 _) ?_
      refine go_aloadn_0 iM_loses_12 rfl ?_
      refine go_iconst (v := nI 0) iM_loses_13 rfl ?_
      refine go_iloadn_1 iM_loses_14 ?_
      refine gx_V0 iM_loses_15 rfl (by decide) (sk_43 _) rfl (Nat.le_of_ble_eq_true rfl) (Nat.le_of_ble_eq_true rfl) (by decide) hst (fun mI15_ mL15_ h15_ => ?_)
      obtain ⟨e0, e1, e2, e3⟩ := h15_
      subst mI15_
      have hgn := hgn0 _ e1 e3
      rw [if_pos c] at hgn
      refine go_aloadn_0 iM_loses_18 rfl ?_
      refine gx_V1 iM_loses_19 rfl (by decide) (sk_43 _) rfl (Nat.le_of_ble_eq_true rfl) (Nat.le_of_ble_eq_true rfl) (by decide) hgn (fun mI19_ mL19_ h19_ => ?_)
      obtain ⟨b0, b1, b2⟩ := h19_
      subst mI19_
      obtain ⟨g2, g3⟩ := b2 c
      refine go_if_eq iM_loses_22 (fun c_22 => ?_) (fun c_22 => ?_)
      · (first | omega | exact absurd c_22 (by decide) | (exfalso; simp (disch := omega) only [Int32.lt_iff_toInt_lt, Int32.le_iff_toInt_le, ← Int32.toInt_inj, nI_toInt, i32_m1, i32_0, i32_m20, i32_m40, i32_m30, i32_m9] at *; omega))
      refine go_aloadn_0 iM_loses_25 rfl ?_
      refine go_getL iM_loses_26 rfl (sk_43 _) ?_
      try simp (disch := omega) only [am_u_n, am_u_s, am_u_k, g2]
      refine go_lconst (v := zL 0) iM_loses_29 rfl ?_
      refine gz_lc_ge iM_loses_30 iM_loses_31 (by omega) (by omega) (fun c_30 => ?_) (fun c_30 => ?_)
      · (first | omega | exact absurd c_30 (by decide) | (exfalso; simp (disch := omega) only [Int32.lt_iff_toInt_lt, Int32.le_iff_toInt_le, ← Int32.toInt_inj, nI_toInt, i32_m1, i32_0, i32_m20, i32_m40, i32_m30, i32_m9] at *; omega))
      refine go_iconst (v := nI 1) iM_loses_34 rfl ?_
      refine go_goto iM_loses_35 ?_
      refine go_zret iM_loses_39 rfl (by first | exact Or.inl rfl | exact Or.inr rfl) ?_
      exact ex_i (fr _ _ e1 b1)
    · obtain rfl : b = 0 := by rw [hb, if_neg]; unfold laB; simp [c1]
      have d1 : ¬ fU (Uz m 12 1 (w1 mI p)) (Lz m 12 1 (w1 mI p)) < 0 := fun q => c1 (p2.mp q)
      refine go_aloadn_0 iM_loses_0 rfl ?_
      refine go_iconst (v := nI 1) iM_loses_1 rfl ?_
      refine go_putI iM_loses_2 rfl (sk_43 _) ?_
      refine go_aloadn_0 iM_loses_5 rfl ?_
      refine go_ldc2 (v := zL 12) iM_loses_6 rfl ?_
      refine go_putL iM_loses_9 rfl (sk_43 _) ?_
      refine go_aloadn_0 iM_loses_12 rfl ?_
      refine go_iconst (v := nI 0) iM_loses_13 rfl ?_
      refine go_iloadn_1 iM_loses_14 ?_
      refine gx_V0 iM_loses_15 rfl (by decide) (sk_43 _) rfl (Nat.le_of_ble_eq_true rfl) (Nat.le_of_ble_eq_true rfl) (by decide) hst (fun mI15_ mL15_ h15_ => ?_)
      obtain ⟨e0, e1, e2, e3⟩ := h15_
      subst mI15_
      have hgn := hgn0 _ e1 e3
      rw [if_pos c] at hgn
      refine go_aloadn_0 iM_loses_18 rfl ?_
      refine gx_V1 iM_loses_19 rfl (by decide) (sk_43 _) rfl (Nat.le_of_ble_eq_true rfl) (Nat.le_of_ble_eq_true rfl) (by decide) hgn (fun mI19_ mL19_ h19_ => ?_)
      obtain ⟨b0, b1, b2⟩ := h19_
      subst mI19_
      obtain ⟨g2, g3⟩ := b2 c
      refine go_if_eq iM_loses_22 (fun c_22 => ?_) (fun c_22 => ?_)
      · (first | omega | exact absurd c_22 (by decide) | (exfalso; simp (disch := omega) only [Int32.lt_iff_toInt_lt, Int32.le_iff_toInt_le, ← Int32.toInt_inj, nI_toInt, i32_m1, i32_0, i32_m20, i32_m40, i32_m30, i32_m9] at *; omega))
      refine go_aloadn_0 iM_loses_25 rfl ?_
      refine go_getL iM_loses_26 rfl (sk_43 _) ?_
      try simp (disch := omega) only [am_u_n, am_u_s, am_u_k, g2]
      refine go_lconst (v := zL 0) iM_loses_29 rfl ?_
      refine gz_lc_ge iM_loses_30 iM_loses_31 (by omega) (by omega) (fun c_30 => ?_) (fun c_30 => ?_)
      rotate_left
      · (first | omega | exact absurd c_30 (by decide) | (exfalso; simp (disch := omega) only [Int32.lt_iff_toInt_lt, Int32.le_iff_toInt_le, ← Int32.toInt_inj, nI_toInt, i32_m1, i32_0, i32_m20, i32_m40, i32_m30, i32_m9] at *; omega))
      refine go_iconst (v := nI 0) iM_loses_38 rfl ?_
      refine go_zret iM_loses_39 rfl (by first | exact Or.inl rfl | exact Or.inr rfl) ?_
      exact ex_i (fr _ _ e1 b1)
  · obtain rfl : b = 0 := by rw [hb, if_neg]; unfold laB; simp [c]
    refine go_aloadn_0 iM_loses_0 rfl ?_
    refine go_iconst (v := nI 1) iM_loses_1 rfl ?_
    refine go_putI iM_loses_2 rfl (sk_43 _) ?_
    refine go_aloadn_0 iM_loses_5 rfl ?_
    refine go_ldc2 (v := zL 12) iM_loses_6 rfl ?_
    refine go_putL iM_loses_9 rfl (sk_43 _) ?_
    refine go_aloadn_0 iM_loses_12 rfl ?_
    refine go_iconst (v := nI 0) iM_loses_13 rfl ?_
    refine go_iloadn_1 iM_loses_14 ?_
    refine gx_V0 iM_loses_15 rfl (by decide) (sk_43 _) rfl (Nat.le_of_ble_eq_true rfl) (Nat.le_of_ble_eq_true rfl) (by decide) hst (fun mI15_ mL15_ h15_ => ?_)
    obtain ⟨e0, e1, e2, e3⟩ := h15_
    subst mI15_
    have hgn := hgn0 _ e1 e3
    rw [if_neg c] at hgn
    refine go_aloadn_0 iM_loses_18 rfl ?_
    refine gx_V1 iM_loses_19 rfl (by decide) (sk_43 _) rfl (Nat.le_of_ble_eq_true rfl) (Nat.le_of_ble_eq_true rfl) (by decide) hgn (fun mI19_ mL19_ h19_ => ?_)
    obtain ⟨b0, b1, b2⟩ := h19_
    subst mI19_
    refine go_if_eq iM_loses_22 (fun c_22 => ?_) (fun c_22 => ?_)
    rotate_left
    · (first | omega | exact absurd c_22 (by decide) | (exfalso; simp (disch := omega) only [Int32.lt_iff_toInt_lt, Int32.le_iff_toInt_le, ← Int32.toInt_inj, nI_toInt, i32_m1, i32_0, i32_m20, i32_m40, i32_m30, i32_m9] at *; omega))
    refine go_iconst (v := nI 0) iM_loses_38 rfl ?_
    refine go_zret iM_loses_39 rfl (by first | exact Or.inl rfl | exact Or.inr rfl) ?_
    exact ex_i (fr _ _ e1 b1)
/-- the last piece of a pair's look: both lose alone, do they win by turns? -/
theorem go_M_two (hm1 : 1 ≤ m) (hm3 : m ≤ 3) (hp : p < 8) (hq : q < 8) (h1 : PlR mI p) (h2 : PlR mI q) (hmM : mI 43 4 = nI m) (hb : b = if wnB mI m p q = true then 1 else 0) {c : Nat} {Q : Option Value × am_M → Prop} (kq : ∀ mI' mL', FrN mI mI' mL mL' → Go S 5 tM_paradoxes ((am_sh n, mI', mL', am_mR n), 106, [.ref 43, .int (nI c), .int (nI p), .int (nI q)], [.int (nI b), .int (nI c)]) Q) : Go S 5 tM_paradoxes ((am_sh n, mI, mL, am_mR n), 60, [.ref 43, .int (nI c), .int (nI p), .int (nI q)], []) Q := by
  have hG := Gm_2 hm1 hm3 h1 h2
  have hB := hG.b
  have hL := hG.l
  have hod := odN_ok h1
  have hod2 := odN_ok h2
  have hst := ex_M_setTurn (S := S) (n := n) (mI := am_u mI 43 11 (nI 2)) (mL := am_u mL 43 12 (zL 12)) (t := 0) (p := p) (o := odN mI p) (by omega) hp (fun i hi => by rw [am_u_n (by decide)]; exact hod.2 i hi) (fun i hi => (hod.1 i (by omega)).2)
  have hst2 : ∀ mL2 : Nat → Nat → Int64, _ := fun mL2 => ex_M_setTurn (S := S) (n := n) (mI := am_u mI 43 11 (nI 2)) (mL := mL2) (t := 1) (p := q) (o := odN mI q) (by omega) hq (fun i hi => by rw [am_u_n (by decide)]; exact hod2.2 i hi) (fun i hi => (hod2.1 i (by omega)).2)
  have hgn0 : ∀ mL2 mL3 : Nat → Nat → Int64, (∀ a, a ≠ 50 → mL2 a = am_u mL 43 12 (zL 12) a) → (∀ i, i < 3 → mL2 50 (3 * 0 + i) = zL (odN mI p i)) → (∀ a, a ≠ 50 → mL3 a = mL2 a) → (∀ y, y < 3 * 1 → mL3 50 y = mL2 50 y) → (∀ i, i < 3 → mL3 50 (3 * 1 + i) = zL (odN mI q i)) → _ := fun mL2 mL3 e1 e3 d1 d2 d3 => ex_M_hasGain (S := S) (n := n) (mI := am_u mI 43 11 (nI 2)) (mL := mL3) hG (by rw [am_u_k (by decide)]; exact hmM) am_u_s (by rw [d1 43 (by decide), e1 43 (by decide)]; exact am_u_s) (fun t i ht hi => by
    by_cases e : t = 0
    · subst e
      rw [d2 _ (by omega)]
      exact e3 i (by omega)
    · obtain rfl : t = 1 := by omega
      exact d3 i (by omega))
  have fr : ∀ mL2 mL3 mL4 : Nat → Nat → Int64, (∀ a, a ≠ 50 → mL2 a = am_u mL 43 12 (zL 12) a) → (∀ a, a ≠ 50 → mL3 a = mL2 a) → FrM mL3 mL4 → FrN mI (am_u mI 43 11 (nI 2)) mL mL4 := fun mL2 mL3 mL4 e1 d1 b1 => FrN_st (mL2 := mL3) (fun a h1 h2 => by rw [d1 a h2, e1 a h2, am_u_r h1]) (fun y hy => by rw [d1 43 (by decide), e1 43 (by decide), am_u_k hy]) b1
  by_cases c0 : 0 < Wz m 12 2 (w2 mI p q)
  · obtain ⟨l1, l2, l3⟩ := hL c0
    have p0 := f_le (Uz m 12 2 (w2 mI p q)) (Lz m 12 2 (w2 mI p q))
    obtain ⟨p1, p2⟩ := f_pos (u := Uz m 12 2 (w2 mI p q)) l1
    by_cases c1 : 0 < Uz m 12 2 (w2 mI p q)
    · obtain rfl : b = 1 := by rw [hb, if_pos]; unfold wnB; simp [c0, c1]
      have d1 := p1.mpr c1
      refine go_aloadn_0 iM_paradoxes_60 rfl ?_
      refine go_iconst (v := nI 2) iM_paradoxes_61 rfl ?_
      refine go_putI iM_paradoxes_62 rfl (sk_43 _) ?_
      refine go_aloadn_0 iM_paradoxes_65 rfl ?_
      refine go_ldc2 (v := zL 12) iM_paradoxes_66 rfl ?_
      refine go_putL iM_paradoxes_69 rfl (sk_43 _) ?_
      refine go_aloadn_0 iM_paradoxes_72 rfl ?_
      refine go_iconst (v := nI 0) iM_paradoxes_73 rfl ?_
      refine go_iloadn_2 iM_paradoxes_74 ?_
      refine gx_V0 iM_paradoxes_75 rfl (by decide) (sk_43 _) rfl (Nat.le_of_ble_eq_true rfl) (Nat.le_of_ble_eq_true rfl) (by decide) hst (fun mI75_ mL75_ h75_ => ?_)
      obtain ⟨e0, e1, e2, e3⟩ := h75_
      subst mI75_
      refine go_aloadn_0 iM_paradoxes_78 rfl ?_
      refine go_iconst (v := nI 1) iM_paradoxes_79 rfl ?_
      refine go_iloadn_3 iM_paradoxes_80 ?_
      refine gx_V0 iM_paradoxes_81 rfl (by decide) (sk_43 _) rfl (Nat.le_of_ble_eq_true rfl) (Nat.le_of_ble_eq_true rfl) (by decide) (hst2 _) (fun mI81_ mL81_ h81_ => ?_)
      obtain ⟨d0, d2, d3, d4⟩ := h81_
      subst mI81_
      have hgn := hgn0 _ _ e1 e3 d2 d3 d4
      rw [if_pos c0] at hgn
      refine go_iloadn_1 iM_paradoxes_84 ?_
      refine go_aloadn_0 iM_paradoxes_85 rfl ?_
      refine gx_V1 iM_paradoxes_86 rfl (by decide) (sk_43 _) rfl (Nat.le_of_ble_eq_true rfl) (Nat.le_of_ble_eq_true rfl) (by decide) hgn (fun mI86_ mL86_ h86_ => ?_)
      obtain ⟨b0, b1, b2⟩ := h86_
      subst mI86_
      obtain ⟨g2, g3⟩ := b2 c0
      refine go_if_eq iM_paradoxes_89 (fun c_89 => ?_) (fun c_89 => ?_)
      · (first | omega | exact absurd c_89 (by decide) | (exfalso; simp (disch := omega) only [Int32.lt_iff_toInt_lt, Int32.le_iff_toInt_le, ← Int32.toInt_inj, nI_toInt, i32_m1, i32_0, i32_m20, i32_m40, i32_m30, i32_m9] at *; omega))
      refine go_aloadn_0 iM_paradoxes_92 rfl ?_
      refine go_getL iM_paradoxes_93 rfl (sk_43 _) ?_
      try simp (disch := omega) only [am_u_n, am_u_s, am_u_k, g2]
      refine go_lconst (v := zL 0) iM_paradoxes_96 rfl ?_
      refine gz_lc_le iM_paradoxes_97 iM_paradoxes_98 (by omega) (by omega) (fun c_97 => ?_) (fun c_97 => ?_)
      · (first | omega | exact absurd c_97 (by decide) | (exfalso; simp (disch := omega) only [Int32.lt_iff_toInt_lt, Int32.le_iff_toInt_le, ← Int32.toInt_inj, nI_toInt, i32_m1, i32_0, i32_m20, i32_m40, i32_m30, i32_m9] at *; omega))
      refine go_iconst (v := nI 1) iM_paradoxes_101 rfl ?_
      refine go_goto iM_paradoxes_102 ?_
      exact kq _ _ (fr _ _ _ e1 d2 b1)
    · obtain rfl : b = 0 := by rw [hb, if_neg]; unfold wnB; simp [c1]
      have d1 : ¬ 0 < fU (Uz m 12 2 (w2 mI p q)) (Lz m 12 2 (w2 mI p q)) := fun q => c1 (p1.mp q)
      refine go_aloadn_0 iM_paradoxes_60 rfl ?_
      refine go_iconst (v := nI 2) iM_paradoxes_61 rfl ?_
      refine go_putI iM_paradoxes_62 rfl (sk_43 _) ?_
      refine go_aloadn_0 iM_paradoxes_65 rfl ?_
      refine go_ldc2 (v := zL 12) iM_paradoxes_66 rfl ?_
      refine go_putL iM_paradoxes_69 rfl (sk_43 _) ?_
      refine go_aloadn_0 iM_paradoxes_72 rfl ?_
      refine go_iconst (v := nI 0) iM_paradoxes_73 rfl ?_
      refine go_iloadn_2 iM_paradoxes_74 ?_
      refine gx_V0 iM_paradoxes_75 rfl (by decide) (sk_43 _) rfl (Nat.le_of_ble_eq_true rfl) (Nat.le_of_ble_eq_true rfl) (by decide) hst (fun mI75_ mL75_ h75_ => ?_)
      obtain ⟨e0, e1, e2, e3⟩ := h75_
      subst mI75_
      refine go_aloadn_0 iM_paradoxes_78 rfl ?_
      refine go_iconst (v := nI 1) iM_paradoxes_79 rfl ?_
      refine go_iloadn_3 iM_paradoxes_80 ?_
      refine gx_V0 iM_paradoxes_81 rfl (by decide) (sk_43 _) rfl (Nat.le_of_ble_eq_true rfl) (Nat.le_of_ble_eq_true rfl) (by decide) (hst2 _) (fun mI81_ mL81_ h81_ => ?_)
      obtain ⟨d0, d2, d3, d4⟩ := h81_
      subst mI81_
      have hgn := hgn0 _ _ e1 e3 d2 d3 d4
      rw [if_pos c0] at hgn
      refine go_iloadn_1 iM_paradoxes_84 ?_
      refine go_aloadn_0 iM_paradoxes_85 rfl ?_
      refine gx_V1 iM_paradoxes_86 rfl (by decide) (sk_43 _) rfl (Nat.le_of_ble_eq_true rfl) (Nat.le_of_ble_eq_true rfl) (by decide) hgn (fun mI86_ mL86_ h86_ => ?_)
      obtain ⟨b0, b1, b2⟩ := h86_
      subst mI86_
      obtain ⟨g2, g3⟩ := b2 c0
      refine go_if_eq iM_paradoxes_89 (fun c_89 => ?_) (fun c_89 => ?_)
      · (first | omega | exact absurd c_89 (by decide) | (exfalso; simp (disch := omega) only [Int32.lt_iff_toInt_lt, Int32.le_iff_toInt_le, ← Int32.toInt_inj, nI_toInt, i32_m1, i32_0, i32_m20, i32_m40, i32_m30, i32_m9] at *; omega))
      refine go_aloadn_0 iM_paradoxes_92 rfl ?_
      refine go_getL iM_paradoxes_93 rfl (sk_43 _) ?_
      try simp (disch := omega) only [am_u_n, am_u_s, am_u_k, g2]
      refine go_lconst (v := zL 0) iM_paradoxes_96 rfl ?_
      refine gz_lc_le iM_paradoxes_97 iM_paradoxes_98 (by omega) (by omega) (fun c_97 => ?_) (fun c_97 => ?_)
      rotate_left
      · (first | omega | exact absurd c_97 (by decide) | (exfalso; simp (disch := omega) only [Int32.lt_iff_toInt_lt, Int32.le_iff_toInt_le, ← Int32.toInt_inj, nI_toInt, i32_m1, i32_0, i32_m20, i32_m40, i32_m30, i32_m9] at *; omega))
      refine go_iconst (v := nI 0) iM_paradoxes_105 rfl ?_
      exact kq _ _ (fr _ _ _ e1 d2 b1)
  · obtain rfl : b = 0 := by rw [hb, if_neg]; unfold wnB; simp [c0]
    refine go_aloadn_0 iM_paradoxes_60 rfl ?_
    refine go_iconst (v := nI 2) iM_paradoxes_61 rfl ?_
    refine go_putI iM_paradoxes_62 rfl (sk_43 _) ?_
    refine go_aloadn_0 iM_paradoxes_65 rfl ?_
    refine go_ldc2 (v := zL 12) iM_paradoxes_66 rfl ?_
    refine go_putL iM_paradoxes_69 rfl (sk_43 _) ?_
    refine go_aloadn_0 iM_paradoxes_72 rfl ?_
    refine go_iconst (v := nI 0) iM_paradoxes_73 rfl ?_
    refine go_iloadn_2 iM_paradoxes_74 ?_
    refine gx_V0 iM_paradoxes_75 rfl (by decide) (sk_43 _) rfl (Nat.le_of_ble_eq_true rfl) (Nat.le_of_ble_eq_true rfl) (by decide) hst (fun mI75_ mL75_ h75_ => ?_)
    obtain ⟨e0, e1, e2, e3⟩ := h75_
    subst mI75_
    refine go_aloadn_0 iM_paradoxes_78 rfl ?_
    refine go_iconst (v := nI 1) iM_paradoxes_79 rfl ?_
    refine go_iloadn_3 iM_paradoxes_80 ?_
    refine gx_V0 iM_paradoxes_81 rfl (by decide) (sk_43 _) rfl (Nat.le_of_ble_eq_true rfl) (Nat.le_of_ble_eq_true rfl) (by decide) (hst2 _) (fun mI81_ mL81_ h81_ => ?_)
    obtain ⟨d0, d2, d3, d4⟩ := h81_
    subst mI81_
    have hgn := hgn0 _ _ e1 e3 d2 d3 d4
    rw [if_neg c0] at hgn
    refine go_iloadn_1 iM_paradoxes_84 ?_
    refine go_aloadn_0 iM_paradoxes_85 rfl ?_
    refine gx_V1 iM_paradoxes_86 rfl (by decide) (sk_43 _) rfl (Nat.le_of_ble_eq_true rfl) (Nat.le_of_ble_eq_true rfl) (by decide) hgn (fun mI86_ mL86_ h86_ => ?_)
    obtain ⟨b0, b1, b2⟩ := h86_
    subst mI86_
    refine go_if_eq iM_paradoxes_89 (fun c_89 => ?_) (fun c_89 => ?_)
    rotate_left
    · (first | omega | exact absurd c_89 (by decide) | (exfalso; simp (disch := omega) only [Int32.lt_iff_toInt_lt, Int32.le_iff_toInt_le, ← Int32.toInt_inj, nI_toInt, i32_m1, i32_0, i32_m20, i32_m40, i32_m30, i32_m9] at *; omega))
    refine go_iconst (v := nI 0) iM_paradoxes_105 rfl ?_
    exact kq _ _ (fr _ _ _ e1 d2 b1)
theorem lo_M_px2 (h8 : n ≤ 8) (hm1 : 1 ≤ m) (hm3 : m ≤ 3) (hp : p < n) (hmM : mI 43 4 = nI m) (hcM : mI 43 5 = nI n) (hpl : ∀ p, p < n → PlR mI p) {C : Nat} {Q : Option Value × am_M → Prop} (kq : ∀ mI' mL' z, FrN mI mI' mL mL' → Go S 5 tM_paradoxes ((am_sh n, mI', mL', am_mR n), 114, [.ref 43, .int (nI (C + cnB (pxB mI m) p (n - 1 - p))), .int (nI p), z], []) Q) : ∀ l i (mI' : Nat → Nat → Int32) (mL' : Nat → Nat → Int64), p + 1 + i + l = n → FrN mI mI' mL mL' → Go S 5 tM_paradoxes ((am_sh n, mI', mL', am_mR n), 16, [.ref 43, .int (nI (C + cnB (pxB mI m) p i)), .int (nI p), .int (nI (p + 1 + i))], []) Q
  | 0, i, mI', mL', hi, hF => by
    obtain rfl : i = n - 1 - p := by omega
    have q1 := hcM
    rw [← hF.1.2.1 5 (by decide)] at q1
    refine go_iloadn_3 iM_paradoxes_16 ?_
    refine go_aloadn_0 iM_paradoxes_17 rfl ?_
    refine go_getI iM_paradoxes_18 (Or.inl rfl) (sk_43 _) ?_
    try simp (disch := omega) only [am_u_n, am_u_s, am_u_k, q1]
    first | refine gn_ic_ge iM_paradoxes_21 (by omega) (by omega) (fun c_21 => ?_) (fun c_21 => ?_) | refine go_ic_ge iM_paradoxes_21 (fun c_21 => ?_) (fun c_21 => ?_)
    rotate_left
    · (first | omega | exact absurd c_21 (by decide) | (exfalso; simp (disch := omega) only [Int32.lt_iff_toInt_lt, Int32.le_iff_toInt_le, ← Int32.toInt_inj, nI_toInt, i32_m1, i32_0, i32_m20, i32_m40, i32_m30, i32_m9] at *; omega))
    exact kq _ _ _ hF
  | l + 1, i, mI', mL', hi, hF => by
    have q1 := hcM
    rw [← hF.1.2.1 5 (by decide)] at q1
    have q2 := hmM
    rw [← hF.1.2.1 4 (by decide)] at q2
    have hqn : p + 1 + i < n := by omega
    obtain ⟨k1, hk1, _, hM1, _⟩ := hpl p hp
    obtain ⟨k2, hk2, _, hM2, _⟩ := hpl (p + 1 + i) hqn
    have z1 := kdN_of hM1 hk1
    have z2 := kdN_of hM2 hk2
    rw [← hF.1.1 45 (by decide) (by decide) (by decide)] at hM1 hM2
    have nx : ∀ mI2 mL2, FrN mI mI2 mL mL2 → Go S 5 tM_paradoxes ((am_sh n, mI2, mL2, am_mR n), 16, [.ref 43, .int (nI (C + cnB (pxB mI m) p (i + 1))), .int (nI p), .int (nI (p + 1 + i + 1))], []) Q := fun mI2 mL2 h => lo_M_px2 h8 hm1 hm3 hp hmM hcM hpl kq l (i + 1) _ _ (by omega) h
    by_cases c1 : k1 = 2
    · have e : C + cnB (pxB mI m) p i = C + cnB (pxB mI m) p (i + 1) := by rw [cnB_f (by unfold pxB lsB; rw [z1]; simp [c1])]
      refine go_iloadn_3 iM_paradoxes_16 ?_
      refine go_aloadn_0 iM_paradoxes_17 rfl ?_
      refine go_getI iM_paradoxes_18 (Or.inl rfl) (sk_43 _) ?_
      try simp (disch := omega) only [am_u_n, am_u_s, am_u_k, q1, hM1, hM2]
      first | refine gn_ic_ge iM_paradoxes_21 (by omega) (by omega) (fun c_21 => ?_) (fun c_21 => ?_) | refine go_ic_ge iM_paradoxes_21 (fun c_21 => ?_) (fun c_21 => ?_)
      · (first | omega | exact absurd c_21 (by decide) | (exfalso; simp (disch := omega) only [Int32.lt_iff_toInt_lt, Int32.le_iff_toInt_le, ← Int32.toInt_inj, nI_toInt, i32_m1, i32_0, i32_m20, i32_m40, i32_m30, i32_m9] at *; omega))
      refine go_aloadn_0 iM_paradoxes_24 rfl ?_
      refine go_getR iM_paradoxes_25 rfl (sk_43 _) (mR_43_6 _) ?_
      refine go_iloadn_2 iM_paradoxes_28 ?_
      refine go_iald iM_paradoxes_29 (sh_45 _) rfl (by omega) (by omega) ?_
      try simp (disch := omega) only [am_u_n, am_u_s, am_u_k, q1, hM1, hM2]
      refine go_iconst (v := nI 2) iM_paradoxes_30 rfl ?_
      first | refine gn_ic_eq iM_paradoxes_31 (by omega) (by omega) (fun c_31 => ?_) (fun c_31 => ?_) | refine go_ic_eq iM_paradoxes_31 (fun c_31 => ?_) (fun c_31 => ?_)
      rotate_left
      · (first | omega | exact absurd c_31 (by decide) | (exfalso; simp (disch := omega) only [Int32.lt_iff_toInt_lt, Int32.le_iff_toInt_le, ← Int32.toInt_inj, nI_toInt, i32_m1, i32_0, i32_m20, i32_m40, i32_m30, i32_m9] at *; omega))
      first | refine go_iinc_3 iM_paradoxes_108 (ni_inc _ 1) (by simp [Value.category, am_U]) ?_ | refine go_iinc_3 iM_paradoxes_108 rfl (by simp [Value.category, am_U]) ?_
      refine go_goto iM_paradoxes_111 ?_
      rw [e]
      exact nx _ _ hF
    · by_cases c2 : k2 = 2
      · have e : C + cnB (pxB mI m) p i = C + cnB (pxB mI m) p (i + 1) := by rw [cnB_f (by unfold pxB lsB; rw [z2]; simp [c2])]
        refine go_iloadn_3 iM_paradoxes_16 ?_
        refine go_aloadn_0 iM_paradoxes_17 rfl ?_
        refine go_getI iM_paradoxes_18 (Or.inl rfl) (sk_43 _) ?_
        try simp (disch := omega) only [am_u_n, am_u_s, am_u_k, q1, hM1, hM2]
        first | refine gn_ic_ge iM_paradoxes_21 (by omega) (by omega) (fun c_21 => ?_) (fun c_21 => ?_) | refine go_ic_ge iM_paradoxes_21 (fun c_21 => ?_) (fun c_21 => ?_)
        · (first | omega | exact absurd c_21 (by decide) | (exfalso; simp (disch := omega) only [Int32.lt_iff_toInt_lt, Int32.le_iff_toInt_le, ← Int32.toInt_inj, nI_toInt, i32_m1, i32_0, i32_m20, i32_m40, i32_m30, i32_m9] at *; omega))
        refine go_aloadn_0 iM_paradoxes_24 rfl ?_
        refine go_getR iM_paradoxes_25 rfl (sk_43 _) (mR_43_6 _) ?_
        refine go_iloadn_2 iM_paradoxes_28 ?_
        refine go_iald iM_paradoxes_29 (sh_45 _) rfl (by omega) (by omega) ?_
        try simp (disch := omega) only [am_u_n, am_u_s, am_u_k, q1, hM1, hM2]
        refine go_iconst (v := nI 2) iM_paradoxes_30 rfl ?_
        first | refine gn_ic_eq iM_paradoxes_31 (by omega) (by omega) (fun c_31 => ?_) (fun c_31 => ?_) | refine go_ic_eq iM_paradoxes_31 (fun c_31 => ?_) (fun c_31 => ?_)
        · (first | omega | exact absurd c_31 (by decide) | (exfalso; simp (disch := omega) only [Int32.lt_iff_toInt_lt, Int32.le_iff_toInt_le, ← Int32.toInt_inj, nI_toInt, i32_m1, i32_0, i32_m20, i32_m40, i32_m30, i32_m9] at *; omega))
        refine go_aloadn_0 iM_paradoxes_34 rfl ?_
        refine go_getR iM_paradoxes_35 rfl (sk_43 _) (mR_43_6 _) ?_
        refine go_iloadn_3 iM_paradoxes_38 ?_
        refine go_iald iM_paradoxes_39 (sh_45 _) rfl (by omega) (by omega) ?_
        try simp (disch := omega) only [am_u_n, am_u_s, am_u_k, q1, hM1, hM2]
        refine go_iconst (v := nI 2) iM_paradoxes_40 rfl ?_
        first | refine gn_ic_eq iM_paradoxes_41 (by omega) (by omega) (fun c_41 => ?_) (fun c_41 => ?_) | refine go_ic_eq iM_paradoxes_41 (fun c_41 => ?_) (fun c_41 => ?_)
        rotate_left
        · (first | omega | exact absurd c_41 (by decide) | (exfalso; simp (disch := omega) only [Int32.lt_iff_toInt_lt, Int32.le_iff_toInt_le, ← Int32.toInt_inj, nI_toInt, i32_m1, i32_0, i32_m20, i32_m40, i32_m30, i32_m9] at *; omega))
        first | refine go_iinc_3 iM_paradoxes_108 (ni_inc _ 1) (by simp [Value.category, am_U]) ?_ | refine go_iinc_3 iM_paradoxes_108 rfl (by simp [Value.category, am_U]) ?_
        refine go_goto iM_paradoxes_111 ?_
        rw [e]
        exact nx _ _ hF
      · by_cases c3 : laB mI m p = true
        · have hx := ex_M_loses (S := S) (n := n) (mL := mL') (b := 1) hm1 hm3 (show p < 8 by omega) (hF.plr (hpl p hp)) q2 (by rw [hF.px.2.2, if_pos c3])
          have hy0 : ∀ mI2 mL2, FrN mI mI2 mL mL2 → ∀ b, b = (if laB mI m (p + 1 + i) = true then 1 else 0) → _ := fun mI2 mL2 h b hb => ex_M_loses (S := S) (n := n) (mI := mI2) (mL := mL2) (p := p + 1 + i) (b := b) hm1 hm3 (by omega) (h.plr (hpl _ hqn)) (by rw [h.1.2.1 4 (by decide)]; exact hmM) (by rw [h.px.2.2]; exact hb)
          by_cases c4 : laB mI m (p + 1 + i) = true
          · obtain ⟨b, hb⟩ : ∃ b, b = if wnB mI m p (p + 1 + i) = true then 1 else 0 := ⟨_, rfl⟩
            have e : C + cnB (pxB mI m) p i + b = C + cnB (pxB mI m) p (i + 1) := by
              simp only [cnB]
              have : pxB mI m p (p + 1 + i) = wnB mI m p (p + 1 + i) := by unfold pxB lsB; rw [z1, z2, c3, c4]; simp [c1, c2]
              rw [this, hb]
              omega
            refine go_iloadn_3 iM_paradoxes_16 ?_
            refine go_aloadn_0 iM_paradoxes_17 rfl ?_
            refine go_getI iM_paradoxes_18 (Or.inl rfl) (sk_43 _) ?_
            try simp (disch := omega) only [am_u_n, am_u_s, am_u_k, q1, hM1, hM2]
            first | refine gn_ic_ge iM_paradoxes_21 (by omega) (by omega) (fun c_21 => ?_) (fun c_21 => ?_) | refine go_ic_ge iM_paradoxes_21 (fun c_21 => ?_) (fun c_21 => ?_)
            · (first | omega | exact absurd c_21 (by decide) | (exfalso; simp (disch := omega) only [Int32.lt_iff_toInt_lt, Int32.le_iff_toInt_le, ← Int32.toInt_inj, nI_toInt, i32_m1, i32_0, i32_m20, i32_m40, i32_m30, i32_m9] at *; omega))
            refine go_aloadn_0 iM_paradoxes_24 rfl ?_
            refine go_getR iM_paradoxes_25 rfl (sk_43 _) (mR_43_6 _) ?_
            refine go_iloadn_2 iM_paradoxes_28 ?_
            refine go_iald iM_paradoxes_29 (sh_45 _) rfl (by omega) (by omega) ?_
            try simp (disch := omega) only [am_u_n, am_u_s, am_u_k, q1, hM1, hM2]
            refine go_iconst (v := nI 2) iM_paradoxes_30 rfl ?_
            first | refine gn_ic_eq iM_paradoxes_31 (by omega) (by omega) (fun c_31 => ?_) (fun c_31 => ?_) | refine go_ic_eq iM_paradoxes_31 (fun c_31 => ?_) (fun c_31 => ?_)
            · (first | omega | exact absurd c_31 (by decide) | (exfalso; simp (disch := omega) only [Int32.lt_iff_toInt_lt, Int32.le_iff_toInt_le, ← Int32.toInt_inj, nI_toInt, i32_m1, i32_0, i32_m20, i32_m40, i32_m30, i32_m9] at *; omega))
            refine go_aloadn_0 iM_paradoxes_34 rfl ?_
            refine go_getR iM_paradoxes_35 rfl (sk_43 _) (mR_43_6 _) ?_
            refine go_iloadn_3 iM_paradoxes_38 ?_
            refine go_iald iM_paradoxes_39 (sh_45 _) rfl (by omega) (by omega) ?_
            try simp (disch := omega) only [am_u_n, am_u_s, am_u_k, q1, hM1, hM2]
            refine go_iconst (v := nI 2) iM_paradoxes_40 rfl ?_
            first | refine gn_ic_eq iM_paradoxes_41 (by omega) (by omega) (fun c_41 => ?_) (fun c_41 => ?_) | refine go_ic_eq iM_paradoxes_41 (fun c_41 => ?_) (fun c_41 => ?_)
            · (first | omega | exact absurd c_41 (by decide) | (exfalso; simp (disch := omega) only [Int32.lt_iff_toInt_lt, Int32.le_iff_toInt_le, ← Int32.toInt_inj, nI_toInt, i32_m1, i32_0, i32_m20, i32_m40, i32_m30, i32_m9] at *; omega))
            refine go_aloadn_0 iM_paradoxes_44 rfl ?_
            refine go_iloadn_2 iM_paradoxes_45 ?_
            refine gx_V1 iM_paradoxes_46 rfl (by decide) (sk_43 _) rfl (Nat.le_of_ble_eq_true rfl) (Nat.le_of_ble_eq_true rfl) (by decide) hx (fun mI46_ mL46_ h46_ => ?_)
            have f1 := hF.trans h46_
            have hy := hy0 _ _ f1 1 (by rw [if_pos c4])
            refine go_if_eq iM_paradoxes_49 (fun c_49 => ?_) (fun c_49 => ?_)
            · (first | omega | exact absurd c_49 (by decide) | (exfalso; simp (disch := omega) only [Int32.lt_iff_toInt_lt, Int32.le_iff_toInt_le, ← Int32.toInt_inj, nI_toInt, i32_m1, i32_0, i32_m20, i32_m40, i32_m30, i32_m9] at *; omega))
            refine go_aloadn_0 iM_paradoxes_52 rfl ?_
            refine go_iloadn_3 iM_paradoxes_53 ?_
            refine gx_V1 iM_paradoxes_54 rfl (by decide) (sk_43 _) rfl (Nat.le_of_ble_eq_true rfl) (Nat.le_of_ble_eq_true rfl) (by decide) hy (fun mI54_ mL54_ h54_ => ?_)
            have f2 := f1.trans h54_
            refine go_if_eq iM_paradoxes_57 (fun c_57 => ?_) (fun c_57 => ?_)
            · (first | omega | exact absurd c_57 (by decide) | (exfalso; simp (disch := omega) only [Int32.lt_iff_toInt_lt, Int32.le_iff_toInt_le, ← Int32.toInt_inj, nI_toInt, i32_m1, i32_0, i32_m20, i32_m40, i32_m30, i32_m9] at *; omega))
            refine go_M_two hm1 hm3 (by omega) (by omega) (f2.plr (hpl p hp)) (f2.plr (hpl _ hqn)) (by rw [f2.1.2.1 4 (by decide)]; exact hmM) (b := b) (by unfold wnB w2; rw [f2.od]; exact hb) (fun mI3 mL3 h3 => ?_)
            first | refine gn_iadd iM_paradoxes_106 ?_ | refine go_iadd iM_paradoxes_106 ?_
            refine go_istoren_1 iM_paradoxes_107 (by simp [Value.category, am_U]) ?_
            first | refine go_iinc_3 iM_paradoxes_108 (ni_inc _ 1) (by simp [Value.category, am_U]) ?_ | refine go_iinc_3 iM_paradoxes_108 rfl (by simp [Value.category, am_U]) ?_
            refine go_goto iM_paradoxes_111 ?_
            rw [e]
            exact nx _ _ (f2.trans h3)
          · have e : C + cnB (pxB mI m) p i = C + cnB (pxB mI m) p (i + 1) := by rw [cnB_f (by unfold pxB lsB; rw [Bool.not_eq_true] at c4; rw [c4]; simp)]
            refine go_iloadn_3 iM_paradoxes_16 ?_
            refine go_aloadn_0 iM_paradoxes_17 rfl ?_
            refine go_getI iM_paradoxes_18 (Or.inl rfl) (sk_43 _) ?_
            try simp (disch := omega) only [am_u_n, am_u_s, am_u_k, q1, hM1, hM2]
            first | refine gn_ic_ge iM_paradoxes_21 (by omega) (by omega) (fun c_21 => ?_) (fun c_21 => ?_) | refine go_ic_ge iM_paradoxes_21 (fun c_21 => ?_) (fun c_21 => ?_)
            · (first | omega | exact absurd c_21 (by decide) | (exfalso; simp (disch := omega) only [Int32.lt_iff_toInt_lt, Int32.le_iff_toInt_le, ← Int32.toInt_inj, nI_toInt, i32_m1, i32_0, i32_m20, i32_m40, i32_m30, i32_m9] at *; omega))
            refine go_aloadn_0 iM_paradoxes_24 rfl ?_
            refine go_getR iM_paradoxes_25 rfl (sk_43 _) (mR_43_6 _) ?_
            refine go_iloadn_2 iM_paradoxes_28 ?_
            refine go_iald iM_paradoxes_29 (sh_45 _) rfl (by omega) (by omega) ?_
            try simp (disch := omega) only [am_u_n, am_u_s, am_u_k, q1, hM1, hM2]
            refine go_iconst (v := nI 2) iM_paradoxes_30 rfl ?_
            first | refine gn_ic_eq iM_paradoxes_31 (by omega) (by omega) (fun c_31 => ?_) (fun c_31 => ?_) | refine go_ic_eq iM_paradoxes_31 (fun c_31 => ?_) (fun c_31 => ?_)
            · (first | omega | exact absurd c_31 (by decide) | (exfalso; simp (disch := omega) only [Int32.lt_iff_toInt_lt, Int32.le_iff_toInt_le, ← Int32.toInt_inj, nI_toInt, i32_m1, i32_0, i32_m20, i32_m40, i32_m30, i32_m9] at *; omega))
            refine go_aloadn_0 iM_paradoxes_34 rfl ?_
            refine go_getR iM_paradoxes_35 rfl (sk_43 _) (mR_43_6 _) ?_
            refine go_iloadn_3 iM_paradoxes_38 ?_
            refine go_iald iM_paradoxes_39 (sh_45 _) rfl (by omega) (by omega) ?_
            try simp (disch := omega) only [am_u_n, am_u_s, am_u_k, q1, hM1, hM2]
            refine go_iconst (v := nI 2) iM_paradoxes_40 rfl ?_
            first | refine gn_ic_eq iM_paradoxes_41 (by omega) (by omega) (fun c_41 => ?_) (fun c_41 => ?_) | refine go_ic_eq iM_paradoxes_41 (fun c_41 => ?_) (fun c_41 => ?_)
            · (first | omega | exact absurd c_41 (by decide) | (exfalso; simp (disch := omega) only [Int32.lt_iff_toInt_lt, Int32.le_iff_toInt_le, ← Int32.toInt_inj, nI_toInt, i32_m1, i32_0, i32_m20, i32_m40, i32_m30, i32_m9] at *; omega))
            refine go_aloadn_0 iM_paradoxes_44 rfl ?_
            refine go_iloadn_2 iM_paradoxes_45 ?_
            refine gx_V1 iM_paradoxes_46 rfl (by decide) (sk_43 _) rfl (Nat.le_of_ble_eq_true rfl) (Nat.le_of_ble_eq_true rfl) (by decide) hx (fun mI46_ mL46_ h46_ => ?_)
            have f1 := hF.trans h46_
            have hy := hy0 _ _ f1 0 (by rw [if_neg c4])
            refine go_if_eq iM_paradoxes_49 (fun c_49 => ?_) (fun c_49 => ?_)
            · (first | omega | exact absurd c_49 (by decide) | (exfalso; simp (disch := omega) only [Int32.lt_iff_toInt_lt, Int32.le_iff_toInt_le, ← Int32.toInt_inj, nI_toInt, i32_m1, i32_0, i32_m20, i32_m40, i32_m30, i32_m9] at *; omega))
            refine go_aloadn_0 iM_paradoxes_52 rfl ?_
            refine go_iloadn_3 iM_paradoxes_53 ?_
            refine gx_V1 iM_paradoxes_54 rfl (by decide) (sk_43 _) rfl (Nat.le_of_ble_eq_true rfl) (Nat.le_of_ble_eq_true rfl) (by decide) hy (fun mI54_ mL54_ h54_ => ?_)
            have f2 := f1.trans h54_
            refine go_if_eq iM_paradoxes_57 (fun c_57 => ?_) (fun c_57 => ?_)
            rotate_left
            · (first | omega | exact absurd c_57 (by decide) | (exfalso; simp (disch := omega) only [Int32.lt_iff_toInt_lt, Int32.le_iff_toInt_le, ← Int32.toInt_inj, nI_toInt, i32_m1, i32_0, i32_m20, i32_m40, i32_m30, i32_m9] at *; omega))
            first | refine go_iinc_3 iM_paradoxes_108 (ni_inc _ 1) (by simp [Value.category, am_U]) ?_ | refine go_iinc_3 iM_paradoxes_108 rfl (by simp [Value.category, am_U]) ?_
            refine go_goto iM_paradoxes_111 ?_
            rw [e]
            exact nx _ _ f2
        · have hx := ex_M_loses (S := S) (n := n) (mL := mL') (b := 0) hm1 hm3 (show p < 8 by omega) (hF.plr (hpl p hp)) q2 (by rw [hF.px.2.2, if_neg c3])
          have e : C + cnB (pxB mI m) p i = C + cnB (pxB mI m) p (i + 1) := by rw [cnB_f (by unfold pxB lsB; rw [Bool.not_eq_true] at c3; rw [c3]; simp)]
          refine go_iloadn_3 iM_paradoxes_16 ?_
          refine go_aloadn_0 iM_paradoxes_17 rfl ?_
          refine go_getI iM_paradoxes_18 (Or.inl rfl) (sk_43 _) ?_
          try simp (disch := omega) only [am_u_n, am_u_s, am_u_k, q1, hM1, hM2]
          first | refine gn_ic_ge iM_paradoxes_21 (by omega) (by omega) (fun c_21 => ?_) (fun c_21 => ?_) | refine go_ic_ge iM_paradoxes_21 (fun c_21 => ?_) (fun c_21 => ?_)
          · (first | omega | exact absurd c_21 (by decide) | (exfalso; simp (disch := omega) only [Int32.lt_iff_toInt_lt, Int32.le_iff_toInt_le, ← Int32.toInt_inj, nI_toInt, i32_m1, i32_0, i32_m20, i32_m40, i32_m30, i32_m9] at *; omega))
          refine go_aloadn_0 iM_paradoxes_24 rfl ?_
          refine go_getR iM_paradoxes_25 rfl (sk_43 _) (mR_43_6 _) ?_
          refine go_iloadn_2 iM_paradoxes_28 ?_
          refine go_iald iM_paradoxes_29 (sh_45 _) rfl (by omega) (by omega) ?_
          try simp (disch := omega) only [am_u_n, am_u_s, am_u_k, q1, hM1, hM2]
          refine go_iconst (v := nI 2) iM_paradoxes_30 rfl ?_
          first | refine gn_ic_eq iM_paradoxes_31 (by omega) (by omega) (fun c_31 => ?_) (fun c_31 => ?_) | refine go_ic_eq iM_paradoxes_31 (fun c_31 => ?_) (fun c_31 => ?_)
          · (first | omega | exact absurd c_31 (by decide) | (exfalso; simp (disch := omega) only [Int32.lt_iff_toInt_lt, Int32.le_iff_toInt_le, ← Int32.toInt_inj, nI_toInt, i32_m1, i32_0, i32_m20, i32_m40, i32_m30, i32_m9] at *; omega))
          refine go_aloadn_0 iM_paradoxes_34 rfl ?_
          refine go_getR iM_paradoxes_35 rfl (sk_43 _) (mR_43_6 _) ?_
          refine go_iloadn_3 iM_paradoxes_38 ?_
          refine go_iald iM_paradoxes_39 (sh_45 _) rfl (by omega) (by omega) ?_
          try simp (disch := omega) only [am_u_n, am_u_s, am_u_k, q1, hM1, hM2]
          refine go_iconst (v := nI 2) iM_paradoxes_40 rfl ?_
          first | refine gn_ic_eq iM_paradoxes_41 (by omega) (by omega) (fun c_41 => ?_) (fun c_41 => ?_) | refine go_ic_eq iM_paradoxes_41 (fun c_41 => ?_) (fun c_41 => ?_)
          · (first | omega | exact absurd c_41 (by decide) | (exfalso; simp (disch := omega) only [Int32.lt_iff_toInt_lt, Int32.le_iff_toInt_le, ← Int32.toInt_inj, nI_toInt, i32_m1, i32_0, i32_m20, i32_m40, i32_m30, i32_m9] at *; omega))
          refine go_aloadn_0 iM_paradoxes_44 rfl ?_
          refine go_iloadn_2 iM_paradoxes_45 ?_
          refine gx_V1 iM_paradoxes_46 rfl (by decide) (sk_43 _) rfl (Nat.le_of_ble_eq_true rfl) (Nat.le_of_ble_eq_true rfl) (by decide) hx (fun mI46_ mL46_ h46_ => ?_)
          have f1 := hF.trans h46_
          refine go_if_eq iM_paradoxes_49 (fun c_49 => ?_) (fun c_49 => ?_)
          rotate_left
          · (first | omega | exact absurd c_49 (by decide) | (exfalso; simp (disch := omega) only [Int32.lt_iff_toInt_lt, Int32.le_iff_toInt_le, ← Int32.toInt_inj, nI_toInt, i32_m1, i32_0, i32_m20, i32_m40, i32_m30, i32_m9] at *; omega))
          first | refine go_iinc_3 iM_paradoxes_108 (ni_inc _ 1) (by simp [Value.category, am_U]) ?_ | refine go_iinc_3 iM_paradoxes_108 rfl (by simp [Value.category, am_U]) ?_
          refine go_goto iM_paradoxes_111 ?_
          rw [e]
          exact nx _ _ f1
theorem lo_M_px1 (h8 : n ≤ 8) (hm1 : 1 ≤ m) (hm3 : m ≤ 3) (hmM : mI 43 4 = nI m) (hcM : mI 43 5 = nI n) (hpl : ∀ p, p < n → PlR mI p) : ∀ l p (mI' : Nat → Nat → Int32) (mL' : Nat → Nat → Int64) (z : Value), p + l = n → FrN mI mI' mL mL' → Go S 5 tM_paradoxes ((am_sh n, mI', mL', am_mR n), 4, [.ref 43, .int (nI (cnA (pxB mI m) n p)), .int (nI p), z], []) (fun r => ∃ mI'' mL'', r = (some (.int (nI (cnA (pxB mI m) n n))), (am_sh n, mI'', mL'', am_mR n)) ∧ FrN mI mI'' mL mL'')
  | 0, p, mI', mL', z, hi, hF => by
    obtain rfl : p = n := by omega
    have q1 := hcM
    rw [← hF.1.2.1 5 (by decide)] at q1
    refine go_iloadn_2 iM_paradoxes_4 ?_
    refine go_aloadn_0 iM_paradoxes_5 rfl ?_
    refine go_getI iM_paradoxes_6 (Or.inl rfl) (sk_43 _) ?_
    try simp (disch := omega) only [am_u_n, am_u_s, am_u_k, q1]
    first | refine gn_ic_ge iM_paradoxes_9 (by omega) (by omega) (fun c_9 => ?_) (fun c_9 => ?_) | refine go_ic_ge iM_paradoxes_9 (fun c_9 => ?_) (fun c_9 => ?_)
    rotate_left
    · (first | omega | exact absurd c_9 (by decide) | (exfalso; simp (disch := omega) only [Int32.lt_iff_toInt_lt, Int32.le_iff_toInt_le, ← Int32.toInt_inj, nI_toInt, i32_m1, i32_0, i32_m20, i32_m40, i32_m30, i32_m9] at *; omega))
    refine go_iloadn_1 iM_paradoxes_120 ?_
    refine go_iret iM_paradoxes_121 rfl ?_
    exact ex_i hF
  | l + 1, p, mI', mL', z, hi, hF => by
    have q1 := hcM
    rw [← hF.1.2.1 5 (by decide)] at q1
    refine go_iloadn_2 iM_paradoxes_4 ?_
    refine go_aloadn_0 iM_paradoxes_5 rfl ?_
    refine go_getI iM_paradoxes_6 (Or.inl rfl) (sk_43 _) ?_
    try simp (disch := omega) only [am_u_n, am_u_s, am_u_k, q1]
    first | refine gn_ic_ge iM_paradoxes_9 (by omega) (by omega) (fun c_9 => ?_) (fun c_9 => ?_) | refine go_ic_ge iM_paradoxes_9 (fun c_9 => ?_) (fun c_9 => ?_)
    · (first | omega | exact absurd c_9 (by decide) | (exfalso; simp (disch := omega) only [Int32.lt_iff_toInt_lt, Int32.le_iff_toInt_le, ← Int32.toInt_inj, nI_toInt, i32_m1, i32_0, i32_m20, i32_m40, i32_m30, i32_m9] at *; omega))
    refine go_iloadn_2 iM_paradoxes_12 ?_
    refine go_iconst (v := nI 1) iM_paradoxes_13 rfl ?_
    first | refine gn_iadd iM_paradoxes_14 ?_ | refine go_iadd iM_paradoxes_14 ?_
    refine go_istoren_3 iM_paradoxes_15 (by simp [Value.category, am_U]) ?_
    refine lo_M_px2 (mI := mI) (mL := mL) (C := cnA (pxB mI m) n p) h8 hm1 hm3 (by omega) hmM hcM hpl (fun mI2 mL2 z f2 => ?_) (n - (p + 1)) 0 _ _ (by omega) hF
    first | refine go_iinc_2 iM_paradoxes_114 (ni_inc _ 1) (by simp [Value.category, am_U]) ?_ | refine go_iinc_2 iM_paradoxes_114 rfl (by simp [Value.category, am_U]) ?_
    refine go_goto iM_paradoxes_117 ?_
    exact lo_M_px1 h8 hm1 hm3 hmM hcM hpl l (p + 1) _ _ _ (by omega) f2
theorem pr_paradoxes (hR : Rel n mI mL) : Pair S tT_paradoxes tM_paradoxes [] n mI mL := by
  have hR0 := hR
  obtain ⟨h8, ⟨m, hm1, hm3, hmT, hmM⟩, hcT, hcM, hpl, hro, hfi, hfs, hu, hl, hch⟩ := hR
  refine Pair.ex (h1 := 4) (h2 := 5) (v := .int (nI (cnA (pxB mI m) n n))) (P := fun mI1 mL1 => FrD mI mI1 mL mL1) ?_ (fun mI1 mL1 hP => ?_)
  · unfold Ex
    show Go _ _ tT_paradoxes (_, 0, [.ref 0, am_U, am_U, am_U], []) _
    refine go_iconst (v := nI 0) iT_paradoxes_0 rfl ?_
    refine go_istoren_1 iT_paradoxes_1 (by simp [Value.category, am_U]) ?_
    refine go_iconst (v := nI 0) iT_paradoxes_2 rfl ?_
    refine go_istoren_2 iT_paradoxes_3 (by simp [Value.category, am_U]) ?_
    exact lo_T_px1 h8 hm1 hm3 hmT hcT hpl n 0 _ _ _ (by omega) FrD.rfl'
  · have hqq : ∀ a, 42 < a → mI1 a = mI a := fun a ha => hP.1.1 a (by omega)
    rw [← (px_fr (hqq 45 (by omega)) (fun a ha => hqq a (by omega))).1]
    unfold Ex
    show Go _ _ tM_paradoxes (_, 0, [.ref 43, am_U, am_U, am_U], []) _
    refine go_iconst (v := nI 0) iM_paradoxes_0 rfl ?_
    refine go_istoren_1 iM_paradoxes_1 (by simp [Value.category, am_U]) ?_
    refine go_iconst (v := nI 0) iM_paradoxes_2 rfl ?_
    refine go_istoren_2 iM_paradoxes_3 (by simp [Value.category, am_U]) ?_
    refine go_mono (lo_M_px1 (mI := mI1) (mL := mL1) h8 hm1 hm3 (by rw [hqq 43 (by omega)]; exact hmM) (by rw [hqq 43 (by omega)]; exact hcM) (fun p hp => (hpl p hp).c (fun a ha _ _ _ => hqq a ha)) n 0 _ _ _ (by omega) FrN.rfl') (Nat.le_refl _) (fun r hr => ?_)
    obtain ⟨mI2, mL2, e, hN⟩ := hr
    refine ⟨mI2, mL2, e, hR0.keep hP.1 hN.1 ?_ ?_⟩
    · rw [hP.2, hN.2.1, hP.1.2 43 (by omega) (by decide)]; exact hu
    · rw [hP.2, hN.2.2, hP.1.2 43 (by omega) (by decide)]; exact hl
end MPX
