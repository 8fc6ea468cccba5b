/-! ===== what is read: upper, lower, finding, findings, choice, count ===== -/
section RD
variable {S : am_S} {d : Nat} {t : am_T} {M : am_M} {pc nx a b h : Nat} {la st : List Value} {Q : Option Value × am_M → Prop}
theorem go_lsw {x : Int32} {dd off : Int} {ps : Array (Int × Int)} {tgt : Nat} (hl : At t pc (.lookupswitch dd ps, nx, a, b, h)) (hp : (ps.toList.zip (ps.toList.drop 1)).all (fun (a, next) => a.1 < next.1) = true) (ho : Op.lookupswitch.offset ps.toList dd x.toInt = off) (ht : (pc : Int) + off = (tgt : Int)) (k : Go S d t (M, tgt, la, st) Q) : Go S d t (M, pc, la, .int x :: st) Q := go_step (at_step hl (q := (tgt, la, st)) (by
  show am_lsw pc dd ps la (.int x :: st) = _
  unfold am_lsw
  dsimp only
  rw [ho, if_pos ⟨hp, by omega⟩, ht]
  simp)) k
theorem go_tswI {x : Int32} {dd lo hi off : Int} {offs : Array Int} {tgt : Nat} (hl : At t pc (.tableswitch dd lo hi offs, nx, a, b, h)) (h1 : ¬ x.toInt < lo) (h2 : ¬ hi < x.toInt) (ho : offs[(x.toInt - lo).toNat]? = some off) (ht : (pc : Int) + off = (tgt : Int)) (k : Go S d t (M, tgt, la, st) Q) : Go S d t (M, pc, la, .int x :: st) Q := go_step (at_step hl (q := (tgt, la, st)) (by
  show am_tsw pc dd lo hi offs la (.int x :: st) = _
  unfold am_tsw
  dsimp only
  rw [if_neg (by omega), ho]
  dsimp only
  rw [if_pos (by omega), ht]
  simp)) k
theorem go_tswO {x : Int32} {dd lo hi : Int} {offs : Array Int} {tgt : Nat} (hl : At t pc (.tableswitch dd lo hi offs, nx, a, b, h)) (h1 : x.toInt < lo ∨ hi < x.toInt) (ht : (pc : Int) + dd = (tgt : Int)) (k : Go S d t (M, tgt, la, st) Q) : Go S d t (M, pc, la, .int x :: st) Q := go_step (at_step hl (q := (tgt, la, st)) (by
  show am_tsw pc dd lo hi offs la (.int x :: st) = _
  unfold am_tsw
  dsimp only
  rw [if_pos h1, if_pos (by omega), ht]
  simp)) k
end RD
section RDP
variable {S : am_S} {mI : Nat → Nat → Int32} {mL : Nat → Nat → Int64} {n : Nat}
theorem Pair.same {tT tM : am_T} {as : List Value} {h1 h2 : Nat} {v : Value} (hR : Rel n mI mL) (a : Sp S h1 tT (am_sh n, mI, mL, am_mR n) (.ref 0 :: as) (fun q => q = (some v, (am_sh n, mI, mL, am_mR n)))) (b : Sp S h2 tM (am_sh n, mI, mL, am_mR n) (.ref 43 :: as) (fun q => q = (some v, (am_sh n, mI, mL, am_mR n)))) (e1 : h1 ≤ 20 := by decide) (e2 : h2 ≤ 20 := by decide) : Pair S tT tM as n mI mL := Pair.mk a b hR e1 e2 (Nat.le_refl _) (by omega)
theorem rfI_r {f x : Nat} (h0 : x ≠ 0) (h3 : x ≠ 3) : rfI mI f x = mI x := by
  unfold rfI
  rw [am_u_r h3, am_u_r h0]
theorem Rel_refuse {f : Nat} (hR : Rel n mI mL) (hf : f < 6) : Rel n (mtI (rfI mI f) f) mL := by
  obtain ⟨h8, ⟨m, hm1, hm3, hmT, hmM⟩, hcT, hcM, hpl, hro, hfi, hfs, hu, hl, hch⟩ := hR
  refine ⟨h8, ⟨m, hm1, hm3, ?_, ?_⟩, ?_, ?_, fun p hp => (hpl p hp).of ?_ ?_ ?_ (fun j hj => ?_), fun r hr => (hro r hr).of ?_ ?_ ?_ (fun j hj => ?_), ?_, fun g hg => ?_, hu, hl, fun j hj => ?_⟩
  case refine_14 =>
    by_cases e : g = f
    · subst e
      simp (disch := omega) only [mtI, rfI, am_u_n, am_u_s, am_u_k, am_u_r]
      rw [hfs g hg]
    · simp (disch := omega) only [mtI, rfI, am_u_n, am_u_s, am_u_k, am_u_r]
      exact hfs g hg
  all_goals (simp (disch := omega) only [mtI, rfI, am_u_n, am_u_s, am_u_k, am_u_r]; try first | assumption | exact hch _ hj)
/-- both refuse with the same finding -/
theorem Pair.refuse {tT tM : am_T} {as : List Value} {h1 h2 f : Nat} (hR : Rel n mI mL) (hf : f < 6) (a : Sp S h1 tT (am_sh n, mI, mL, am_mR n) (.ref 0 :: as) (fun q => q = (some (.int (-3)), (am_sh n, rfI mI f, mL, am_mR n)))) (b : Sp S h2 tM (am_sh n, rfI mI f, mL, am_mR n) (.ref 43 :: as) (fun q => q = (some (.int (-3)), (am_sh n, mtI (rfI mI f) f, mL, am_mR n)))) (e1 : h1 ≤ 20 := by decide) (e2 : h2 ≤ 20 := by decide) : Pair S tT tM as n mI mL := Pair.mk a b (Rel_refuse hR hf) e1 e2 (Nat.le_refl _) (by omega)
theorem pr_upper (hR : Rel n mI mL) : Pair S tT_upper tM_upper [] n mI mL := by
  have hu := hR.2.2.2.2.2.2.2.2.1
  refine Pair.same (h1 := 0) (h2 := 0) (v := .long (mL 4 0)) hR ?_ ?_
  · show Go _ _ tT_upper (_, 0, [.ref 0], []) _
    refine go_aloadn_0 iT_upper_0 rfl ?_
    refine go_getR iT_upper_1 rfl (sk_0 _) (mR_0_6 _) ?_
    refine go_getL iT_upper_4 rfl (sk_4 _) ?_
    refine go_lret iT_upper_7 rfl ?_
    rfl
  · show Go _ _ tM_upper (_, 0, [.ref 43], []) _
    refine go_aloadn_0 iM_upper_0 rfl ?_
    refine go_getL iM_upper_1 rfl (sk_43 _) ?_
    rw [← hu]
    refine go_lret iM_upper_4 rfl ?_
    rfl
theorem pr_lower (hR : Rel n mI mL) : Pair S tT_lower tM_lower [] n mI mL := by
  have hu := hR.2.2.2.2.2.2.2.2.2.1
  refine Pair.same (h1 := 0) (h2 := 0) (v := .long (mL 4 1)) hR ?_ ?_
  · show Go _ _ tT_lower (_, 0, [.ref 0], []) _
    refine go_aloadn_0 iT_lower_0 rfl ?_
    refine go_getR iT_lower_1 rfl (sk_0 _) (mR_0_6 _) ?_
    refine go_getL iT_lower_4 rfl (sk_4 _) ?_
    refine go_lret iT_lower_7 rfl ?_
    rfl
  · show Go _ _ tM_lower (_, 0, [.ref 43], []) _
    refine go_aloadn_0 iM_lower_0 rfl ?_
    refine go_getL iM_lower_1 rfl (sk_43 _) ?_
    rw [← hu]
    refine go_lret iM_lower_4 rfl ?_
    rfl
theorem pr_finding (hR : Rel n mI mL) : Pair S tT_finding tM_finding [] n mI mL := by
  have hu := hR.2.2.2.2.2.2.1
  refine Pair.same (h1 := 0) (h2 := 0) (v := .int (mI 0 4)) hR ?_ ?_
  · show Go _ _ tT_finding (_, 0, [.ref 0], []) _
    refine go_aloadn_0 iT_finding_0 rfl ?_
    refine go_getI iT_finding_1 (Or.inl rfl) (sk_0 _) ?_
    refine go_iret iT_finding_4 rfl ?_
    rfl
  · show Go _ _ tM_finding (_, 0, [.ref 43], []) _
    refine go_aloadn_0 iM_finding_0 rfl ?_
    refine go_getI iM_finding_1 (Or.inl rfl) (sk_43 _) ?_
    rw [← hu]
    refine go_iret iM_finding_4 rfl ?_
    rfl
theorem pr_findings (x : Int32) (hR : Rel n mI mL) : Pair S tT_findings tM_findings [.int x] n mI mL := by
  have hfs := hR.2.2.2.2.2.2.2.1
  by_cases hx : x.toInt < 1 ∨ 5 < x.toInt
  · refine Pair.same (h1 := 0) (h2 := 1) (v := .int (-1)) hR ?_ ?_
    · show Go _ _ tT_findings (_, 0, [.ref 0, .int x], []) _
      refine go_iloadn_1 iT_findings_0 ?_
      refine go_iconst (v := nI 1) iT_findings_1 rfl ?_
      first | refine gn_ic_lt iT_findings_2 (by omega) (by omega) (fun c_2 => ?_) (fun c_2 => ?_) | refine go_ic_lt iT_findings_2 (fun c_2 => ?_) (fun c_2 => ?_)
      · refine go_iconst (v := (-1)) iT_findings_10 rfl ?_
        refine go_iret iT_findings_11 rfl ?_
        first | rfl | omega | (exfalso; simp (disch := omega) only [Int32.lt_iff_toInt_lt, Int32.le_iff_toInt_le, Int32.not_lt, Int32.not_le, ← Int32.toInt_inj, nI_toInt, i32_m1, i32_0, i32_m20, i32_m40, i32_m30, i32_m9] at *; omega)
      · refine go_iloadn_1 iT_findings_5 ?_
        refine go_iconst (v := nI 5) iT_findings_6 rfl ?_
        first | refine gn_ic_le iT_findings_7 (by omega) (by omega) (fun c_7 => ?_) (fun c_7 => ?_) | refine go_ic_le iT_findings_7 (fun c_7 => ?_) (fun c_7 => ?_)
        · (first | omega | exact absurd c_7 (by decide) | (exfalso; simp (disch := omega) only [Int32.lt_iff_toInt_lt, Int32.le_iff_toInt_le, ← Int32.toInt_inj, nI_toInt, i32_m1, i32_0, i32_m20, i32_m40, i32_m30, i32_m9] at *; omega))
        · refine go_iconst (v := (-1)) iT_findings_10 rfl ?_
          refine go_iret iT_findings_11 rfl ?_
          first | rfl | omega | (exfalso; simp (disch := omega) only [Int32.lt_iff_toInt_lt, Int32.le_iff_toInt_le, Int32.not_lt, Int32.not_le, ← Int32.toInt_inj, nI_toInt, i32_m1, i32_0, i32_m20, i32_m40, i32_m30, i32_m9] at *; omega)
    · show Go _ _ tM_findings (_, 0, [.ref 43, .int x], []) _
      refine go_iloadn_1 iM_findings_0 ?_
      refine go_iconst (v := nI 1) iM_findings_1 rfl ?_
      refine go_iconst (v := nI 5) iM_findings_2 rfl ?_
      refine gc_S1 iM_findings_3 (by decide) rfl rfl (Nat.le_of_ble_eq_true rfl) (Nat.le_of_ble_eq_true rfl) (by decide) (sp_M_in_f (by simp (disch := omega) only [nI_toInt]; omega)) ?_
      refine go_if_eq iM_findings_6 (fun c_6 => ?_) (fun c_6 => ?_)
      rotate_left
      · (first | omega | exact absurd c_6 (by decide) | (exfalso; simp (disch := omega) only [Int32.lt_iff_toInt_lt, Int32.le_iff_toInt_le, ← Int32.toInt_inj, nI_toInt, i32_m1, i32_0, i32_m20, i32_m40, i32_m30, i32_m9] at *; omega))
      refine go_iconst (v := (-1)) iM_findings_18 rfl ?_
      refine go_iret iM_findings_19 rfl ?_
      rfl
  · obtain ⟨f, hf, rfl⟩ : ∃ a, (1 ≤ a ∧ a ≤ 5) ∧ x = nI a := by
      rcases int_cases x 5 (by decide) with ⟨a, ha, rfl⟩ | h
      · rw [nI_toInt (by omega)] at hx
        exact ⟨a, by omega, rfl⟩
      · omega
    refine Pair.same (h1 := 0) (h2 := 1) (v := .int (mI 3 f)) hR ?_ ?_
    · show Go _ _ tT_findings (_, 0, [.ref 0, .int (nI f)], []) _
      refine go_iloadn_1 iT_findings_0 ?_
      refine go_iconst (v := nI 1) iT_findings_1 rfl ?_
      first | refine gn_ic_lt iT_findings_2 (by omega) (by omega) (fun c_2 => ?_) (fun c_2 => ?_) | refine go_ic_lt iT_findings_2 (fun c_2 => ?_) (fun c_2 => ?_)
      · (first | omega | exact absurd c_2 (by decide) | (exfalso; simp (disch := omega) only [Int32.lt_iff_toInt_lt, Int32.le_iff_toInt_le, ← Int32.toInt_inj, nI_toInt, i32_m1, i32_0, i32_m20, i32_m40, i32_m30, i32_m9] at *; omega))
      refine go_iloadn_1 iT_findings_5 ?_
      refine go_iconst (v := nI 5) iT_findings_6 rfl ?_
      first | refine gn_ic_le iT_findings_7 (by omega) (by omega) (fun c_7 => ?_) (fun c_7 => ?_) | refine go_ic_le iT_findings_7 (fun c_7 => ?_) (fun c_7 => ?_)
      rotate_left
      · (first | omega | exact absurd c_7 (by decide) | (exfalso; simp (disch := omega) only [Int32.lt_iff_toInt_lt, Int32.le_iff_toInt_le, ← Int32.toInt_inj, nI_toInt, i32_m1, i32_0, i32_m20, i32_m40, i32_m30, i32_m9] at *; omega))
      refine go_aloadn_0 iT_findings_12 rfl ?_
      refine go_getR iT_findings_13 rfl (sk_0 _) (mR_0_5 _) ?_
      refine go_iloadn_1 iT_findings_16 ?_
      refine go_iald iT_findings_17 (sh_3 _) rfl (by omega) (by omega) ?_
      refine go_iret iT_findings_18 rfl ?_
      rfl
    · show Go _ _ tM_findings (_, 0, [.ref 43, .int (nI f)], []) _
      refine go_iloadn_1 iM_findings_0 ?_
      refine go_iconst (v := nI 1) iM_findings_1 rfl ?_
      refine go_iconst (v := nI 5) iM_findings_2 rfl ?_
      refine gc_S1 iM_findings_3 (by decide) rfl rfl (Nat.le_of_ble_eq_true rfl) (Nat.le_of_ble_eq_true rfl) (by decide) (sp_M_in_t (by simp (disch := omega) only [nI_toInt]; omega) (by simp (disch := omega) only [nI_toInt]; omega)) ?_
      refine go_if_eq iM_findings_6 (fun c_6 => ?_) (fun c_6 => ?_)
      · (first | omega | exact absurd c_6 (by decide) | (exfalso; simp (disch := omega) only [Int32.lt_iff_toInt_lt, Int32.le_iff_toInt_le, ← Int32.toInt_inj, nI_toInt, i32_m1, i32_0, i32_m20, i32_m40, i32_m30, i32_m9] at *; omega))
      refine go_aloadn_0 iM_findings_9 rfl ?_
      refine go_getR iM_findings_10 rfl (sk_43 _) (mR_43_1 _) ?_
      refine go_iloadn_1 iM_findings_13 ?_
      refine go_iald iM_findings_14 (sh_44 _) rfl (by omega) (by omega) ?_
      rw [← hfs f (by omega)]
      refine go_goto iM_findings_15 ?_
      refine go_iret iM_findings_19 rfl ?_
      rfl
theorem pr_choice (x : Int32) (hR : Rel n mI mL) : Pair S tT_choice tM_choice [.int x] n mI mL := by
  have hch := hR.2.2.2.2.2.2.2.2.2.2
  rcases int_cases x 2 (by decide) with ⟨f, hf, rfl⟩ | hx
  · refine Pair.same (h1 := 0) (h2 := 1) (v := .int (mI 5 f)) hR ?_ ?_
    · show Go _ _ tT_choice (_, 0, [.ref 0, .int (nI f)], []) _
      refine go_iloadn_1 iT_choice_0 ?_
      refine go_if_lt iT_choice_1 (fun c_1 => ?_) (fun c_1 => ?_)
      · (first | omega | exact absurd c_1 (by decide) | (exfalso; simp (disch := omega) only [Int32.lt_iff_toInt_lt, Int32.le_iff_toInt_le, ← Int32.toInt_inj, nI_toInt, i32_m1, i32_0, i32_m20, i32_m40, i32_m30, i32_m9] at *; omega))
      refine go_iloadn_1 iT_choice_4 ?_
      refine go_iconst (v := nI 3) iT_choice_5 rfl ?_
      first | refine gn_ic_lt iT_choice_6 (by omega) (by omega) (fun c_6 => ?_) (fun c_6 => ?_) | refine go_ic_lt iT_choice_6 (fun c_6 => ?_) (fun c_6 => ?_)
      rotate_left
      · (first | omega | exact absurd c_6 (by decide) | (exfalso; simp (disch := omega) only [Int32.lt_iff_toInt_lt, Int32.le_iff_toInt_le, ← Int32.toInt_inj, nI_toInt, i32_m1, i32_0, i32_m20, i32_m40, i32_m30, i32_m9] at *; omega))
      refine go_aloadn_0 iT_choice_12 rfl ?_
      refine go_getR iT_choice_13 rfl (sk_0 _) (mR_0_7 _) ?_
      refine go_iloadn_1 iT_choice_16 ?_
      refine go_iald iT_choice_17 (sh_5 _) rfl (by omega) (by omega) ?_
      refine go_iret iT_choice_18 rfl ?_
      rfl
    · show Go _ _ tM_choice (_, 0, [.ref 43, .int (nI f)], []) _
      refine go_iloadn_1 iM_choice_0 ?_
      refine go_iconst (v := nI 0) iM_choice_1 rfl ?_
      refine go_iconst (v := nI 2) iM_choice_2 rfl ?_
      refine gc_S1 iM_choice_3 (by decide) rfl rfl (Nat.le_of_ble_eq_true rfl) (Nat.le_of_ble_eq_true rfl) (by decide) (sp_M_in_t (by simp (disch := omega) only [nI_toInt]; omega) (by simp (disch := omega) only [nI_toInt]; omega)) ?_
      refine go_if_eq iM_choice_6 (fun c_6 => ?_) (fun c_6 => ?_)
      · (first | omega | exact absurd c_6 (by decide) | (exfalso; simp (disch := omega) only [Int32.lt_iff_toInt_lt, Int32.le_iff_toInt_le, ← Int32.toInt_inj, nI_toInt, i32_m1, i32_0, i32_m20, i32_m40, i32_m30, i32_m9] at *; omega))
      refine go_aloadn_0 iM_choice_9 rfl ?_
      refine go_getR iM_choice_10 rfl (sk_43 _) (mR_43_26 _) ?_
      refine go_iloadn_1 iM_choice_13 ?_
      refine go_iald iM_choice_14 (sh_57 _) rfl (by omega) (by omega) ?_
      rw [← hch f (by omega)]
      refine go_goto iM_choice_15 ?_
      refine go_iret iM_choice_20 rfl ?_
      rfl
  · refine Pair.same (h1 := 0) (h2 := 1) (v := .int (-9)) hR ?_ ?_
    · show Go _ _ tT_choice (_, 0, [.ref 0, .int x], []) _
      refine go_iloadn_1 iT_choice_0 ?_
      refine go_if_lt iT_choice_1 (fun c_1 => ?_) (fun c_1 => ?_)
      · refine go_bipush (v := (-9)) iT_choice_9 (by decide) ?_
        refine go_iret iT_choice_11 rfl ?_
        first | rfl | omega | (exfalso; simp (disch := omega) only [Int32.lt_iff_toInt_lt, Int32.le_iff_toInt_le, Int32.not_lt, Int32.not_le, ← Int32.toInt_inj, nI_toInt, i32_m1, i32_0, i32_m20, i32_m40, i32_m30, i32_m9] at *; omega)
      · refine go_iloadn_1 iT_choice_4 ?_
        refine go_iconst (v := nI 3) iT_choice_5 rfl ?_
        first | refine gn_ic_lt iT_choice_6 (by omega) (by omega) (fun c_6 => ?_) (fun c_6 => ?_) | refine go_ic_lt iT_choice_6 (fun c_6 => ?_) (fun c_6 => ?_)
        · (first | omega | exact absurd c_6 (by decide) | (exfalso; simp (disch := omega) only [Int32.lt_iff_toInt_lt, Int32.le_iff_toInt_le, ← Int32.toInt_inj, nI_toInt, i32_m1, i32_0, i32_m20, i32_m40, i32_m30, i32_m9] at *; omega))
        · refine go_bipush (v := (-9)) iT_choice_9 (by decide) ?_
          refine go_iret iT_choice_11 rfl ?_
          first | rfl | omega | (exfalso; simp (disch := omega) only [Int32.lt_iff_toInt_lt, Int32.le_iff_toInt_le, Int32.not_lt, Int32.not_le, ← Int32.toInt_inj, nI_toInt, i32_m1, i32_0, i32_m20, i32_m40, i32_m30, i32_m9] at *; omega)
    · show Go _ _ tM_choice (_, 0, [.ref 43, .int x], []) _
      refine go_iloadn_1 iM_choice_0 ?_
      refine go_iconst (v := nI 0) iM_choice_1 rfl ?_
      refine go_iconst (v := nI 2) iM_choice_2 rfl ?_
      refine gc_S1 iM_choice_3 (by decide) rfl rfl (Nat.le_of_ble_eq_true rfl) (Nat.le_of_ble_eq_true rfl) (by decide) (sp_M_in_f (by simp (disch := omega) only [nI_toInt]; omega)) ?_
      refine go_if_eq iM_choice_6 (fun c_6 => ?_) (fun c_6 => ?_)
      rotate_left
      · (first | omega | exact absurd c_6 (by decide) | (exfalso; simp (disch := omega) only [Int32.lt_iff_toInt_lt, Int32.le_iff_toInt_le, ← Int32.toInt_inj, nI_toInt, i32_m1, i32_0, i32_m20, i32_m40, i32_m30, i32_m9] at *; omega))
      refine go_bipush (v := (-9)) iM_choice_18 (by decide) ?_
      refine go_iret iM_choice_20 rfl ?_
      rfl
end RDP
