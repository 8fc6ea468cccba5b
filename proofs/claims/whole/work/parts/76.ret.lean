/-! ===== what a method's end may be ===== -/
theorem mem_ret {S : am_S} {t : am_T} {ins : Instr} {nx a bb : Nat} {M : am_M} {la st : List Value} {r : Option Value × am_M} (h : am_mem S t ins nx a bb M la st = some (.inr (.inl r))) : (t.2.2.2.1 = some .int → ∃ z, r.1 = some (.int z)) ∧ (t.2.2.2.1 = some .long → ∃ z, r.1 = some (.long z)) := by
  have fin : ∀ {o : Option am_F}, o.map (fun f => (Sum.inl f : am_R)) = some (.inr (.inl r)) → (t.2.2.2.1 = some .int → ∃ z, r.1 = some (.int z)) ∧ (t.2.2.2.1 = some .long → ∃ z, r.1 = some (.long z)) := fun {o} ho => by
    cases o with
    | none => cases ho
    | some f0 => exact absurd (Option.some.inj ho) (fun e => by cases e)
  cases ins
  case getfield => exact fin h
  case putfield => exact fin h
  case arraylength => exact fin h
  case iaload => exact fin h
  case laload => exact fin h
  case aaload => exact fin h
  case iastore => exact fin h
  case lastore => exact fin h
  case aastore => exact fin h
  case new => exact fin h
  case newarray ty =>
    cases ty
    case int => exact fin h
    case long => exact fin h
    all_goals exact absurd h.symm (Option.some_ne_none _)
  case anewarray => exact fin h
  case invokestatic =>
    simp only [am_mem] at h
    split at h
    · exact fin h
    · obtain ⟨as, q, -, -, e⟩ := am_calS_spec h
      cases e
  case invokevirtual =>
    obtain ⟨as, i, q, t', -, -, -, -, -, e⟩ := am_calV_spec h
    cases e
  case invokespecial =>
    simp only [am_mem] at h
    split at h
    · exact fin h
    · obtain ⟨as, i, q, t', -, -, -, -, -, e⟩ := am_calV_spec h
      cases e
  case ireturn =>
    obtain ⟨z, -, hc, e⟩ := am_retI_spec h
    have e := Sum.inl.inj (Sum.inr.inj e)
    refine ⟨fun _ => ⟨z, by rw [e]⟩, fun hl => ?_⟩
    rw [hl] at hc
    rcases hc with hc | hc
    · cases hc
    · cases hc.1
  case lreturn =>
    obtain ⟨z, -, hc, e⟩ := am_retL_spec h
    have e := Sum.inl.inj (Sum.inr.inj e)
    refine ⟨fun hl => ?_, fun _ => ⟨z, by rw [e]⟩⟩
    rw [hl] at hc
    cases hc
  case areturn =>
    obtain ⟨hc, -⟩ := am_retA_spec h
    refine ⟨fun hl => ?_, fun hl => ?_⟩
    · rw [hl] at hc; cases hc
    · rw [hl] at hc; cases hc
  case return_ =>
    obtain ⟨-, hc, -⟩ := am_retV_spec h
    refine ⟨fun hl => ?_, fun hl => ?_⟩
    · rw [hl] at hc; cases hc
    · rw [hl] at hc; cases hc
  all_goals exact absurd h.symm (Option.some_ne_none _)
theorem run_ret {S : am_S} : ∀ (f d : Nat) (t : am_T) (fr : am_F) (r : Option Value × am_M), am_run S f d t fr = some r → (t.2.2.2.1 = some .int → ∃ z, r.1 = some (.int z)) ∧ (t.2.2.2.1 = some .long → ∃ z, r.1 = some (.long z))
  | 0, d, t, fr, r, h => by cases h
  | f + 1, d, t, fr, r, h => by
    unfold am_run at h
    cases hs : am_step S t fr with
    | none => rw [hs] at h; cases h
    | some x =>
      rw [hs] at h
      obtain ⟨ins, nx, a, bb, hh, -, hc⟩ := am_step_cases hs
      match x, h, hc with
      | .inl fr', h, hc => exact run_ret f d t fr' r h
      | .inr (.inl r'), h, hc =>
        rcases hc with ⟨q, -, e⟩ | hm
        · cases e
        · have h := Option.some.inj h
          rw [← h]
          exact mem_ret hm
      | .inr (.inr (j, as, fr')), h, hc =>
        dsimp only at h
        cases d with
        | zero => cases h
        | succ d' =>
          cases hmt : am_mt[j]? with
          | none => rw [hmt] at h; cases h
          | some t' =>
            rw [hmt] at h
            dsimp only at h
            split at h
            · cases hr : am_run S f d' t' (am_ent t' fr'.1 as) with
              | none => rw [hr] at h; cases h
              | some vm =>
                obtain ⟨v, M2⟩ := vm
                rw [hr] at h
                exact run_ret f (d' + 1) t _ _ h
            · cases h
theorem sp_int {S : am_S} {hh : Nat} {t : am_T} {M M2 : am_M} {as : List Value} {v : Value} (ht : t.2.2.2.1 = some .int) (h : Sp S hh t M as (fun q => q = (some v, M2))) : ∃ z, v = .int z := by
  obtain ⟨f, r, h1, h2⟩ := h
  obtain ⟨z, hz⟩ := (run_ret f _ _ _ _ h1).1 ht
  rw [h2] at hz
  exact ⟨z, Option.some.inj hz⟩
theorem sp_long {S : am_S} {hh : Nat} {t : am_T} {M M2 : am_M} {as : List Value} {v : Value} (ht : t.2.2.2.1 = some .long) (h : Sp S hh t M as (fun q => q = (some v, M2))) : ∃ z, v = .long z := by
  obtain ⟨f, r, h1, h2⟩ := h
  obtain ⟨z, hz⟩ := (run_ret f _ _ _ _ h1).2 ht
  rw [h2] at hz
  exact ⟨z, Option.some.inj hz⟩
