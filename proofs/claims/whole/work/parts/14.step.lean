/-! ===== what a step of the abstract machine is ===== -/
theorem am_look {α : Type} : ∀ (l : List (Nat × α)) (a : Nat) (x : α), l.lookup a = some x → (a, x) ∈ l
  | [], a, x, h => by simp at h
  | (k, y) :: l, a, x, h => by
    rw [List.lookup_cons] at h
    by_cases e : a = k
    · subst e
      simp at h
      rw [h]
      exact List.mem_cons_self
    · have e2 : (a == k) = false := by simp [e]
      rw [e2] at h
      exact List.mem_cons_of_mem _ (am_look l a x h)
theorem am_calS_spec {a bb nx : Nat} {M : am_M} {la st : List Value} {x : am_R} (h : am_calS a bb nx M la st = some x) : ∃ as r, am_take bb st [] = some (as, r) ∧ (r.map fun v => v.category).sum ≤ 8 ∧ x = .inr (.inr (a, as, (M, nx, la, r))) := by
  unfold am_calS at h
  split at h
  · next as r hq =>
    split at h
    · next hs => exact ⟨as, r, hq, hs, (Option.some.inj h).symm⟩
    · cases h
  · cases h
theorem am_calV_spec {a bb nx : Nat} {M : am_M} {la st : List Value} {x : am_R} (h : am_calV a bb nx M la st = some x) : ∃ as i r t', am_take bb st [] = some (as, .ref i :: r) ∧ (r.map fun v => v.category).sum ≤ 8 ∧ am_mt[a]? = some t' ∧ 10 ≤ t'.2.2.2.2.1 ∧ (M.1[i]?).map (fun q => q.1) = some t'.2.2.2.2.1 ∧ x = .inr (.inr (a, .ref i :: as, (M, nx, la, r))) := by
  unfold am_calV at h
  split at h
  · next as i r hq =>
    split at h
    · next hs =>
      obtain ⟨h1, h2⟩ := hs
      unfold am_cvk at h2
      cases hm : am_mt[a]? with
      | none => rw [hm] at h2; cases h2
      | some t' =>
        rw [hm] at h2
        have h2 := of_decide_eq_true h2
        exact ⟨as, i, r, t', hq, h1, rfl, h2.1, h2.2, (Option.some.inj h).symm⟩
    · cases h
  · cases h
/-- how a method may end with this answer, at this place -/
def am_rok (t : am_T) (pc : Nat) (v : Option Value) : Prop := match v with
  | some (.int x) => decode t.2.1 pc = .ok (.ireturn, 1) ∧ (t.2.2.2.1 = some .int ∨ (t.2.2.2.1 = some .boolean ∧ (x = 0 ∨ x = 1)))
  | some (.long _) => decode t.2.1 pc = .ok (.lreturn, 1) ∧ t.2.2.2.1 = some .long
  | some (.ref _) => decode t.2.1 pc = .ok (.areturn, 1) ∧ am_isO t.2.2.2.1 = true
  | some .null => decode t.2.1 pc = .ok (.areturn, 1) ∧ am_isO t.2.2.2.1 = true
  | some _ => False
  | none => decode t.2.1 pc = .ok (.return_, 1) ∧ t.2.2.2.1 = none
theorem am_inl {α β : Type} {o : Option α} {f : α} (h : o.map (Sum.inl (β := β)) = some (.inl f)) : o = some f := by
  cases o with
  | none => cases h
  | some x => rw [Option.map_some] at h; rw [Sum.inl.inj (Option.some.inj h)]
theorem am_inlr {α β : Type} {o : Option α} {r : β} (h : o.map (Sum.inl (β := β)) = some (.inr r)) : False := by
  cases o with
  | none => cases h
  | some x => rw [Option.map_some] at h; cases Option.some.inj h
theorem am_get_spec {a bb nx : Nat} {M : am_M} {la st : List Value} {f : am_F} (h : am_get a bb nx M la st = some f) : ∃ i r n, st = .ref i :: r ∧ M.1[i]? = some (a + 10, n) ∧ f = (M, nx, la, am_gv M i a bb :: r) := by
  unfold am_get at h
  split at h
  · next i r =>
    split at h
    · next hs =>
      obtain ⟨n, hn⟩ := am_map_spec hs
      exact ⟨i, r, n, rfl, hn, (Option.some.inj h).symm⟩
    · cases h
  · cases h
theorem am_put_spec {a bb nx : Nat} {M : am_M} {la st : List Value} {f : am_F} (h : am_put a bb nx M la st = some f) : ∃ v i r n M', st = v :: .ref i :: r ∧ M.1[i]? = some (a + 10, n) ∧ am_pv M i a bb v = some M' ∧ f = (M', nx, la, r) := by
  unfold am_put at h
  split at h
  · next v i r =>
    split at h
    · next hs =>
      obtain ⟨n, hn⟩ := am_map_spec hs
      cases hp : am_pv M i a bb v with
      | none => rw [hp] at h; cases h
      | some M' =>
        rw [hp] at h
        exact ⟨v, i, r, n, M', rfl, hn, hp, (Option.some.inj h).symm⟩
    · cases h
  · cases h
theorem am_alen_spec {S : am_S} {nx : Nat} {M : am_M} {la st : List Value} {f : am_F} (h : am_alen S nx M la st = some f) : (∃ i r q, st = .ref i :: r ∧ M.1[i]? = some q ∧ q.1 < 5 ∧ f = (M, nx, la, .int (Int32.ofNat q.2) :: r)) ∨ ∃ z r, st = .retAddr z :: r ∧ f = (M, nx, la, .int (Int32.ofNat S.1) :: r) := by
  unfold am_alen at h
  split at h
  · next i r =>
    split at h
    · next q hq =>
      split at h
      · next hs => exact Or.inl ⟨i, r, q, rfl, hq, hs, (Option.some.inj h).symm⟩
      · cases h
    · cases h
  · next z r => exact Or.inr ⟨z, r, rfl, (Option.some.inj h).symm⟩
  · cases h
theorem am_iald_spec {S : am_S} {nx : Nat} {M : am_M} {la st : List Value} {f : am_F} (h : am_iald S nx M la st = some f) : (∃ i j r n, st = .int j :: .ref i :: r ∧ M.1[i]? = some (0, n) ∧ ¬ (j < 0 ∨ n ≤ j.toNatClampNeg) ∧ f = (M, nx, la, .int (M.2.1 i j.toNatClampNeg) :: r)) ∨ ∃ j z r, st = .int j :: .retAddr z :: r ∧ ¬ (j < 0 ∨ S.1 ≤ j.toNatClampNeg) ∧ f = (M, nx, la, .int (S.2 j.toNatClampNeg) :: r) := by
  unfold am_iald at h
  split at h
  · next j i r =>
    split at h
    · next hs =>
      obtain ⟨n, h1, h2⟩ := am_in_spec hs
      exact Or.inl ⟨i, j, r, n, rfl, h1, h2, (Option.some.inj h).symm⟩
    · cases h
  · next j z r =>
    split at h
    · next hs => exact Or.inr ⟨j, z, r, rfl, hs, (Option.some.inj h).symm⟩
    · cases h
  · cases h
theorem am_lald_spec {nx : Nat} {M : am_M} {la st : List Value} {f : am_F} (h : am_lald nx M la st = some f) : ∃ i j r n, st = .int j :: .ref i :: r ∧ M.1[i]? = some (1, n) ∧ ¬ (j < 0 ∨ n ≤ j.toNatClampNeg) ∧ f = (M, nx, la, .long (M.2.2.1 i j.toNatClampNeg) :: r) := by
  unfold am_lald at h
  split at h
  · next j i r =>
    split at h
    · next hs =>
      obtain ⟨n, h1, h2⟩ := am_in_spec hs
      exact ⟨i, j, r, n, rfl, h1, h2, (Option.some.inj h).symm⟩
    · cases h
  · cases h
theorem am_aald_spec {nx : Nat} {M : am_M} {la st : List Value} {f : am_F} (h : am_aald nx M la st = some f) : ∃ i j r n kd, st = .int j :: .ref i :: r ∧ 2 ≤ kd ∧ kd < 5 ∧ M.1[i]? = some (kd, n) ∧ ¬ (j < 0 ∨ n ≤ j.toNatClampNeg) ∧ f = (M, nx, la, va_rf (M.2.2.2 i j.toNatClampNeg) :: r) := by
  unfold am_aald at h
  split at h
  · next j i r =>
    split at h
    · next hs =>
      obtain ⟨n, h1, h2⟩ := am_in_spec hs.2.2
      exact ⟨i, j, r, n, _, rfl, hs.1, hs.2.1, h1, h2, (Option.some.inj h).symm⟩
    · cases h
  · cases h
theorem am_iast_spec {nx : Nat} {M : am_M} {la st : List Value} {f : am_F} (h : am_iast nx M la st = some f) : ∃ i j x r n, st = .int x :: .int j :: .ref i :: r ∧ M.1[i]? = some (0, n) ∧ ¬ (j < 0 ∨ n ≤ j.toNatClampNeg) ∧ f = ((M.1, am_u M.2.1 i j.toNatClampNeg x, M.2.2.1, M.2.2.2), nx, la, r) := by
  unfold am_iast at h
  split at h
  · next x j i r =>
    split at h
    · next hs =>
      obtain ⟨n, h1, h2⟩ := am_in_spec hs
      exact ⟨i, j, x, r, n, rfl, h1, h2, (Option.some.inj h).symm⟩
    · cases h
  · cases h
theorem am_last_spec {nx : Nat} {M : am_M} {la st : List Value} {f : am_F} (h : am_last nx M la st = some f) : ∃ i j x r n, st = .long x :: .int j :: .ref i :: r ∧ M.1[i]? = some (1, n) ∧ ¬ (j < 0 ∨ n ≤ j.toNatClampNeg) ∧ f = ((M.1, M.2.1, am_u M.2.2.1 i j.toNatClampNeg x, M.2.2.2), nx, la, r) := by
  unfold am_last at h
  split at h
  · next x j i r =>
    split at h
    · next hs =>
      obtain ⟨n, h1, h2⟩ := am_in_spec hs
      exact ⟨i, j, x, r, n, rfl, h1, h2, (Option.some.inj h).symm⟩
    · cases h
  · cases h
theorem am_aast_spec {nx : Nat} {M : am_M} {la st : List Value} {f : am_F} (h : am_aast nx M la st = some f) : ∃ i j v r n kd kv nv q, st = .ref v :: .int j :: .ref i :: r ∧ 2 ≤ kd ∧ kd < 5 ∧ M.1[i]? = some (kd, n) ∧ ¬ (j < 0 ∨ n ≤ j.toNatClampNeg) ∧ M.1[v]? = some (kv + 10, nv) ∧ vwCl[kv]? = some q ∧ q.1 = am_ra kd ∧ f = ((M.1, M.2.1, M.2.2.1, am_u M.2.2.2 i j.toNatClampNeg (some v)), nx, la, r) := by
  unfold am_aast at h
  split at h
  · next v j i r =>
    split at h
    · next hs =>
      obtain ⟨h2, h5, hin, h10, hc⟩ := hs
      obtain ⟨n, h1, hj⟩ := am_in_spec hin
      obtain ⟨nv, hv⟩ := am_kr_spec h10
      cases hq : vwCl[am_kr M v - 10]? with
      | none => rw [hq] at hc; cases hc
      | some q =>
        rw [hq] at hc
        exact ⟨i, j, v, r, n, _, am_kr M v - 10, nv, q, rfl, h2, h5, h1, hj, by rw [hv]; congr 2; omega, hq, Option.some.inj hc, (Option.some.inj h).symm⟩
    · cases h
  · cases h
theorem am_mkO_spec {a nx : Nat} {M : am_M} {la st : List Value} {f : am_F} (h : am_mkO a nx M la st = some f) : ∃ q, vwCl[a - 10]? = some q ∧ 10 ≤ a ∧ f = (am_new M a q.2.2, nx, la, .ref M.1.length :: st) := by
  unfold am_mkO at h
  split at h
  · next q hq =>
    split at h
    · next hs => exact ⟨q, hq, hs, (Option.some.inj h).symm⟩
    · cases h
  · cases h
theorem am_mkA_spec {kd nx : Nat} {M : am_M} {la st : List Value} {f : am_F} (h : am_mkA kd nx M la st = some f) : ∃ n r, st = .int n :: r ∧ ¬ n < 0 ∧ n.toNatClampNeg ≤ 1000 ∧ f = (am_new M kd n.toNatClampNeg, nx, la, .ref M.1.length :: r) := by
  unfold am_mkA at h
  split at h
  · next n r =>
    split at h
    · next hs => exact ⟨n, r, rfl, hs.1, hs.2, (Option.some.inj h).symm⟩
    · cases h
  · cases h
theorem am_acp_spec {nx : Nat} {M : am_M} {la st : List Value} {f : am_F} (h : am_acp nx M la st = some f) : ∃ n dp i2 sp i1 r n1 n2, st = .int n :: .int dp :: .ref i2 :: .int sp :: .ref i1 :: r ∧ M.1[i1]? = some (0, n1) ∧ M.1[i2]? = some (0, n2) ∧ (r.map fun v => v.category).sum ≤ 8 ∧ ¬ sp < 0 ∧ ¬ dp < 0 ∧ ¬ n < 0 ∧ sp.toNatClampNeg + n.toNatClampNeg ≤ n1 ∧ dp.toNatClampNeg + n.toNatClampNeg ≤ n2 ∧ f = ((M.1, va_up M.2.1 i2 (va_cpy (M.2.1 i1) (M.2.1 i2) sp.toNatClampNeg dp.toNatClampNeg n.toNatClampNeg), M.2.2.1, M.2.2.2), nx, la, r) := by
  unfold am_acp at h
  split at h
  · next n dp i2 sp i1 r =>
    split at h
    · next q1 q2 hq1 hq2 =>
      split at h
      · next hs =>
        obtain ⟨a1, a2, a3, a4, a5, a6, a7, a8⟩ := hs
        exact ⟨n, dp, i2, sp, i1, r, q1.2, q2.2, rfl, by rw [hq1, ← a2], by rw [hq2, ← a3], a1, a4, a5, a6, a7, a8, (Option.some.inj h).symm⟩
      · cases h
    · cases h
  · cases h
theorem am_pop_spec {nx : Nat} {M : am_M} {la st : List Value} {f : am_F} (h : am_pop nx M la st = some f) : ∃ i r, st = .ref i :: r ∧ (r.map fun v => v.category).sum ≤ 8 ∧ f = (M, nx, la, r) := by
  unfold am_pop at h
  split at h
  · next i r =>
    split at h
    · next hs => exact ⟨i, r, rfl, hs, (Option.some.inj h).symm⟩
    · cases h
  · cases h
theorem am_retI_spec {t : am_T} {M : am_M} {st : List Value} {x : am_R} (h : am_retI t M st = some x) : ∃ z, st = [.int z] ∧ (t.2.2.2.1 = some .int ∨ (t.2.2.2.1 = some .boolean ∧ (z = 0 ∨ z = 1))) ∧ x = .inr (.inl (some (.int z), M)) := by
  unfold am_retI at h
  split at h
  · next z =>
    split at h
    · next hs => exact ⟨z, rfl, hs, (Option.some.inj h).symm⟩
    · cases h
  · cases h
theorem am_retL_spec {t : am_T} {M : am_M} {st : List Value} {x : am_R} (h : am_retL t M st = some x) : ∃ z, st = [.long z] ∧ t.2.2.2.1 = some .long ∧ x = .inr (.inl (some (.long z), M)) := by
  unfold am_retL at h
  split at h
  · next z =>
    split at h
    · next hs => exact ⟨z, rfl, hs, (Option.some.inj h).symm⟩
    · cases h
  · cases h
theorem am_retA_spec {t : am_T} {M : am_M} {st : List Value} {x : am_R} (h : am_retA t M st = some x) : am_isO t.2.2.2.1 = true ∧ ((∃ z, st = [.ref z] ∧ x = .inr (.inl (some (.ref z), M))) ∨ (st = [.null] ∧ x = .inr (.inl (some .null, M)))) := by
  unfold am_retA at h
  split at h
  · next z =>
    split at h
    · next hs => exact ⟨hs, Or.inl ⟨z, rfl, (Option.some.inj h).symm⟩⟩
    · cases h
  · next =>
    split at h
    · next hs => exact ⟨hs, Or.inr ⟨rfl, (Option.some.inj h).symm⟩⟩
    · cases h
  · cases h
theorem am_retV_spec {t : am_T} {M : am_M} {st : List Value} {x : am_R} (h : am_retV t M st = some x) : st = [] ∧ t.2.2.2.1 = none ∧ x = .inr (.inl (none, M)) := by
  unfold am_retV at h
  split at h
  · next =>
    split at h
    · next hs => exact ⟨rfl, hs, (Option.some.inj h).symm⟩
    · cases h
  · cases h
theorem am_new_c (M : am_M) (kd n : Nat) : am_c (am_new M kd n) = am_c M + 1 ∧ am_z (am_new M kd n) = am_z M + n := by
  simp [am_c, am_z, am_new]
theorem am_pv_1 {M M' : am_M} {i c k : Nat} {v : Value} (h : am_pv M i c k v = some M') : M'.1 = M.1 := (am_pv_spec (h0 := 0) (b := 0) h).1
/-- a step never loses cells -/
theorem am_mem_mono {S : am_S} {t : am_T} {ins : Instr} {nx a bb : Nat} {M : am_M} {la st : List Value} {x : am_R} (h : am_mem S t ins nx a bb M la st = some x) : (∀ f, x = .inl f → am_c M ≤ am_c f.1 ∧ am_z M ≤ am_z f.1 ∧ f.2.2.1 = la) ∧ (∀ r, x = .inr (.inl r) → r.2 = M) ∧ ∀ q, x = .inr (.inr q) → q.2.2.1 = M ∧ q.2.2.2.2.1 = la := by
  have fin : ∀ {o : Option am_F}, o.map Sum.inl = some x → (∀ f, o = some f → am_c M ≤ am_c f.1 ∧ am_z M ≤ am_z f.1 ∧ f.2.2.1 = la) → (∀ f, x = .inl f → am_c M ≤ am_c f.1 ∧ am_z M ≤ am_z f.1 ∧ f.2.2.1 = la) ∧ (∀ r, x = .inr (.inl r) → r.2 = M) ∧ ∀ q, x = .inr (.inr q) → q.2.2.1 = M ∧ q.2.2.2.2.1 = la := fun {o} ho hf => by
    cases o with
    | none => cases ho
    | some f0 =>
      have e := Option.some.inj ho
      subst e
      exact ⟨fun f e => (by have e := Sum.inl.inj e; subst e; exact hf _ rfl), fun r e => (by cases e), fun q e => by cases e⟩
  have same : ∀ {f : am_F}, f.1.1 = M.1 → am_c M ≤ am_c f.1 ∧ am_z M ≤ am_z f.1 := fun {f} e => by
    unfold am_c am_z
    rw [e]
    exact ⟨Nat.le_refl _, Nat.le_refl _⟩
  have call : ∀ {j as nx r}, x = .inr (.inr (j, as, (M, nx, la, r))) → (∀ f, x = .inl f → am_c M ≤ am_c f.1 ∧ am_z M ≤ am_z f.1 ∧ f.2.2.1 = la) ∧ (∀ r, x = .inr (.inl r) → r.2 = M) ∧ ∀ q, x = .inr (.inr q) → q.2.2.1 = M ∧ q.2.2.2.2.1 = la := fun {j as nx r} e => by
    subst e
    exact ⟨fun f e => (by cases e), fun r e => (by cases e), fun q e => by cases e; exact ⟨rfl, rfl⟩⟩
  have retn : ∀ {v}, x = .inr (.inl (v, M)) → (∀ f, x = .inl f → am_c M ≤ am_c f.1 ∧ am_z M ≤ am_z f.1 ∧ f.2.2.1 = la) ∧ (∀ r, x = .inr (.inl r) → r.2 = M) ∧ ∀ q, x = .inr (.inr q) → q.2.2.1 = M ∧ q.2.2.2.2.1 = la := fun {v} e => by
    subst e
    exact ⟨fun f e => (by cases e), fun r e => (by cases e; rfl), fun q e => by cases e⟩
  cases ins
  case getfield => exact fin h (fun f hf => by obtain ⟨i, r, n, -, -, rfl⟩ := am_get_spec hf; exact ⟨(same rfl).1, (same rfl).2, rfl⟩)
  case putfield => exact fin h (fun f hf => by obtain ⟨v, i, r, n, M', -, -, hp, rfl⟩ := am_put_spec hf; exact ⟨(same (am_pv_1 hp)).1, (same (am_pv_1 hp)).2, rfl⟩)
  case arraylength => exact fin h (fun f hf => by rcases am_alen_spec hf with ⟨i, r, q, -, -, -, rfl⟩ | ⟨z, r, -, rfl⟩ <;> exact ⟨(same rfl).1, (same rfl).2, rfl⟩)
  case iaload => exact fin h (fun f hf => by rcases am_iald_spec hf with ⟨i, j, r, n, -, -, -, rfl⟩ | ⟨j, z, r, -, -, rfl⟩ <;> exact ⟨(same rfl).1, (same rfl).2, rfl⟩)
  case laload => exact fin h (fun f hf => by obtain ⟨i, j, r, n, -, -, -, rfl⟩ := am_lald_spec hf; exact ⟨(same rfl).1, (same rfl).2, rfl⟩)
  case aaload => exact fin h (fun f hf => by obtain ⟨i, j, r, n, kd, -, -, -, -, -, rfl⟩ := am_aald_spec hf; exact ⟨(same rfl).1, (same rfl).2, rfl⟩)
  case iastore => exact fin h (fun f hf => by obtain ⟨i, j, x, r, n, -, -, -, rfl⟩ := am_iast_spec hf; exact ⟨(same rfl).1, (same rfl).2, rfl⟩)
  case lastore => exact fin h (fun f hf => by obtain ⟨i, j, x, r, n, -, -, -, rfl⟩ := am_last_spec hf; exact ⟨(same rfl).1, (same rfl).2, rfl⟩)
  case aastore => exact fin h (fun f hf => by obtain ⟨i, j, v, r, n, kd, kv, nv, q, -, -, -, -, -, -, -, -, rfl⟩ := am_aast_spec hf; exact ⟨(same rfl).1, (same rfl).2, rfl⟩)
  case new => exact fin h (fun f hf => by obtain ⟨q, -, -, rfl⟩ := am_mkO_spec hf; have hn := am_new_c M a q.2.2; dsimp only; exact ⟨by omega, by omega, rfl⟩)
  case newarray ty =>
    cases ty
    case int => exact fin h (fun f hf => by obtain ⟨n, r, -, -, -, rfl⟩ := am_mkA_spec hf; have hn := am_new_c M 0 n.toNatClampNeg; dsimp only; exact ⟨by omega, by omega, rfl⟩)
    case long => exact fin h (fun f hf => by obtain ⟨n, r, -, -, -, rfl⟩ := am_mkA_spec hf; have hn := am_new_c M 1 n.toNatClampNeg; dsimp only; exact ⟨by omega, by omega, rfl⟩)
    all_goals exact absurd h.symm (Option.some_ne_none _)
  case anewarray => exact fin h (fun f hf => by obtain ⟨n, r, -, -, -, rfl⟩ := am_mkA_spec hf; have hn := am_new_c M a n.toNatClampNeg; dsimp only; exact ⟨by omega, by omega, rfl⟩)
  case invokestatic =>
    simp only [am_mem] at h
    split at h
    · exact fin h (fun f hf => by obtain ⟨n, dp, i2, sp, i1, r, n1, n2, -, -, -, -, -, -, -, -, -, rfl⟩ := am_acp_spec hf; exact ⟨(same rfl).1, (same rfl).2, rfl⟩)
    · obtain ⟨as, r, -, -, e⟩ := am_calS_spec h
      exact call e
  case invokevirtual =>
    obtain ⟨as, i, r, t', -, -, -, -, -, e⟩ := am_calV_spec h
    exact call e
  case invokespecial =>
    simp only [am_mem] at h
    split at h
    · exact fin h (fun f hf => by obtain ⟨i, r, -, -, rfl⟩ := am_pop_spec hf; exact ⟨(same rfl).1, (same rfl).2, rfl⟩)
    · obtain ⟨as, i, r, t', -, -, -, -, -, e⟩ := am_calV_spec h
      exact call e
  case ireturn =>
    obtain ⟨z, -, -, e⟩ := am_retI_spec h
    exact retn e
  case lreturn =>
    obtain ⟨z, -, -, e⟩ := am_retL_spec h
    exact retn e
  case areturn =>
    obtain ⟨-, ⟨z, -, e⟩ | ⟨-, e⟩⟩ := am_retA_spec h
    · exact retn e
    · exact retn e
  case return_ =>
    obtain ⟨-, -, e⟩ := am_retV_spec h
    exact retn e
  all_goals exact absurd h.symm (Option.some_ne_none _)
theorem am_pure_len {ins : Instr} {pc nx a : Nat} {la st : List Value} {q : am_P} (h : am_pure ins pc nx a la st = some q) : q.2.1.length = la.length := by
  cases ins
  case iload => obtain ⟨x, h1, rfl⟩ := am_ldI_spec h; rfl
  case iload_n => obtain ⟨x, h1, rfl⟩ := am_ldI_spec h; rfl
  case lload => obtain ⟨x, h1, rfl⟩ := am_ldL_spec h; rfl
  case lload_n => obtain ⟨x, h1, rfl⟩ := am_ldL_spec h; rfl
  case aload => obtain ⟨x, h1, h2, rfl⟩ := am_ldA_spec h; rfl
  case aload_n => obtain ⟨x, h1, h2, rfl⟩ := am_ldA_spec h; rfl
  case istore => obtain ⟨x, r, -, -, rfl⟩ := am_stI_spec h; exact am_s1_len _ _ _
  case istore_n => obtain ⟨x, r, -, -, rfl⟩ := am_stI_spec h; exact am_s1_len _ _ _
  case lstore => obtain ⟨x, r, -, -, rfl⟩ := am_stL_spec h; exact (am_s1_len _ _ _).trans (am_s1_len _ _ _)
  case lstore_n => obtain ⟨x, r, -, -, rfl⟩ := am_stL_spec h; exact (am_s1_len _ _ _).trans (am_s1_len _ _ _)
  case astore => obtain ⟨x, r, -, -, -, rfl⟩ := am_stA_spec h; exact am_s1_len _ _ _
  case astore_n => obtain ⟨x, r, -, -, -, rfl⟩ := am_stA_spec h; exact am_s1_len _ _ _
  case iinc => obtain ⟨x, -, rfl⟩ := am_inc_spec h; exact am_s1_len _ _ _
  case iadd => obtain ⟨x, y, r, -, rfl⟩ := am_bI_spec h; rfl
  case isub => obtain ⟨x, y, r, -, rfl⟩ := am_bI_spec h; rfl
  case imul => obtain ⟨x, y, r, -, rfl⟩ := am_bI_spec h; rfl
  case iand => obtain ⟨x, y, r, -, rfl⟩ := am_bI_spec h; rfl
  case ior => obtain ⟨x, y, r, -, rfl⟩ := am_bI_spec h; rfl
  case ixor => obtain ⟨x, y, r, -, rfl⟩ := am_bI_spec h; rfl
  case ishl => obtain ⟨x, y, r, -, rfl⟩ := am_bI_spec h; rfl
  case ishr => obtain ⟨x, y, r, -, rfl⟩ := am_bI_spec h; rfl
  case idiv => obtain ⟨x, y, r, -, -, rfl⟩ := am_dI_spec h; rfl
  case irem => obtain ⟨x, y, r, -, -, rfl⟩ := am_dI_spec h; rfl
  case ladd => obtain ⟨x, y, r, -, rfl⟩ := am_bL_spec h; rfl
  case lsub => obtain ⟨x, y, r, -, rfl⟩ := am_bL_spec h; rfl
  case lmul => obtain ⟨x, y, r, -, rfl⟩ := am_bL_spec h; rfl
  case lxor => obtain ⟨x, y, r, -, rfl⟩ := am_bL_spec h; rfl
  case ldiv => obtain ⟨x, y, r, -, -, rfl⟩ := am_dL_spec h; rfl
  case lrem => obtain ⟨x, y, r, -, -, rfl⟩ := am_dL_spec h; rfl
  case lneg => obtain ⟨x, r, -, rfl⟩ := am_uL_spec h; rfl
  case i2l => obtain ⟨x, r, -, rfl⟩ := am_i2l_spec h; rfl
  case lcmp => obtain ⟨x, y, r, -, rfl⟩ := am_cmp_spec h; rfl
  case dup => obtain ⟨v, r, -, -, rfl⟩ := am_dup_spec h; rfl
  case dup2 => obtain ⟨v, w, r, -, -, -, rfl⟩ := am_dup2_spec h; rfl
  case ifCond => obtain ⟨x, r, -, rfl⟩ := am_if0_spec h; rfl
  case if_icmp => obtain ⟨x, y, r, -, rfl⟩ := am_if2_spec h; rfl
  case ifnull => rcases am_nul_spec h with ⟨r, -, rfl⟩ | ⟨i, r, -, rfl⟩ <;> rfl
  case ifnonnull => rcases am_nnul_spec h with ⟨r, -, rfl⟩ | ⟨i, r, -, rfl⟩ <;> rfl
  case tableswitch =>
    simp only [am_pure, am_tsw] at h
    split at h
    · split at h
      · split at h
        · cases h; rfl
        · cases h
      · split at h
        · split at h
          · cases h; rfl
          · cases h
        · cases h
    · cases h
  case lookupswitch =>
    simp only [am_pure, am_lsw] at h
    split at h
    · split at h
      · cases h; rfl
      · cases h
    · cases h
  all_goals first | exact absurd h.symm (Option.some_ne_none _) | (cases h; rfl)
theorem am_step_cases {S : am_S} {t : am_T} {fr : am_F} {x : am_R} (h : am_step S t fr = some x) : ∃ ins nx a bb hh, (fr.2.1, ins, nx, a, bb, hh) ∈ t.2.2.2.2.2 ∧ ((∃ q, am_pure ins fr.2.1 nx a fr.2.2.1 fr.2.2.2 = some q ∧ x = .inl (fr.1, q)) ∨ am_mem S t ins nx a bb fr.1 fr.2.2.1 fr.2.2.2 = some x) := by
  unfold am_step at h
  cases hl : t.2.2.2.2.2.lookup fr.2.1 with
  | none => rw [hl] at h; cases h
  | some e =>
    rw [hl] at h
    obtain ⟨ins, nx, a, bb, hh⟩ := e
    refine ⟨ins, nx, a, bb, hh, am_look _ _ _ hl, ?_⟩
    dsimp only at h
    cases hp : am_pure ins fr.2.1 nx a fr.2.2.1 fr.2.2.2 with
    | none => rw [hp] at h; exact Or.inr h
    | some q => rw [hp] at h; exact Or.inl ⟨q, rfl, (Option.some.inj h).symm⟩
theorem am_mono {S : am_S} : ∀ (f d : Nat) (t : am_T) (fr : am_F) (r : Option Value × am_M), am_run S f d t fr = some r → am_c fr.1 ≤ am_c r.2 ∧ am_z fr.1 ≤ am_z r.2
  | 0, d, t, fr, r, h => by cases h
  | f + 1, d, t, fr, r, h => by
    unfold am_run at h
    cases hs : am_step S t fr with
    | none => rw [hs] at h; cases h
    | some x =>
      rw [hs] at h
      obtain ⟨ins, nx, a, bb, hh, -, hc⟩ := am_step_cases hs
      match x, h, hc with
      | .inl fr', h, hc =>
        have ih := am_mono f d t fr' r h
        rcases hc with ⟨q, -, e⟩ | hm
        · have e := Sum.inl.inj e
          subst e
          exact ih
        · have hk := (am_mem_mono hm).1 fr' rfl
          exact ⟨Nat.le_trans hk.1 ih.1, Nat.le_trans hk.2.1 ih.2⟩
      | .inr (.inl r'), h, hc =>
        rcases hc with ⟨q, -, e⟩ | hm
        · cases e
        · have hk := (am_mem_mono hm).2.1 r' rfl
          have h := Option.some.inj h
          subst h
          rw [hk]
          exact ⟨Nat.le_refl _, Nat.le_refl _⟩
      | .inr (.inr (j, as, fr')), h, hc =>
        rcases hc with ⟨q, -, e⟩ | hm
        · cases e
        · have hk := ((am_mem_mono hm).2.2 _ rfl).1
          dsimp only at h hk
          cases d with
          | zero => cases h
          | succ d' =>
            cases hmt : am_mt[j]? with
            | none => rw [hmt] at h; cases h
            | some t' =>
              rw [hmt] at h
              dsimp only at h
              split at h
              · cases hr : am_run S f d' t' (am_ent t' fr'.1 as) with
                | none => rw [hr] at h; cases h
                | some vm =>
                  obtain ⟨v, M2⟩ := vm
                  rw [hr] at h
                  have i1 := am_mono f d' t' _ _ hr
                  have i2 := am_mono f (d' + 1) t _ _ h
                  have e : (am_ent t' fr'.1 as).1 = fr'.1 := rfl
                  rw [e, hk] at i1
                  exact ⟨Nat.le_trans i1.1 i2.1, Nat.le_trans i1.2 i2.2⟩
              · cases h
