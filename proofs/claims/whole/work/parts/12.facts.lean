/-! ===== what the tables say of the classes ===== -/
theorem am_u0 : ∀ w ∈ u_ws RX0 TX0 5, w ∈ am_Ts := by decide +kernel
theorem am_u1 : ∀ w ∈ u_ws RX1 TX1 2, w ∈ am_Ts := by decide +kernel
theorem am_u2 : ∀ w ∈ u_ws RX2 TX2 3, w ∈ am_Ts := by decide +kernel
theorem am_u3 : ∀ w ∈ u_ws RX3 TX3 4, w ∈ am_Ts := by decide +kernel
theorem am_u4 : ∀ w ∈ u_ws RX4 TX4 8, w ∈ am_Ts := by decide +kernel
theorem am_u5 : ∀ w ∈ u_ws RX5 TX5 2, w ∈ am_Ts := by decide +kernel
theorem am_u6 : ∀ w ∈ u_ws RX6 TX6 14, w ∈ am_Ts := by decide +kernel
theorem am_u7 : ∀ w ∈ u_ws RX7 TX7 29, w ∈ am_Ts := by decide +kernel
theorem am_hin {ci : Nat} {q : vw_C} (h : vwCl[ci]? = some q) : ∀ w ∈ u_ws q.1 q.2.1 q.2.2, w ∈ am_Ts := by
  match ci, h with
  | 0, h => cases h; exact am_u0
  | 1, h => cases h; exact am_u1
  | 2, h => cases h; exact am_u2
  | 3, h => cases h; exact am_u3
  | 4, h => cases h; exact am_u4
  | 5, h => cases h; exact am_u5
  | 6, h => cases h; exact am_u6
  | 7, h => cases h; exact am_u7
  | k + 8, h => simp [vwCl] at h
theorem am_hty {ci : Nat} {q : vw_C} (h : vwCl[ci]? = some q) : ∀ k, k < q.2.2 → parseFieldDescriptor (q.2.1 k).2.2.1 = some (am_ty ci k) := by
  match ci, h with
  | 0, h => cases h; exact tyX0_ok
  | 1, h => cases h; exact tyX1_ok
  | 2, h => cases h; exact tyX2_ok
  | 3, h => cases h; exact tyX3_ok
  | 4, h => cases h; exact tyX4_ok
  | 5, h => cases h; exact tyX5_ok
  | 6, h => cases h; exact tyX6_ok
  | 7, h => cases h; exact tyX7_ok
  | k + 8, h => simp [vwCl] at h
theorem am_hnm {ci : Nat} {q : vw_C} (h : vwCl[ci]? = some q) : ∀ a, a < q.2.2 → ∀ b, b < q.2.2 → a ≠ b → (q.2.1 a).2.1 ≠ (q.2.1 b).2.1 := by
  match ci, h with
  | 0, h => cases h; exact nmX0
  | 1, h => cases h; exact nmX1
  | 2, h => cases h; exact nmX2
  | 3, h => cases h; exact nmX3
  | 4, h => cases h; exact nmX4
  | 5, h => cases h; exact nmX5
  | 6, h => cases h; exact nmX6
  | 7, h => cases h; exact nmX7
  | k + 8, h => simp [vwCl] at h
theorem am_kinds : vwCl.zipIdx.all (fun q => (List.range q.1.2.2).all (fun k => decide (am_fk q.2 k ≠ 9))) = true := by decide +kernel
theorem am_made : vwCl.all (fun q => decide (Cond.instantiable q.1 q.2.2 ∈ am_Ts) && decide (Cond.initialized q.1 ∈ am_Ts)) = true := by decide +kernel
theorem am_w0 : Cond.arrayClass .int ∈ am_Ts ∧ Cond.arrayClass .long ∈ am_Ts ∧ Cond.native arraycopyName ∈ am_Ts ∧ Cond.static arraycopyName ∈ am_Ts ∧ Cond.initialized "java/lang/System" ∈ am_Ts ∧ Cond.instanceMethod objectInit ∈ am_Ts ∧ Cond.code objectInit ⟨#[0xb1]⟩ 1 none ∈ am_Ts := by decide +kernel
theorem am_kind {ci k : Nat} {q : vw_C} (h : vwCl[ci]? = some q) (hk : k < q.2.2) : am_fk ci k ≠ 9 := by
  have h1 := List.all_eq_true.mp am_kinds (q, ci) (List.mem_of_getElem? (i := ci) (by rw [List.getElem?_zipIdx, h]; simp))
  exact of_decide_eq_true (List.all_eq_true.mp h1 k (List.mem_range.mpr hk))
theorem am_dflt {c k : Nat} (h : am_fk c k ≠ 9) (h0 : Nat) : (if am_fk c k = 1 then Value.long 0 else if am_fk c k = 2 then va_rf ((none : Option Nat).map (fun j => h0 + j)) else .int 0) = defaultValue (am_ty c k) := by
  unfold am_fk at h ⊢
  cases hty : am_ty c k <;> rw [hty] at h <;> first | rfl | exact absurd rfl h
theorem am_pv_spec {M M' : am_M} {i c k h0 b : Nat} {v : Value} (h : am_pv M i c k v = some M') : M'.1 = M.1 ∧ (∀ j, j ≠ i → M'.2.1 j = M.2.1 j) ∧ (∀ j, j ≠ i → M'.2.2.1 j = M.2.2.1 j) ∧ (∀ j, j ≠ i → M'.2.2.2 j = M.2.2.2 j) ∧ (∀ j, updV (am_cv h0 M i c) k (am_tv h0 b v) j = am_cv h0 M' i c j) ∧ narrow (am_ty c k) (am_tv h0 b v) = am_tv h0 b v ∧ fits (am_ty c k) (am_tv h0 b v) = true := by
  have e0 : am_fk c k = 0 → am_ty c k = .int := fun hh => by
    unfold am_fk at hh
    cases hty : am_ty c k <;> rw [hty] at hh <;> first | rfl | cases hh
  have e3 : am_fk c k = 3 → am_ty c k = .boolean := fun hh => by
    unfold am_fk at hh
    cases hty : am_ty c k <;> rw [hty] at hh <;> first | rfl | cases hh
  have e1 : am_fk c k = 1 → am_ty c k = .long := fun hh => by
    unfold am_fk at hh
    cases hty : am_ty c k <;> rw [hty] at hh <;> first | rfl | cases hh
  have e2 : am_fk c k = 2 → (∃ n, am_ty c k = .object n) ∨ ∃ n, am_ty c k = .array n := fun hh => by
    unfold am_fk at hh
    cases hty : am_ty c k <;> rw [hty] at hh <;> first | exact Or.inl ⟨_, rfl⟩ | exact Or.inr ⟨_, rfl⟩ | cases hh
  cases v with
  | int x =>
    simp only [am_pv] at h
    split at h
    · next hk =>
      have h := Option.some.inj h
      subst h
      refine ⟨rfl, fun j hj => va_up_ne _ _ hj, fun _ _ => rfl, fun _ _ => rfl, fun j => ?_, ?_, ?_⟩
      · by_cases ej : j = k
        · subst ej
          rcases hk with hk | ⟨hk, -⟩ <;> simp [updV, am_cv, hk, am_tv, am_u, va_up]
        · simp [updV, am_cv, ej, am_u, va_up]
      · rcases hk with hk | ⟨hk, hv⟩
        · rw [e0 hk]; rfl
        · rw [e3 hk]
          show narrow .boolean (.int x) = .int x
          rcases hv with rfl | rfl <;> decide
      · rcases hk with hk | ⟨hk, hv⟩
        · rw [e0 hk]; rfl
        · rw [e3 hk]
          show fits .boolean (.int x) = true
          rcases hv with rfl | rfl <;> decide
    · cases h
  | long x =>
    simp only [am_pv] at h
    split at h
    · next hk =>
      have h := Option.some.inj h
      subst h
      refine ⟨rfl, fun _ _ => rfl, fun j hj => va_up_ne _ _ hj, fun _ _ => rfl, fun j => ?_, ?_, ?_⟩
      · by_cases ej : j = k
        · subst ej
          simp [updV, am_cv, hk, am_tv, am_u, va_up]
        · simp [updV, am_cv, ej, am_u, va_up]
      · rw [e1 hk]; rfl
      · rw [e1 hk]; rfl
    · cases h
  | ref z =>
    simp only [am_pv] at h
    split at h
    · next hk =>
      have h := Option.some.inj h
      subst h
      refine ⟨rfl, fun _ _ => rfl, fun _ _ => rfl, fun j hj => va_up_ne _ _ hj, fun j => ?_, ?_, ?_⟩
      · by_cases ej : j = k
        · subst ej
          simp [updV, am_cv, hk, am_tv, am_u, va_up, va_rf]
        · simp [updV, am_cv, ej, am_u, va_up]
      · rcases e2 hk with ⟨n, hn⟩ | ⟨n, hn⟩ <;> rw [hn] <;> rfl
      · rcases e2 hk with ⟨n, hn⟩ | ⟨n, hn⟩ <;> rw [hn] <;> rfl
    · cases h
  | null =>
    simp only [am_pv] at h
    split at h
    · next hk =>
      have h := Option.some.inj h
      subst h
      refine ⟨rfl, fun _ _ => rfl, fun _ _ => rfl, fun j hj => va_up_ne _ _ hj, fun j => ?_, ?_, ?_⟩
      · by_cases ej : j = k
        · subst ej
          simp [updV, am_cv, hk, am_tv, am_u, va_up, va_rf]
        · simp [updV, am_cv, ej, am_u, va_up]
      · rcases e2 hk with ⟨n, hn⟩ | ⟨n, hn⟩ <;> rw [hn] <;> rfl
      · rcases e2 hk with ⟨n, hn⟩ | ⟨n, hn⟩ <;> rw [hn] <;> rfl
    · cases h
  | _ => cases h
