/-! ===== leads, share ===== -/
theorem rest_cases (x : Int32) {m : Nat} (hm : m ≤ 3) : (∃ a, a < m ∧ x = nI a) ∨ (x.toInt < 0 ∨ (m : Int) ≤ x.toInt) := by
  rcases int_cases x m (by omega) with ⟨a, ha, rfl⟩ | q
  · by_cases e : a < m
    · exact Or.inl ⟨a, e, rfl⟩
    · rw [nI_toInt (by omega)]; exact Or.inr (Or.inr (by omega))
  · omega
theorem Gm.now {m B T f x : Nat} {w : Nat → Nat → Nat} (h : Gm m B T w) (hf : f < m) (hx : x < m) : 0 ≤ nowZ m B w f T x ∧ nowZ m B w f T x ≤ 20736 := by
  obtain ⟨b1, b2, b3, b4, b5⟩ := h.pb
  obtain ⟨h1, h3, h5, h4⟩ := h
  have a := now_le (b := B) (w := w) (t := T) h1 h3 hf hx (fun s hs i hi => h4 s i hs hi)
  exact ⟨now_nn T x, by omega⟩
theorem Gm.wt {m B T r : Nat} {w : Nat → Nat → Nat} (h : Gm m B T w) (hr : r < m) : 0 ≤ wtZ m (fun f => nowZ m B w f T) r ∧ wtZ m (fun f => nowZ m B w f T) r ≤ 429981696 := by
  obtain ⟨b1, b2, b3, b4, b5⟩ := h.pb
  obtain ⟨h1, h3, h5, h4⟩ := h
  have p1 := pw_pos b1 T
  have p2 := pw_le b1 (Nat.le_refl T) b5
  have a := wt_le (q := fun f => nowZ m B w f T) h1 h3 hr p1 (fun f x _ _ => now_nn T x) (fun f hf => sm_now h1 h3 hf T (fun s hs i hi => h4 s i hs hi))
  have s2 : pw B T * pw B T ≤ 429981696 := by
    have := Int.mul_le_mul p2 p2 (by omega) (by omega)
    omega
  omega
section LDS
variable {S : am_S} {mI : Nat → Nat → Int32} {mL mL0 : Nat → Nat → Int64} {n : Nat}
theorem pr_leads (x y z : Int32) (hR : Rel n mI mL) : Pair S tT_leads tM_leads [.int x, .int y, .int z] n mI mL := by
  have hR0 := hR
  obtain ⟨h8, ⟨m, hm1, hm3, hmT, hmM⟩, hcT, hcM, hpl, hro, hfi, hfs, hu, hl, hch⟩ := hR
  rcases row_cases x with ⟨r, hr, rfl⟩ | hx
  · rcases rest_cases y hm3 with ⟨f, hf, rfl⟩ | hy
    · rcases rest_cases z hm3 with ⟨g, hg, rfl⟩ | hz
      · obtain ⟨⟨s1, s2⟩ | ⟨s, hs4, s1, s2⟩, hpc⟩ := hro r hr
        · refine Pair.refuse (h1 := 4) (h2 := 4) (f := 1) hR0 (by decide) ?_ ?_
          · show Go _ _ tT_leads (_, 0, [.ref 0, .int (nI r), .int (nI f), .int (nI g), am_U, am_U, am_U], []) _
            refine go_aloadn_0 iT_leads_0 rfl ?_
            refine go_iloadn_1 iT_leads_1 ?_
            refine gc_V1 iT_leads_2 rfl (by decide) (sk_0 _) rfl (Nat.le_of_ble_eq_true rfl) (Nat.le_of_ble_eq_true rfl) (by decide) (sp_T_rowAt_t hr) ?_
            refine go_astore_4 iT_leads_5 rfl (by simp [Value.category, am_U]) ?_
            refine go_aload_4 iT_leads_7 rfl ?_
            refine go_nulR iT_leads_9 ?_
            refine go_aloadn_0 iT_leads_12 rfl ?_
            refine go_iloadn_2 iT_leads_13 ?_
            refine gc_V1 iT_leads_14 rfl (by decide) (sk_0 _) rfl (Nat.le_of_ble_eq_true rfl) (Nat.le_of_ble_eq_true rfl) (by decide) (sp_T_isRest_t hmT hm3 hf) ?_
            refine go_if_eq iT_leads_17 (fun c_17 => ?_) (fun c_17 => ?_)
            · (first | omega | exact absurd c_17 (by decide) | (exfalso; simp (disch := omega) only [Int32.lt_iff_toInt_lt, Int32.le_iff_toInt_le, ← Int32.toInt_inj, nI_toInt, i32_m1, i32_0, i32_m20, i32_m40, i32_m30, i32_m9] at *; omega))
            refine go_aloadn_0 iT_leads_20 rfl ?_
            refine go_iloadn_3 iT_leads_21 ?_
            refine gc_V1 iT_leads_22 rfl (by decide) (sk_0 _) rfl (Nat.le_of_ble_eq_true rfl) (Nat.le_of_ble_eq_true rfl) (by decide) (sp_T_isRest_t hmT hm3 hg) ?_
            refine go_if_ne iT_leads_25 (fun c_25 => ?_) (fun c_25 => ?_)
            rotate_left
            · (first | omega | exact absurd c_25 (by decide) | (exfalso; simp (disch := omega) only [Int32.lt_iff_toInt_lt, Int32.le_iff_toInt_le, ← Int32.toInt_inj, nI_toInt, i32_m1, i32_0, i32_m20, i32_m40, i32_m30, i32_m9] at *; omega))
            refine go_aloadn_0 iT_leads_30 rfl ?_
            refine go_aload_4 iT_leads_31 rfl ?_
            refine gc_V1 iT_leads_33 rfl (by decide) (sk_0 _) rfl (Nat.le_of_ble_eq_true rfl) (Nat.le_of_ble_eq_true rfl) (by decide) (sp_T_refusal_m hr s1) ?_
            refine go_istore_5 iT_leads_36 (by simp [Value.category, am_U]) ?_
            refine go_iload_5 iT_leads_38 ?_
            refine go_if_eq iT_leads_40 (fun c_40 => ?_) (fun c_40 => ?_)
            · (first | omega | exact absurd c_40 (by decide) | (exfalso; simp (disch := omega) only [Int32.lt_iff_toInt_lt, Int32.le_iff_toInt_le, ← Int32.toInt_inj, nI_toInt, i32_m1, i32_0, i32_m20, i32_m40, i32_m30, i32_m9] at *; omega))
            refine go_iload_5 iT_leads_43 ?_
            refine go_iret iT_leads_45 rfl ?_
            rfl
          · have hq : ∀ a, 42 < a → rfI mI 1 a = mI a := fun a ha => rfI_r (by omega) (by omega)
            have hmM2 : rfI mI 1 43 4 = nI m := by rw [hq 43 (by omega)]; exact hmM
            show Go _ _ tM_leads (_, 0, [.ref 43, .int (nI r), .int (nI f), .int (nI g), am_U], []) _
            refine go_iloadn_2 iM_leads_0 ?_
            refine go_iconst (v := nI 0) iM_leads_1 rfl ?_
            refine go_aloadn_0 iM_leads_2 rfl ?_
            refine go_getI iM_leads_3 (Or.inl rfl) (sk_43 _) ?_
            try simp (disch := omega) only [am_u_n, am_u_s, am_u_k, hmM2]
            refine go_iconst (v := nI 1) iM_leads_6 rfl ?_
            first | refine gn_isub iM_leads_7 (by omega) ?_ | refine go_isub iM_leads_7 ?_
            refine gc_S1 iM_leads_8 (by decide) rfl rfl (Nat.le_of_ble_eq_true rfl) (Nat.le_of_ble_eq_true rfl) (by decide) (sp_M_in_t (by simp (disch := omega) only [nI_toInt]; omega) (by simp (disch := omega) only [nI_toInt]; omega)) ?_
            refine go_if_eq iM_leads_11 (fun c_11 => ?_) (fun c_11 => ?_)
            · (first | omega | exact absurd c_11 (by decide) | (exfalso; simp (disch := omega) only [Int32.lt_iff_toInt_lt, Int32.le_iff_toInt_le, ← Int32.toInt_inj, nI_toInt, i32_m1, i32_0, i32_m20, i32_m40, i32_m30, i32_m9] at *; omega))
            refine go_iloadn_3 iM_leads_14 ?_
            refine go_iconst (v := nI 0) iM_leads_15 rfl ?_
            refine go_aloadn_0 iM_leads_16 rfl ?_
            refine go_getI iM_leads_17 (Or.inl rfl) (sk_43 _) ?_
            try simp (disch := omega) only [am_u_n, am_u_s, am_u_k, hmM2]
            refine go_iconst (v := nI 1) iM_leads_20 rfl ?_
            first | refine gn_isub iM_leads_21 (by omega) ?_ | refine go_isub iM_leads_21 ?_
            refine gc_S1 iM_leads_22 (by decide) rfl rfl (Nat.le_of_ble_eq_true rfl) (Nat.le_of_ble_eq_true rfl) (by decide) (sp_M_in_t (by simp (disch := omega) only [nI_toInt]; omega) (by simp (disch := omega) only [nI_toInt]; omega)) ?_
            refine go_if_ne iM_leads_25 (fun c_25 => ?_) (fun c_25 => ?_)
            rotate_left
            · (first | omega | exact absurd c_25 (by decide) | (exfalso; simp (disch := omega) only [Int32.lt_iff_toInt_lt, Int32.le_iff_toInt_le, ← Int32.toInt_inj, nI_toInt, i32_m1, i32_0, i32_m20, i32_m40, i32_m30, i32_m9] at *; omega))
            refine go_aloadn_0 iM_leads_30 rfl ?_
            refine go_iloadn_1 iM_leads_31 ?_
            refine gc_V1 iM_leads_32 rfl (by decide) (sk_43 _) rfl (Nat.le_of_ble_eq_true rfl) (Nat.le_of_ble_eq_true rfl) (by decide) (sp_M_asked_m hr (by rw [hq 47 (by omega)]; exact s2)) ?_
            refine go_istore_4 iM_leads_35 (by simp [Value.category, am_U]) ?_
            refine go_iload_4 iM_leads_37 ?_
            refine go_if_ge iM_leads_39 (fun c_39 => ?_) (fun c_39 => ?_)
            · (first | omega | exact absurd c_39 (by decide) | (exfalso; simp (disch := omega) only [Int32.lt_iff_toInt_lt, Int32.le_iff_toInt_le, ← Int32.toInt_inj, nI_toInt, i32_m1, i32_0, i32_m20, i32_m40, i32_m30, i32_m9] at *; omega))
            refine go_iload_4 iM_leads_42 ?_
            refine go_iret iM_leads_44 rfl ?_
            rfl
        · have hcg := ftN_congr (mI := mI) (n := n) (s := s) (g := mI (16 + 2 * r)) (g' := fun j => mI 48 (4 * r + j)) (fun j hj => hpc j (by omega))
          rcases ftN_01 (mI := mI) (n := n) (s := s) (g := fun j => mI 48 (4 * r + j)) with hft | hft
          · refine Pair.refuse (h1 := 4) (h2 := 4) (f := 3) hR0 (by decide) ?_ ?_
            · show Go _ _ tT_leads (_, 0, [.ref 0, .int (nI r), .int (nI f), .int (nI g), am_U, am_U, am_U], []) _
              refine go_aloadn_0 iT_leads_0 rfl ?_
              refine go_iloadn_1 iT_leads_1 ?_
              refine gc_V1 iT_leads_2 rfl (by decide) (sk_0 _) rfl (Nat.le_of_ble_eq_true rfl) (Nat.le_of_ble_eq_true rfl) (by decide) (sp_T_rowAt_t hr) ?_
              refine go_astore_4 iT_leads_5 rfl (by simp [Value.category, am_U]) ?_
              refine go_aload_4 iT_leads_7 rfl ?_
              refine go_nulR iT_leads_9 ?_
              refine go_aloadn_0 iT_leads_12 rfl ?_
              refine go_iloadn_2 iT_leads_13 ?_
              refine gc_V1 iT_leads_14 rfl (by decide) (sk_0 _) rfl (Nat.le_of_ble_eq_true rfl) (Nat.le_of_ble_eq_true rfl) (by decide) (sp_T_isRest_t hmT hm3 hf) ?_
              refine go_if_eq iT_leads_17 (fun c_17 => ?_) (fun c_17 => ?_)
              · (first | omega | exact absurd c_17 (by decide) | (exfalso; simp (disch := omega) only [Int32.lt_iff_toInt_lt, Int32.le_iff_toInt_le, ← Int32.toInt_inj, nI_toInt, i32_m1, i32_0, i32_m20, i32_m40, i32_m30, i32_m9] at *; omega))
              refine go_aloadn_0 iT_leads_20 rfl ?_
              refine go_iloadn_3 iT_leads_21 ?_
              refine gc_V1 iT_leads_22 rfl (by decide) (sk_0 _) rfl (Nat.le_of_ble_eq_true rfl) (Nat.le_of_ble_eq_true rfl) (by decide) (sp_T_isRest_t hmT hm3 hg) ?_
              refine go_if_ne iT_leads_25 (fun c_25 => ?_) (fun c_25 => ?_)
              rotate_left
              · (first | omega | exact absurd c_25 (by decide) | (exfalso; simp (disch := omega) only [Int32.lt_iff_toInt_lt, Int32.le_iff_toInt_le, ← Int32.toInt_inj, nI_toInt, i32_m1, i32_0, i32_m20, i32_m40, i32_m30, i32_m9] at *; omega))
              refine go_aloadn_0 iT_leads_30 rfl ?_
              refine go_aload_4 iT_leads_31 rfl ?_
              refine gc_V1 iT_leads_33 rfl (by decide) (sk_0 _) rfl (Nat.le_of_ble_eq_true rfl) (Nat.le_of_ble_eq_true rfl) (by decide) (sp_T_refusal_u hr s1 hs4 h8 hcT hpl (hcg.trans hft)) ?_
              refine go_istore_5 iT_leads_36 (by simp [Value.category, am_U]) ?_
              refine go_iload_5 iT_leads_38 ?_
              refine go_if_eq iT_leads_40 (fun c_40 => ?_) (fun c_40 => ?_)
              · (first | omega | exact absurd c_40 (by decide) | (exfalso; simp (disch := omega) only [Int32.lt_iff_toInt_lt, Int32.le_iff_toInt_le, ← Int32.toInt_inj, nI_toInt, i32_m1, i32_0, i32_m20, i32_m40, i32_m30, i32_m9] at *; omega))
              refine go_iload_5 iT_leads_43 ?_
              refine go_iret iT_leads_45 rfl ?_
              rfl
            · have hq : ∀ a, 42 < a → rfI mI 3 a = mI a := fun a ha => rfI_r (by omega) (by omega)
              have hmM2 : rfI mI 3 43 4 = nI m := by rw [hq 43 (by omega)]; exact hmM
              show Go _ _ tM_leads (_, 0, [.ref 43, .int (nI r), .int (nI f), .int (nI g), am_U], []) _
              refine go_iloadn_2 iM_leads_0 ?_
              refine go_iconst (v := nI 0) iM_leads_1 rfl ?_
              refine go_aloadn_0 iM_leads_2 rfl ?_
              refine go_getI iM_leads_3 (Or.inl rfl) (sk_43 _) ?_
              try simp (disch := omega) only [am_u_n, am_u_s, am_u_k, hmM2]
              refine go_iconst (v := nI 1) iM_leads_6 rfl ?_
              first | refine gn_isub iM_leads_7 (by omega) ?_ | refine go_isub iM_leads_7 ?_
              refine gc_S1 iM_leads_8 (by decide) rfl rfl (Nat.le_of_ble_eq_true rfl) (Nat.le_of_ble_eq_true rfl) (by decide) (sp_M_in_t (by simp (disch := omega) only [nI_toInt]; omega) (by simp (disch := omega) only [nI_toInt]; omega)) ?_
              refine go_if_eq iM_leads_11 (fun c_11 => ?_) (fun c_11 => ?_)
              · (first | omega | exact absurd c_11 (by decide) | (exfalso; simp (disch := omega) only [Int32.lt_iff_toInt_lt, Int32.le_iff_toInt_le, ← Int32.toInt_inj, nI_toInt, i32_m1, i32_0, i32_m20, i32_m40, i32_m30, i32_m9] at *; omega))
              refine go_iloadn_3 iM_leads_14 ?_
              refine go_iconst (v := nI 0) iM_leads_15 rfl ?_
              refine go_aloadn_0 iM_leads_16 rfl ?_
              refine go_getI iM_leads_17 (Or.inl rfl) (sk_43 _) ?_
              try simp (disch := omega) only [am_u_n, am_u_s, am_u_k, hmM2]
              refine go_iconst (v := nI 1) iM_leads_20 rfl ?_
              first | refine gn_isub iM_leads_21 (by omega) ?_ | refine go_isub iM_leads_21 ?_
              refine gc_S1 iM_leads_22 (by decide) rfl rfl (Nat.le_of_ble_eq_true rfl) (Nat.le_of_ble_eq_true rfl) (by decide) (sp_M_in_t (by simp (disch := omega) only [nI_toInt]; omega) (by simp (disch := omega) only [nI_toInt]; omega)) ?_
              refine go_if_ne iM_leads_25 (fun c_25 => ?_) (fun c_25 => ?_)
              rotate_left
              · (first | omega | exact absurd c_25 (by decide) | (exfalso; simp (disch := omega) only [Int32.lt_iff_toInt_lt, Int32.le_iff_toInt_le, ← Int32.toInt_inj, nI_toInt, i32_m1, i32_0, i32_m20, i32_m40, i32_m30, i32_m9] at *; omega))
              refine go_aloadn_0 iM_leads_30 rfl ?_
              refine go_iloadn_1 iM_leads_31 ?_
              refine gc_V1 iM_leads_32 rfl (by decide) (sk_43 _) rfl (Nat.le_of_ble_eq_true rfl) (Nat.le_of_ble_eq_true rfl) (by decide) (sp_M_asked_u hr (by rw [hq 47 (by omega)]; exact s2) hs4 h8 (by rw [hq 43 (by omega)]; exact hcM) (fun p hp => (hpl p hp).of (hq _ (by omega)) (hq _ (by omega)) (by rw [hq 45 (by omega)]) (fun j _ => by rw [hq 46 (by omega)])) ((ftN_fr hq).trans hft)) ?_
              refine go_istore_4 iM_leads_35 (by simp [Value.category, am_U]) ?_
              refine go_iload_4 iM_leads_37 ?_
              refine go_if_ge iM_leads_39 (fun c_39 => ?_) (fun c_39 => ?_)
              · (first | omega | exact absurd c_39 (by decide) | (exfalso; simp (disch := omega) only [Int32.lt_iff_toInt_lt, Int32.le_iff_toInt_le, ← Int32.toInt_inj, nI_toInt, i32_m1, i32_0, i32_m20, i32_m40, i32_m30, i32_m9] at *; omega))
              refine go_iload_4 iM_leads_42 ?_
              refine go_iret iM_leads_44 rfl ?_
              rfl
          · obtain ⟨s0, hps⟩ := fit_ps h8 hft
            have hG := Gm_row h8 hm1 hm3 hs4 hpl hft
            obtain ⟨b1, b2, b3, b4, b5⟩ := hG.pb
            obtain ⟨v0, v1⟩ := hG.now hf hg
            have l0 : 0 < 12 ^ s := Nat.pow_pos (by omega)
            refine Pair.ex (h1 := 4) (h2 := 5) (v := .int (nI 1)) (P := fun mI1 mL1 => FrC mI mI1 mL mL1 ∧ mL1 4 0 = zL (fU (nowZ m 12 (wR mI r) f s g) (12 ^ s)) ∧ mL1 4 1 = zL (fL (nowZ m 12 (wR mI r) f s g) (12 ^ s))) ?_ (fun mI1 mL1 hP => ?_)
            · have hsk := sk_rnd n (show s < 5 by omega)
              unfold Ex
              show Go _ _ tT_leads (_, 0, [.ref 0, .int (nI r), .int (nI f), .int (nI g), am_U, am_U, am_U], []) _
              refine go_aloadn_0 iT_leads_0 rfl ?_
              refine go_iloadn_1 iT_leads_1 ?_
              refine gc_V1 iT_leads_2 rfl (by decide) (sk_0 _) rfl (Nat.le_of_ble_eq_true rfl) (Nat.le_of_ble_eq_true rfl) (by decide) (sp_T_rowAt_t hr) ?_
              refine go_astore_4 iT_leads_5 rfl (by simp [Value.category, am_U]) ?_
              refine go_aload_4 iT_leads_7 rfl ?_
              refine go_nulR iT_leads_9 ?_
              refine go_aloadn_0 iT_leads_12 rfl ?_
              refine go_iloadn_2 iT_leads_13 ?_
              refine gc_V1 iT_leads_14 rfl (by decide) (sk_0 _) rfl (Nat.le_of_ble_eq_true rfl) (Nat.le_of_ble_eq_true rfl) (by decide) (sp_T_isRest_t hmT hm3 hf) ?_
              refine go_if_eq iT_leads_17 (fun c_17 => ?_) (fun c_17 => ?_)
              · (first | omega | exact absurd c_17 (by decide) | (exfalso; simp (disch := omega) only [Int32.lt_iff_toInt_lt, Int32.le_iff_toInt_le, ← Int32.toInt_inj, nI_toInt, i32_m1, i32_0, i32_m20, i32_m40, i32_m30, i32_m9] at *; omega))
              refine go_aloadn_0 iT_leads_20 rfl ?_
              refine go_iloadn_3 iT_leads_21 ?_
              refine gc_V1 iT_leads_22 rfl (by decide) (sk_0 _) rfl (Nat.le_of_ble_eq_true rfl) (Nat.le_of_ble_eq_true rfl) (by decide) (sp_T_isRest_t hmT hm3 hg) ?_
              refine go_if_ne iT_leads_25 (fun c_25 => ?_) (fun c_25 => ?_)
              rotate_left
              · (first | omega | exact absurd c_25 (by decide) | (exfalso; simp (disch := omega) only [Int32.lt_iff_toInt_lt, Int32.le_iff_toInt_le, ← Int32.toInt_inj, nI_toInt, i32_m1, i32_0, i32_m20, i32_m40, i32_m30, i32_m9] at *; omega))
              refine go_aloadn_0 iT_leads_30 rfl ?_
              refine go_aload_4 iT_leads_31 rfl ?_
              refine gc_V1 iT_leads_33 rfl (by decide) (sk_0 _) rfl (Nat.le_of_ble_eq_true rfl) (Nat.le_of_ble_eq_true rfl) (by decide) (sp_T_refusal_t hr s1 hs4 h8 hcT hpl (hcg.trans hft)) ?_
              refine go_istore_5 iT_leads_36 (by simp [Value.category, am_U]) ?_
              refine go_iload_5 iT_leads_38 ?_
              refine go_if_eq iT_leads_40 (fun c_40 => ?_) (fun c_40 => ?_)
              rotate_left
              · (first | omega | exact absurd c_40 (by decide) | (exfalso; simp (disch := omega) only [Int32.lt_iff_toInt_lt, Int32.le_iff_toInt_le, ← Int32.toInt_inj, nI_toInt, i32_m1, i32_0, i32_m20, i32_m40, i32_m30, i32_m9] at *; omega))
              refine go_aloadn_0 iT_leads_46 rfl ?_
              refine go_aload_4 iT_leads_47 rfl ?_
              refine gx_V1 iT_leads_49 rfl (by decide) (sk_0 _) rfl (Nat.le_of_ble_eq_true rfl) (Nat.le_of_ble_eq_true rfl) (by decide) (ex_T_row (ps := psN (fun j => mI 48 (4 * r + j))) h8 hm3 hs4 hr hmT hcT s1 (fun i hi => ⟨by rw [hpc i (by omega)]; exact (hps i hi).1, (hps i hi).2.1⟩) hpl) (fun mI49_ mL49_ h49_ => ?_)
              obtain ⟨e1, e2, e3⟩ := h49_
              have q1 := e1.2.2.2.1 f g hf hg
              have q2 := e1.2.2.1
              refine go_astore_6 iT_leads_52 rfl (by simp [Value.category, am_U]) ?_
              refine go_aloadn_0 iT_leads_54 rfl ?_
              refine go_getR iT_leads_55 rfl (sk_0 _) (mR_0_6 _) ?_
              refine go_aload_6 iT_leads_58 rfl ?_
              refine go_iloadn_2 iT_leads_60 ?_
              refine go_iloadn_3 iT_leads_61 ?_
              refine gc_V1 iT_leads_62 rfl (by decide) hsk rfl (Nat.le_of_ble_eq_true rfl) (Nat.le_of_ble_eq_true rfl) (by decide) (sp_R_chance (by omega) (by omega) (by omega)) ?_
              rw [q1]
              refine go_aload_6 iT_leads_65 rfl ?_
              refine go_getL iT_leads_67 rfl (by assumption) ?_
              rw [q2]
              refine gc_V0 iT_leads_70 rfl (by decide) (sk_4 _) rfl (Nat.le_of_ble_eq_true rfl) (Nat.le_of_ble_eq_true rfl) (by decide) (sp_F_tell (u := nowZ m 12 (wR mI r) f s g) (l := 12 ^ s) (by omega) l0 (by omega)) ?_
              refine go_iconst (v := nI 1) iT_leads_73 rfl ?_
              refine go_iret iT_leads_74 rfl ?_
              refine ex_i ⟨⟨fun a ha => e2 a (by omega), fun a ha h4 => ?_⟩, ?_, ?_⟩
              · rw [am_u_r h4, am_u_r h4]; exact e3 a (by omega)
              · rw [am_u_k (by decide), am_u_s]
              · rw [am_u_s]
            · obtain ⟨k1, k2, k3⟩ := hP
              have hq : ∀ a, 42 < a → mI1 a = mI a := fun a ha => k1.1 a (by omega)
              have has := ex_M_asked (S := S) (mL := mL1) hr (by rw [hq 47 (by omega)]; exact s2) hs4 h8 (by rw [hq 43 (by omega)]; exact hcM) (fun p hp => (hpl p hp).of (hq _ (by omega)) (hq _ (by omega)) (by rw [hq 45 (by omega)]) (fun j _ => by rw [hq 46 (by omega)])) ((ftN_fr hq).trans hft)
              rw [show (fun t => odN mI1 (psN (fun j => mI1 48 (4 * r + j)) t)) = wR mI r from wR_fr hq] at has
              have hmM2 : mI1 43 4 = nI m := by rw [hq 43 (by omega)]; exact hmM
              unfold Ex
              show Go _ _ tM_leads (_, 0, [.ref 43, .int (nI r), .int (nI f), .int (nI g), am_U], []) _
              refine go_iloadn_2 iM_leads_0 ?_
              refine go_iconst (v := nI 0) iM_leads_1 rfl ?_
              refine go_aloadn_0 iM_leads_2 rfl ?_
              refine go_getI iM_leads_3 (Or.inl rfl) (sk_43 _) ?_
              try simp (disch := omega) only [am_u_n, am_u_s, am_u_k, hmM2]
              refine go_iconst (v := nI 1) iM_leads_6 rfl ?_
              first | refine gn_isub iM_leads_7 (by omega) ?_ | refine go_isub iM_leads_7 ?_
              refine gc_S1 iM_leads_8 (by decide) rfl rfl (Nat.le_of_ble_eq_true rfl) (Nat.le_of_ble_eq_true rfl) (by decide) (sp_M_in_t (by simp (disch := omega) only [nI_toInt]; omega) (by simp (disch := omega) only [nI_toInt]; omega)) ?_
              refine go_if_eq iM_leads_11 (fun c_11 => ?_) (fun c_11 => ?_)
              · (first | omega | exact absurd c_11 (by decide) | (exfalso; simp (disch := omega) only [Int32.lt_iff_toInt_lt, Int32.le_iff_toInt_le, ← Int32.toInt_inj, nI_toInt, i32_m1, i32_0, i32_m20, i32_m40, i32_m30, i32_m9] at *; omega))
              refine go_iloadn_3 iM_leads_14 ?_
              refine go_iconst (v := nI 0) iM_leads_15 rfl ?_
              refine go_aloadn_0 iM_leads_16 rfl ?_
              refine go_getI iM_leads_17 (Or.inl rfl) (sk_43 _) ?_
              try simp (disch := omega) only [am_u_n, am_u_s, am_u_k, hmM2]
              refine go_iconst (v := nI 1) iM_leads_20 rfl ?_
              first | refine gn_isub iM_leads_21 (by omega) ?_ | refine go_isub iM_leads_21 ?_
              refine gc_S1 iM_leads_22 (by decide) rfl rfl (Nat.le_of_ble_eq_true rfl) (Nat.le_of_ble_eq_true rfl) (by decide) (sp_M_in_t (by simp (disch := omega) only [nI_toInt]; omega) (by simp (disch := omega) only [nI_toInt]; omega)) ?_
              refine go_if_ne iM_leads_25 (fun c_25 => ?_) (fun c_25 => ?_)
              rotate_left
              · (first | omega | exact absurd c_25 (by decide) | (exfalso; simp (disch := omega) only [Int32.lt_iff_toInt_lt, Int32.le_iff_toInt_le, ← Int32.toInt_inj, nI_toInt, i32_m1, i32_0, i32_m20, i32_m40, i32_m30, i32_m9] at *; omega))
              refine go_aloadn_0 iM_leads_30 rfl ?_
              refine go_iloadn_1 iM_leads_31 ?_
              refine gx_V1 iM_leads_32 rfl (by decide) (sk_43 _) rfl (Nat.le_of_ble_eq_true rfl) (Nat.le_of_ble_eq_true rfl) (by decide) has (fun mI32_ mL32_ h32_ => ?_)
              obtain ⟨a1, a2, a3, a4, a5⟩ := h32_
              subst mI32_
              refine go_istore_4 iM_leads_35 (by simp [Value.category, am_U]) ?_
              refine go_iload_4 iM_leads_37 ?_
              refine go_if_ge iM_leads_39 (fun c_39 => ?_) (fun c_39 => ?_)
              rotate_left
              · (first | omega | exact absurd c_39 (by decide) | (exfalso; simp (disch := omega) only [Int32.lt_iff_toInt_lt, Int32.le_iff_toInt_le, ← Int32.toInt_inj, nI_toInt, i32_m1, i32_0, i32_m20, i32_m40, i32_m30, i32_m9] at *; omega))
              refine go_aloadn_0 iM_leads_45 rfl ?_
              refine gx_V0 iM_leads_46 rfl (by decide) (sk_43 _) rfl (Nat.le_of_ble_eq_true rfl) (Nat.le_of_ble_eq_true rfl) (by decide) (ex_M_setRound (w := wR mI r) hm1 hm3 b1 b2 b4 b5 (by rw [am_u_k (by decide)]; exact hmM2) am_u_s a4 (fun t i ht hi => a5 t i ht (by omega)) hG.2.2.2) (fun mI46_ mL46_ h46_ => ?_)
              obtain ⟨b0, c1, d1⟩ := h46_
              subst mI46_
              have c2 := c1.2.2
              have q1 := d1.1 f g hf hg
              refine go_aloadn_0 iM_leads_49 rfl ?_
              refine go_aloadn_0 iM_leads_50 rfl ?_
              refine go_iloadn_2 iM_leads_51 ?_
              refine go_iloadn_3 iM_leads_52 ?_
              refine gc_V1 iM_leads_53 rfl (by decide) (sk_43 _) rfl (Nat.le_of_ble_eq_true rfl) (Nat.le_of_ble_eq_true rfl) (by decide) (sp_M_q (by omega) (by omega)) ?_
              rw [q1]
              refine go_aloadn_0 iM_leads_56 rfl ?_
              refine go_getL iM_leads_57 rfl (sk_43 _) ?_
              try simp (disch := omega) only [am_u_n, am_u_s, am_u_k, hmM2]
              refine go_iconst (v := nI 1) iM_leads_60 rfl ?_
              rw [c2]
              refine gc_V1 iM_leads_61 rfl (by decide) (sk_43 _) rfl (Nat.le_of_ble_eq_true rfl) (Nat.le_of_ble_eq_true rfl) (by decide) (sp_M_tell (u := nowZ m 12 (wR mI r) f s g) (l := 12 ^ s) (by omega) l0 (by omega)) ?_
              refine go_iret iM_leads_64 rfl ?_
              refine ex_i (hR0.keep k1 ⟨fun a e1 e2 e3 => by rw [am_u_r e1], fun y hy => by rw [am_u_k hy], fun a ha => ?_⟩ ?_ ?_)
              · rw [am_u_r (by omega), am_u_r (by omega), c1.1 a (by omega) (by omega) (by omega) (by omega) (by omega)]; exact a2 a (by omega) (by omega)
              · rw [k2, am_u_k (by decide), am_u_s]
              · rw [k3, am_u_s]
      · refine Pair.same (h1 := 1) (h2 := 1) (v := .int (-1)) hR0 ?_ ?_
        · show Go _ _ tT_leads (_, 0, [.ref 0, .int (nI r), .int (nI f), .int z, am_U, am_U, am_U], []) _
          refine go_aloadn_0 iT_leads_0 rfl ?_
          refine go_iloadn_1 iT_leads_1 ?_
          refine gc_V1 iT_leads_2 rfl (by decide) (sk_0 _) rfl (Nat.le_of_ble_eq_true rfl) (Nat.le_of_ble_eq_true rfl) (by decide) (sp_T_rowAt_t hr) ?_
          refine go_astore_4 iT_leads_5 rfl (by simp [Value.category, am_U]) ?_
          refine go_aload_4 iT_leads_7 rfl ?_
          refine go_nulR iT_leads_9 ?_
          refine go_aloadn_0 iT_leads_12 rfl ?_
          refine go_iloadn_2 iT_leads_13 ?_
          refine gc_V1 iT_leads_14 rfl (by decide) (sk_0 _) rfl (Nat.le_of_ble_eq_true rfl) (Nat.le_of_ble_eq_true rfl) (by decide) (sp_T_isRest_t hmT hm3 hf) ?_
          refine go_if_eq iT_leads_17 (fun c_17 => ?_) (fun c_17 => ?_)
          · (first | omega | exact absurd c_17 (by decide) | (exfalso; simp (disch := omega) only [Int32.lt_iff_toInt_lt, Int32.le_iff_toInt_le, ← Int32.toInt_inj, nI_toInt, i32_m1, i32_0, i32_m20, i32_m40, i32_m30, i32_m9] at *; omega))
          refine go_aloadn_0 iT_leads_20 rfl ?_
          refine go_iloadn_3 iT_leads_21 ?_
          refine gc_V1 iT_leads_22 rfl (by decide) (sk_0 _) rfl (Nat.le_of_ble_eq_true rfl) (Nat.le_of_ble_eq_true rfl) (by decide) (sp_T_isRest_f hmT hm3 hz) ?_
          refine go_if_ne iT_leads_25 (fun c_25 => ?_) (fun c_25 => ?_)
          · (first | omega | exact absurd c_25 (by decide) | (exfalso; simp (disch := omega) only [Int32.lt_iff_toInt_lt, Int32.le_iff_toInt_le, ← Int32.toInt_inj, nI_toInt, i32_m1, i32_0, i32_m20, i32_m40, i32_m30, i32_m9] at *; omega))
          refine go_iconst (v := (-1)) iT_leads_28 rfl ?_
          refine go_iret iT_leads_29 rfl ?_
          rfl
        · show Go _ _ tM_leads (_, 0, [.ref 43, .int (nI r), .int (nI f), .int z, am_U], []) _
          refine go_iloadn_2 iM_leads_0 ?_
          refine go_iconst (v := nI 0) iM_leads_1 rfl ?_
          refine go_aloadn_0 iM_leads_2 rfl ?_
          refine go_getI iM_leads_3 (Or.inl rfl) (sk_43 _) ?_
          try simp (disch := omega) only [am_u_n, am_u_s, am_u_k, hmM]
          refine go_iconst (v := nI 1) iM_leads_6 rfl ?_
          first | refine gn_isub iM_leads_7 (by omega) ?_ | refine go_isub iM_leads_7 ?_
          refine gc_S1 iM_leads_8 (by decide) rfl rfl (Nat.le_of_ble_eq_true rfl) (Nat.le_of_ble_eq_true rfl) (by decide) (sp_M_in_t (by simp (disch := omega) only [nI_toInt]; omega) (by simp (disch := omega) only [nI_toInt]; omega)) ?_
          refine go_if_eq iM_leads_11 (fun c_11 => ?_) (fun c_11 => ?_)
          · (first | omega | exact absurd c_11 (by decide) | (exfalso; simp (disch := omega) only [Int32.lt_iff_toInt_lt, Int32.le_iff_toInt_le, ← Int32.toInt_inj, nI_toInt, i32_m1, i32_0, i32_m20, i32_m40, i32_m30, i32_m9] at *; omega))
          refine go_iloadn_3 iM_leads_14 ?_
          refine go_iconst (v := nI 0) iM_leads_15 rfl ?_
          refine go_aloadn_0 iM_leads_16 rfl ?_
          refine go_getI iM_leads_17 (Or.inl rfl) (sk_43 _) ?_
          try simp (disch := omega) only [am_u_n, am_u_s, am_u_k, hmM]
          refine go_iconst (v := nI 1) iM_leads_20 rfl ?_
          first | refine gn_isub iM_leads_21 (by omega) ?_ | refine go_isub iM_leads_21 ?_
          refine gc_S1 iM_leads_22 (by decide) rfl rfl (Nat.le_of_ble_eq_true rfl) (Nat.le_of_ble_eq_true rfl) (by decide) (sp_M_in_f (by simp (disch := omega) only [nI_toInt]; omega)) ?_
          refine go_if_ne iM_leads_25 (fun c_25 => ?_) (fun c_25 => ?_)
          · (first | omega | exact absurd c_25 (by decide) | (exfalso; simp (disch := omega) only [Int32.lt_iff_toInt_lt, Int32.le_iff_toInt_le, ← Int32.toInt_inj, nI_toInt, i32_m1, i32_0, i32_m20, i32_m40, i32_m30, i32_m9] at *; omega))
          refine go_iconst (v := (-1)) iM_leads_28 rfl ?_
          refine go_iret iM_leads_29 rfl ?_
          rfl
    · refine Pair.same (h1 := 1) (h2 := 1) (v := .int (-1)) hR0 ?_ ?_
      · show Go _ _ tT_leads (_, 0, [.ref 0, .int (nI r), .int y, .int z, am_U, am_U, am_U], []) _
        refine go_aloadn_0 iT_leads_0 rfl ?_
        refine go_iloadn_1 iT_leads_1 ?_
        refine gc_V1 iT_leads_2 rfl (by decide) (sk_0 _) rfl (Nat.le_of_ble_eq_true rfl) (Nat.le_of_ble_eq_true rfl) (by decide) (sp_T_rowAt_t hr) ?_
        refine go_astore_4 iT_leads_5 rfl (by simp [Value.category, am_U]) ?_
        refine go_aload_4 iT_leads_7 rfl ?_
        refine go_nulR iT_leads_9 ?_
        refine go_aloadn_0 iT_leads_12 rfl ?_
        refine go_iloadn_2 iT_leads_13 ?_
        refine gc_V1 iT_leads_14 rfl (by decide) (sk_0 _) rfl (Nat.le_of_ble_eq_true rfl) (Nat.le_of_ble_eq_true rfl) (by decide) (sp_T_isRest_f hmT hm3 hy) ?_
        refine go_if_eq iT_leads_17 (fun c_17 => ?_) (fun c_17 => ?_)
        rotate_left
        · (first | omega | exact absurd c_17 (by decide) | (exfalso; simp (disch := omega) only [Int32.lt_iff_toInt_lt, Int32.le_iff_toInt_le, ← Int32.toInt_inj, nI_toInt, i32_m1, i32_0, i32_m20, i32_m40, i32_m30, i32_m9] at *; omega))
        refine go_iconst (v := (-1)) iT_leads_28 rfl ?_
        refine go_iret iT_leads_29 rfl ?_
        rfl
      · show Go _ _ tM_leads (_, 0, [.ref 43, .int (nI r), .int y, .int z, am_U], []) _
        refine go_iloadn_2 iM_leads_0 ?_
        refine go_iconst (v := nI 0) iM_leads_1 rfl ?_
        refine go_aloadn_0 iM_leads_2 rfl ?_
        refine go_getI iM_leads_3 (Or.inl rfl) (sk_43 _) ?_
        try simp (disch := omega) only [am_u_n, am_u_s, am_u_k, hmM]
        refine go_iconst (v := nI 1) iM_leads_6 rfl ?_
        first | refine gn_isub iM_leads_7 (by omega) ?_ | refine go_isub iM_leads_7 ?_
        refine gc_S1 iM_leads_8 (by decide) rfl rfl (Nat.le_of_ble_eq_true rfl) (Nat.le_of_ble_eq_true rfl) (by decide) (sp_M_in_f (by simp (disch := omega) only [nI_toInt]; omega)) ?_
        refine go_if_eq iM_leads_11 (fun c_11 => ?_) (fun c_11 => ?_)
        rotate_left
        · (first | omega | exact absurd c_11 (by decide) | (exfalso; simp (disch := omega) only [Int32.lt_iff_toInt_lt, Int32.le_iff_toInt_le, ← Int32.toInt_inj, nI_toInt, i32_m1, i32_0, i32_m20, i32_m40, i32_m30, i32_m9] at *; omega))
        refine go_iconst (v := (-1)) iM_leads_28 rfl ?_
        refine go_iret iM_leads_29 rfl ?_
        rfl
  · refine Pair.same (h1 := 1) (h2 := 4) (v := .int (-1)) hR0 ?_ ?_
    · show Go _ _ tT_leads (_, 0, [.ref 0, .int x, .int y, .int z, am_U, am_U, am_U], []) _
      refine go_aloadn_0 iT_leads_0 rfl ?_
      refine go_iloadn_1 iT_leads_1 ?_
      refine gc_V1 iT_leads_2 rfl (by decide) (sk_0 _) rfl (Nat.le_of_ble_eq_true rfl) (Nat.le_of_ble_eq_true rfl) (by decide) (sp_T_rowAt_f hx) ?_
      refine go_astore_4 iT_leads_5 rfl (by simp [Value.category, am_U]) ?_
      refine go_aload_4 iT_leads_7 rfl ?_
      refine go_nulN iT_leads_9 ?_
      refine go_iconst (v := (-1)) iT_leads_28 rfl ?_
      refine go_iret iT_leads_29 rfl ?_
      rfl
    · rcases rest_cases y hm3 with ⟨f, hf, rfl⟩ | hy
      · rcases rest_cases z hm3 with ⟨g, hg, rfl⟩ | hz
        · show Go _ _ tM_leads (_, 0, [.ref 43, .int x, .int (nI f), .int (nI g), am_U], []) _
          refine go_iloadn_2 iM_leads_0 ?_
          refine go_iconst (v := nI 0) iM_leads_1 rfl ?_
          refine go_aloadn_0 iM_leads_2 rfl ?_
          refine go_getI iM_leads_3 (Or.inl rfl) (sk_43 _) ?_
          try simp (disch := omega) only [am_u_n, am_u_s, am_u_k, hmM]
          refine go_iconst (v := nI 1) iM_leads_6 rfl ?_
          first | refine gn_isub iM_leads_7 (by omega) ?_ | refine go_isub iM_leads_7 ?_
          refine gc_S1 iM_leads_8 (by decide) rfl rfl (Nat.le_of_ble_eq_true rfl) (Nat.le_of_ble_eq_true rfl) (by decide) (sp_M_in_t (by simp (disch := omega) only [nI_toInt]; omega) (by simp (disch := omega) only [nI_toInt]; omega)) ?_
          refine go_if_eq iM_leads_11 (fun c_11 => ?_) (fun c_11 => ?_)
          · (first | omega | exact absurd c_11 (by decide) | (exfalso; simp (disch := omega) only [Int32.lt_iff_toInt_lt, Int32.le_iff_toInt_le, ← Int32.toInt_inj, nI_toInt, i32_m1, i32_0, i32_m20, i32_m40, i32_m30, i32_m9] at *; omega))
          refine go_iloadn_3 iM_leads_14 ?_
          refine go_iconst (v := nI 0) iM_leads_15 rfl ?_
          refine go_aloadn_0 iM_leads_16 rfl ?_
          refine go_getI iM_leads_17 (Or.inl rfl) (sk_43 _) ?_
          try simp (disch := omega) only [am_u_n, am_u_s, am_u_k, hmM]
          refine go_iconst (v := nI 1) iM_leads_20 rfl ?_
          first | refine gn_isub iM_leads_21 (by omega) ?_ | refine go_isub iM_leads_21 ?_
          refine gc_S1 iM_leads_22 (by decide) rfl rfl (Nat.le_of_ble_eq_true rfl) (Nat.le_of_ble_eq_true rfl) (by decide) (sp_M_in_t (by simp (disch := omega) only [nI_toInt]; omega) (by simp (disch := omega) only [nI_toInt]; omega)) ?_
          refine go_if_ne iM_leads_25 (fun c_25 => ?_) (fun c_25 => ?_)
          rotate_left
          · (first | omega | exact absurd c_25 (by decide) | (exfalso; simp (disch := omega) only [Int32.lt_iff_toInt_lt, Int32.le_iff_toInt_le, ← Int32.toInt_inj, nI_toInt, i32_m1, i32_0, i32_m20, i32_m40, i32_m30, i32_m9] at *; omega))
          refine go_aloadn_0 iM_leads_30 rfl ?_
          refine go_iloadn_1 iM_leads_31 ?_
          refine gc_V1 iM_leads_32 rfl (by decide) (sk_43 _) rfl (Nat.le_of_ble_eq_true rfl) (Nat.le_of_ble_eq_true rfl) (by decide) (sp_M_asked_b hx) ?_
          refine go_istore_4 iM_leads_35 (by simp [Value.category, am_U]) ?_
          refine go_iload_4 iM_leads_37 ?_
          refine go_if_ge iM_leads_39 (fun c_39 => ?_) (fun c_39 => ?_)
          · (first | omega | exact absurd c_39 (by decide) | (exfalso; simp (disch := omega) only [Int32.lt_iff_toInt_lt, Int32.le_iff_toInt_le, ← Int32.toInt_inj, nI_toInt, i32_m1, i32_0, i32_m20, i32_m40, i32_m30, i32_m9] at *; omega))
          refine go_iload_4 iM_leads_42 ?_
          refine go_iret iM_leads_44 rfl ?_
          rfl
        · show Go _ _ tM_leads (_, 0, [.ref 43, .int x, .int (nI f), .int z, am_U], []) _
          refine go_iloadn_2 iM_leads_0 ?_
          refine go_iconst (v := nI 0) iM_leads_1 rfl ?_
          refine go_aloadn_0 iM_leads_2 rfl ?_
          refine go_getI iM_leads_3 (Or.inl rfl) (sk_43 _) ?_
          try simp (disch := omega) only [am_u_n, am_u_s, am_u_k, hmM]
          refine go_iconst (v := nI 1) iM_leads_6 rfl ?_
          first | refine gn_isub iM_leads_7 (by omega) ?_ | refine go_isub iM_leads_7 ?_
          refine gc_S1 iM_leads_8 (by decide) rfl rfl (Nat.le_of_ble_eq_true rfl) (Nat.le_of_ble_eq_true rfl) (by decide) (sp_M_in_t (by simp (disch := omega) only [nI_toInt]; omega) (by simp (disch := omega) only [nI_toInt]; omega)) ?_
          refine go_if_eq iM_leads_11 (fun c_11 => ?_) (fun c_11 => ?_)
          · (first | omega | exact absurd c_11 (by decide) | (exfalso; simp (disch := omega) only [Int32.lt_iff_toInt_lt, Int32.le_iff_toInt_le, ← Int32.toInt_inj, nI_toInt, i32_m1, i32_0, i32_m20, i32_m40, i32_m30, i32_m9] at *; omega))
          refine go_iloadn_3 iM_leads_14 ?_
          refine go_iconst (v := nI 0) iM_leads_15 rfl ?_
          refine go_aloadn_0 iM_leads_16 rfl ?_
          refine go_getI iM_leads_17 (Or.inl rfl) (sk_43 _) ?_
          try simp (disch := omega) only [am_u_n, am_u_s, am_u_k, hmM]
          refine go_iconst (v := nI 1) iM_leads_20 rfl ?_
          first | refine gn_isub iM_leads_21 (by omega) ?_ | refine go_isub iM_leads_21 ?_
          refine gc_S1 iM_leads_22 (by decide) rfl rfl (Nat.le_of_ble_eq_true rfl) (Nat.le_of_ble_eq_true rfl) (by decide) (sp_M_in_f (by simp (disch := omega) only [nI_toInt]; omega)) ?_
          refine go_if_ne iM_leads_25 (fun c_25 => ?_) (fun c_25 => ?_)
          · (first | omega | exact absurd c_25 (by decide) | (exfalso; simp (disch := omega) only [Int32.lt_iff_toInt_lt, Int32.le_iff_toInt_le, ← Int32.toInt_inj, nI_toInt, i32_m1, i32_0, i32_m20, i32_m40, i32_m30, i32_m9] at *; omega))
          refine go_iconst (v := (-1)) iM_leads_28 rfl ?_
          refine go_iret iM_leads_29 rfl ?_
          rfl
      · show Go _ _ tM_leads (_, 0, [.ref 43, .int x, .int y, .int z, am_U], []) _
        refine go_iloadn_2 iM_leads_0 ?_
        refine go_iconst (v := nI 0) iM_leads_1 rfl ?_
        refine go_aloadn_0 iM_leads_2 rfl ?_
        refine go_getI iM_leads_3 (Or.inl rfl) (sk_43 _) ?_
        try simp (disch := omega) only [am_u_n, am_u_s, am_u_k, hmM]
        refine go_iconst (v := nI 1) iM_leads_6 rfl ?_
        first | refine gn_isub iM_leads_7 (by omega) ?_ | refine go_isub iM_leads_7 ?_
        refine gc_S1 iM_leads_8 (by decide) rfl rfl (Nat.le_of_ble_eq_true rfl) (Nat.le_of_ble_eq_true rfl) (by decide) (sp_M_in_f (by simp (disch := omega) only [nI_toInt]; omega)) ?_
        refine go_if_eq iM_leads_11 (fun c_11 => ?_) (fun c_11 => ?_)
        rotate_left
        · (first | omega | exact absurd c_11 (by decide) | (exfalso; simp (disch := omega) only [Int32.lt_iff_toInt_lt, Int32.le_iff_toInt_le, ← Int32.toInt_inj, nI_toInt, i32_m1, i32_0, i32_m20, i32_m40, i32_m30, i32_m9] at *; omega))
        refine go_iconst (v := (-1)) iM_leads_28 rfl ?_
        refine go_iret iM_leads_29 rfl ?_
        rfl
theorem pr_share (x y : Int32) (hR : Rel n mI mL) : Pair S tT_share tM_share [.int x, .int y] n mI mL := by
  have hR0 := hR
  obtain ⟨h8, ⟨m, hm1, hm3, hmT, hmM⟩, hcT, hcM, hpl, hro, hfi, hfs, hu, hl, hch⟩ := hR
  rcases row_cases x with ⟨r, hr, rfl⟩ | hx
  · rcases rest_cases y hm3 with ⟨f, hf, rfl⟩ | hy
    · obtain ⟨⟨s1, s2⟩ | ⟨s, hs4, s1, s2⟩, hpc⟩ := hro r hr
      · refine Pair.refuse (h1 := 4) (h2 := 4) (f := 1) hR0 (by decide) ?_ ?_
        · show Go _ _ tT_share (_, 0, [.ref 0, .int (nI r), .int (nI f), am_U, am_U, am_U], []) _
          refine go_aloadn_0 iT_share_0 rfl ?_
          refine go_iloadn_1 iT_share_1 ?_
          refine gc_V1 iT_share_2 rfl (by decide) (sk_0 _) rfl (Nat.le_of_ble_eq_true rfl) (Nat.le_of_ble_eq_true rfl) (by decide) (sp_T_rowAt_t hr) ?_
          refine go_astoren_3 iT_share_5 rfl (by simp [Value.category, am_U]) ?_
          refine go_aloadn_3 iT_share_6 rfl ?_
          refine go_nulR iT_share_7 ?_
          refine go_aloadn_0 iT_share_10 rfl ?_
          refine go_iloadn_2 iT_share_11 ?_
          refine gc_V1 iT_share_12 rfl (by decide) (sk_0 _) rfl (Nat.le_of_ble_eq_true rfl) (Nat.le_of_ble_eq_true rfl) (by decide) (sp_T_isRest_t hmT hm3 hf) ?_
          refine go_if_ne iT_share_15 (fun c_15 => ?_) (fun c_15 => ?_)
          rotate_left
          · (first | omega | exact absurd c_15 (by decide) | (exfalso; simp (disch := omega) only [Int32.lt_iff_toInt_lt, Int32.le_iff_toInt_le, ← Int32.toInt_inj, nI_toInt, i32_m1, i32_0, i32_m20, i32_m40, i32_m30, i32_m9] at *; omega))
          refine go_aloadn_0 iT_share_20 rfl ?_
          refine go_aloadn_3 iT_share_21 rfl ?_
          refine gc_V1 iT_share_22 rfl (by decide) (sk_0 _) rfl (Nat.le_of_ble_eq_true rfl) (Nat.le_of_ble_eq_true rfl) (by decide) (sp_T_refusal_m hr s1) ?_
          refine go_istore_4 iT_share_25 (by simp [Value.category, am_U]) ?_
          refine go_iload_4 iT_share_27 ?_
          refine go_if_eq iT_share_29 (fun c_29 => ?_) (fun c_29 => ?_)
          · (first | omega | exact absurd c_29 (by decide) | (exfalso; simp (disch := omega) only [Int32.lt_iff_toInt_lt, Int32.le_iff_toInt_le, ← Int32.toInt_inj, nI_toInt, i32_m1, i32_0, i32_m20, i32_m40, i32_m30, i32_m9] at *; omega))
          refine go_iload_4 iT_share_32 ?_
          refine go_iret iT_share_34 rfl ?_
          rfl
        · have hq : ∀ a, 42 < a → rfI mI 1 a = mI a := fun a ha => rfI_r (by omega) (by omega)
          have hmM2 : rfI mI 1 43 4 = nI m := by rw [hq 43 (by omega)]; exact hmM
          show Go _ _ tM_share (_, 0, [.ref 43, .int (nI r), .int (nI f), am_U], []) _
          refine go_iloadn_2 iM_share_0 ?_
          refine go_iconst (v := nI 0) iM_share_1 rfl ?_
          refine go_aloadn_0 iM_share_2 rfl ?_
          refine go_getI iM_share_3 (Or.inl rfl) (sk_43 _) ?_
          try simp (disch := omega) only [am_u_n, am_u_s, am_u_k, hmM2]
          refine go_iconst (v := nI 1) iM_share_6 rfl ?_
          first | refine gn_isub iM_share_7 (by omega) ?_ | refine go_isub iM_share_7 ?_
          refine gc_S1 iM_share_8 (by decide) rfl rfl (Nat.le_of_ble_eq_true rfl) (Nat.le_of_ble_eq_true rfl) (by decide) (sp_M_in_t (by simp (disch := omega) only [nI_toInt]; omega) (by simp (disch := omega) only [nI_toInt]; omega)) ?_
          refine go_if_ne iM_share_11 (fun c_11 => ?_) (fun c_11 => ?_)
          rotate_left
          · (first | omega | exact absurd c_11 (by decide) | (exfalso; simp (disch := omega) only [Int32.lt_iff_toInt_lt, Int32.le_iff_toInt_le, ← Int32.toInt_inj, nI_toInt, i32_m1, i32_0, i32_m20, i32_m40, i32_m30, i32_m9] at *; omega))
          refine go_aloadn_0 iM_share_16 rfl ?_
          refine go_iloadn_1 iM_share_17 ?_
          refine gc_V1 iM_share_18 rfl (by decide) (sk_43 _) rfl (Nat.le_of_ble_eq_true rfl) (Nat.le_of_ble_eq_true rfl) (by decide) (sp_M_asked_m hr (by rw [hq 47 (by omega)]; exact s2)) ?_
          refine go_istoren_3 iM_share_21 (by simp [Value.category, am_U]) ?_
          refine go_iloadn_3 iM_share_22 ?_
          refine go_if_ge iM_share_23 (fun c_23 => ?_) (fun c_23 => ?_)
          · (first | omega | exact absurd c_23 (by decide) | (exfalso; simp (disch := omega) only [Int32.lt_iff_toInt_lt, Int32.le_iff_toInt_le, ← Int32.toInt_inj, nI_toInt, i32_m1, i32_0, i32_m20, i32_m40, i32_m30, i32_m9] at *; omega))
          refine go_iloadn_3 iM_share_26 ?_
          refine go_iret iM_share_27 rfl ?_
          rfl
      · have hcg := ftN_congr (mI := mI) (n := n) (s := s) (g := mI (16 + 2 * r)) (g' := fun j => mI 48 (4 * r + j)) (fun j hj => hpc j (by omega))
        rcases ftN_01 (mI := mI) (n := n) (s := s) (g := fun j => mI 48 (4 * r + j)) with hft | hft
        · refine Pair.refuse (h1 := 4) (h2 := 4) (f := 3) hR0 (by decide) ?_ ?_
          · show Go _ _ tT_share (_, 0, [.ref 0, .int (nI r), .int (nI f), am_U, am_U, am_U], []) _
            refine go_aloadn_0 iT_share_0 rfl ?_
            refine go_iloadn_1 iT_share_1 ?_
            refine gc_V1 iT_share_2 rfl (by decide) (sk_0 _) rfl (Nat.le_of_ble_eq_true rfl) (Nat.le_of_ble_eq_true rfl) (by decide) (sp_T_rowAt_t hr) ?_
            refine go_astoren_3 iT_share_5 rfl (by simp [Value.category, am_U]) ?_
            refine go_aloadn_3 iT_share_6 rfl ?_
            refine go_nulR iT_share_7 ?_
            refine go_aloadn_0 iT_share_10 rfl ?_
            refine go_iloadn_2 iT_share_11 ?_
            refine gc_V1 iT_share_12 rfl (by decide) (sk_0 _) rfl (Nat.le_of_ble_eq_true rfl) (Nat.le_of_ble_eq_true rfl) (by decide) (sp_T_isRest_t hmT hm3 hf) ?_
            refine go_if_ne iT_share_15 (fun c_15 => ?_) (fun c_15 => ?_)
            rotate_left
            · (first | omega | exact absurd c_15 (by decide) | (exfalso; simp (disch := omega) only [Int32.lt_iff_toInt_lt, Int32.le_iff_toInt_le, ← Int32.toInt_inj, nI_toInt, i32_m1, i32_0, i32_m20, i32_m40, i32_m30, i32_m9] at *; omega))
            refine go_aloadn_0 iT_share_20 rfl ?_
            refine go_aloadn_3 iT_share_21 rfl ?_
            refine gc_V1 iT_share_22 rfl (by decide) (sk_0 _) rfl (Nat.le_of_ble_eq_true rfl) (Nat.le_of_ble_eq_true rfl) (by decide) (sp_T_refusal_u hr s1 hs4 h8 hcT hpl (hcg.trans hft)) ?_
            refine go_istore_4 iT_share_25 (by simp [Value.category, am_U]) ?_
            refine go_iload_4 iT_share_27 ?_
            refine go_if_eq iT_share_29 (fun c_29 => ?_) (fun c_29 => ?_)
            · (first | omega | exact absurd c_29 (by decide) | (exfalso; simp (disch := omega) only [Int32.lt_iff_toInt_lt, Int32.le_iff_toInt_le, ← Int32.toInt_inj, nI_toInt, i32_m1, i32_0, i32_m20, i32_m40, i32_m30, i32_m9] at *; omega))
            refine go_iload_4 iT_share_32 ?_
            refine go_iret iT_share_34 rfl ?_
            rfl
          · have hq : ∀ a, 42 < a → rfI mI 3 a = mI a := fun a ha => rfI_r (by omega) (by omega)
            have hmM2 : rfI mI 3 43 4 = nI m := by rw [hq 43 (by omega)]; exact hmM
            show Go _ _ tM_share (_, 0, [.ref 43, .int (nI r), .int (nI f), am_U], []) _
            refine go_iloadn_2 iM_share_0 ?_
            refine go_iconst (v := nI 0) iM_share_1 rfl ?_
            refine go_aloadn_0 iM_share_2 rfl ?_
            refine go_getI iM_share_3 (Or.inl rfl) (sk_43 _) ?_
            try simp (disch := omega) only [am_u_n, am_u_s, am_u_k, hmM2]
            refine go_iconst (v := nI 1) iM_share_6 rfl ?_
            first | refine gn_isub iM_share_7 (by omega) ?_ | refine go_isub iM_share_7 ?_
            refine gc_S1 iM_share_8 (by decide) rfl rfl (Nat.le_of_ble_eq_true rfl) (Nat.le_of_ble_eq_true rfl) (by decide) (sp_M_in_t (by simp (disch := omega) only [nI_toInt]; omega) (by simp (disch := omega) only [nI_toInt]; omega)) ?_
            refine go_if_ne iM_share_11 (fun c_11 => ?_) (fun c_11 => ?_)
            rotate_left
            · (first | omega | exact absurd c_11 (by decide) | (exfalso; simp (disch := omega) only [Int32.lt_iff_toInt_lt, Int32.le_iff_toInt_le, ← Int32.toInt_inj, nI_toInt, i32_m1, i32_0, i32_m20, i32_m40, i32_m30, i32_m9] at *; omega))
            refine go_aloadn_0 iM_share_16 rfl ?_
            refine go_iloadn_1 iM_share_17 ?_
            refine gc_V1 iM_share_18 rfl (by decide) (sk_43 _) rfl (Nat.le_of_ble_eq_true rfl) (Nat.le_of_ble_eq_true rfl) (by decide) (sp_M_asked_u hr (by rw [hq 47 (by omega)]; exact s2) hs4 h8 (by rw [hq 43 (by omega)]; exact hcM) (fun p hp => (hpl p hp).of (hq _ (by omega)) (hq _ (by omega)) (by rw [hq 45 (by omega)]) (fun j _ => by rw [hq 46 (by omega)])) ((ftN_fr hq).trans hft)) ?_
            refine go_istoren_3 iM_share_21 (by simp [Value.category, am_U]) ?_
            refine go_iloadn_3 iM_share_22 ?_
            refine go_if_ge iM_share_23 (fun c_23 => ?_) (fun c_23 => ?_)
            · (first | omega | exact absurd c_23 (by decide) | (exfalso; simp (disch := omega) only [Int32.lt_iff_toInt_lt, Int32.le_iff_toInt_le, ← Int32.toInt_inj, nI_toInt, i32_m1, i32_0, i32_m20, i32_m40, i32_m30, i32_m9] at *; omega))
            refine go_iloadn_3 iM_share_26 ?_
            refine go_iret iM_share_27 rfl ?_
            rfl
        · obtain ⟨s0, hps⟩ := fit_ps h8 hft
          have hG := Gm_row h8 hm1 hm3 hs4 hpl hft
          obtain ⟨b1, b2, b3, b4, b5⟩ := hG.pb
          obtain ⟨v0, v1⟩ := hG.wt hf
          have hW := hG.b
          have hsk := sk_rnd n (show s < 5 by omega)
          obtain ⟨⟨g1, g2, g3, g4⟩, g5, g6, g7, g8⟩ := sh_rnd n (show s < 5 by omega)
          have hst : ∀ mI1 mL1, RdI mI1 mL1 s m s (pw 12 s) (fun f => nowZ m 12 (wR mI r) f s) (fun f => gZ m 12 (wR mI r) f s) → _ := fun mI1 mL1 h => ex_R_settles (S := S) (n := n) (show s < 5 by omega) hm1 hm3 (by unfold Wz at hW; omega) h
          have hro2 := ex_T_row (S := S) (mL := mL) (ps := psN (fun j => mI 48 (4 * r + j))) h8 hm3 hs4 hr hmT hcT s1 (fun i hi => ⟨by rw [hpc i (by omega)]; exact (hps i hi).1, (hps i hi).2.1⟩) hpl
          have hms : ∀ mI1 mL1, (∀ a, 42 < a → mI1 a = mI a) → Ex S 3 tM_askedFor n mI1 mL1 [.ref 43, .int (nI r)] (some (.int (nI 0))) (fun mI' mL' => AsP mI1 mI' mL1 mL' s (wR mI r) 12) := by
            intro mI1 mL1 hq
            have has := ex_M_asked (S := S) (mL := mL1) hr (by rw [hq 47 (by omega)]; exact s2) hs4 h8 (by rw [hq 43 (by omega)]; exact hcM) (fun p hp => (hpl p hp).of (hq _ (by omega)) (hq _ (by omega)) (by rw [hq 45 (by omega)]) (fun j _ => by rw [hq 46 (by omega)])) ((ftN_fr hq).trans hft)
            rw [show (fun t => odN mI1 (psN (fun j => mI1 48 (4 * r + j)) t)) = wR mI r from wR_fr hq] at has
            exact has
          by_cases c : 0 < Wz m 12 s (wR mI r)
          · have l0 : 0 < (Wz m 12 s (wR mI r)).toNat := by omega
            have lW : zL (Wz m 12 s (wR mI r)) = zL ((Wz m 12 s (wR mI r)).toNat : Int) := by congr 1; omega
            refine Pair.ex (h1 := 4) (h2 := 5) (v := .int (nI 1)) (P := fun mI1 mL1 => FrC mI mI1 mL mL1 ∧ mL1 4 0 = zL (fU (wtZ m (fun f => nowZ m 12 (wR mI r) f s) f) (Wz m 12 s (wR mI r)).toNat) ∧ mL1 4 1 = zL (fL (wtZ m (fun f => nowZ m 12 (wR mI r) f s) f) (Wz m 12 s (wR mI r)).toNat)) ?_ (fun mI1 mL1 hP => ?_)
            · unfold Ex
              show Go _ _ tT_share (_, 0, [.ref 0, .int (nI r), .int (nI f), am_U, am_U, am_U], []) _
              refine go_aloadn_0 iT_share_0 rfl ?_
              refine go_iloadn_1 iT_share_1 ?_
              refine gc_V1 iT_share_2 rfl (by decide) (sk_0 _) rfl (Nat.le_of_ble_eq_true rfl) (Nat.le_of_ble_eq_true rfl) (by decide) (sp_T_rowAt_t hr) ?_
              refine go_astoren_3 iT_share_5 rfl (by simp [Value.category, am_U]) ?_
              refine go_aloadn_3 iT_share_6 rfl ?_
              refine go_nulR iT_share_7 ?_
              refine go_aloadn_0 iT_share_10 rfl ?_
              refine go_iloadn_2 iT_share_11 ?_
              refine gc_V1 iT_share_12 rfl (by decide) (sk_0 _) rfl (Nat.le_of_ble_eq_true rfl) (Nat.le_of_ble_eq_true rfl) (by decide) (sp_T_isRest_t hmT hm3 hf) ?_
              refine go_if_ne iT_share_15 (fun c_15 => ?_) (fun c_15 => ?_)
              rotate_left
              · (first | omega | exact absurd c_15 (by decide) | (exfalso; simp (disch := omega) only [Int32.lt_iff_toInt_lt, Int32.le_iff_toInt_le, ← Int32.toInt_inj, nI_toInt, i32_m1, i32_0, i32_m20, i32_m40, i32_m30, i32_m9] at *; omega))
              refine go_aloadn_0 iT_share_20 rfl ?_
              refine go_aloadn_3 iT_share_21 rfl ?_
              refine gc_V1 iT_share_22 rfl (by decide) (sk_0 _) rfl (Nat.le_of_ble_eq_true rfl) (Nat.le_of_ble_eq_true rfl) (by decide) (sp_T_refusal_t hr s1 hs4 h8 hcT hpl (hcg.trans hft)) ?_
              refine go_istore_4 iT_share_25 (by simp [Value.category, am_U]) ?_
              refine go_iload_4 iT_share_27 ?_
              refine go_if_eq iT_share_29 (fun c_29 => ?_) (fun c_29 => ?_)
              rotate_left
              · (first | omega | exact absurd c_29 (by decide) | (exfalso; simp (disch := omega) only [Int32.lt_iff_toInt_lt, Int32.le_iff_toInt_le, ← Int32.toInt_inj, nI_toInt, i32_m1, i32_0, i32_m20, i32_m40, i32_m30, i32_m9] at *; omega))
              refine go_aloadn_0 iT_share_35 rfl ?_
              refine go_aloadn_3 iT_share_36 rfl ?_
              refine gx_V1 iT_share_37 rfl (by decide) (sk_0 _) rfl (Nat.le_of_ble_eq_true rfl) (Nat.le_of_ble_eq_true rfl) (by decide) hro2 (fun mI37_ mL37_ h37_ => ?_)
              obtain ⟨e1, e2, e3⟩ := h37_
              have hs3 := hst _ _ e1
              rw [if_pos (show 0 < wsZ m (fun f => nowZ m 12 (wR mI r) f s) m from c)] at hs3
              refine go_astore_5 iT_share_40 rfl (by simp [Value.category, am_U]) ?_
              refine go_aload_5 iT_share_42 rfl ?_
              refine gx_V1 iT_share_44 rfl (by decide) hsk rfl (Nat.le_of_ble_eq_true rfl) (Nat.le_of_ble_eq_true rfl) (by decide) hs3 (fun mI44_ mL44_ h44_ => ?_)
              obtain ⟨d0, d1, d2, d3, d4, d5⟩ := h44_
              subst mI44_
              have q1 := d5 f hf
              have q2 : mL44_ (23 + 4 * s) 6 = zL (Wz m 12 s (wR mI r)) := d3
              refine go_if_ne iT_share_47 (fun c_47 => ?_) (fun c_47 => ?_)
              rotate_left
              · (first | omega | exact absurd c_47 (by decide) | (exfalso; simp (disch := omega) only [Int32.lt_iff_toInt_lt, Int32.le_iff_toInt_le, ← Int32.toInt_inj, nI_toInt, i32_m1, i32_0, i32_m20, i32_m40, i32_m30, i32_m9] at *; omega))
              refine go_aloadn_0 iT_share_53 rfl ?_
              refine go_getR iT_share_54 rfl (sk_0 _) (mR_0_6 _) ?_
              refine go_aload_5 iT_share_57 rfl ?_
              refine go_getR iT_share_59 rfl (by assumption) (by assumption) ?_
              refine go_iloadn_2 iT_share_62 ?_
              refine go_lald iT_share_63 (by assumption) rfl (by omega) (by omega) ?_
              rw [q1]
              refine go_aload_5 iT_share_64 rfl ?_
              refine go_getL iT_share_66 rfl (by assumption) ?_
              rw [q2, lW]
              refine gc_V0 iT_share_69 rfl (by decide) (sk_4 _) rfl (Nat.le_of_ble_eq_true rfl) (Nat.le_of_ble_eq_true rfl) (by decide) (sp_F_tell (u := wtZ m (fun f => nowZ m 12 (wR mI r) f s) f) (l := (Wz m 12 s (wR mI r)).toNat) (by omega) l0 (by omega)) ?_
              refine go_iconst (v := nI 1) iT_share_72 rfl ?_
              refine go_iret iT_share_73 rfl ?_
              refine ex_i ⟨⟨fun a ha => e2 a (by omega), fun a ha h4 => ?_⟩, ?_, ?_⟩
              · rw [am_u_r h4, am_u_r h4, d2.2 a (by omega) (by omega) (by omega) (by omega)]; exact e3 a (by omega)
              · rw [am_u_k (by decide), am_u_s]
              · rw [am_u_s]
            · obtain ⟨k1, k2, k3⟩ := hP
              have hq : ∀ a, 42 < a → mI1 a = mI a := fun a ha => k1.1 a (by omega)
              have hmM2 : mI1 43 4 = nI m := by rw [hq 43 (by omega)]; exact hmM
              unfold Ex
              show Go _ _ tM_share (_, 0, [.ref 43, .int (nI r), .int (nI f), am_U], []) _
              refine go_iloadn_2 iM_share_0 ?_
              refine go_iconst (v := nI 0) iM_share_1 rfl ?_
              refine go_aloadn_0 iM_share_2 rfl ?_
              refine go_getI iM_share_3 (Or.inl rfl) (sk_43 _) ?_
              try simp (disch := omega) only [am_u_n, am_u_s, am_u_k, hmM2]
              refine go_iconst (v := nI 1) iM_share_6 rfl ?_
              first | refine gn_isub iM_share_7 (by omega) ?_ | refine go_isub iM_share_7 ?_
              refine gc_S1 iM_share_8 (by decide) rfl rfl (Nat.le_of_ble_eq_true rfl) (Nat.le_of_ble_eq_true rfl) (by decide) (sp_M_in_t (by simp (disch := omega) only [nI_toInt]; omega) (by simp (disch := omega) only [nI_toInt]; omega)) ?_
              refine go_if_ne iM_share_11 (fun c_11 => ?_) (fun c_11 => ?_)
              rotate_left
              · (first | omega | exact absurd c_11 (by decide) | (exfalso; simp (disch := omega) only [Int32.lt_iff_toInt_lt, Int32.le_iff_toInt_le, ← Int32.toInt_inj, nI_toInt, i32_m1, i32_0, i32_m20, i32_m40, i32_m30, i32_m9] at *; omega))
              refine go_aloadn_0 iM_share_16 rfl ?_
              refine go_iloadn_1 iM_share_17 ?_
              refine gx_V1 iM_share_18 rfl (by decide) (sk_43 _) rfl (Nat.le_of_ble_eq_true rfl) (Nat.le_of_ble_eq_true rfl) (by decide) (hms mI1 mL1 hq) (fun mI18_ mL18_ h18_ => ?_)
              obtain ⟨a1, a2, a3, a4, a5⟩ := h18_
              subst mI18_
              have hse := ex_M_settles (S := S) (n := n) hG (by rw [am_u_k (by decide)]; exact hmM2) (mI := am_u mI1 43 11 (nI s)) am_u_s a4 (fun t i ht hi => a5 t i ht (by omega))
              rw [if_pos c] at hse
              refine go_istoren_3 iM_share_21 (by simp [Value.category, am_U]) ?_
              refine go_iloadn_3 iM_share_22 ?_
              refine go_if_ge iM_share_23 (fun c_23 => ?_) (fun c_23 => ?_)
              rotate_left
              · (first | omega | exact absurd c_23 (by decide) | (exfalso; simp (disch := omega) only [Int32.lt_iff_toInt_lt, Int32.le_iff_toInt_le, ← Int32.toInt_inj, nI_toInt, i32_m1, i32_0, i32_m20, i32_m40, i32_m30, i32_m9] at *; omega))
              refine go_aloadn_0 iM_share_28 rfl ?_
              refine gx_V1 iM_share_29 rfl (by decide) (sk_43 _) rfl (Nat.le_of_ble_eq_true rfl) (Nat.le_of_ble_eq_true rfl) (by decide) hse (fun mI29_ mL29_ h29_ => ?_)
              obtain ⟨b0, c1, c2, c3⟩ := h29_
              subst mI29_
              have q1 := c2.2.2.1 f hf
              have q2 := c2.2.1
              refine go_if_eq iM_share_32 (fun c_32 => ?_) (fun c_32 => ?_)
              · (first | omega | exact absurd c_32 (by decide) | (exfalso; simp (disch := omega) only [Int32.lt_iff_toInt_lt, Int32.le_iff_toInt_le, ← Int32.toInt_inj, nI_toInt, i32_m1, i32_0, i32_m20, i32_m40, i32_m30, i32_m9] at *; omega))
              refine go_aloadn_0 iM_share_35 rfl ?_
              refine go_aloadn_0 iM_share_36 rfl ?_
              refine go_getR iM_share_37 rfl (sk_43 _) (mR_43_19 _) ?_
              refine go_iloadn_2 iM_share_40 ?_
              refine go_lald iM_share_41 (sh_55 _) rfl (by omega) (by omega) ?_
              try simp (disch := omega) only [am_u_n, am_u_s, am_u_k, hmM2]
              rw [q1]
              refine go_aloadn_0 iM_share_42 rfl ?_
              refine go_getL iM_share_43 rfl (sk_43 _) ?_
              try simp (disch := omega) only [am_u_n, am_u_s, am_u_k, hmM2]
              refine go_iconst (v := nI 1) iM_share_46 rfl ?_
              rw [q2, lW]
              refine gc_V1 iM_share_47 rfl (by decide) (sk_43 _) rfl (Nat.le_of_ble_eq_true rfl) (Nat.le_of_ble_eq_true rfl) (by decide) (sp_M_tell (u := wtZ m (fun f => nowZ m 12 (wR mI r) f s) f) (l := (Wz m 12 s (wR mI r)).toNat) (by omega) l0 (by omega)) ?_
              refine go_goto iM_share_50 ?_
              refine go_iret iM_share_55 rfl ?_
              refine ex_i (hR0.keep k1 ⟨fun a e1 e2 e3 => by rw [am_u_r e1], fun y hy => by rw [am_u_k hy], fun a ha => ?_⟩ ?_ ?_)
              · rw [am_u_r (by omega), am_u_r (by omega), c1.1 a (by omega) (by omega) (by omega) (by omega) (by omega) (by omega)]; exact a2 a (by omega) (by omega)
              · rw [k2, am_u_k (by decide), am_u_s]
              · rw [k3, am_u_s]
          · refine Pair.ex (h1 := 4) (h2 := 5) (v := .int (-4)) (P := fun mI1 mL1 => FrC mI mI1 mL mL1 ∧ mL1 4 = mL 4) ?_ (fun mI1 mL1 hP => ?_)
            · unfold Ex
              show Go _ _ tT_share (_, 0, [.ref 0, .int (nI r), .int (nI f), am_U, am_U, am_U], []) _
              refine go_aloadn_0 iT_share_0 rfl ?_
              refine go_iloadn_1 iT_share_1 ?_
              refine gc_V1 iT_share_2 rfl (by decide) (sk_0 _) rfl (Nat.le_of_ble_eq_true rfl) (Nat.le_of_ble_eq_true rfl) (by decide) (sp_T_rowAt_t hr) ?_
              refine go_astoren_3 iT_share_5 rfl (by simp [Value.category, am_U]) ?_
              refine go_aloadn_3 iT_share_6 rfl ?_
              refine go_nulR iT_share_7 ?_
              refine go_aloadn_0 iT_share_10 rfl ?_
              refine go_iloadn_2 iT_share_11 ?_
              refine gc_V1 iT_share_12 rfl (by decide) (sk_0 _) rfl (Nat.le_of_ble_eq_true rfl) (Nat.le_of_ble_eq_true rfl) (by decide) (sp_T_isRest_t hmT hm3 hf) ?_
              refine go_if_ne iT_share_15 (fun c_15 => ?_) (fun c_15 => ?_)
              rotate_left
              · (first | omega | exact absurd c_15 (by decide) | (exfalso; simp (disch := omega) only [Int32.lt_iff_toInt_lt, Int32.le_iff_toInt_le, ← Int32.toInt_inj, nI_toInt, i32_m1, i32_0, i32_m20, i32_m40, i32_m30, i32_m9] at *; omega))
              refine go_aloadn_0 iT_share_20 rfl ?_
              refine go_aloadn_3 iT_share_21 rfl ?_
              refine gc_V1 iT_share_22 rfl (by decide) (sk_0 _) rfl (Nat.le_of_ble_eq_true rfl) (Nat.le_of_ble_eq_true rfl) (by decide) (sp_T_refusal_t hr s1 hs4 h8 hcT hpl (hcg.trans hft)) ?_
              refine go_istore_4 iT_share_25 (by simp [Value.category, am_U]) ?_
              refine go_iload_4 iT_share_27 ?_
              refine go_if_eq iT_share_29 (fun c_29 => ?_) (fun c_29 => ?_)
              rotate_left
              · (first | omega | exact absurd c_29 (by decide) | (exfalso; simp (disch := omega) only [Int32.lt_iff_toInt_lt, Int32.le_iff_toInt_le, ← Int32.toInt_inj, nI_toInt, i32_m1, i32_0, i32_m20, i32_m40, i32_m30, i32_m9] at *; omega))
              refine go_aloadn_0 iT_share_35 rfl ?_
              refine go_aloadn_3 iT_share_36 rfl ?_
              refine gx_V1 iT_share_37 rfl (by decide) (sk_0 _) rfl (Nat.le_of_ble_eq_true rfl) (Nat.le_of_ble_eq_true rfl) (by decide) hro2 (fun mI37_ mL37_ h37_ => ?_)
              obtain ⟨e1, e2, e3⟩ := h37_
              have hs3 := hst _ _ e1
              rw [if_neg (show ¬ 0 < wsZ m (fun f => nowZ m 12 (wR mI r) f s) m from c)] at hs3
              refine go_astore_5 iT_share_40 rfl (by simp [Value.category, am_U]) ?_
              refine go_aload_5 iT_share_42 rfl ?_
              refine gx_V1 iT_share_44 rfl (by decide) hsk rfl (Nat.le_of_ble_eq_true rfl) (Nat.le_of_ble_eq_true rfl) (by decide) hs3 (fun mI44_ mL44_ h44_ => ?_)
              obtain ⟨d0, d1, d2, d3, d4, d5⟩ := h44_
              subst mI44_
              refine go_if_ne iT_share_47 (fun c_47 => ?_) (fun c_47 => ?_)
              · (first | omega | exact absurd c_47 (by decide) | (exfalso; simp (disch := omega) only [Int32.lt_iff_toInt_lt, Int32.le_iff_toInt_le, ← Int32.toInt_inj, nI_toInt, i32_m1, i32_0, i32_m20, i32_m40, i32_m30, i32_m9] at *; omega))
              refine go_bipush (v := (-4)) iT_share_50 (by decide) ?_
              refine go_iret iT_share_52 rfl ?_
              refine ex_i ⟨⟨fun a ha => e2 a (by omega), fun a ha h4 => ?_⟩, ?_⟩
              · rw [d2.2 a (by omega) (by omega) (by omega) (by omega)]; exact e3 a (by omega)
              · rw [d2.2 4 (by omega) (by omega) (by omega) (by omega)]; exact e3 4 (by omega)
            · obtain ⟨k1, k2⟩ := hP
              have hq : ∀ a, 42 < a → mI1 a = mI a := fun a ha => k1.1 a (by omega)
              have hmM2 : mI1 43 4 = nI m := by rw [hq 43 (by omega)]; exact hmM
              unfold Ex
              show Go _ _ tM_share (_, 0, [.ref 43, .int (nI r), .int (nI f), am_U], []) _
              refine go_iloadn_2 iM_share_0 ?_
              refine go_iconst (v := nI 0) iM_share_1 rfl ?_
              refine go_aloadn_0 iM_share_2 rfl ?_
              refine go_getI iM_share_3 (Or.inl rfl) (sk_43 _) ?_
              try simp (disch := omega) only [am_u_n, am_u_s, am_u_k, hmM2]
              refine go_iconst (v := nI 1) iM_share_6 rfl ?_
              first | refine gn_isub iM_share_7 (by omega) ?_ | refine go_isub iM_share_7 ?_
              refine gc_S1 iM_share_8 (by decide) rfl rfl (Nat.le_of_ble_eq_true rfl) (Nat.le_of_ble_eq_true rfl) (by decide) (sp_M_in_t (by simp (disch := omega) only [nI_toInt]; omega) (by simp (disch := omega) only [nI_toInt]; omega)) ?_
              refine go_if_ne iM_share_11 (fun c_11 => ?_) (fun c_11 => ?_)
              rotate_left
              · (first | omega | exact absurd c_11 (by decide) | (exfalso; simp (disch := omega) only [Int32.lt_iff_toInt_lt, Int32.le_iff_toInt_le, ← Int32.toInt_inj, nI_toInt, i32_m1, i32_0, i32_m20, i32_m40, i32_m30, i32_m9] at *; omega))
              refine go_aloadn_0 iM_share_16 rfl ?_
              refine go_iloadn_1 iM_share_17 ?_
              refine gx_V1 iM_share_18 rfl (by decide) (sk_43 _) rfl (Nat.le_of_ble_eq_true rfl) (Nat.le_of_ble_eq_true rfl) (by decide) (hms mI1 mL1 hq) (fun mI18_ mL18_ h18_ => ?_)
              obtain ⟨a1, a2, a3, a4, a5⟩ := h18_
              subst mI18_
              have hse := ex_M_settles (S := S) (n := n) hG (by rw [am_u_k (by decide)]; exact hmM2) (mI := am_u mI1 43 11 (nI s)) am_u_s a4 (fun t i ht hi => a5 t i ht (by omega))
              rw [if_neg c] at hse
              refine go_istoren_3 iM_share_21 (by simp [Value.category, am_U]) ?_
              refine go_iloadn_3 iM_share_22 ?_
              refine go_if_ge iM_share_23 (fun c_23 => ?_) (fun c_23 => ?_)
              rotate_left
              · (first | omega | exact absurd c_23 (by decide) | (exfalso; simp (disch := omega) only [Int32.lt_iff_toInt_lt, Int32.le_iff_toInt_le, ← Int32.toInt_inj, nI_toInt, i32_m1, i32_0, i32_m20, i32_m40, i32_m30, i32_m9] at *; omega))
              refine go_aloadn_0 iM_share_28 rfl ?_
              refine gx_V1 iM_share_29 rfl (by decide) (sk_43 _) rfl (Nat.le_of_ble_eq_true rfl) (Nat.le_of_ble_eq_true rfl) (by decide) hse (fun mI29_ mL29_ h29_ => ?_)
              obtain ⟨b0, c1, c2, c3⟩ := h29_
              subst mI29_
              refine go_if_eq iM_share_32 (fun c_32 => ?_) (fun c_32 => ?_)
              rotate_left
              · (first | omega | exact absurd c_32 (by decide) | (exfalso; simp (disch := omega) only [Int32.lt_iff_toInt_lt, Int32.le_iff_toInt_le, ← Int32.toInt_inj, nI_toInt, i32_m1, i32_0, i32_m20, i32_m40, i32_m30, i32_m9] at *; omega))
              refine go_bipush (v := (-4)) iM_share_53 (by decide) ?_
              refine go_iret iM_share_55 rfl ?_
              refine ex_i (hR0.keep k1 ⟨fun a e1 e2 e3 => by rw [am_u_r e1], fun y hy => by rw [am_u_k hy], fun a ha => ?_⟩ ?_ ?_)
              · rw [c1.1 a (by omega) (by omega) (by omega) (by omega) (by omega) (by omega)]; exact a2 a (by omega) (by omega)
              · rw [k2, c1.2 2 (by decide) (by decide) (by decide) (by decide), a3 2 (by decide), k1.2 43 (by omega) (by decide)]; exact hu
              · rw [k2, c1.2 3 (by decide) (by decide) (by decide) (by decide), a3 3 (by decide), k1.2 43 (by omega) (by decide)]; exact hl
    · refine Pair.same (h1 := 1) (h2 := 1) (v := .int (-1)) hR0 ?_ ?_
      · show Go _ _ tT_share (_, 0, [.ref 0, .int (nI r), .int y, am_U, am_U, am_U], []) _
        refine go_aloadn_0 iT_share_0 rfl ?_
        refine go_iloadn_1 iT_share_1 ?_
        refine gc_V1 iT_share_2 rfl (by decide) (sk_0 _) rfl (Nat.le_of_ble_eq_true rfl) (Nat.le_of_ble_eq_true rfl) (by decide) (sp_T_rowAt_t hr) ?_
        refine go_astoren_3 iT_share_5 rfl (by simp [Value.category, am_U]) ?_
        refine go_aloadn_3 iT_share_6 rfl ?_
        refine go_nulR iT_share_7 ?_
        refine go_aloadn_0 iT_share_10 rfl ?_
        refine go_iloadn_2 iT_share_11 ?_
        refine gc_V1 iT_share_12 rfl (by decide) (sk_0 _) rfl (Nat.le_of_ble_eq_true rfl) (Nat.le_of_ble_eq_true rfl) (by decide) (sp_T_isRest_f hmT hm3 hy) ?_
        refine go_if_ne iT_share_15 (fun c_15 => ?_) (fun c_15 => ?_)
        · (first | omega | exact absurd c_15 (by decide) | (exfalso; simp (disch := omega) only [Int32.lt_iff_toInt_lt, Int32.le_iff_toInt_le, ← Int32.toInt_inj, nI_toInt, i32_m1, i32_0, i32_m20, i32_m40, i32_m30, i32_m9] at *; omega))
        refine go_iconst (v := (-1)) iT_share_18 rfl ?_
        refine go_iret iT_share_19 rfl ?_
        rfl
      · show Go _ _ tM_share (_, 0, [.ref 43, .int (nI r), .int y, am_U], []) _
        refine go_iloadn_2 iM_share_0 ?_
        refine go_iconst (v := nI 0) iM_share_1 rfl ?_
        refine go_aloadn_0 iM_share_2 rfl ?_
        refine go_getI iM_share_3 (Or.inl rfl) (sk_43 _) ?_
        try simp (disch := omega) only [am_u_n, am_u_s, am_u_k, hmM]
        refine go_iconst (v := nI 1) iM_share_6 rfl ?_
        first | refine gn_isub iM_share_7 (by omega) ?_ | refine go_isub iM_share_7 ?_
        refine gc_S1 iM_share_8 (by decide) rfl rfl (Nat.le_of_ble_eq_true rfl) (Nat.le_of_ble_eq_true rfl) (by decide) (sp_M_in_f (by simp (disch := omega) only [nI_toInt]; omega)) ?_
        refine go_if_ne iM_share_11 (fun c_11 => ?_) (fun c_11 => ?_)
        · (first | omega | exact absurd c_11 (by decide) | (exfalso; simp (disch := omega) only [Int32.lt_iff_toInt_lt, Int32.le_iff_toInt_le, ← Int32.toInt_inj, nI_toInt, i32_m1, i32_0, i32_m20, i32_m40, i32_m30, i32_m9] at *; omega))
        refine go_iconst (v := (-1)) iM_share_14 rfl ?_
        refine go_iret iM_share_15 rfl ?_
        rfl
  · refine Pair.same (h1 := 1) (h2 := 4) (v := .int (-1)) hR0 ?_ ?_
    · show Go _ _ tT_share (_, 0, [.ref 0, .int x, .int y, am_U, am_U, am_U], []) _
      refine go_aloadn_0 iT_share_0 rfl ?_
      refine go_iloadn_1 iT_share_1 ?_
      refine gc_V1 iT_share_2 rfl (by decide) (sk_0 _) rfl (Nat.le_of_ble_eq_true rfl) (Nat.le_of_ble_eq_true rfl) (by decide) (sp_T_rowAt_f hx) ?_
      refine go_astoren_3 iT_share_5 rfl (by simp [Value.category, am_U]) ?_
      refine go_aloadn_3 iT_share_6 rfl ?_
      refine go_nulN iT_share_7 ?_
      refine go_iconst (v := (-1)) iT_share_18 rfl ?_
      refine go_iret iT_share_19 rfl ?_
      rfl
    · rcases rest_cases y hm3 with ⟨f, hf, rfl⟩ | hy
      · show Go _ _ tM_share (_, 0, [.ref 43, .int x, .int (nI f), am_U], []) _
        refine go_iloadn_2 iM_share_0 ?_
        refine go_iconst (v := nI 0) iM_share_1 rfl ?_
        refine go_aloadn_0 iM_share_2 rfl ?_
        refine go_getI iM_share_3 (Or.inl rfl) (sk_43 _) ?_
        try simp (disch := omega) only [am_u_n, am_u_s, am_u_k, hmM]
        refine go_iconst (v := nI 1) iM_share_6 rfl ?_
        first | refine gn_isub iM_share_7 (by omega) ?_ | refine go_isub iM_share_7 ?_
        refine gc_S1 iM_share_8 (by decide) rfl rfl (Nat.le_of_ble_eq_true rfl) (Nat.le_of_ble_eq_true rfl) (by decide) (sp_M_in_t (by simp (disch := omega) only [nI_toInt]; omega) (by simp (disch := omega) only [nI_toInt]; omega)) ?_
        refine go_if_ne iM_share_11 (fun c_11 => ?_) (fun c_11 => ?_)
        rotate_left
        · (first | omega | exact absurd c_11 (by decide) | (exfalso; simp (disch := omega) only [Int32.lt_iff_toInt_lt, Int32.le_iff_toInt_le, ← Int32.toInt_inj, nI_toInt, i32_m1, i32_0, i32_m20, i32_m40, i32_m30, i32_m9] at *; omega))
        refine go_aloadn_0 iM_share_16 rfl ?_
        refine go_iloadn_1 iM_share_17 ?_
        refine gc_V1 iM_share_18 rfl (by decide) (sk_43 _) rfl (Nat.le_of_ble_eq_true rfl) (Nat.le_of_ble_eq_true rfl) (by decide) (sp_M_asked_b hx) ?_
        refine go_istoren_3 iM_share_21 (by simp [Value.category, am_U]) ?_
        refine go_iloadn_3 iM_share_22 ?_
        refine go_if_ge iM_share_23 (fun c_23 => ?_) (fun c_23 => ?_)
        · (first | omega | exact absurd c_23 (by decide) | (exfalso; simp (disch := omega) only [Int32.lt_iff_toInt_lt, Int32.le_iff_toInt_le, ← Int32.toInt_inj, nI_toInt, i32_m1, i32_0, i32_m20, i32_m40, i32_m30, i32_m9] at *; omega))
        refine go_iloadn_3 iM_share_26 ?_
        refine go_iret iM_share_27 rfl ?_
        rfl
      · show Go _ _ tM_share (_, 0, [.ref 43, .int x, .int y, am_U], []) _
        refine go_iloadn_2 iM_share_0 ?_
        refine go_iconst (v := nI 0) iM_share_1 rfl ?_
        refine go_aloadn_0 iM_share_2 rfl ?_
        refine go_getI iM_share_3 (Or.inl rfl) (sk_43 _) ?_
        try simp (disch := omega) only [am_u_n, am_u_s, am_u_k, hmM]
        refine go_iconst (v := nI 1) iM_share_6 rfl ?_
        first | refine gn_isub iM_share_7 (by omega) ?_ | refine go_isub iM_share_7 ?_
        refine gc_S1 iM_share_8 (by decide) rfl rfl (Nat.le_of_ble_eq_true rfl) (Nat.le_of_ble_eq_true rfl) (by decide) (sp_M_in_f (by simp (disch := omega) only [nI_toInt]; omega)) ?_
        refine go_if_ne iM_share_11 (fun c_11 => ?_) (fun c_11 => ?_)
        · (first | omega | exact absurd c_11 (by decide) | (exfalso; simp (disch := omega) only [Int32.lt_iff_toInt_lt, Int32.le_iff_toInt_le, ← Int32.toInt_inj, nI_toInt, i32_m1, i32_0, i32_m20, i32_m40, i32_m30, i32_m9] at *; omega))
        refine go_iconst (v := (-1)) iM_share_14 rfl ?_
        refine go_iret iM_share_15 rfl ?_
        rfl
end LDS
