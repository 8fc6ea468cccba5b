/-! ===== the class's rounds ===== -/
def RdI (mI : Nat → Nat → Int32) (mL : Nat → Nat → Int64) (k m T : Nat) (s : Int) (A : Nat → Nat → Int) (G : Nat → Int) : Prop := mI (23 + 4 * k) 0 = nI m ∧ mI (23 + 4 * k) 1 = nI T ∧ mL (23 + 4 * k) 2 = zL s ∧ (∀ f x, f < m → x < m → mL (24 + 4 * k) (f * 3 + x) = zL (A f x)) ∧ ∀ f, f < m → mL (25 + 4 * k) f = zL (G f)
theorem RdI.of {mI mI' : Nat → Nat → Int32} {mL mL' : Nat → Nat → Int64} {k m T : Nat} {s : Int} {A : Nat → Nat → Int} {G : Nat → Int} (h : RdI mI mL k m T s A G) (h1 : mI' (23 + 4 * k) = mI (23 + 4 * k)) (h2 : mL' (23 + 4 * k) 2 = mL (23 + 4 * k) 2) (h3 : mL' (24 + 4 * k) = mL (24 + 4 * k)) (h4 : mL' (25 + 4 * k) = mL (25 + 4 * k)) : RdI mI' mL' k m T s A G := by
  obtain ⟨a1, a2, a3, a4, a5⟩ := h
  exact ⟨by rw [h1]; exact a1, by rw [h1]; exact a2, by rw [h2]; exact a3, fun f x hf hx => by rw [h3]; exact a4 f x hf hx, fun f hf => by rw [h4]; exact a5 f hf⟩
/-- only the cells of round k differ -/
def FrK (k : Nat) (mI mI' : Nat → Nat → Int32) (mL mL' : Nat → Nat → Int64) : Prop := (∀ a, a ≠ 23 + 4 * k → mI' a = mI a) ∧ ∀ a, a ≠ 23 + 4 * k → a ≠ 24 + 4 * k → a ≠ 25 + 4 * k → a ≠ 26 + 4 * k → mL' a = mL a
theorem FrK.rfl' {k : Nat} {mI : Nat → Nat → Int32} {mL : Nat → Nat → Int64} : FrK k mI mI mL mL := ⟨fun _ _ => rfl, fun _ _ _ _ _ => rfl⟩
theorem FrK.trans {k : Nat} {mI mI' mI'' : Nat → Nat → Int32} {mL mL' mL'' : Nat → Nat → Int64} (h : FrK k mI mI' mL mL') (h' : FrK k mI' mI'' mL' mL'') : FrK k mI mI'' mL mL'' := ⟨fun a h1 => (h'.1 a h1).trans (h.1 a h1), fun a h1 h2 h3 h4 => (h'.2 a h1 h2 h3 h4).trans (h.2 a h1 h2 h3 h4)⟩
theorem RdI.fr {j k m T : Nat} {s : Int} {A : Nat → Nat → Int} {G : Nat → Int} {mI mI' : Nat → Nat → Int32} {mL mL' : Nat → Nat → Int64} (h : RdI mI mL j m T s A G) (hf : FrK k mI mI' mL mL') (hjk : j ≠ k) : RdI mI' mL' j m T s A G := h.of (hf.1 _ (by omega)) (by rw [hf.2 _ (by omega) (by omega) (by omega) (by omega)]) (hf.2 _ (by omega) (by omega) (by omega) (by omega)) (hf.2 _ (by omega) (by omega) (by omega) (by omega))
def stL (mL : Nat → Nat → Int64) (k f u d : Nat) (won lost : Int64) : Nat → Nat → Int64 := am_u (am_u (am_u mL (24 + 4 * k) (f * 3 + u) (mL (24 + 4 * k) (f * 3 + u) + won)) (24 + 4 * k) (f * 3 + d) ((am_u mL (24 + 4 * k) (f * 3 + u) (mL (24 + 4 * k) (f * 3 + u) + won)) (24 + 4 * k) (f * 3 + d) + lost)) (25 + 4 * k) f (mL (25 + 4 * k) f + (won - lost))
section RND
variable {S : am_S} {mI : Nat → Nat → Int32} {mL : Nat → Nat → Int64} {n k : Nat}
theorem sk_rnd (n : Nat) (h : k < 5) : ((am_sh n)[23 + 4 * k]?).map (fun q => q.1) = some 14 := by rw [(sh_rnd n h).1.1]; rfl
theorem sp_R_chance {f x : Nat} (hk : k < 5) (hf : f < 3) (hx : x < 3) : Sp S 0 tR_chance (am_sh n, mI, mL, am_mR n) [.ref (23 + 4 * k), .int (nI f), .int (nI x)] (fun q => q = (some (.long (mL (24 + 4 * k) (f * 3 + x))), (am_sh n, mI, mL, am_mR n))) := by
  have hs := sk_rnd n hk
  obtain ⟨⟨g1, g2, g3, g4⟩, g5, g6, g7, g8⟩ := sh_rnd n hk
  show Go _ _ tR_chance (_, 0, [.ref (23 + 4 * k), .int (nI f), .int (nI x)], []) _
  refine go_aloadn_0 iR_chance_0 rfl ?_
  refine go_getR iR_chance_1 rfl (by assumption) (by assumption) ?_
  refine go_iloadn_1 iR_chance_4 ?_
  refine go_iconst (v := nI 3) iR_chance_5 rfl ?_
  first | refine gn_imul iR_chance_6 ?_ | refine go_imul iR_chance_6 ?_
  refine go_iloadn_2 iR_chance_7 ?_
  first | refine gn_iadd iR_chance_8 ?_ | refine go_iadd iR_chance_8 ?_
  refine go_lald iR_chance_9 (by assumption) rfl (by omega) (by omega) ?_
  refine go_lret iR_chance_10 rfl ?_
  rfl
theorem sp_R_step {f i m : Nat} {won lost : Int64} (hk : k < 5) (hf : f < 3) (hi : i < m) (hm3 : m ≤ 3) (hm : mI (23 + 4 * k) 0 = nI m) : Sp S 0 tR_step (am_sh n, mI, mL, am_mR n) [.ref (23 + 4 * k), .int (nI f), .int (nI i), .long won, .long lost] (fun q => q = (none, (am_sh n, mI, stL mL k f (upR m i) (dnR m i) won lost, am_mR n))) := by
  have hs := sk_rnd n hk
  obtain ⟨⟨g1, g2, g3, g4⟩, g5, g6, g7, g8⟩ := sh_rnd n hk
  have hu := upR_lt (m := m) (i := i) (by omega)
  have hd := dnR_lt hi
  have kk : ∀ u v : Nat, u = upR m i → v = dnR m i → Go S 0 tR_step ((am_sh n, mI, mL, am_mR n), 37, [.ref (23 + 4 * k), .int (nI f), .int (nI i), .long won, am_U, .long lost, am_U, .int (nI u), .int (nI v)], []) (fun q => q = (none, (am_sh n, mI, stL mL k f (upR m i) (dnR m i) won lost, am_mR n))) := by
    intro u v hu' hv'
    subst hu' hv'
    refine go_aloadn_0 iR_step_37 rfl ?_
    refine go_getR iR_step_38 rfl (by assumption) (by assumption) ?_
    refine go_iloadn_1 iR_step_41 ?_
    refine go_iconst (v := nI 3) iR_step_42 rfl ?_
    first | refine gn_imul iR_step_43 ?_ | refine go_imul iR_step_43 ?_
    refine go_iload_7 iR_step_44 ?_
    first | refine gn_iadd iR_step_46 ?_ | refine go_iadd iR_step_46 ?_
    refine go_dup2 iR_step_47 ⟨rfl, rfl⟩ ?_
    refine go_lald iR_step_48 (by assumption) rfl (by omega) (by omega) ?_
    refine go_lloadn_3 iR_step_49 ?_
    refine go_ladd iR_step_50 ?_
    refine go_last iR_step_51 (by assumption) rfl (by omega) (by omega) ?_
    refine go_aloadn_0 iR_step_52 rfl ?_
    refine go_getR iR_step_53 rfl (by assumption) (by assumption) ?_
    refine go_iloadn_1 iR_step_56 ?_
    refine go_iconst (v := nI 3) iR_step_57 rfl ?_
    first | refine gn_imul iR_step_58 ?_ | refine go_imul iR_step_58 ?_
    refine go_iload_8 iR_step_59 ?_
    first | refine gn_iadd iR_step_61 ?_ | refine go_iadd iR_step_61 ?_
    refine go_dup2 iR_step_62 ⟨rfl, rfl⟩ ?_
    refine go_lald iR_step_63 (by assumption) rfl (by omega) (by omega) ?_
    refine go_lload_5 iR_step_64 ?_
    refine go_ladd iR_step_66 ?_
    refine go_last iR_step_67 (by assumption) rfl (by omega) (by omega) ?_
    refine go_aloadn_0 iR_step_68 rfl ?_
    refine go_getR iR_step_69 rfl (by assumption) (by assumption) ?_
    refine go_iloadn_1 iR_step_72 ?_
    refine go_dup2 iR_step_73 ⟨rfl, rfl⟩ ?_
    refine go_lald iR_step_74 (by assumption) rfl (by omega) (by omega) ?_
    refine go_lloadn_3 iR_step_75 ?_
    refine go_lload_5 iR_step_76 ?_
    refine go_lsub iR_step_78 ?_
    refine go_ladd iR_step_79 ?_
    refine go_last iR_step_80 (by assumption) rfl (by omega) (by omega) ?_
    refine go_vret iR_step_81 rfl ?_
    unfold stL; rw [am_u_n (a := 25 + 4 * k) (by omega), am_u_n (a := 25 + 4 * k) (by omega)]
  show Go _ _ tR_step (_, 0, [.ref (23 + 4 * k), .int (nI f), .int (nI i), .long won, am_U, .long lost, am_U, am_U, am_U], []) _
  have cv : (nI i ≤ 0) ↔ i = 0 := by rw [Int32.le_iff_toInt_le, nI_toInt (by omega), i32_0]; omega
  refine go_iloadn_2 iR_step_0 ?_
  refine go_iconst (v := nI 1) iR_step_1 rfl ?_
  first | refine gn_iadd iR_step_2 ?_ | refine go_iadd iR_step_2 ?_
  refine go_aloadn_0 iR_step_3 rfl ?_
  refine go_getI iR_step_4 (Or.inl rfl) (by assumption) ?_
  try simp (disch := omega) only [am_u_n, am_u_s, am_u_k, hm]
  first | refine gn_ic_ge iR_step_7 (by omega) (by omega) (fun c_7 => ?_) (fun c_7 => ?_) | refine go_ic_ge iR_step_7 (fun c_7 => ?_) (fun c_7 => ?_)
  · refine go_iconst (v := nI 0) iR_step_16 rfl ?_
    refine go_istore_7 iR_step_17 (by simp [Value.category, am_U]) ?_
    refine go_iloadn_2 iR_step_19 ?_
    refine go_if_le iR_step_20 (fun c_20 => ?_) (fun c_20 => ?_)
    · rw [cv] at c_20
      refine go_aloadn_0 iR_step_29 rfl ?_
      refine go_getI iR_step_30 (Or.inl rfl) (by assumption) ?_
      try simp (disch := omega) only [am_u_n, am_u_s, am_u_k, hm]
      refine go_iconst (v := nI 1) iR_step_33 rfl ?_
      first | refine gn_isub iR_step_34 (by omega) ?_ | refine go_isub iR_step_34 ?_
      refine go_istore_8 iR_step_35 (by simp [Value.category, am_U]) ?_
      exact kk _ _ (by unfold upR; split <;> omega) (by unfold dnR; split <;> omega)
    · rw [cv] at c_20
      refine go_iloadn_2 iR_step_23 ?_
      refine go_iconst (v := nI 1) iR_step_24 rfl ?_
      first | refine gn_isub iR_step_25 (by omega) ?_ | refine go_isub iR_step_25 ?_
      refine go_goto iR_step_26 ?_
      refine go_istore_8 iR_step_35 (by simp [Value.category, am_U]) ?_
      exact kk _ _ (by unfold upR; split <;> omega) (by unfold dnR; split <;> omega)
  · refine go_iloadn_2 iR_step_10 ?_
    refine go_iconst (v := nI 1) iR_step_11 rfl ?_
    first | refine gn_iadd iR_step_12 ?_ | refine go_iadd iR_step_12 ?_
    refine go_goto iR_step_13 ?_
    refine go_istore_7 iR_step_17 (by simp [Value.category, am_U]) ?_
    refine go_iloadn_2 iR_step_19 ?_
    refine go_if_le iR_step_20 (fun c_20 => ?_) (fun c_20 => ?_)
    · rw [cv] at c_20
      refine go_aloadn_0 iR_step_29 rfl ?_
      refine go_getI iR_step_30 (Or.inl rfl) (by assumption) ?_
      try simp (disch := omega) only [am_u_n, am_u_s, am_u_k, hm]
      refine go_iconst (v := nI 1) iR_step_33 rfl ?_
      first | refine gn_isub iR_step_34 (by omega) ?_ | refine go_isub iR_step_34 ?_
      refine go_istore_8 iR_step_35 (by simp [Value.category, am_U]) ?_
      exact kk _ _ (by unfold upR; split <;> omega) (by unfold dnR; split <;> omega)
    · rw [cv] at c_20
      refine go_iloadn_2 iR_step_23 ?_
      refine go_iconst (v := nI 1) iR_step_24 rfl ?_
      first | refine gn_isub iR_step_25 (by omega) ?_ | refine go_isub iR_step_25 ?_
      refine go_goto iR_step_26 ?_
      refine go_istore_8 iR_step_35 (by simp [Value.category, am_U]) ?_
      exact kk _ _ (by unfold upR; split <;> omega) (by unfold dnR; split <;> omega)
def BgI (mL0 mL : Nat → Nat → Int64) (k i : Nat) : Prop := (∀ a, a ≠ 24 + 4 * k → mL a = mL0 a) ∧ ∀ f x, f < 3 → x < 3 → mL (24 + 4 * k) (f * 3 + x) = zL (if x = f ∧ f < i then 1 else 0)
theorem lo_R_begin {m : Nat} {mL0 : Nat → Nat → Int64} {Q : Option Value × am_M → Prop} (hk : k < 5) (hm3 : m ≤ 3) (kq : ∀ mL', BgI mL0 mL' k m → Q (none, (am_sh n, mI, mL', am_mR n))) : ∀ j i (mL : Nat → Nat → Int64), i + j = m → BgI mL0 mL k i → Go S 0 tR_begin ((am_sh n, mI, mL, am_mR n), 33, [.ref (23 + 4 * k), .int (nI m), .int (nI i)], []) Q
  | 0, i, mL, hi, hb => by
    obtain rfl : i = m := by omega
    refine go_iloadn_2 iR_begin_33 ?_
    refine go_iloadn_1 iR_begin_34 ?_
    first | refine gn_ic_ge iR_begin_35 (by omega) (by omega) (fun c_35 => ?_) (fun c_35 => ?_) | refine go_ic_ge iR_begin_35 (fun c_35 => ?_) (fun c_35 => ?_)
    rotate_left
    · (first | omega | exact absurd c_35 (by decide) | (exfalso; simp (disch := omega) only [Int32.lt_iff_toInt_lt, Int32.le_iff_toInt_le, ← Int32.toInt_inj, nI_toInt, i32_m1, i32_0, i32_m20, i32_m40, i32_m30, i32_m9] at *; omega))
    refine go_vret iR_begin_55 rfl ?_
    exact kq _ hb
  | j + 1, i, mL, hi, hb => by
    have hs := sk_rnd n hk
    obtain ⟨⟨g1, g2, g3, g4⟩, g5, g6, g7, g8⟩ := sh_rnd n hk
    refine go_iloadn_2 iR_begin_33 ?_
    refine go_iloadn_1 iR_begin_34 ?_
    first | refine gn_ic_ge iR_begin_35 (by omega) (by omega) (fun c_35 => ?_) (fun c_35 => ?_) | refine go_ic_ge iR_begin_35 (fun c_35 => ?_) (fun c_35 => ?_)
    · (first | omega | exact absurd c_35 (by decide) | (exfalso; simp (disch := omega) only [Int32.lt_iff_toInt_lt, Int32.le_iff_toInt_le, ← Int32.toInt_inj, nI_toInt, i32_m1, i32_0, i32_m20, i32_m40, i32_m30, i32_m9] at *; omega))
    refine go_aloadn_0 iR_begin_38 rfl ?_
    refine go_getR iR_begin_39 rfl (by assumption) (by assumption) ?_
    refine go_iloadn_2 iR_begin_42 ?_
    refine go_iconst (v := nI 3) iR_begin_43 rfl ?_
    first | refine gn_imul iR_begin_44 ?_ | refine go_imul iR_begin_44 ?_
    refine go_iloadn_2 iR_begin_45 ?_
    first | refine gn_iadd iR_begin_46 ?_ | refine go_iadd iR_begin_46 ?_
    refine go_lconst (v := zL 1) iR_begin_47 rfl ?_
    refine go_last iR_begin_48 (by assumption) rfl (by omega) (by omega) ?_
    first | refine go_iinc_2 iR_begin_49 (ni_inc _ 1) (by simp [Value.category, am_U]) ?_ | refine go_iinc_2 iR_begin_49 rfl (by simp [Value.category, am_U]) ?_
    refine go_goto iR_begin_52 ?_
    refine lo_R_begin hk hm3 kq j (i + 1) _ (by omega) ⟨fun a ha => by rw [am_u_r ha]; exact hb.1 a ha, fun f x hf hx => ?_⟩
    by_cases e : f * 3 + x = i * 3 + i
    · rw [e, am_u_s, if_pos (by omega)]
    · rw [am_u_k e, hb.2 f x hf hx]
      congr 1
      by_cases e2 : x = f ∧ f < i
      · rw [if_pos e2, if_pos (by omega)]
      · rw [if_neg e2, if_neg (by omega)]
theorem ex_R_begin {m : Nat} (hk : k < 5) (hm3 : m ≤ 3) : Ex S 1 tR_begin n mI mL [.ref (23 + 4 * k), .int (nI m)] none (fun mI' mL' => RdI mI' mL' k m 0 1 (fun f x => if x = f then 1 else 0) (fun _ => 0) ∧ FrK k mI mI' mL mL') := by
  have hs := sk_rnd n hk
  obtain ⟨⟨g1, g2, g3, g4⟩, g5, g6, g7, g8⟩ := sh_rnd n hk
  unfold Ex
  show Go _ _ tR_begin (_, 0, [.ref (23 + 4 * k), .int (nI m), am_U], []) _
  refine go_aloadn_0 iR_begin_0 rfl ?_
  refine go_iloadn_1 iR_begin_1 ?_
  refine go_putI iR_begin_2 rfl (by assumption) ?_
  refine go_aloadn_0 iR_begin_5 rfl ?_
  refine go_iconst (v := nI 0) iR_begin_6 rfl ?_
  refine go_putI iR_begin_7 rfl (by assumption) ?_
  refine go_aloadn_0 iR_begin_10 rfl ?_
  refine go_lconst (v := zL 1) iR_begin_11 rfl ?_
  refine go_putL iR_begin_12 rfl (by assumption) ?_
  refine go_aloadn_0 iR_begin_15 rfl ?_
  refine go_getR iR_begin_16 rfl (by assumption) (by assumption) ?_
  refine go_lconst (v := zL 0) iR_begin_19 rfl ?_
  refine gc_S0 iR_begin_20 (by decide) rfl rfl (Nat.le_of_ble_eq_true rfl) (Nat.le_of_ble_eq_true rfl) (by decide) (sp_J_fillJ g2 (by decide)) ?_
  refine go_aloadn_0 iR_begin_23 rfl ?_
  refine go_getR iR_begin_24 rfl (by assumption) (by assumption) ?_
  refine go_lconst (v := zL 0) iR_begin_27 rfl ?_
  refine gc_S0 iR_begin_28 (by decide) rfl rfl (Nat.le_of_ble_eq_true rfl) (Nat.le_of_ble_eq_true rfl) (by decide) (sp_J_fillJ g3 (by decide)) ?_
  refine go_iconst (v := nI 0) iR_begin_31 rfl ?_
  refine go_istoren_2 iR_begin_32 (by simp [Value.category, am_U]) ?_
  refine go_mono (lo_R_begin hk hm3 (fun mL2 hb => ?_) m 0 _ (by omega) ⟨fun a ha => rfl, fun f x hf hx => ?_⟩) (by decide) (fun r hr => hr)
  · refine ex_i ⟨⟨?_, ?_, ?_, fun f x hf hx => ?_, fun f hf => ?_⟩, fun a h1 => ?_, fun a h1 h2 h3 h4 => ?_⟩
    · rw [am_u_k (by decide), am_u_s]
    · rw [am_u_s]
    · rw [hb.1 _ (by omega), va_up_ne _ _ (by omega), va_up_ne _ _ (by omega), am_u_s]
    · rw [hb.2 f x (by omega) (by omega)]; congr 1; by_cases e : x = f <;> simp [e, hf]
    · rw [hb.1 _ (by omega), va_up_self]; simp only [fl]; rw [if_pos (by omega)]
    · rw [am_u_r h1, am_u_r h1]
    · rw [hb.1 _ h2, va_up_ne _ _ h3, va_up_ne _ _ h2, am_u_r h1]
  · rw [va_up_ne _ _ (by omega), va_up_self]; simp only [fl]; rw [if_pos (by omega), if_neg (by omega)]
end RND
