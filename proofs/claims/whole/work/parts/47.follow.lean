/-! ===== Round.follow, settles ===== -/
/-- the rows before f are done, in row f the first i rests, the others are empty -/
def FoI (mL0 mL : Nat → Nat → Int64) (k m B : Nat) (w : Nat → Nat) (A : Nat → Nat → Int) (G : Nat → Int) (f i : Nat) : Prop := (∀ a, a ≠ 24 + 4 * k → a ≠ 25 + 4 * k → mL a = mL0 a) ∧ (∀ g x, g < m → x < m → mL (24 + 4 * k) (g * 3 + x) = zL (if g < f then stP m B w (A g) m x else if g = f then stP m B w (A f) i x else 0)) ∧ (∀ g, g < f → mL (25 + 4 * k) g = zL (G g * (B : Int) + gP B w (A g) m)) ∧ mL (25 + 4 * k) f = zL (G f * (B : Int) + gP B w (A f) i)
def FoO (mL0 mL : Nat → Nat → Int64) (k m B : Nat) (w : Nat → Nat) (A : Nat → Nat → Int) (G : Nat → Int) (f : Nat) : Prop := (∀ a, a ≠ 24 + 4 * k → a ≠ 25 + 4 * k → mL a = mL0 a) ∧ (∀ g x, g < m → x < m → mL (24 + 4 * k) (g * 3 + x) = zL (if g < f then stP m B w (A g) m x else 0)) ∧ ∀ g, g < f → mL (25 + 4 * k) g = zL (G g * (B : Int) + gP B w (A g) m)
section FOL
variable {S : am_S} {mI : Nat → Nat → Int32} {mL mL0 : Nat → Nat → Int64} {n k j m B c nc : Nat} {w : Nat → Nat} {A : Nat → Nat → Int} {G : Nat → Int}
theorem FoI.step {f i : Nat} (hm3 : m ≤ 3) (hi : i < m) (hf : f < m) (h : FoI mL0 mL k m B w A G f i) : FoI mL0 (stL mL k f (upR m i) (dnR m i) (zL (A f i * (w i : Int))) (zL (A f i * ((B - w i : Nat) : Int)))) k m B w A G f (i + 1) := by
  obtain ⟨h1, h2, h3, h4⟩ := h
  have hu := upR_lt (m := m) (i := i) (by omega)
  have hd := dnR_lt hi
  refine ⟨fun a a1 a2 => ?_, fun g x hg hx => ?_, fun g hg => ?_, ?_⟩
  · unfold stL
    rw [am_u_r a2, am_u_r a1, am_u_r a1, h1 a a1 a2]
  · unfold stL
    rw [am_u_n (a := 24 + 4 * k) (by omega)]
    have base := h2 g x hg hx
    have bu := h2 f (upR m i) hf hu
    rw [if_neg (by omega), if_pos rfl] at bu
    have bd := h2 f (dnR m i) hf hd
    rw [if_neg (by omega), if_pos rfl] at bd
    by_cases e : g = f
    · subst e
      rw [if_neg (by omega), if_pos rfl] at base
      rw [if_neg (by omega), if_pos rfl]
      by_cases e1 : x = dnR m i
      · subst e1
        rw [am_u_s]
        by_cases e2 : dnR m i = upR m i
        · rw [e2] at base ⊢
          rw [am_u_s, base, zL_add, zL_add]
          simp only [stP, if_true, e2]
        · rw [am_u_k (by omega), base, zL_add]
          simp only [stP, if_true, e2, if_false, Int.add_zero]
      · rw [am_u_k (by omega)]
        by_cases e2 : x = upR m i
        · subst e2
          rw [am_u_s, base, zL_add]
          simp only [stP, if_true, e1, if_false, Int.add_zero]
        · rw [am_u_k (by omega), base]
          simp only [stP, e1, e2, if_false, Int.add_zero]
    · rw [am_u_k (by omega), am_u_k (by omega), base]
      simp only [e, if_false]
  · unfold stL
    rw [am_u_k (by omega), am_u_n (by omega), am_u_n (by omega), h3 g hg]
  · unfold stL
    rw [am_u_s, h4, zL_sub, zL_add]
    simp only [gP, Int.add_assoc]
theorem FoO.inn {f : Nat} (hf : f < m) (hm3 : m ≤ 3) (h : FoO mL0 mL k m B w A G f) : FoI mL0 (am_u mL (25 + 4 * k) f (zL (G f * (B : Int)))) k m B w A G f 0 := by
  obtain ⟨h1, h2, h3⟩ := h
  refine ⟨fun a a1 a2 => ?_, fun g x hg hx => ?_, fun g hg => ?_, ?_⟩
  · rw [am_u_r a2, h1 a a1 a2]
  · rw [am_u_n (by omega), h2 g x hg hx]
    congr 1
    by_cases e : g = f
    · rw [if_neg (by omega), if_neg (by omega), if_pos e]; rfl
    · simp only [e, if_false]
  · rw [am_u_k (by omega), h3 g hg]
  · rw [am_u_s]; congr 1; simp only [gP, Int.add_zero]
theorem FoI.out {f : Nat} (h : FoI mL0 mL k m B w A G f m) : FoO mL0 mL k m B w A G (f + 1) := by
  obtain ⟨h1, h2, h3, h4⟩ := h
  refine ⟨h1, fun g x hg hx => ?_, fun g hg => ?_⟩
  · rw [h2 g x hg hx]
    congr 1
    by_cases e : g = f
    · subst e; rw [if_neg (by omega), if_pos rfl, if_pos (by omega)]
    · by_cases e2 : g < f
      · rw [if_pos e2, if_pos (by omega)]
      · rw [if_neg e2, if_neg e, if_neg (by omega)]
  · by_cases e : g = f
    · subst e; exact h4
    · exact h3 g (by omega)
theorem lo_R_fo1 {f : Nat} {Q : Option Value × am_M → Prop} (hk : k < 5) (hj : j < 5) (hjk : j ≠ k) (hm3 : m ≤ 3) (hf : f < m) (hB : B ≤ 144) (hc : (am_sh n)[c]? = some (0, nc)) (hnc : 3 ≤ nc) (hnc2 : nc ≤ 4) (hm : mI (23 + 4 * k) 0 = nI m) (hw : ∀ i, i < m → mI c i = nI (w i)) (hwB : ∀ i, i < m → w i ≤ B) (hA : ∀ f x, f < m → x < m → mL0 (24 + 4 * j) (f * 3 + x) = zL (A f x)) (kq : ∀ mL z z', FoI mL0 mL k m B w A G f m → Go S 1 tR_follow ((am_sh n, mI, mL, am_mR n), 120, [.ref (23 + 4 * k), .ref (23 + 4 * j), .ref c, .int (nI B), .int (nI f), .int (nI m), z, z'], []) Q) : ∀ l i (mL : Nat → Nat → Int64) (z z' : Value), i + l = m → FoI mL0 mL k m B w A G f i → Go S 1 tR_follow ((am_sh n, mI, mL, am_mR n), 69, [.ref (23 + 4 * k), .ref (23 + 4 * j), .ref c, .int (nI B), .int (nI f), .int (nI i), z, z'], []) Q
  | 0, i, mL, z, z', hi, hF => by
    obtain rfl : i = m := by omega
    have hs := sk_rnd n hk
    refine go_iload_5 iR_follow_69 ?_
    refine go_aloadn_0 iR_follow_71 rfl ?_
    refine go_getI iR_follow_72 (Or.inl rfl) (by assumption) ?_
    try simp (disch := omega) only [am_u_n, am_u_s, am_u_k, hm]
    first | refine gn_ic_ge iR_follow_75 (by omega) (by omega) (fun c_75 => ?_) (fun c_75 => ?_) | refine go_ic_ge iR_follow_75 (fun c_75 => ?_) (fun c_75 => ?_)
    rotate_left
    · (first | omega | exact absurd c_75 (by decide) | (exfalso; simp (disch := omega) only [Int32.lt_iff_toInt_lt, Int32.le_iff_toInt_le, ← Int32.toInt_inj, nI_toInt, i32_m1, i32_0, i32_m20, i32_m40, i32_m30, i32_m9] at *; omega))
    exact kq _ _ _ hF
  | l + 1, i, mL, z, z', hi, hF => by
    have hs := sk_rnd n hk
    have hs2 := sk_rnd n hj
    have hwi := hw i (by omega)
    have hwb := hwB i (by omega)
    have hAi := hA f i hf (by omega)
    rw [← hF.1 _ (by omega) (by omega)] at hAi
    refine go_iload_5 iR_follow_69 ?_
    refine go_aloadn_0 iR_follow_71 rfl ?_
    refine go_getI iR_follow_72 (Or.inl rfl) (by assumption) ?_
    try simp (disch := omega) only [am_u_n, am_u_s, am_u_k, hm, hwi, hAi]
    first | refine gn_ic_ge iR_follow_75 (by omega) (by omega) (fun c_75 => ?_) (fun c_75 => ?_) | refine go_ic_ge iR_follow_75 (fun c_75 => ?_) (fun c_75 => ?_)
    · (first | omega | exact absurd c_75 (by decide) | (exfalso; simp (disch := omega) only [Int32.lt_iff_toInt_lt, Int32.le_iff_toInt_le, ← Int32.toInt_inj, nI_toInt, i32_m1, i32_0, i32_m20, i32_m40, i32_m30, i32_m9] at *; omega))
    refine go_aloadn_1 iR_follow_78 rfl ?_
    refine go_iload_4 iR_follow_79 ?_
    refine go_iload_5 iR_follow_81 ?_
    refine gc_V1 iR_follow_83 rfl (by decide) hs2 rfl (Nat.le_of_ble_eq_true rfl) (Nat.le_of_ble_eq_true rfl) (by decide) (sp_R_chance hj (by omega) (by omega)) ?_
    rw [hAi]
    refine go_lstore_6 iR_follow_86 (by simp [Value.category, am_U]) ?_
    refine go_aloadn_0 iR_follow_88 rfl ?_
    refine go_iload_4 iR_follow_89 ?_
    refine go_iload_5 iR_follow_91 ?_
    refine go_lload_6 iR_follow_93 ?_
    refine go_aloadn_2 iR_follow_95 rfl ?_
    refine go_iload_5 iR_follow_96 ?_
    refine go_iald iR_follow_98 (by assumption) rfl (by omega) (by omega) ?_
    try simp (disch := omega) only [am_u_n, am_u_s, am_u_k, hm, hwi, hAi]
    first | refine gz_i2l iR_follow_99 (by omega) ?_ | refine gz_i2lI iR_follow_99 ?_
    first | refine gz_lmul iR_follow_100 ?_ | refine go_lmul iR_follow_100 ?_
    refine go_lload_6 iR_follow_101 ?_
    refine go_iloadn_3 iR_follow_103 ?_
    refine go_aloadn_2 iR_follow_104 rfl ?_
    refine go_iload_5 iR_follow_105 ?_
    refine go_iald iR_follow_107 (by assumption) rfl (by omega) (by omega) ?_
    try simp (disch := omega) only [am_u_n, am_u_s, am_u_k, hm, hwi, hAi]
    first | refine gn_isub iR_follow_108 (by omega) ?_ | refine go_isub iR_follow_108 ?_
    first | refine gz_i2l iR_follow_109 (by omega) ?_ | refine gz_i2lI iR_follow_109 ?_
    first | refine gz_lmul iR_follow_110 ?_ | refine go_lmul iR_follow_110 ?_
    refine gc_V0 iR_follow_111 rfl (by decide) hs rfl (Nat.le_of_ble_eq_true rfl) (Nat.le_of_ble_eq_true rfl) (by decide) (sp_R_step hk (by omega) (by omega) hm3 hm) ?_
    first | refine go_iinc_5 iR_follow_114 (ni_inc _ 1) (by simp [Value.category, am_U]) ?_ | refine go_iinc_5 iR_follow_114 rfl (by simp [Value.category, am_U]) ?_
    refine go_goto iR_follow_117 ?_
    exact lo_R_fo1 hk hj hjk hm3 hf hB hc hnc hnc2 hm hw hwB hA kq l (i + 1) _ _ _ (by omega) (hF.step hm3 (by omega) hf)
theorem lo_R_fo2 {Q : Option Value × am_M → Prop} (hk : k < 5) (hj : j < 5) (hjk : j ≠ k) (hm3 : m ≤ 3) (hB : B ≤ 144) (hc : (am_sh n)[c]? = some (0, nc)) (hnc : 3 ≤ nc) (hnc2 : nc ≤ 4) (hm : mI (23 + 4 * k) 0 = nI m) (hw : ∀ i, i < m → mI c i = nI (w i)) (hwB : ∀ i, i < m → w i ≤ B) (hA : ∀ f x, f < m → x < m → mL0 (24 + 4 * j) (f * 3 + x) = zL (A f x)) (hG : ∀ f, f < m → mL0 (25 + 4 * j) f = zL (G f)) (kq : ∀ mL, FoO mL0 mL k m B w A G m → Q (none, (am_sh n, mI, mL, am_mR n))) : ∀ l f (mL : Nat → Nat → Int64) (y z z' : Value), y.category ≠ 2 → f + l = m → FoO mL0 mL k m B w A G f → Go S 1 tR_follow ((am_sh n, mI, mL, am_mR n), 40, [.ref (23 + 4 * k), .ref (23 + 4 * j), .ref c, .int (nI B), .int (nI f), y, z, z'], []) Q
  | 0, f, mL, y, z, z', hy, hi, hF => by
    obtain rfl : f = m := by omega
    have hs := sk_rnd n hk
    refine go_iload_4 iR_follow_40 ?_
    refine go_aloadn_0 iR_follow_42 rfl ?_
    refine go_getI iR_follow_43 (Or.inl rfl) (by assumption) ?_
    try simp (disch := omega) only [am_u_n, am_u_s, am_u_k, hm]
    first | refine gn_ic_ge iR_follow_46 (by omega) (by omega) (fun c_46 => ?_) (fun c_46 => ?_) | refine go_ic_ge iR_follow_46 (fun c_46 => ?_) (fun c_46 => ?_)
    rotate_left
    · (first | omega | exact absurd c_46 (by decide) | (exfalso; simp (disch := omega) only [Int32.lt_iff_toInt_lt, Int32.le_iff_toInt_le, ← Int32.toInt_inj, nI_toInt, i32_m1, i32_0, i32_m20, i32_m40, i32_m30, i32_m9] at *; omega))
    refine go_vret iR_follow_126 rfl ?_
    exact kq _ hF
  | l + 1, f, mL, y, z, z', hy, hi, hF => by
    have hs := sk_rnd n hk
    have hs2 := sk_rnd n hj
    obtain ⟨⟨g1, g2, g3, g4⟩, g5, g6, g7, g8⟩ := sh_rnd n hk
    obtain ⟨⟨e1, e2, e3, e4⟩, e5, e6, e7, e8⟩ := sh_rnd n hj
    have hGf := hG f (by omega)
    rw [← hF.1 _ (by omega) (by omega)] at hGf
    refine go_iload_4 iR_follow_40 ?_
    refine go_aloadn_0 iR_follow_42 rfl ?_
    refine go_getI iR_follow_43 (Or.inl rfl) (by assumption) ?_
    try simp (disch := omega) only [am_u_n, am_u_s, am_u_k, hm, hGf]
    first | refine gn_ic_ge iR_follow_46 (by omega) (by omega) (fun c_46 => ?_) (fun c_46 => ?_) | refine go_ic_ge iR_follow_46 (fun c_46 => ?_) (fun c_46 => ?_)
    · (first | omega | exact absurd c_46 (by decide) | (exfalso; simp (disch := omega) only [Int32.lt_iff_toInt_lt, Int32.le_iff_toInt_le, ← Int32.toInt_inj, nI_toInt, i32_m1, i32_0, i32_m20, i32_m40, i32_m30, i32_m9] at *; omega))
    refine go_aloadn_0 iR_follow_49 rfl ?_
    refine go_getR iR_follow_50 rfl (by assumption) (by assumption) ?_
    refine go_iload_4 iR_follow_53 ?_
    refine go_aloadn_1 iR_follow_55 rfl ?_
    refine go_getR iR_follow_56 rfl (by assumption) (by assumption) ?_
    refine go_iload_4 iR_follow_59 ?_
    refine go_lald iR_follow_61 (by assumption) rfl (by omega) (by omega) ?_
    try simp (disch := omega) only [am_u_n, am_u_s, am_u_k, hm, hGf]
    refine go_iloadn_3 iR_follow_62 ?_
    first | refine gz_i2l iR_follow_63 (by omega) ?_ | refine gz_i2lI iR_follow_63 ?_
    first | refine gz_lmul iR_follow_64 ?_ | refine go_lmul iR_follow_64 ?_
    refine go_last iR_follow_65 (by assumption) rfl (by omega) (by omega) ?_
    refine go_iconst (v := nI 0) iR_follow_66 rfl ?_
    refine go_istore_5 iR_follow_67 (by simp [Value.category, am_U]) ?_
    refine lo_R_fo1 hk hj hjk hm3 (by omega) hB hc hnc hnc2 hm hw hwB hA (fun mL2 z z2 hF2 => ?_) m 0 _ _ _ (by omega) (hF.inn (by omega) hm3)
    first | refine go_iinc_4 iR_follow_120 (ni_inc _ 1) (by simp [Value.category, am_U]) ?_ | refine go_iinc_4 iR_follow_120 rfl (by simp [Value.category, am_U]) ?_
    refine go_goto iR_follow_123 ?_
    exact lo_R_fo2 hk hj hjk hm3 hB hc hnc hnc2 hm hw hwB hA hG kq l (f + 1) _ _ _ _ (by simp [Value.category]) (by omega) hF2.out
theorem ex_R_follow {T : Nat} {s : Int} (hk : k < 5) (hj : j < 5) (hjk : j ≠ k) (hm3 : m ≤ 3) (hB : B ≤ 144) (hc : (am_sh n)[c]? = some (0, nc)) (hnc : 3 ≤ nc) (hnc2 : nc ≤ 4) (hck : c ≠ 23 + 4 * k) (hw : ∀ i, i < m → mI c i = nI (w i)) (hwB : ∀ i, i < m → w i ≤ B) (hR : RdI mI mL j m T s A G) : Ex S 1 tR_follow n mI mL [.ref (23 + 4 * k), .ref (23 + 4 * j), .ref c, .int (nI B)] none (fun mI' mL' => RdI mI' mL' k m (T + 1) (s * (B : Int)) (fun f => stP m B w (A f) m) (fun f => G f * (B : Int) + gP B w (A f) m) ∧ FrK k mI mI' mL mL') := by
  have hs := sk_rnd n hk
  have hs2 := sk_rnd n hj
  obtain ⟨⟨g1, g2, g3, g4⟩, g5, g6, g7, g8⟩ := sh_rnd n hk
  obtain ⟨a1, a2, a3, a4, a5⟩ := hR
  unfold Ex
  show Go _ _ tR_follow (_, 0, [.ref (23 + 4 * k), .ref (23 + 4 * j), .ref c, .int (nI B), am_U, am_U, am_U, am_U], []) _
  refine go_aloadn_0 iR_follow_0 rfl ?_
  refine go_aloadn_1 iR_follow_1 rfl ?_
  refine go_getI iR_follow_2 (Or.inl rfl) (by assumption) ?_
  try simp (disch := omega) only [am_u_n, am_u_s, am_u_k, a1, a2, a3]
  refine go_putI iR_follow_5 rfl (by assumption) ?_
  refine go_aloadn_0 iR_follow_8 rfl ?_
  refine go_aloadn_1 iR_follow_9 rfl ?_
  refine go_getI iR_follow_10 (Or.inl rfl) (by assumption) ?_
  try simp (disch := omega) only [am_u_n, am_u_s, am_u_k, a1, a2, a3]
  refine go_iconst (v := nI 1) iR_follow_13 rfl ?_
  first | refine gn_iadd iR_follow_14 ?_ | refine go_iadd iR_follow_14 ?_
  refine go_putI iR_follow_15 rfl (by assumption) ?_
  refine go_aloadn_0 iR_follow_18 rfl ?_
  refine go_aloadn_1 iR_follow_19 rfl ?_
  refine go_getL iR_follow_20 rfl (by assumption) ?_
  try simp (disch := omega) only [am_u_n, am_u_s, am_u_k, a1, a2, a3]
  refine go_iloadn_3 iR_follow_23 ?_
  first | refine gz_i2l iR_follow_24 (by omega) ?_ | refine gz_i2lI iR_follow_24 ?_
  first | refine gz_lmul iR_follow_25 ?_ | refine go_lmul iR_follow_25 ?_
  refine go_putL iR_follow_26 rfl (by assumption) ?_
  refine go_aloadn_0 iR_follow_29 rfl ?_
  refine go_getR iR_follow_30 rfl (by assumption) (by assumption) ?_
  refine go_lconst (v := zL 0) iR_follow_33 rfl ?_
  refine gc_S0 iR_follow_34 (by decide) rfl rfl (Nat.le_of_ble_eq_true rfl) (Nat.le_of_ble_eq_true rfl) (by decide) (sp_J_fillJ g2 (by decide)) ?_
  refine go_iconst (v := nI 0) iR_follow_37 rfl ?_
  refine go_istore_4 iR_follow_38 (by simp [Value.category, am_U]) ?_
  refine lo_R_fo2 (w := w) (A := A) (G := G) hk hj hjk hm3 hB hc hnc hnc2 ?_ (fun i hi => ?_) hwB (fun f x hf hx => ?_) (fun f hf => ?_) (fun mL2 hF => ?_) m 0 _ _ _ _ (by simp [Value.category, am_U]) (by omega) ⟨fun a b1 b2 => rfl, fun g x hg hx => ?_, fun g hg => by omega⟩
  · rw [am_u_k (by decide), am_u_s]
  · rw [am_u_n hck, am_u_n hck]; exact hw i hi
  · rw [va_up_ne _ _ (by omega), am_u_n (by omega)]; exact a4 f x hf hx
  · rw [va_up_ne _ _ (by omega), am_u_n (by omega)]; exact a5 f hf
  · obtain ⟨f1, f2, f3⟩ := hF
    refine ex_i ⟨⟨?_, ?_, ?_, fun f x hf hx => ?_, fun f hf => ?_⟩, fun a h1 => ?_, fun a h1 h2 h3 h4 => ?_⟩
    · rw [am_u_k (by decide), am_u_s]
    · rw [am_u_s]
    · rw [f1 _ (by omega) (by omega), va_up_ne _ _ (by omega), am_u_s]
    · rw [f2 f x hf hx, if_pos hf]
    · exact f3 f hf
    · rw [am_u_r h1, am_u_r h1]
    · rw [f1 _ h2 h3, va_up_ne _ _ h2, am_u_r h1]
  · rw [va_up_self]; simp only [fl]; rw [if_pos (by omega), if_neg (by omega)]
end FOL
