/-! ===== purses ===== -/
def pz (m : Nat) (w : Nat → Nat → Nat) (P : Int) : Nat → Int → Int
  | 0, z => if z = P then 1 else 0
  | t + 1, z => pz m w P t (z - 1) * (w t (rsZ m (z - 1)) : Int) + pz m w P t (z + 1) * ((12 - w t (rsZ m (z + 1)) : Nat) : Int)
theorem pz_0 {m : Nat} {w : Nat → Nat → Nat} {P : Int} : ∀ (t : Nat) (z : Int), (z < P - (t : Int) ∨ P + (t : Int) < z) → pz m w P t z = 0
  | 0, z, h => by unfold pz; rw [if_neg (by omega)]
  | t + 1, z, h => by
    unfold pz
    rw [pz_0 t (z - 1) (by omega), pz_0 t (z + 1) (by omega), Int.zero_mul, Int.zero_mul]
    rfl
theorem pz_par {m : Nat} {w : Nat → Nat → Nat} {P : Int} : ∀ (t : Nat) (z : Int), (z - P - (t : Int)) % 2 = 1 → pz m w P t z = 0
  | 0, z, h => by unfold pz; rw [if_neg (by omega)]
  | t + 1, z, h => by
    unfold pz
    rw [pz_par t (z - 1) (by omega), pz_par t (z + 1) (by omega), Int.zero_mul, Int.zero_mul]
    rfl
theorem pz_le {m : Nat} {w : Nat → Nat → Nat} {P : Int} (h1 : 1 ≤ m) (h3 : m ≤ 3) (hw : ∀ t i, i < 3 → w t i ≤ 12) : ∀ (t : Nat) (z : Int), 0 ≤ pz m w P t z ∧ pz m w P t z ≤ pw 24 t
  | 0, z => by unfold pz; simp only [pw, Nat.pow_zero]; split <;> decide
  | t + 1, z => by
    have a := pz_le (P := P) h1 h3 hw t (z - 1)
    have b := pz_le (P := P) h1 h3 hw t (z + 1)
    have r1 := rsZ_lt h1 (z - 1)
    have r2 := rsZ_lt h1 (z + 1)
    have w1 := hw t (rsZ m (z - 1)) (by omega)
    have w2 := hw t (rsZ m (z + 1)) (by omega)
    have c1 := Int.mul_le_mul a.2 (show (w t (rsZ m (z - 1)) : Int) ≤ 12 by omega) (by omega) (by omega)
    have c2 := Int.mul_le_mul b.2 (show ((12 - w t (rsZ m (z + 1)) : Nat) : Int) ≤ 12 by omega) (by omega) (by omega)
    have d1 := Int.mul_nonneg a.1 (show 0 ≤ (w t (rsZ m (z - 1)) : Int) by omega)
    have d2 := Int.mul_nonneg b.1 (show 0 ≤ ((12 - w t (rsZ m (z + 1)) : Nat) : Int) by omega)
    rw [pw_s]
    unfold pz
    omega
theorem pw24 {t : Nat} (h : t ≤ 9) : pw 24 t ≤ 2641807540224 := by
  have := Nat.pow_le_pow_right (n := 24) (by omega) h
  unfold pw
  omega
def PuI (mI : Nat → Nat → Int32) (mL : Nat → Nat → Int64) (P : Int) (t m : Nat) (w : Nat → Nat → Nat) : Prop := mI 13 0 = zI P ∧ mI 13 1 = nI t ∧ mL 13 2 = zL (pw 12 t) ∧ ∀ x, x < 19 → mL 14 x = zL (pz m w P t (P + (x : Int) - 9))
def FrP (mI mI' : Nat → Nat → Int32) (mL mL' : Nat → Nat → Int64) : Prop := (∀ a, a ≠ 13 → mI' a = mI a) ∧ ∀ a, a ≠ 13 → a ≠ 14 → mL' a = mL a
theorem FrP.trans {mI mI' mI'' : Nat → Nat → Int32} {mL mL' mL'' : Nat → Nat → Int64} (h : FrP mI mI' mL mL') (h' : FrP mI' mI'' mL' mL'') : FrP mI mI'' mL mL'' := ⟨fun a h1 => (h'.1 a h1).trans (h.1 a h1), fun a h1 h2 => (h'.2 a h1 h2).trans (h.2 a h1 h2)⟩
/-- the row of chances when the places below K have taken their step -/
def fuV (m : Nat) (w : Nat → Nat → Nat) (P : Int) (t K x : Nat) : Int := if (x + t) % 2 = 1 then (if x < K then 0 else pz m w P t (P + (x : Int) - 9)) else (if 1 ≤ x ∧ x < K + 1 then pz m w P t (P + (x : Int) - 10) * (w t (rsZ m (P + (x : Int) - 10)) : Int) else 0) + (if x + 1 < K then pz m w P t (P + (x : Int) - 8) * ((12 - w t (rsZ m (P + (x : Int) - 8)) : Nat) : Int) else 0)
theorem fu_start {m : Nat} {w : Nat → Nat → Nat} {P : Int} {t x : Nat} (ht : t ≤ 8) : fuV m w P t (9 - t) x = pz m w P t (P + (x : Int) - 9) := by
  unfold fuV
  by_cases h : (x + t) % 2 = 1
  · rw [if_pos h]
    by_cases h2 : x < 9 - t
    · rw [if_pos h2, pz_0 _ _ (by omega)]
    · rw [if_neg h2]
  · rw [if_neg h, pz_par t (P + (x : Int) - 9) (by omega)]
    by_cases h2 : 1 ≤ x ∧ x < 9 - t + 1
    · rw [if_pos h2, pz_0 _ (P + (x : Int) - 10) (by omega), Int.zero_mul]
      by_cases h3 : x + 1 < 9 - t
      · rw [if_pos h3, pz_0 _ (P + (x : Int) - 8) (by omega), Int.zero_mul]; rfl
      · rw [if_neg h3]; rfl
    · rw [if_neg h2]
      by_cases h3 : x + 1 < 9 - t
      · rw [if_pos h3, pz_0 _ (P + (x : Int) - 8) (by omega), Int.zero_mul]; rfl
      · rw [if_neg h3]; rfl
theorem fu_end {m : Nat} {w : Nat → Nat → Nat} {P : Int} {t x : Nat} (ht : t ≤ 8) : fuV m w P t (11 + t) x = pz m w P (t + 1) (P + (x : Int) - 9) := by
  unfold fuV
  by_cases h : (x + t) % 2 = 1
  · rw [if_pos h, pz_par (t + 1) _ (by omega)]
    by_cases h2 : x < 11 + t
    · rw [if_pos h2]
    · rw [if_neg h2, pz_0 _ _ (by omega)]
  · rw [if_neg h]
    simp only [pz]
    rw [show P + (x : Int) - 9 - 1 = P + (x : Int) - 10 by omega, show P + (x : Int) - 9 + 1 = P + (x : Int) - 8 by omega]
    congr 1
    · by_cases h2 : 1 ≤ x ∧ x < 11 + t + 1
      · rw [if_pos h2]
      · rw [if_neg h2, pz_0 _ (P + (x : Int) - 10) (by omega), Int.zero_mul]
    · by_cases h3 : x + 1 < 11 + t
      · rw [if_pos h3]
      · rw [if_neg h3, pz_0 _ (P + (x : Int) - 8) (by omega), Int.zero_mul]
def FuI (mL0 mL : Nat → Nat → Int64) (m : Nat) (w : Nat → Nat → Nat) (P : Int) (t K : Nat) : Prop := (∀ a, a ≠ 14 → mL a = mL0 a) ∧ ∀ x, x < 19 → mL 14 x = zL (fuV m w P t K x)
theorem FuI.step {mL0 mL : Nat → Nat → Int64} {m : Nat} {w : Nat → Nat → Nat} {P : Int} {t K : Nat} (hK : 1 ≤ K) (hp : (K + t) % 2 = 1) (hF : FuI mL0 mL m w P t K) : FuI mL0 (am_u (am_u (am_u mL 14 (K + 1) (zL (fuV m w P t K (K + 1) + pz m w P t (P + (K : Int) - 9) * (w t (rsZ m (P + (K : Int) - 9)) : Int)))) 14 (K - 1) (zL (fuV m w P t K (K - 1) + pz m w P t (P + (K : Int) - 9) * ((12 - w t (rsZ m (P + (K : Int) - 9)) : Nat) : Int)))) 14 K (zL 0)) m w P t (K + 2) := by
  refine ⟨fun a ha => by rw [am_u_r ha, am_u_r ha, am_u_r ha]; exact hF.1 a ha, fun x hx => ?_⟩
  by_cases e0 : x = K
  · subst e0
    rw [am_u_s]
    unfold fuV
    rw [if_pos hp, if_pos (by omega)]
  · rw [am_u_k e0]
    by_cases e1 : x = K - 1
    · subst e1
      rw [am_u_s]
      congr 1
      have e8 : P + ((K - 1 : Nat) : Int) - 8 = P + (K : Int) - 9 := by omega
      unfold fuV
      rw [e8]
      repeat' split
      all_goals omega
    · rw [am_u_k e1]
      by_cases e2 : x = K + 1
      · subst e2
        rw [am_u_s]
        congr 1
        have e8 : P + ((K + 1 : Nat) : Int) - 10 = P + (K : Int) - 9 := by omega
        unfold fuV
        rw [e8]
        repeat' split
        all_goals omega
      · rw [am_u_k e2, hF.2 x hx]
        congr 1
        unfold fuV
        repeat' split
        all_goals omega
theorem gz_i2lz {S : am_S} {d : Nat} {t : am_T} {M : am_M} {pc nx a b h : Nat} {la st : List Value} {Q : Option Value × am_M → Prop} {x : Int} (hl : At t pc (.i2l, nx, a, b, h)) (hx : -2147483648 ≤ x ∧ x < 2147483648) (k : Go S d t (M, nx, la, .long (zL x) :: st) Q) : Go S d t (M, pc, la, .int (zI x) :: st) Q := go_i2l hl (by rw [zL_i2lI, zI_toInt hx]; exact k)
def smZ (f : Nat → Int) : Nat → Int
  | 0 => 0
  | k + 1 => smZ f k + f k
theorem smZ_lo {f : Nat → Int} {a : Nat} (h : ∀ j, j < a → f j = 0) : ∀ k, k ≤ a → smZ f k = 0
  | 0, _ => rfl
  | k + 1, hk => by simp only [smZ]; rw [smZ_lo h k (by omega), h k (by omega)]; rfl
theorem smZ_sh {f g : Nat → Int} {a : Nat} (h : ∀ j, j < a → f j = 0) (hg : ∀ i, f (a + i) = g i) : ∀ k, smZ f (a + k) = smZ g k
  | 0 => smZ_lo h a (Nat.le_refl _)
  | k + 1 => by rw [← Nat.add_assoc]; simp only [smZ]; rw [smZ_sh h hg k, hg k]
theorem smZ_hi {f : Nat → Int} {b : Nat} (h : ∀ j, b ≤ j → f j = 0) : ∀ k, smZ f (b + k) = smZ f b
  | 0 => rfl
  | k + 1 => by rw [← Nat.add_assoc]; simp only [smZ]; rw [smZ_hi h k, h (b + k) (by omega), Int.add_zero]
theorem smZ_le {f : Nat → Int} {c : Int} (h : ∀ j, -c ≤ f j ∧ f j ≤ c) : ∀ k : Nat, -((k : Int) * c) ≤ smZ f k ∧ smZ f k ≤ (k : Int) * c
  | 0 => by simp [smZ]
  | k + 1 => by
    have ih := smZ_le h k
    have hk := h k
    have p : ((k + 1 : Nat) : Int) * c = (k : Int) * c + c := by push_cast; grind
    rw [p]
    simp only [smZ]
    omega
section PUR
variable {S : am_S} {mI : Nat → Nat → Int32} {mL mL0 : Nat → Nat → Int64} {n m t c N : Nat} {w : Nat → Nat → Nat} {P : Int}
theorem ex_U_begin : Ex S 1 tU_begin n mI mL [.ref 13, .int (zI P)] none (fun mI' mL' => PuI mI' mL' P 0 m w ∧ FrP mI mI' mL mL') := by
  have hk := sk_13 n
  have hr := mR_13_3 n
  have hs := sh_14 n
  unfold Ex
  show Go _ _ tU_begin (_, 0, [.ref 13, .int (zI P)], []) _
  refine go_aloadn_0 iU_begin_0 rfl ?_
  refine go_iloadn_1 iU_begin_1 ?_
  refine go_putI iU_begin_2 rfl (by assumption) ?_
  refine go_aloadn_0 iU_begin_5 rfl ?_
  refine go_iconst (v := nI 0) iU_begin_6 rfl ?_
  refine go_putI iU_begin_7 rfl (by assumption) ?_
  refine go_aloadn_0 iU_begin_10 rfl ?_
  refine go_lconst (v := zL 1) iU_begin_11 rfl ?_
  refine go_putL iU_begin_12 rfl (by assumption) ?_
  refine go_aloadn_0 iU_begin_15 rfl ?_
  refine go_getR iU_begin_16 rfl (by assumption) (by assumption) ?_
  refine go_lconst (v := zL 0) iU_begin_19 rfl ?_
  refine gc_S0 iU_begin_20 (by decide) rfl rfl (Nat.le_of_ble_eq_true rfl) (Nat.le_of_ble_eq_true rfl) (by decide) (sp_J_fillJ hs (by decide)) ?_
  refine go_aloadn_0 iU_begin_23 rfl ?_
  refine go_getR iU_begin_24 rfl (by assumption) (by assumption) ?_
  refine go_bipush (v := nI 9) iU_begin_27 (by decide) ?_
  refine go_lconst (v := zL 1) iU_begin_29 rfl ?_
  refine go_last iU_begin_30 (by assumption) rfl (by omega) (by omega) ?_
  refine go_vret iU_begin_31 rfl ?_
  refine ex_i ⟨⟨?_, ?_, ?_, fun x hx => ?_⟩, fun a ha => ?_, fun a h1 h2 => ?_⟩
  · rw [am_u_k (by decide), am_u_s]
  · rw [am_u_s]
  · rw [am_u_n (by decide), va_up_ne _ _ (by decide), am_u_s]; rfl
  · by_cases e : x = 9
    · subst e; rw [am_u_s]; congr 1; unfold pz; rw [if_pos (by omega)]
    · rw [am_u_k e, va_up_self]; simp only [fl]; rw [if_pos (by omega)]; congr 1; unfold pz; rw [if_neg (by omega)]
  · rw [am_u_r ha, am_u_r ha]
  · rw [am_u_r h2, va_up_ne _ _ h2, am_u_r h1]
theorem lo_U_fo (hm1 : 1 ≤ m) (hm3 : m ≤ 3) (ht : t ≤ 8) (hc : (am_sh n)[c]? = some (0, 4)) (hP : -20 ≤ P ∧ P ≤ 20) (h0 : mI 13 0 = zI P) (h1 : mI 13 1 = nI t) (ho : ∀ i, i < 3 → mI c i = nI (w t i) ∧ w t i ≤ 12) {Q : Option Value × am_M → Prop} (kq : ∀ mL' z, FuI mL0 mL' m w P t (11 + t) → Go S 1 tU_follow ((am_sh n, mI, mL', am_mR n), 109, [.ref 13, .ref c, .int (nI m), .int (nI (11 + t)), z], []) Q) : ∀ l K (mL' : Nat → Nat → Int64) (z : Value), K + 2 * l = 11 + t → 9 ≤ K + t → (K + t) % 2 = 1 → FuI mL0 mL' m w P t K → Go S 1 tU_follow ((am_sh n, mI, mL', am_mR n), 23, [.ref 13, .ref c, .int (nI m), .int (nI K), z], []) Q
  | 0, K, mL', z, hi, h9, hp, hF => by
    have hk := sk_13 n
    obtain rfl : K = 11 + t := by omega
    refine go_iloadn_3 iU_follow_23 ?_
    refine go_bipush (v := nI 9) iU_follow_24 (by decide) ?_
    refine go_aloadn_0 iU_follow_26 rfl ?_
    refine go_getI iU_follow_27 (Or.inl rfl) (by assumption) ?_
    try simp (disch := omega) only [am_u_n, am_u_s, am_u_k, h1]
    first | refine gn_iadd iU_follow_30 ?_ | refine go_iadd iU_follow_30 ?_
    first | refine gn_ic_gt iU_follow_31 (by omega) (by omega) (fun c_31 => ?_) (fun c_31 => ?_) | refine go_ic_gt iU_follow_31 (fun c_31 => ?_) (fun c_31 => ?_)
    rotate_left
    · (first | omega | exact absurd c_31 (by decide) | (exfalso; simp (disch := omega) only [Int32.lt_iff_toInt_lt, Int32.le_iff_toInt_le, ← Int32.toInt_inj, nI_toInt, i32_m1, i32_0, i32_m20, i32_m40, i32_m30, i32_m9] at *; omega))
    exact kq _ _ hF
  | l + 1, K, mL', z, hi, h9, hp, hF => by
    have hk := sk_13 n
    have hr := mR_13_3 n
    have hs := sh_14 n
    have hz := rsZ_lt hm1 (P + (K : Int) - 9)
    obtain ⟨r1, rw1⟩ := ho (rsZ m (P + (K : Int) - 9)) (by omega)
    have r2 := hF.2 K (by omega)
    rw [show fuV m w P t K K = pz m w P t (P + (K : Int) - 9) by unfold fuV; rw [if_pos hp, if_neg (by omega)]] at r2
    have r3 := hF.2 (K + 1) (by omega)
    have r4 := hF.2 (K - 1) (by omega)
    refine go_iloadn_3 iU_follow_23 ?_
    refine go_bipush (v := nI 9) iU_follow_24 (by decide) ?_
    refine go_aloadn_0 iU_follow_26 rfl ?_
    refine go_getI iU_follow_27 (Or.inl rfl) (by assumption) ?_
    try simp (disch := omega) only [am_u_n, am_u_s, am_u_k, h0, h1, r1, r2, r3, r4]
    first | refine gn_iadd iU_follow_30 ?_ | refine gm_iadd iU_follow_30 ?_ | refine gi_iadd iU_follow_30 ?_ | refine go_iadd iU_follow_30 ?_
    first | refine gn_ic_gt iU_follow_31 (by omega) (by omega) (fun c_31 => ?_) (fun c_31 => ?_) | refine gm_ic_gt iU_follow_31 (by omega) (by omega) (fun c_31 => ?_) (fun c_31 => ?_) | refine gi_ic_gt iU_follow_31 (by omega) (by omega) (fun c_31 => ?_) (fun c_31 => ?_) | refine go_ic_gt iU_follow_31 (fun c_31 => ?_) (fun c_31 => ?_)
    · (first | omega | exact absurd c_31 (by decide) | (exfalso; simp (disch := omega) only [Int32.lt_iff_toInt_lt, Int32.le_iff_toInt_le, ← Int32.toInt_inj, nI_toInt, i32_m1, i32_0, i32_m20, i32_m40, i32_m30, i32_m9] at *; omega))
    refine go_aloadn_1 iU_follow_34 rfl ?_
    refine go_aloadn_0 iU_follow_35 rfl ?_
    refine go_getI iU_follow_36 (Or.inl rfl) (by assumption) ?_
    try simp (disch := omega) only [am_u_n, am_u_s, am_u_k, h0, h1, r1, r2, r3, r4]
    refine go_iloadn_3 iU_follow_39 ?_
    first | refine gn_iadd iU_follow_40 ?_ | refine gm_iadd iU_follow_40 ?_ | refine gi_iadd iU_follow_40 ?_ | refine go_iadd iU_follow_40 ?_
    refine go_bipush (v := nI 9) iU_follow_41 (by decide) ?_
    first | refine gn_isub iU_follow_43 (by omega) ?_ | refine gm_isub iU_follow_43 ?_ | refine gi_isub iU_follow_43 ?_ | refine go_isub iU_follow_43 ?_
    rw [show P + (K : Int) - ((9 : Nat) : Int) = P + (K : Int) - 9 from rfl]
    refine go_iloadn_2 iU_follow_44 ?_
    refine gc_S1 iU_follow_45 (by decide) rfl rfl (Nat.le_of_ble_eq_true rfl) (Nat.le_of_ble_eq_true rfl) (by decide) (sp_J_floorMod (by omega) hm1 hm3) ?_
    refine go_iald iU_follow_48 (by assumption) rfl (by omega) (by omega) ?_
    try simp (disch := omega) only [am_u_n, am_u_s, am_u_k, h0, h1, r1, r2, r3, r4]
    refine go_istore_4 iU_follow_49 (by simp [Value.category, am_U]) ?_
    refine go_aloadn_0 iU_follow_51 rfl ?_
    refine go_getR iU_follow_52 rfl (by assumption) (by assumption) ?_
    refine go_iloadn_3 iU_follow_55 ?_
    refine go_iconst (v := nI 1) iU_follow_56 rfl ?_
    first | refine gn_iadd iU_follow_57 ?_ | refine gm_iadd iU_follow_57 ?_ | refine gi_iadd iU_follow_57 ?_ | refine go_iadd iU_follow_57 ?_
    refine go_dup2 iU_follow_58 ⟨rfl, rfl⟩ ?_
    refine go_lald iU_follow_59 (by assumption) rfl (by omega) (by omega) ?_
    try simp (disch := omega) only [am_u_n, am_u_s, am_u_k, h0, h1, r1, r2, r3, r4]
    refine go_aloadn_0 iU_follow_60 rfl ?_
    refine go_getR iU_follow_61 rfl (by assumption) (by assumption) ?_
    refine go_iloadn_3 iU_follow_64 ?_
    refine go_lald iU_follow_65 (by assumption) rfl (by omega) (by omega) ?_
    try simp (disch := omega) only [am_u_n, am_u_s, am_u_k, h0, h1, r1, r2, r3, r4]
    refine go_iload_4 iU_follow_66 ?_
    first | refine gz_i2l iU_follow_68 (by omega) ?_ | refine gz_i2lI iU_follow_68 ?_
    first | refine gz_lmul iU_follow_69 ?_ | refine go_lmul iU_follow_69 ?_
    first | refine gz_ladd iU_follow_70 ?_ | refine go_ladd iU_follow_70 ?_
    refine go_last iU_follow_71 (by assumption) rfl (by omega) (by omega) ?_
    refine go_aloadn_0 iU_follow_72 rfl ?_
    refine go_getR iU_follow_73 rfl (by assumption) (by assumption) ?_
    refine go_iloadn_3 iU_follow_76 ?_
    refine go_iconst (v := nI 1) iU_follow_77 rfl ?_
    first | refine gn_isub iU_follow_78 (by omega) ?_ | refine gm_isub iU_follow_78 ?_ | refine gi_isub iU_follow_78 ?_ | refine go_isub iU_follow_78 ?_
    refine go_dup2 iU_follow_79 ⟨rfl, rfl⟩ ?_
    refine go_lald iU_follow_80 (by assumption) rfl (by omega) (by omega) ?_
    try simp (disch := omega) only [am_u_n, am_u_s, am_u_k, h0, h1, r1, r2, r3, r4]
    refine go_aloadn_0 iU_follow_81 rfl ?_
    refine go_getR iU_follow_82 rfl (by assumption) (by assumption) ?_
    refine go_iloadn_3 iU_follow_85 ?_
    refine go_lald iU_follow_86 (by assumption) rfl (by omega) (by omega) ?_
    try simp (disch := omega) only [am_u_n, am_u_s, am_u_k, h0, h1, r1, r2, r3, r4]
    refine go_bipush (v := nI 12) iU_follow_87 (by decide) ?_
    refine go_iload_4 iU_follow_89 ?_
    first | refine gn_isub iU_follow_91 (by omega) ?_ | refine gm_isub iU_follow_91 ?_ | refine gi_isub iU_follow_91 ?_ | refine go_isub iU_follow_91 ?_
    first | refine gz_i2l iU_follow_92 (by omega) ?_ | refine gz_i2lI iU_follow_92 ?_
    first | refine gz_lmul iU_follow_93 ?_ | refine go_lmul iU_follow_93 ?_
    first | refine gz_ladd iU_follow_94 ?_ | refine go_ladd iU_follow_94 ?_
    refine go_last iU_follow_95 (by assumption) rfl (by omega) (by omega) ?_
    refine go_aloadn_0 iU_follow_96 rfl ?_
    refine go_getR iU_follow_97 rfl (by assumption) (by assumption) ?_
    refine go_iloadn_3 iU_follow_100 ?_
    refine go_lconst (v := zL 0) iU_follow_101 rfl ?_
    refine go_last iU_follow_102 (by assumption) rfl (by omega) (by omega) ?_
    first | refine go_iinc_3 iU_follow_103 (ni_inc _ 2) (by simp [Value.category, am_U]) ?_ | refine go_iinc_3 iU_follow_103 (zi_inc _ 2) (by simp [Value.category, am_U]) ?_
    refine go_goto iU_follow_106 ?_
    exact lo_U_fo hm1 hm3 ht hc hP h0 h1 ho kq l (K + 2) _ _ (by omega) (by omega) (by omega) (hF.step (by omega) hp)
theorem ex_U_follow (hm1 : 1 ≤ m) (hm3 : m ≤ 3) (ht : t ≤ 8) (hc : (am_sh n)[c]? = some (0, 4)) (hP : -20 ≤ P ∧ P ≤ 20) (hI : PuI mI mL P t m w) (ho : ∀ i, i < 3 → mI c i = nI (w t i) ∧ w t i ≤ 12) : Ex S 1 tU_follow n mI mL [.ref 13, .ref c, .int (nI m)] none (fun mI' mL' => PuI mI' mL' P (t + 1) m w ∧ FrP mI mI' mL mL') := by
  have hk := sk_13 n
  obtain ⟨i1, i2, i3, i4⟩ := hI
  unfold Ex
  show Go _ _ tU_follow (_, 0, [.ref 13, .ref c, .int (nI m), am_U, am_U], []) _
  refine go_aloadn_0 iU_follow_0 rfl ?_
  refine go_getI iU_follow_1 (Or.inl rfl) (by assumption) ?_
  try simp (disch := omega) only [am_u_n, am_u_s, am_u_k, i2]
  refine go_bipush (v := nI 9) iU_follow_4 (by decide) ?_
  first | refine gn_ic_ge iU_follow_6 (by omega) (by omega) (fun c_6 => ?_) (fun c_6 => ?_) | refine go_ic_ge iU_follow_6 (fun c_6 => ?_) (fun c_6 => ?_)
  · (first | omega | exact absurd c_6 (by decide) | (exfalso; simp (disch := omega) only [Int32.lt_iff_toInt_lt, Int32.le_iff_toInt_le, ← Int32.toInt_inj, nI_toInt, i32_m1, i32_0, i32_m20, i32_m40, i32_m30, i32_m9] at *; omega))
  refine go_iloadn_2 iU_follow_9 ?_
  refine go_iconst (v := nI 1) iU_follow_10 rfl ?_
  first | refine gn_ic_ge iU_follow_11 (by omega) (by omega) (fun c_11 => ?_) (fun c_11 => ?_) | refine go_ic_ge iU_follow_11 (fun c_11 => ?_) (fun c_11 => ?_)
  rotate_left
  · (first | omega | exact absurd c_11 (by decide) | (exfalso; simp (disch := omega) only [Int32.lt_iff_toInt_lt, Int32.le_iff_toInt_le, ← Int32.toInt_inj, nI_toInt, i32_m1, i32_0, i32_m20, i32_m40, i32_m30, i32_m9] at *; omega))
  refine go_bipush (v := nI 9) iU_follow_15 (by decide) ?_
  refine go_aloadn_0 iU_follow_17 rfl ?_
  refine go_getI iU_follow_18 (Or.inl rfl) (by assumption) ?_
  try simp (disch := omega) only [am_u_n, am_u_s, am_u_k, i2]
  first | refine gn_isub iU_follow_21 (by omega) ?_ | refine go_isub iU_follow_21 ?_
  refine go_istoren_3 iU_follow_22 (by simp [Value.category, am_U]) ?_
  refine lo_U_fo (mL0 := mL) (w := w) hm1 hm3 ht hc hP i1 i2 ho (fun mL1 z hF => ?_) (t + 1) (9 - t) _ _ (by omega) (by omega) (by omega) ⟨fun a _ => rfl, fun x hx => ?_⟩
  rotate_left
  · rw [fu_start ht]; exact i4 x hx
  have j3 := i3
  rw [← hF.1 13 (by decide)] at j3
  refine go_aloadn_0 iU_follow_109 rfl ?_
  refine go_dup iU_follow_110 rfl ?_
  refine go_getI iU_follow_111 (Or.inl rfl) (by assumption) ?_
  try simp (disch := omega) only [am_u_n, am_u_s, am_u_k, i2, j3]
  refine go_iconst (v := nI 1) iU_follow_114 rfl ?_
  first | refine gn_iadd iU_follow_115 ?_ | refine go_iadd iU_follow_115 ?_
  refine go_putI iU_follow_116 rfl (by assumption) ?_
  refine go_aloadn_0 iU_follow_119 rfl ?_
  refine go_dup iU_follow_120 rfl ?_
  refine go_getL iU_follow_121 rfl (by assumption) ?_
  try simp (disch := omega) only [am_u_n, am_u_s, am_u_k, i2, j3]
  refine go_ldc2 (v := zL 12) iU_follow_124 rfl ?_
  first | refine gz_lmul iU_follow_127 ?_ | refine go_lmul iU_follow_127 ?_
  refine go_putL iU_follow_128 rfl (by assumption) ?_
  refine go_vret iU_follow_131 rfl ?_
  refine ex_i ⟨⟨?_, ?_, ?_, fun x hx => ?_⟩, fun a ha => ?_, fun a h1 h2 => ?_⟩
  · rw [am_u_k (by decide)]; exact i1
  · rw [am_u_s]
  · rw [am_u_s, pw12]
  · rw [am_u_n (by decide), hF.2 x hx, fu_end ht]
  · rw [am_u_r ha]
  · rw [am_u_r h1]; exact hF.1 a h2
theorem sp_U_chanceOf {th : Int} (hN : N ≤ 9) (hP : -20 ≤ P ∧ P ≤ 20) (hT : -40 ≤ th ∧ th ≤ 40) (hI : PuI mI mL P N m w) : Sp S 0 tU_chanceOf (am_sh n, mI, mL, am_mR n) [.ref 13, .int (zI th)] (fun q => q = (some (.long (zL (pz m w P N th))), (am_sh n, mI, mL, am_mR n))) := by
  have hk := sk_13 n
  have hr := mR_13_3 n
  have hs := sh_14 n
  obtain ⟨i1, i2, i3, i4⟩ := hI
  show Go _ _ tU_chanceOf (_, 0, [.ref 13, .int (zI th), am_U], []) _
  by_cases c1 : th - P + 9 < 0
  · rw [pz_0 N th (by omega)]
    refine go_iloadn_1 iU_chanceOf_0 ?_
    refine go_aloadn_0 iU_chanceOf_1 rfl ?_
    refine go_getI iU_chanceOf_2 (Or.inl rfl) (by assumption) ?_
    try simp (disch := omega) only [am_u_n, am_u_s, am_u_k, i1]
    first | refine gn_isub iU_chanceOf_5 (by omega) ?_ | refine gm_isub iU_chanceOf_5 ?_ | refine gi_isub iU_chanceOf_5 ?_ | refine go_isub iU_chanceOf_5 ?_
    refine go_bipush (v := nI 9) iU_chanceOf_6 (by decide) ?_
    first | refine gn_iadd iU_chanceOf_8 ?_ | refine gm_iadd iU_chanceOf_8 ?_ | refine gi_iadd iU_chanceOf_8 ?_ | refine go_iadd iU_chanceOf_8 ?_
    refine go_istoren_2 iU_chanceOf_9 (by simp [Value.category, am_U]) ?_
    refine go_iloadn_2 iU_chanceOf_10 ?_
    refine go_if_lt iU_chanceOf_11 (fun c_11 => ?_) (fun c_11 => ?_)
    rotate_left
    · (rw [Int32.lt_iff_toInt_lt, zI_toInt (by omega), i32_0] at c_11; omega)
    refine go_lconst (v := zL 0) iU_chanceOf_23 rfl ?_
    refine go_goto iU_chanceOf_24 ?_
    refine go_lret iU_chanceOf_33 rfl ?_
    rfl
  · by_cases c2 : 19 ≤ th - P + 9
    · rw [pz_0 N th (by omega)]
      refine go_iloadn_1 iU_chanceOf_0 ?_
      refine go_aloadn_0 iU_chanceOf_1 rfl ?_
      refine go_getI iU_chanceOf_2 (Or.inl rfl) (by assumption) ?_
      try simp (disch := omega) only [am_u_n, am_u_s, am_u_k, i1]
      first | refine gn_isub iU_chanceOf_5 (by omega) ?_ | refine gm_isub iU_chanceOf_5 ?_ | refine gi_isub iU_chanceOf_5 ?_ | refine go_isub iU_chanceOf_5 ?_
      refine go_bipush (v := nI 9) iU_chanceOf_6 (by decide) ?_
      first | refine gn_iadd iU_chanceOf_8 ?_ | refine gm_iadd iU_chanceOf_8 ?_ | refine gi_iadd iU_chanceOf_8 ?_ | refine go_iadd iU_chanceOf_8 ?_
      refine go_istoren_2 iU_chanceOf_9 (by simp [Value.category, am_U]) ?_
      refine go_iloadn_2 iU_chanceOf_10 ?_
      refine go_if_lt iU_chanceOf_11 (fun c_11 => ?_) (fun c_11 => ?_)
      · (rw [Int32.lt_iff_toInt_lt, zI_toInt (by omega), i32_0] at c_11; omega)
      refine go_iloadn_2 iU_chanceOf_14 ?_
      refine go_aloadn_0 iU_chanceOf_15 rfl ?_
      refine go_getR iU_chanceOf_16 rfl (by assumption) (by assumption) ?_
      refine go_alen iU_chanceOf_19 (by assumption) (by decide) ?_
      first | refine gn_ic_lt iU_chanceOf_20 (by omega) (by omega) (fun c_20 => ?_) (fun c_20 => ?_) | refine gm_ic_lt iU_chanceOf_20 (by omega) (by omega) (fun c_20 => ?_) (fun c_20 => ?_) | refine gi_ic_lt iU_chanceOf_20 (by omega) (by omega) (fun c_20 => ?_) (fun c_20 => ?_) | refine go_ic_lt iU_chanceOf_20 (fun c_20 => ?_) (fun c_20 => ?_)
      · (first | omega | exact absurd c_20 (by decide) | (exfalso; simp (disch := omega) only [Int32.lt_iff_toInt_lt, Int32.le_iff_toInt_le, ← Int32.toInt_inj, nI_toInt, i32_m1, i32_0, i32_m20, i32_m40, i32_m30, i32_m9] at *; omega))
      refine go_lconst (v := zL 0) iU_chanceOf_23 rfl ?_
      refine go_goto iU_chanceOf_24 ?_
      refine go_lret iU_chanceOf_33 rfl ?_
      rfl
    · have j4 := i4 (th - P + 9).toNat (by omega)
      rw [show P + (((th - P + 9).toNat : Nat) : Int) - 9 = th by omega] at j4
      refine go_iloadn_1 iU_chanceOf_0 ?_
      refine go_aloadn_0 iU_chanceOf_1 rfl ?_
      refine go_getI iU_chanceOf_2 (Or.inl rfl) (by assumption) ?_
      try simp (disch := omega) only [am_u_n, am_u_s, am_u_k, i1]
      first | refine gn_isub iU_chanceOf_5 (by omega) ?_ | refine gm_isub iU_chanceOf_5 ?_ | refine gi_isub iU_chanceOf_5 ?_ | refine go_isub iU_chanceOf_5 ?_
      refine go_bipush (v := nI 9) iU_chanceOf_6 (by decide) ?_
      first | refine gn_iadd iU_chanceOf_8 ?_ | refine gm_iadd iU_chanceOf_8 ?_ | refine gi_iadd iU_chanceOf_8 ?_ | refine go_iadd iU_chanceOf_8 ?_
      refine go_istoren_2 iU_chanceOf_9 (by simp [Value.category, am_U]) ?_
      refine go_iloadn_2 iU_chanceOf_10 ?_
      refine go_if_lt iU_chanceOf_11 (fun c_11 => ?_) (fun c_11 => ?_)
      · (rw [Int32.lt_iff_toInt_lt, zI_toInt (by omega), i32_0] at c_11; omega)
      refine go_iloadn_2 iU_chanceOf_14 ?_
      refine go_aloadn_0 iU_chanceOf_15 rfl ?_
      refine go_getR iU_chanceOf_16 rfl (by assumption) (by assumption) ?_
      refine go_alen iU_chanceOf_19 (by assumption) (by decide) ?_
      first | refine gn_ic_lt iU_chanceOf_20 (by omega) (by omega) (fun c_20 => ?_) (fun c_20 => ?_) | refine gm_ic_lt iU_chanceOf_20 (by omega) (by omega) (fun c_20 => ?_) (fun c_20 => ?_) | refine gi_ic_lt iU_chanceOf_20 (by omega) (by omega) (fun c_20 => ?_) (fun c_20 => ?_) | refine go_ic_lt iU_chanceOf_20 (fun c_20 => ?_) (fun c_20 => ?_)
      rotate_left
      · (first | omega | exact absurd c_20 (by decide) | (exfalso; simp (disch := omega) only [Int32.lt_iff_toInt_lt, Int32.le_iff_toInt_le, ← Int32.toInt_inj, nI_toInt, i32_m1, i32_0, i32_m20, i32_m40, i32_m30, i32_m9] at *; omega))
      refine go_aloadn_0 iU_chanceOf_27 rfl ?_
      refine go_getR iU_chanceOf_28 rfl (by assumption) (by assumption) ?_
      refine go_iloadn_2 iU_chanceOf_31 ?_
      rw [show zI (th - P + ((9 : Nat) : Int)) = nI (th - P + 9).toNat from zI_nI (by omega)]
      refine go_lald iU_chanceOf_32 (by assumption) rfl (by omega) (by omega) ?_
      try simp (disch := omega) only [am_u_n, am_u_s, am_u_k, i1]
      refine go_lret iU_chanceOf_33 rfl ?_
      rw [j4]
theorem lo_U_weighed (hP : -20 ≤ P ∧ P ≤ 20) (hI : PuI mI mL P N m w) : ∀ l k, k + l = 19 → Go S 0 tU_weighed ((am_sh n, mI, mL, am_mR n), 4, [.ref 13, .long (zL (smZ (fun x => pz m w P N (P + (x : Int) - 9) * (P + (x : Int) - 9)) k)), am_U, .int (nI k)], []) (fun q => q = (some (.long (zL (smZ (fun x => pz m w P N (P + (x : Int) - 9) * (P + (x : Int) - 9)) 19))), (am_sh n, mI, mL, am_mR n)))
  | 0, k, hi => by
    have hk := sk_13 n
    have hr := mR_13_3 n
    have hs := sh_14 n
    obtain rfl : k = 19 := by omega
    refine go_iloadn_3 iU_weighed_4 ?_
    refine go_aloadn_0 iU_weighed_5 rfl ?_
    refine go_getR iU_weighed_6 rfl (by assumption) (by assumption) ?_
    refine go_alen iU_weighed_9 (by assumption) (by decide) ?_
    first | refine gn_ic_ge iU_weighed_10 (by omega) (by omega) (fun c_10 => ?_) (fun c_10 => ?_) | refine go_ic_ge iU_weighed_10 (fun c_10 => ?_) (fun c_10 => ?_)
    rotate_left
    · (first | omega | exact absurd c_10 (by decide) | (exfalso; simp (disch := omega) only [Int32.lt_iff_toInt_lt, Int32.le_iff_toInt_le, ← Int32.toInt_inj, nI_toInt, i32_m1, i32_0, i32_m20, i32_m40, i32_m30, i32_m9] at *; omega))
    refine go_lloadn_1 iU_weighed_39 ?_
    refine go_lret iU_weighed_40 rfl ?_
    rfl
  | l + 1, k, hi => by
    have hk := sk_13 n
    have hr := mR_13_3 n
    have hs := sh_14 n
    have i1 := hI.1
    have i4 := hI.2.2.2 k (by omega)
    refine go_iloadn_3 iU_weighed_4 ?_
    refine go_aloadn_0 iU_weighed_5 rfl ?_
    refine go_getR iU_weighed_6 rfl (by assumption) (by assumption) ?_
    refine go_alen iU_weighed_9 (by assumption) (by decide) ?_
    first | refine gn_ic_ge iU_weighed_10 (by omega) (by omega) (fun c_10 => ?_) (fun c_10 => ?_) | refine gm_ic_ge iU_weighed_10 (by omega) (by omega) (fun c_10 => ?_) (fun c_10 => ?_) | refine gi_ic_ge iU_weighed_10 (by omega) (by omega) (fun c_10 => ?_) (fun c_10 => ?_) | refine go_ic_ge iU_weighed_10 (fun c_10 => ?_) (fun c_10 => ?_)
    · (first | omega | exact absurd c_10 (by decide) | (exfalso; simp (disch := omega) only [Int32.lt_iff_toInt_lt, Int32.le_iff_toInt_le, ← Int32.toInt_inj, nI_toInt, i32_m1, i32_0, i32_m20, i32_m40, i32_m30, i32_m9] at *; omega))
    refine go_lloadn_1 iU_weighed_13 ?_
    refine go_aloadn_0 iU_weighed_14 rfl ?_
    refine go_getR iU_weighed_15 rfl (by assumption) (by assumption) ?_
    refine go_iloadn_3 iU_weighed_18 ?_
    refine go_lald iU_weighed_19 (by assumption) rfl (by omega) (by omega) ?_
    try simp (disch := omega) only [am_u_n, am_u_s, am_u_k, i1, i4]
    refine go_aloadn_0 iU_weighed_20 rfl ?_
    refine go_getI iU_weighed_21 (Or.inl rfl) (by assumption) ?_
    try simp (disch := omega) only [am_u_n, am_u_s, am_u_k, i1, i4]
    refine go_iloadn_3 iU_weighed_24 ?_
    first | refine gn_iadd iU_weighed_25 ?_ | refine gm_iadd iU_weighed_25 ?_ | refine gi_iadd iU_weighed_25 ?_ | refine go_iadd iU_weighed_25 ?_
    refine go_bipush (v := nI 9) iU_weighed_26 (by decide) ?_
    first | refine gn_isub iU_weighed_28 (by omega) ?_ | refine gm_isub iU_weighed_28 ?_ | refine gi_isub iU_weighed_28 ?_ | refine go_isub iU_weighed_28 ?_
    refine gz_i2lz iU_weighed_29 (by omega) ?_
    first | refine gz_lmul iU_weighed_30 ?_ | refine go_lmul iU_weighed_30 ?_
    first | refine gz_ladd iU_weighed_31 ?_ | refine go_ladd iU_weighed_31 ?_
    refine go_lstoren_1 iU_weighed_32 (by simp [Value.category, am_U]) ?_
    first | refine go_iinc_3 iU_weighed_33 (ni_inc _ 1) (by simp [Value.category, am_U]) ?_ | refine go_iinc_3 iU_weighed_33 (zi_inc _ 1) (by simp [Value.category, am_U]) ?_
    refine go_goto iU_weighed_36 ?_
    exact lo_U_weighed hP hI l (k + 1) (by omega)
theorem sp_U_weighed (hP : -20 ≤ P ∧ P ≤ 20) (hI : PuI mI mL P N m w) : Sp S 0 tU_weighed (am_sh n, mI, mL, am_mR n) [.ref 13] (fun q => q = (some (.long (zL (smZ (fun x => pz m w P N (P + (x : Int) - 9) * (P + (x : Int) - 9)) 19))), (am_sh n, mI, mL, am_mR n))) := by
  show Go _ _ tU_weighed (_, 0, [.ref 13, am_U, am_U, am_U], []) _
  refine go_lconst (v := zL 0) iU_weighed_0 rfl ?_
  refine go_lstoren_1 iU_weighed_1 (by simp [Value.category, am_U]) ?_
  refine go_iconst (v := nI 0) iU_weighed_2 rfl ?_
  refine go_istoren_3 iU_weighed_3 (by simp [Value.category, am_U]) ?_
  exact lo_U_weighed hP hI 19 0 (by omega)
end PUR
