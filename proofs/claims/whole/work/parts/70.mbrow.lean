/-! ===== the reference's loop over all rows ===== -/
section MBB
variable {S : am_S} {mI mI1 : Nat → Nat → Int32} {mL mL1 : Nat → Nat → Int64} {n m N c : Nat} {o : Nat → Nat → Nat} {kd : Nat → Nat} {x2 x4 : Int32}
theorem lo_M_brC0 (hn : 0 < n) (h8 : n ≤ 8) (hN : N ≤ 4) (hc : c < n ^ N) (hcM : mI1 43 5 = nI n) (hpl : ∀ p, p < n → PlR mI1 p) (hod : odN mI1 = o) (hkd : kdN mI1 = kd) {Q : Option Value × am_M → Prop} (kq : ∀ mI' mL' x6 x7, BrC mI1 mI' mL1 mL' n N c o N → Go S 4 tM_bestRow ((am_sh n, mI', mL', am_mR n), 160, [.ref 43, .int (nI N), .int x2, .int (nI (n ^ N)), .int x4, .int (nI c), .int x6, .int x7, .int (nI (if gdR kd n N c N = true then 1 else 0)), .int (nI N)], []) Q) : Go S 4 tM_bestRow ((am_sh n, mI1, mL1, am_mR n), 79, [.ref 43, .int (nI N), .int x2, .int (nI (n ^ N)), .int x4, .int (nI c), .int (nI c), .int (nI (n ^ N)), .int (nI 1), .int (nI 0)], []) Q := by
  have h := lo_M_brC (S := S) (mI1 := mI1) (mL1 := mL1) (x2 := x2) (x4 := x4) hn h8 hN hcM hpl hod hkd (fun mI' mL' hF => kq mI' mL' _ _ hF) N 0 mI1 mL1 (by omega) ⟨fun a _ => rfl, fun a _ => rfl, fun s hs => by omega, fun s i hs => by omega⟩
  rw [Nat.sub_zero, Nat.mod_eq_of_lt hc, if_pos (show gdR kd n N c 0 = true from rfl)] at h
  exact h
theorem sr_some {b : Nat} (h1 : 1 ≤ m) (hm3 : m ≤ 3) (hN1 : 1 ≤ N) (hN : N ≤ 4) (hk : 0 < n) (ho : ∀ p i, p < n → i < 3 → o p i ≤ 12) (h : srF kd o m n N c = some b) : Gm m 12 N (wD o n N b) ∧ 0 < Wz m 12 N (wD o n N b) := ⟨Gm_sr h1 hm3 hN1 hN hk ho, (sr_bd h1 hm3 hN1 hN hk ho h).1.1⟩
theorem lo_M_brB (hn : 0 < n) (h8 : n ≤ 8) (hm1 : 1 ≤ m) (hm3 : m ≤ 3) (hN1 : 1 ≤ N) (hN : N ≤ 4) (hmM : mI 43 4 = nI m) (hcM : mI 43 5 = nI n) (hpl : ∀ p, p < n → PlR mI p) (hod : odN mI = o) (hkd : kdN mI = kd) {Q : Option Value × am_M → Prop} (kq : ∀ mI' mL' z5 z6 z7 z8 z9, FrN mI mI' mL mL' → SrM o m n N mI' mL' (srF kd o m n N (n ^ N)) → Go S 4 tM_bestRow ((am_sh n, mI', mL', am_mR n), 238, [.ref 43, .int (nI N), .int x2, .int (nI (n ^ N)), .int (nI (anyN (srF kd o m n N (n ^ N)))), z5, z6, z7, z8, z9], []) Q) : ∀ l c (mI' : Nat → Nat → Int32) (mL' : Nat → Nat → Int64) (y6 y7 y8 y9 : Value), c + l = n ^ N → FrN mI mI' mL mL' → SrM o m n N mI' mL' (srF kd o m n N c) → Go S 4 tM_bestRow ((am_sh n, mI', mL', am_mR n), 48, [.ref 43, .int (nI N), .int x2, .int (nI (n ^ N)), .int (nI (anyN (srF kd o m n N c))), .int (nI c), y6, y7, y8, y9], []) Q
  | 0, c, mI', mL', y6, y7, y8, y9, hi, hF, hB => by
    have hbd := pow_bd h8 hN
    have hcc : c = n ^ N := by omega
    rw [hcc] at hB ⊢
    refine go_iload_5 iM_bestRow_48 ?_
    refine go_iloadn_3 iM_bestRow_50 ?_
    first | refine gn_ic_ge iM_bestRow_51 (by omega) (by omega) (fun c_51 => ?_) (fun c_51 => ?_) | refine go_ic_ge iM_bestRow_51 (fun c_51 => ?_) (fun c_51 => ?_)
    rotate_left
    · (first | omega | exact absurd c_51 (by decide) | (exfalso; simp (disch := omega) only [Int32.lt_iff_toInt_lt, Int32.le_iff_toInt_le, ← Int32.toInt_inj, nI_toInt, i32_m1, i32_0, i32_m20, i32_m40, i32_m30, i32_m9] at *; omega))
    exact kq _ _ _ _ _ _ _ hF hB
  | l + 1, c, mI', mL', y6, y7, y8, y9, hi, hF, hB => by
    have hbd := pow_bd h8 hN
    have ho12 : ∀ p i, p < n → i < 3 → o p i ≤ 12 := fun p i hp hi => by rw [← hod]; exact ((odN_ok (hpl p hp)).1 i (by omega)).2
    have hG : Gm m 12 N (wD o n N c) := Gm_sr hm1 hm3 hN1 hN hn ho12
    have ha1 := anyN_le (srF kd o m n N c)
    have nx : ∀ (mI2 : Nat → Nat → Int32) (mL2 : Nat → Nat → Int64) (y6 y7 y8 y9 : Value), FrN mI mI2 mL mL2 → SrM o m n N mI2 mL2 (srF kd o m n N (c + 1)) → Go S 4 tM_bestRow ((am_sh n, mI2, mL2, am_mR n), 48, [.ref 43, .int (nI N), .int x2, .int (nI (n ^ N)), .int (nI (anyN (srF kd o m n N (c + 1)))), .int (nI (c + 1)), y6, y7, y8, y9], []) Q := fun mI2 mL2 y6 y7 y8 y9 h1 h2 => lo_M_brB hn h8 hm1 hm3 hN1 hN hmM hcM hpl hod hkd kq l (c + 1) mI2 mL2 y6 y7 y8 y9 (by omega) h1 h2
    have hokc : srO kd o m n N c = (gdR kd n N c N && decide (0 < srW o m n N c)) := rfl
    /- the memory in which the digits are looked at -/
    have fr0 : FrN mI (am_u mI' 43 11 (nI N)) mL (am_u mL' 43 12 (zL 12)) := hF.trans ⟨⟨fun a e1 e2 e3 => by rw [am_u_r e1], fun y hy => by rw [am_u_k hy], fun a ha => by rw [am_u_r (by omega)]⟩, by rw [am_u_k (by decide)], by rw [am_u_k (by decide)]⟩
    have hB0 : SrM o m n N (am_u mI' 43 11 (nI N)) (am_u mL' 43 12 (zL 12)) (srF kd o m n N c) := BsM.of hB (by rw [am_u_r (by decide)]) (by rw [am_u_k (by decide)]) (by rw [am_u_k (by decide)])
    refine go_iload_5 iM_bestRow_48 ?_
    refine go_iloadn_3 iM_bestRow_50 ?_
    first | refine gn_ic_ge iM_bestRow_51 (by omega) (by omega) (fun c_51 => ?_) (fun c_51 => ?_) | refine go_ic_ge iM_bestRow_51 (fun c_51 => ?_) (fun c_51 => ?_)
    · (first | omega | exact absurd c_51 (by decide) | (exfalso; simp (disch := omega) only [Int32.lt_iff_toInt_lt, Int32.le_iff_toInt_le, ← Int32.toInt_inj, nI_toInt, i32_m1, i32_0, i32_m20, i32_m40, i32_m30, i32_m9] at *; omega))
    refine go_iload_5 iM_bestRow_54 ?_
    refine go_istore_6 iM_bestRow_56 (by simp [Value.category, am_U]) ?_
    refine go_iloadn_3 iM_bestRow_58 ?_
    refine go_istore_7 iM_bestRow_59 (by simp [Value.category, am_U]) ?_
    refine go_iconst (v := nI 1) iM_bestRow_61 rfl ?_
    refine go_istore_8 iM_bestRow_62 (by simp [Value.category, am_U]) ?_
    refine go_aloadn_0 iM_bestRow_64 rfl ?_
    refine go_iloadn_1 iM_bestRow_65 ?_
    refine go_putI iM_bestRow_66 rfl (sk_43 _) ?_
    refine go_aloadn_0 iM_bestRow_69 rfl ?_
    refine go_ldc2 (v := zL 12) iM_bestRow_70 rfl ?_
    refine go_putL iM_bestRow_73 rfl (sk_43 _) ?_
    refine go_iconst (v := nI 0) iM_bestRow_76 rfl ?_
    refine go_istore_9 iM_bestRow_77 (by simp [Value.category, am_U]) ?_
    refine lo_M_brC0 (o := o) (kd := kd) hn h8 hN (by omega) (by rw [fr0.1.2.1 5 (by decide)]; exact hcM) (fun p hp => fr0.plr (hpl p hp)) (by rw [fr0.od]; exact hod) (by rw [← hkd]; funext p; unfold kdN; rw [fr0.1.1 45 (by decide) (by decide) (by decide)]) (fun mI2 mL2 x6 x7 hC => ?_)
    obtain ⟨f1, f2, f3, f4⟩ := hC
    have fr2 : FrN mI mI2 mL mL2 := fr0.trans ⟨⟨fun a e1 e2 e3 => f1 a e2, fun y hy => by rw [f1 43 (by decide)], fun a ha => f2 a (by omega)⟩, by rw [f2 43 (by decide)], by rw [f2 43 (by decide)]⟩
    have hB2 : SrM o m n N mI2 mL2 (srF kd o m n N c) := BsM.of hB0 (f1 56 (by decide)) (by rw [f2 43 (by decide)]) (by rw [f2 43 (by decide)])
    by_cases g1 : gdR kd n N c N = true
    · rw [if_pos g1]
      have hgn := ex_M_hasGain (S := S) (n := n) (mI := mI2) (mL := mL2) hG (by rw [fr2.1.2.1 4 (by decide)]; exact hmM) (by rw [f1 43 (by decide), am_u_s]) (by rw [f2 43 (by decide)]; exact am_u_s) (fun t i ht hi => f4 t i ht (by omega))
      by_cases g2 : 0 < Wz m 12 N (wD o n N c)
      · rw [if_pos g2] at hgn
        have hokt : srO kd o m n N c = true := by rw [hokc, g1, decide_eq_true (show 0 < srW o m n N c from g2)]; rfl
        obtain ⟨⟨u1, u2⟩, u3, u4⟩ := hG.f g2
        /- the piece that takes it over -/
        have take : ∀ mL3 : Nat → Nat → Int64, FrM mL2 mL3 → mL3 43 21 = zL (fU (srU o m n N c) (srN o m n N c)) → mL3 43 22 = zL (fL (srU o m n N c) (srN o m n N c)) → srF kd o m n N (c + 1) = some c → Go S 4 tM_bestRow ((am_sh n, mI2, mL3, am_mR n), 184, [.ref 43, .int (nI N), .int x2, .int (nI (n ^ N)), .int (nI (anyN (srF kd o m n N c))), .int (nI c), .int x6, .int x7, .int (nI 1), .int (nI N)], []) Q := by
          intro mL3 m1 m2 m3 hs
          rw [hs] at nx
          refine go_iconst (v := nI 1) iM_bestRow_184 rfl ?_
          refine go_istore_4 iM_bestRow_185 (by simp [Value.category, am_U]) ?_
          refine go_aloadn_0 iM_bestRow_187 rfl ?_
          refine go_aloadn_0 iM_bestRow_188 rfl ?_
          refine go_getL iM_bestRow_189 rfl (sk_43 _) ?_
          try simp (disch := omega) only [am_u_n, am_u_s, am_u_k, m2, m3]
          refine go_putL iM_bestRow_192 rfl (sk_43 _) ?_
          refine go_aloadn_0 iM_bestRow_195 rfl ?_
          refine go_aloadn_0 iM_bestRow_196 rfl ?_
          refine go_getL iM_bestRow_197 rfl (sk_43 _) ?_
          try simp (disch := omega) only [am_u_n, am_u_s, am_u_k, m2, m3]
          refine go_putL iM_bestRow_200 rfl (sk_43 _) ?_
          refine go_iconst (v := nI 0) iM_bestRow_203 rfl ?_
          refine go_istore_9 iM_bestRow_204 (by simp [Value.category, am_U]) ?_
          refine lo_M_brD (f := dg n N c) hN f3 (fun mI4 h4 => ?_) N 0 _ (by omega) ⟨fun a _ => rfl, fun s hs => by omega⟩
          first | refine go_iinc_5 iM_bestRow_232 (ni_inc _ 1) (by simp [Value.category, am_U]) ?_ | refine go_iinc_5 iM_bestRow_232 rfl (by simp [Value.category, am_U]) ?_
          refine go_goto iM_bestRow_235 ?_
          refine nx _ _ _ _ _ _ (fr2.trans ⟨⟨fun a e1 e2 e3 => h4.1 a e3, fun y hy => by rw [h4.1 43 (by decide)], fun a ha => ?_⟩, ?_, ?_⟩) ⟨?_, ?_, h4.2⟩
          · rw [am_u_r (by omega), am_u_r (by omega)]; exact m1.1 a (by omega) (by omega) (by omega) (by omega) (by omega) (by omega)
          · rw [am_u_k (by decide), am_u_k (by decide)]; exact m1.2 2 (by decide) (by decide) (by decide) (by decide)
          · rw [am_u_k (by decide), am_u_k (by decide)]; exact m1.2 3 (by decide) (by decide) (by decide) (by decide)
          · rw [am_u_k (by decide), am_u_s]
          · rw [am_u_s]
        have keep : ∀ mL3 : Nat → Nat → Int64, FrM mL2 mL3 → FrN mI mI2 mL mL3 ∧ SrM o m n N mI2 mL3 (srF kd o m n N c) := fun mL3 m1 => ⟨fr2.trans ⟨⟨fun a _ _ _ => rfl, fun y _ => rfl, fun a ha => m1.1 a (by omega) (by omega) (by omega) (by omega) (by omega) (by omega)⟩, m1.2 2 (by decide) (by decide) (by decide) (by decide), m1.2 3 (by decide) (by decide) (by decide) (by decide)⟩, BsM.of hB2 rfl (m1.2 23 (by decide) (by decide) (by decide) (by decide)) (m1.2 24 (by decide) (by decide) (by decide) (by decide))⟩
        cases hs : srF kd o m n N c with
        | none =>
          have hs1 : srF kd o m n N (c + 1) = some c := by
            show bsN (srO kd o m n N) (srU o m n N) (srW o m n N) (srF kd o m n N c) c = some c
            rw [hs]
            exact if_pos hokt
          rw [hs] at take
          rw [show anyN none = 0 from rfl]
          refine go_iload_8 iM_bestRow_160 ?_
          refine go_if_eq iM_bestRow_162 (fun c_162 => ?_) (fun c_162 => ?_)
          · (first | omega | exact absurd c_162 (by decide) | (exfalso; simp (disch := omega) only [Int32.lt_iff_toInt_lt, Int32.le_iff_toInt_le, ← Int32.toInt_inj, nI_toInt, i32_m1, i32_0, i32_m20, i32_m40, i32_m30, i32_m9] at *; omega))
          refine go_aloadn_0 iM_bestRow_165 rfl ?_
          refine gx_V1 iM_bestRow_166 rfl (by decide) (sk_43 _) rfl (Nat.le_of_ble_eq_true rfl) (Nat.le_of_ble_eq_true rfl) (by decide) hgn (fun mI166_ mL166_ h166_ => ?_)
          obtain ⟨b0, b1, b2⟩ := h166_
          subst mI166_
          obtain ⟨b3, b4⟩ := b2 g2
          refine go_if_eq iM_bestRow_169 (fun c_169 => ?_) (fun c_169 => ?_)
          · (first | omega | exact absurd c_169 (by decide) | (exfalso; simp (disch := omega) only [Int32.lt_iff_toInt_lt, Int32.le_iff_toInt_le, ← Int32.toInt_inj, nI_toInt, i32_m1, i32_0, i32_m20, i32_m40, i32_m30, i32_m9] at *; omega))
          refine go_iload_4 iM_bestRow_172 ?_
          refine go_if_eq iM_bestRow_174 (fun c_174 => ?_) (fun c_174 => ?_)
          rotate_left
          · (first | omega | exact absurd c_174 (by decide) | (exfalso; simp (disch := omega) only [Int32.lt_iff_toInt_lt, Int32.le_iff_toInt_le, ← Int32.toInt_inj, nI_toInt, i32_m1, i32_0, i32_m20, i32_m40, i32_m30, i32_m9] at *; omega))
          exact take _ b1 b3 b4 hs1
        | some b =>
          obtain ⟨hGb, hWb⟩ := sr_some hm1 hm3 hN1 hN hn ho12 hs
          obtain ⟨⟨v1, v2⟩, v3, v4⟩ := hGb.f hWb
          have hiff := more_iff hGb hG hWb g2
          rw [hs] at take keep hB2
          rw [show anyN (some b) = 1 from rfl]
          obtain ⟨k1, k2, k3⟩ := hB2
          by_cases g3 : srU o m n N b * srW o m n N c < srU o m n N c * srW o m n N b
          · have hs1 : srF kd o m n N (c + 1) = some c := by
              show bsN (srO kd o m n N) (srU o m n N) (srW o m n N) (srF kd o m n N c) c = some c
              rw [hs]
              exact if_pos ⟨hokt, g3⟩
            refine go_iload_8 iM_bestRow_160 ?_
            refine go_if_eq iM_bestRow_162 (fun c_162 => ?_) (fun c_162 => ?_)
            · (first | omega | exact absurd c_162 (by decide) | (exfalso; simp (disch := omega) only [Int32.lt_iff_toInt_lt, Int32.le_iff_toInt_le, ← Int32.toInt_inj, nI_toInt, i32_m1, i32_0, i32_m20, i32_m40, i32_m30, i32_m9] at *; omega))
            refine go_aloadn_0 iM_bestRow_165 rfl ?_
            refine gx_V1 iM_bestRow_166 rfl (by decide) (sk_43 _) rfl (Nat.le_of_ble_eq_true rfl) (Nat.le_of_ble_eq_true rfl) (by decide) hgn (fun mI166_ mL166_ h166_ => ?_)
            obtain ⟨b0, b1, b2⟩ := h166_
            subst mI166_
            obtain ⟨b3, b4⟩ := b2 g2
            obtain ⟨j1, j2, j3⟩ := (keep _ b1).2
            refine go_if_eq iM_bestRow_169 (fun c_169 => ?_) (fun c_169 => ?_)
            · (first | omega | exact absurd c_169 (by decide) | (exfalso; simp (disch := omega) only [Int32.lt_iff_toInt_lt, Int32.le_iff_toInt_le, ← Int32.toInt_inj, nI_toInt, i32_m1, i32_0, i32_m20, i32_m40, i32_m30, i32_m9] at *; omega))
            refine go_iload_4 iM_bestRow_172 ?_
            refine go_if_eq iM_bestRow_174 (fun c_174 => ?_) (fun c_174 => ?_)
            · (first | omega | exact absurd c_174 (by decide) | (exfalso; simp (disch := omega) only [Int32.lt_iff_toInt_lt, Int32.le_iff_toInt_le, ← Int32.toInt_inj, nI_toInt, i32_m1, i32_0, i32_m20, i32_m40, i32_m30, i32_m9] at *; omega))
            refine go_aloadn_0 iM_bestRow_177 rfl ?_
            refine gc_V1 iM_bestRow_178 rfl (by decide) (sk_43 _) rfl (Nat.le_of_ble_eq_true rfl) (Nat.le_of_ble_eq_true rfl) (by decide) (sp_M_isMore (v := 1) j1 j2 b3 b4 ⟨v1, v2⟩ ⟨u1, u2⟩ ⟨v3, v4⟩ ⟨u3, u4⟩ (if_pos (hiff.mpr g3)).symm) ?_
            refine go_if_eq iM_bestRow_181 (fun c_181 => ?_) (fun c_181 => ?_)
            · (first | omega | exact absurd c_181 (by decide) | (exfalso; simp (disch := omega) only [Int32.lt_iff_toInt_lt, Int32.le_iff_toInt_le, ← Int32.toInt_inj, nI_toInt, i32_m1, i32_0, i32_m20, i32_m40, i32_m30, i32_m9] at *; omega))
            exact take _ b1 b3 b4 hs1
          · have hs1 : srF kd o m n N (c + 1) = some b := by
              show bsN (srO kd o m n N) (srU o m n N) (srW o m n N) (srF kd o m n N c) c = some b
              rw [hs]
              exact if_neg (fun z => g3 z.2)
            rw [hs1] at nx
            refine go_iload_8 iM_bestRow_160 ?_
            refine go_if_eq iM_bestRow_162 (fun c_162 => ?_) (fun c_162 => ?_)
            · (first | omega | exact absurd c_162 (by decide) | (exfalso; simp (disch := omega) only [Int32.lt_iff_toInt_lt, Int32.le_iff_toInt_le, ← Int32.toInt_inj, nI_toInt, i32_m1, i32_0, i32_m20, i32_m40, i32_m30, i32_m9] at *; omega))
            refine go_aloadn_0 iM_bestRow_165 rfl ?_
            refine gx_V1 iM_bestRow_166 rfl (by decide) (sk_43 _) rfl (Nat.le_of_ble_eq_true rfl) (Nat.le_of_ble_eq_true rfl) (by decide) hgn (fun mI166_ mL166_ h166_ => ?_)
            obtain ⟨b0, b1, b2⟩ := h166_
            subst mI166_
            obtain ⟨b3, b4⟩ := b2 g2
            obtain ⟨j1, j2, j3⟩ := (keep _ b1).2
            refine go_if_eq iM_bestRow_169 (fun c_169 => ?_) (fun c_169 => ?_)
            · (first | omega | exact absurd c_169 (by decide) | (exfalso; simp (disch := omega) only [Int32.lt_iff_toInt_lt, Int32.le_iff_toInt_le, ← Int32.toInt_inj, nI_toInt, i32_m1, i32_0, i32_m20, i32_m40, i32_m30, i32_m9] at *; omega))
            refine go_iload_4 iM_bestRow_172 ?_
            refine go_if_eq iM_bestRow_174 (fun c_174 => ?_) (fun c_174 => ?_)
            · (first | omega | exact absurd c_174 (by decide) | (exfalso; simp (disch := omega) only [Int32.lt_iff_toInt_lt, Int32.le_iff_toInt_le, ← Int32.toInt_inj, nI_toInt, i32_m1, i32_0, i32_m20, i32_m40, i32_m30, i32_m9] at *; omega))
            refine go_aloadn_0 iM_bestRow_177 rfl ?_
            refine gc_V1 iM_bestRow_178 rfl (by decide) (sk_43 _) rfl (Nat.le_of_ble_eq_true rfl) (Nat.le_of_ble_eq_true rfl) (by decide) (sp_M_isMore (v := 0) j1 j2 b3 b4 ⟨v1, v2⟩ ⟨u1, u2⟩ ⟨v3, v4⟩ ⟨u3, u4⟩ (if_neg (fun z => g3 (hiff.mp z))).symm) ?_
            refine go_if_eq iM_bestRow_181 (fun c_181 => ?_) (fun c_181 => ?_)
            rotate_left
            · (first | omega | exact absurd c_181 (by decide) | (exfalso; simp (disch := omega) only [Int32.lt_iff_toInt_lt, Int32.le_iff_toInt_le, ← Int32.toInt_inj, nI_toInt, i32_m1, i32_0, i32_m20, i32_m40, i32_m30, i32_m9] at *; omega))
            first | refine go_iinc_5 iM_bestRow_232 (ni_inc _ 1) (by simp [Value.category, am_U]) ?_ | refine go_iinc_5 iM_bestRow_232 rfl (by simp [Value.category, am_U]) ?_
            refine go_goto iM_bestRow_235 ?_
            exact nx _ _ _ _ _ _ (keep _ b1).1 (keep _ b1).2
      · rw [if_neg g2] at hgn
        have hokf : srO kd o m n N c = false := by rw [hokc, g1, decide_eq_false (show ¬ 0 < srW o m n N c from g2)]; rfl
        have hs1 : srF kd o m n N (c + 1) = srF kd o m n N c := bsN_f hokf _
        rw [hs1] at nx
        refine go_iload_8 iM_bestRow_160 ?_
        refine go_if_eq iM_bestRow_162 (fun c_162 => ?_) (fun c_162 => ?_)
        · (first | omega | exact absurd c_162 (by decide) | (exfalso; simp (disch := omega) only [Int32.lt_iff_toInt_lt, Int32.le_iff_toInt_le, ← Int32.toInt_inj, nI_toInt, i32_m1, i32_0, i32_m20, i32_m40, i32_m30, i32_m9] at *; omega))
        refine go_aloadn_0 iM_bestRow_165 rfl ?_
        refine gx_V1 iM_bestRow_166 rfl (by decide) (sk_43 _) rfl (Nat.le_of_ble_eq_true rfl) (Nat.le_of_ble_eq_true rfl) (by decide) hgn (fun mI166_ mL166_ h166_ => ?_)
        obtain ⟨b0, b1, b2⟩ := h166_
        subst mI166_
        refine go_if_eq iM_bestRow_169 (fun c_169 => ?_) (fun c_169 => ?_)
        rotate_left
        · (first | omega | exact absurd c_169 (by decide) | (exfalso; simp (disch := omega) only [Int32.lt_iff_toInt_lt, Int32.le_iff_toInt_le, ← Int32.toInt_inj, nI_toInt, i32_m1, i32_0, i32_m20, i32_m40, i32_m30, i32_m9] at *; omega))
        first | refine go_iinc_5 iM_bestRow_232 (ni_inc _ 1) (by simp [Value.category, am_U]) ?_ | refine go_iinc_5 iM_bestRow_232 rfl (by simp [Value.category, am_U]) ?_
        refine go_goto iM_bestRow_235 ?_
        refine nx _ _ _ _ _ _ (fr2.trans ⟨⟨fun a _ _ _ => rfl, fun y _ => rfl, fun a ha => b1.1 a (by omega) (by omega) (by omega) (by omega) (by omega) (by omega)⟩, b1.2 2 (by decide) (by decide) (by decide) (by decide), b1.2 3 (by decide) (by decide) (by decide) (by decide)⟩) (BsM.of hB2 rfl (b1.2 23 (by decide) (by decide) (by decide) (by decide)) (b1.2 24 (by decide) (by decide) (by decide) (by decide)))
    · rw [if_neg g1]
      have g1f : gdR kd n N c N = false := by rw [Bool.not_eq_true] at g1; exact g1
      have hokf : srO kd o m n N c = false := by rw [hokc, g1f, Bool.false_and]
      have hs1 : srF kd o m n N (c + 1) = srF kd o m n N c := bsN_f hokf _
      rw [hs1] at nx
      refine go_iload_8 iM_bestRow_160 ?_
      refine go_if_eq iM_bestRow_162 (fun c_162 => ?_) (fun c_162 => ?_)
      rotate_left
      · (first | omega | exact absurd c_162 (by decide) | (exfalso; simp (disch := omega) only [Int32.lt_iff_toInt_lt, Int32.le_iff_toInt_le, ← Int32.toInt_inj, nI_toInt, i32_m1, i32_0, i32_m20, i32_m40, i32_m30, i32_m9] at *; omega))
      first | refine go_iinc_5 iM_bestRow_232 (ni_inc _ 1) (by simp [Value.category, am_U]) ?_ | refine go_iinc_5 iM_bestRow_232 rfl (by simp [Value.category, am_U]) ?_
      refine go_goto iM_bestRow_235 ?_
      exact nx _ _ _ _ _ _ fr2 hB2
end MBB
