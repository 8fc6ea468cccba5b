/-! ===== paradoxes ===== -/
def w1 (mI : Nat → Nat → Int32) (p : Nat) : Nat → Nat → Nat := fun _ => odN mI p
def w2 (mI : Nat → Nat → Int32) (p q : Nat) : Nat → Nat → Nat := fun t => odN mI (if t = 0 then p else q)
def laB (mI : Nat → Nat → Int32) (m p : Nat) : Bool := decide (0 < Wz m 12 1 (w1 mI p)) && decide (Uz m 12 1 (w1 mI p) < 0)
def lsB (mI : Nat → Nat → Int32) (m p : Nat) : Bool := decide (kdN mI p ≠ 2) && laB mI m p
def wnB (mI : Nat → Nat → Int32) (m p q : Nat) : Bool := decide (0 < Wz m 12 2 (w2 mI p q)) && decide (0 < Uz m 12 2 (w2 mI p q))
def pxB (mI : Nat → Nat → Int32) (m p q : Nat) : Bool := lsB mI m p && (lsB mI m q && wnB mI m p q)
theorem od_fr {mI mI1 : Nat → Nat → Int32} (h : ∀ a, 60 < a → mI1 a = mI a) : odN mI1 = odN mI := by
  funext p i
  unfold odN
  rw [h _ (by omega)]
theorem px_fr {mI mI1 : Nat → Nat → Int32} (h45 : mI1 45 = mI 45) (h : ∀ a, 60 < a → mI1 a = mI a) : pxB mI1 = pxB mI ∧ lsB mI1 = lsB mI ∧ laB mI1 = laB mI := by
  have e := od_fr h
  have e2 : kdN mI1 = kdN mI := by funext p; unfold kdN; rw [h45]
  have e3 : laB mI1 = laB mI := by funext m p; unfold laB w1; rw [e]
  have e4 : lsB mI1 = lsB mI := by funext m p; unfold lsB; rw [e2, e3]
  refine ⟨?_, e4, e3⟩
  funext m p q
  unfold pxB wnB w2
  rw [e4, e]
def cnB (f : Nat → Nat → Bool) (a : Nat) : Nat → Nat
  | 0 => 0
  | i + 1 => cnB f a i + (if f a (a + 1 + i) = true then 1 else 0)
def cnA (f : Nat → Nat → Bool) (n : Nat) : Nat → Nat
  | 0 => 0
  | a + 1 => cnA f n a + cnB f a (n - 1 - a)
theorem cnB_t {f : Nat → Nat → Bool} {a i : Nat} (h : f a (a + 1 + i) = true) : cnB f a (i + 1) = cnB f a i + 1 := by simp only [cnB, h, if_true]
theorem cnB_f {f : Nat → Nat → Bool} {a i : Nat} (h : f a (a + 1 + i) = false) : cnB f a (i + 1) = cnB f a i := by simp [cnB, h]
theorem cnB_0 {f : Nat → Nat → Bool} {a : Nat} (h : ∀ b, f a b = false) : ∀ i, cnB f a i = 0
  | 0 => rfl
  | i + 1 => by rw [cnB_f (h _), cnB_0 h i]
theorem Gm_1 {mI : Nat → Nat → Int32} {m p : Nat} (h1 : 1 ≤ m) (hm3 : m ≤ 3) (hp : PlR mI p) : Gm m 12 1 (w1 mI p) := ⟨h1, hm3, Or.inl ⟨rfl, by omega, by omega⟩, fun t i _ hi => ((odN_ok hp).1 i (by omega)).2⟩
theorem Gm_2 {mI : Nat → Nat → Int32} {m p q : Nat} (h1 : 1 ≤ m) (hm3 : m ≤ 3) (hp : PlR mI p) (hq : PlR mI q) : Gm m 12 2 (w2 mI p q) := ⟨h1, hm3, Or.inl ⟨rfl, by omega, by omega⟩, fun t i _ hi => by
  unfold w2
  by_cases e : t = 0
  · rw [if_pos e]; exact ((odN_ok hp).1 i (by omega)).2
  · rw [if_neg e]; exact ((odN_ok hq).1 i (by omega)).2⟩
section PDX
variable {S : am_S} {mI mI1 : Nat → Nat → Int32} {mL : Nat → Nat → Int64} {n m p q s b : Nat} {ps : Nat → Nat}
theorem ex_T_trial (h8 : n ≤ 8) (hm3 : m ≤ 3) (h4 : s ≤ 4) (hmT : mI 0 0 = nI m) (hcT : mI 0 1 = nI n) (hpl : ∀ p, p < n → PlR mI p) (hfr : ∀ a, a ≠ 9 → a ≠ 10 → mI1 a = mI a) (h9 : mI1 9 0 = nI s) (hps : ∀ i, i < s → mI1 10 i = nI (ps i) ∧ ps i < n) : Ex S 2 tT_roundOf n mI1 mL [.ref 0, .ref 9] (some (.ref (23 + 4 * s))) (fun mI' mL' => RdI mI' mL' s m s (pw 12 s) (fun f => nowZ m 12 (fun t => odN mI (ps t)) f s) (fun f => gZ m 12 (fun t => odN mI (ps t)) f s) ∧ FrD mI mI' mL mL') := by
  have h := ex_T_roundOf (S := S) (n := n) (mI := mI1) (mL := mL) (rc := 9) (pc := 10) (ps := ps) h8 hm3 h4 (sk_9 n) (mR_9_1 n) (sh_10 n) (by omega) (by omega) (by rw [hfr 0 (by omega) (by omega)]; exact hmT) (by rw [hfr 0 (by omega) (by omega)]; exact hcT) h9 hps (fun p hp => (hpl p hp).c (fun a ha _ _ _ => hfr a (by omega) (by omega)))
  rw [od_fr (fun a ha => hfr a (by omega) (by omega))] at h
  refine go_mono h (Nat.le_refl _) (fun r hr => ?_)
  obtain ⟨mI2, mL2, e, e1, e2, e3⟩ := hr
  exact ⟨mI2, mL2, e, e1, ⟨fun a ha => (e2 a (by omega)).trans (hfr a (by omega) (by omega)), fun a ha _ => e3 a (by omega)⟩, e3 4 (by omega)⟩
theorem roI_r {w u a : Nat} {x : Int32} (h1 : a ≠ w) (h2 : a ≠ u) : roI mI w u x a = mI a := by
  unfold roI
  rw [va_up_ne _ _ h2, am_u_r h1]
theorem roI_0 {w u : Nat} {x : Int32} (h : w ≠ u) : roI mI w u x w 0 = x := by
  unfold roI
  rw [va_up_ne _ _ h, am_u_s]
theorem ex_T_loses (h8 : n ≤ 8) (hm1 : 1 ≤ m) (hm3 : m ≤ 3) (hp : p < n) (hmT : mI 0 0 = nI m) (hcT : mI 0 1 = nI n) (hpl : ∀ p, p < n → PlR mI p) (hb : b = if lsB mI m p = true then 1 else 0) : Ex S 3 tT_losesAlone n mI mL [.ref 0, .int (nI p)] (some (.int (nI b))) (fun mI' mL' => FrD mI mI' mL mL') := by
  obtain ⟨kd, hkd, hkT, hkM, _⟩ := hpl p hp
  have hkk := kdN_of hkM hkd
  have hG := Gm_1 hm1 hm3 (hpl p hp)
  have hW := hG.b
  have hR1 := sk_rnd n (show 1 < 5 by omega)
  have hn := sp_T_hangs_t (S := S) (mL := mL) h8 hcT hp hkT hkd
  unfold Ex
  show Go _ _ tT_losesAlone (_, 0, [.ref 0, .int (nI p), am_U], []) _
  by_cases ck : kd = 2
  · obtain rfl : b = 0 := by rw [hb, if_neg]; unfold lsB; simp [hkk, ck]
    refine go_aloadn_0 iT_losesAlone_0 rfl ?_
    refine go_iloadn_1 iT_losesAlone_1 ?_
    refine gc_V1 iT_losesAlone_2 rfl (by decide) (sk_0 _) rfl (Nat.le_of_ble_eq_true rfl) (Nat.le_of_ble_eq_true rfl) (by decide) (sp_T_hangs_e h8 hcT hp hkT ck) ?_
    refine go_if_ne iT_losesAlone_5 (fun c_5 => ?_) (fun c_5 => ?_)
    · (first | omega | exact absurd c_5 (by decide) | (exfalso; simp (disch := omega) only [Int32.lt_iff_toInt_lt, Int32.le_iff_toInt_le, ← Int32.toInt_inj, nI_toInt, i32_m1, i32_0, i32_m20, i32_m40, i32_m30, i32_m9] at *; omega))
    refine go_iconst (v := nI 0) iT_losesAlone_8 rfl ?_
    refine go_zret iT_losesAlone_9 rfl (by first | exact Or.inl rfl | exact Or.inr rfl) ?_
    exact ex_i FrD.rfl'
  · have htr := ex_T_trial (S := S) (mI1 := am_u (roI mI 9 10 (nI 1)) 10 0 (nI p)) (mL := mL) (s := 1) (ps := fun _ => p) h8 hm3 (by omega) hmT hcT hpl (fun a h1 h2 => by rw [am_u_r h2, roI_r h1 h2]) (by rw [am_u_n (by decide), roI_0 (by decide)]) (fun i hi => by
      obtain rfl : i = 0 := by omega
      exact ⟨am_u_s, hp⟩)
    by_cases c : 0 < Wz m 12 1 (w1 mI p)
    · by_cases c1 : Uz m 12 1 (w1 mI p) < 0
      · obtain rfl : b = 1 := by rw [hb, if_pos]; unfold lsB laB; simp [hkk, ck, c, c1]
        refine go_aloadn_0 iT_losesAlone_0 rfl ?_
        refine go_iloadn_1 iT_losesAlone_1 ?_
        refine gc_V1 iT_losesAlone_2 rfl (by decide) (sk_0 _) rfl (Nat.le_of_ble_eq_true rfl) (Nat.le_of_ble_eq_true rfl) (by decide) (hn ck) ?_
        refine go_if_ne iT_losesAlone_5 (fun c_5 => ?_) (fun c_5 => ?_)
        rotate_left
        · (first | omega | exact absurd c_5 (by decide) | (exfalso; simp (disch := omega) only [Int32.lt_iff_toInt_lt, Int32.le_iff_toInt_le, ← Int32.toInt_inj, nI_toInt, i32_m1, i32_0, i32_m20, i32_m40, i32_m30, i32_m9] at *; omega))
        refine go_aloadn_0 iT_losesAlone_10 rfl ?_
        refine go_getR iT_losesAlone_11 rfl (sk_0 _) (mR_0_11 _) ?_
        refine go_iconst (v := nI 1) iT_losesAlone_14 rfl ?_
        refine gc_V0 iT_losesAlone_15 rfl (by decide) (sk_9 _) rfl (Nat.le_of_ble_eq_true rfl) (Nat.le_of_ble_eq_true rfl) (by decide) (sp_W_become (sk_9 _) (mR_9_1 _) (sh_10 _) (by decide)) ?_
        refine go_aloadn_0 iT_losesAlone_18 rfl ?_
        refine go_getR iT_losesAlone_19 rfl (sk_0 _) (mR_0_11 _) ?_
        refine go_getR iT_losesAlone_22 rfl (sk_9 _) (mR_9_1 _) ?_
        refine go_iconst (v := nI 0) iT_losesAlone_25 rfl ?_
        refine go_iloadn_1 iT_losesAlone_26 ?_
        refine go_iast iT_losesAlone_27 (sh_10 _) rfl (by omega) (by omega) ?_
        refine go_aloadn_0 iT_losesAlone_28 rfl ?_
        refine go_aloadn_0 iT_losesAlone_29 rfl ?_
        refine go_getR iT_losesAlone_30 rfl (sk_0 _) (mR_0_11 _) ?_
        refine gx_V1 iT_losesAlone_33 rfl (by decide) (sk_0 _) rfl (Nat.le_of_ble_eq_true rfl) (Nat.le_of_ble_eq_true rfl) (by decide) htr (fun mI33_ mL33_ h33_ => ?_)
        obtain ⟨e1, e2⟩ := h33_
        have e1 : RdI mI33_ mL33_ 1 m 1 (pw 12 1) (fun f => nowZ m 12 (w1 mI p) f 1) (fun f => gZ m 12 (w1 mI p) f 1) := e1
        have hst := ex_R_settles (S := S) (n := n) (k := 1) (by omega) hG.1 hG.2.1 (by unfold Wz at hW; omega) e1
        rw [if_pos (show 0 < wsZ m (fun f => nowZ m 12 (w1 mI p) f 1) m from c)] at hst
        refine go_astoren_2 iT_losesAlone_36 rfl (by simp [Value.category, am_U]) ?_
        refine go_aloadn_2 iT_losesAlone_37 rfl ?_
        refine gx_V1 iT_losesAlone_38 rfl (by decide) hR1 rfl (Nat.le_of_ble_eq_true rfl) (Nat.le_of_ble_eq_true rfl) (by decide) hst (fun mI38_ mL38_ h38_ => ?_)
        obtain ⟨d0, d1, d2, d3, d4, d5⟩ := h38_
        subst mI38_
        have d6 : mL38_ (23 + 4 * 1) 7 = zL (Uz m 12 1 (w1 mI p)) := d4
        have ho := sp_R_outcome (S := S) (n := n) (mI := mI33_) (k := 1) (by omega) (by omega) d6
        rw [if_neg (show ¬ 0 < Uz m 12 1 (w1 mI p) by omega), if_pos c1] at ho
        refine go_if_eq iT_losesAlone_41 (fun c_41 => ?_) (fun c_41 => ?_)
        · (first | omega | exact absurd c_41 (by decide) | (exfalso; simp (disch := omega) only [Int32.lt_iff_toInt_lt, Int32.le_iff_toInt_le, ← Int32.toInt_inj, nI_toInt, i32_m1, i32_0, i32_m20, i32_m40, i32_m30, i32_m9] at *; omega))
        refine go_aloadn_2 iT_losesAlone_44 rfl ?_
        refine gc_V1 iT_losesAlone_45 rfl (by decide) hR1 rfl (Nat.le_of_ble_eq_true rfl) (Nat.le_of_ble_eq_true rfl) (by decide) ho ?_
        refine go_iconst (v := nI 2) iT_losesAlone_48 rfl ?_
        first | refine gn_ic_ne iT_losesAlone_49 (by omega) (by omega) (fun c_49 => ?_) (fun c_49 => ?_) | refine go_ic_ne iT_losesAlone_49 (fun c_49 => ?_) (fun c_49 => ?_)
        · (first | omega | exact absurd c_49 (by decide) | (exfalso; simp (disch := omega) only [Int32.lt_iff_toInt_lt, Int32.le_iff_toInt_le, ← Int32.toInt_inj, nI_toInt, i32_m1, i32_0, i32_m20, i32_m40, i32_m30, i32_m9] at *; omega))
        refine go_iconst (v := nI 1) iT_losesAlone_52 rfl ?_
        refine go_goto iT_losesAlone_53 ?_
        refine go_zret iT_losesAlone_57 rfl (by first | exact Or.inl rfl | exact Or.inr rfl) ?_
        exact ex_i (e2.trans ⟨d2.c (by omega), d2.2 4 (by omega) (by omega) (by omega) (by omega)⟩)
      · obtain rfl : b = 0 := by rw [hb, if_neg]; unfold lsB laB; simp [c1]
        obtain ⟨o, ho1, ho2, ho3⟩ : ∃ o : Nat, o ≤ 2 ∧ o ≠ 2 ∧ (if 0 < Uz m 12 1 (w1 mI p) then 1 else if Uz m 12 1 (w1 mI p) < 0 then 2 else 0) = o := by
          by_cases c2 : 0 < Uz m 12 1 (w1 mI p)
          · rw [if_pos c2]; exact ⟨1, by omega, by omega, rfl⟩
          · rw [if_neg c2, if_neg c1]; exact ⟨0, by omega, by omega, rfl⟩
        refine go_aloadn_0 iT_losesAlone_0 rfl ?_
        refine go_iloadn_1 iT_losesAlone_1 ?_
        refine gc_V1 iT_losesAlone_2 rfl (by decide) (sk_0 _) rfl (Nat.le_of_ble_eq_true rfl) (Nat.le_of_ble_eq_true rfl) (by decide) (hn ck) ?_
        refine go_if_ne iT_losesAlone_5 (fun c_5 => ?_) (fun c_5 => ?_)
        rotate_left
        · (first | omega | exact absurd c_5 (by decide) | (exfalso; simp (disch := omega) only [Int32.lt_iff_toInt_lt, Int32.le_iff_toInt_le, ← Int32.toInt_inj, nI_toInt, i32_m1, i32_0, i32_m20, i32_m40, i32_m30, i32_m9] at *; omega))
        refine go_aloadn_0 iT_losesAlone_10 rfl ?_
        refine go_getR iT_losesAlone_11 rfl (sk_0 _) (mR_0_11 _) ?_
        refine go_iconst (v := nI 1) iT_losesAlone_14 rfl ?_
        refine gc_V0 iT_losesAlone_15 rfl (by decide) (sk_9 _) rfl (Nat.le_of_ble_eq_true rfl) (Nat.le_of_ble_eq_true rfl) (by decide) (sp_W_become (sk_9 _) (mR_9_1 _) (sh_10 _) (by decide)) ?_
        refine go_aloadn_0 iT_losesAlone_18 rfl ?_
        refine go_getR iT_losesAlone_19 rfl (sk_0 _) (mR_0_11 _) ?_
        refine go_getR iT_losesAlone_22 rfl (sk_9 _) (mR_9_1 _) ?_
        refine go_iconst (v := nI 0) iT_losesAlone_25 rfl ?_
        refine go_iloadn_1 iT_losesAlone_26 ?_
        refine go_iast iT_losesAlone_27 (sh_10 _) rfl (by omega) (by omega) ?_
        refine go_aloadn_0 iT_losesAlone_28 rfl ?_
        refine go_aloadn_0 iT_losesAlone_29 rfl ?_
        refine go_getR iT_losesAlone_30 rfl (sk_0 _) (mR_0_11 _) ?_
        refine gx_V1 iT_losesAlone_33 rfl (by decide) (sk_0 _) rfl (Nat.le_of_ble_eq_true rfl) (Nat.le_of_ble_eq_true rfl) (by decide) htr (fun mI33_ mL33_ h33_ => ?_)
        obtain ⟨e1, e2⟩ := h33_
        have e1 : RdI mI33_ mL33_ 1 m 1 (pw 12 1) (fun f => nowZ m 12 (w1 mI p) f 1) (fun f => gZ m 12 (w1 mI p) f 1) := e1
        have hst := ex_R_settles (S := S) (n := n) (k := 1) (by omega) hG.1 hG.2.1 (by unfold Wz at hW; omega) e1
        rw [if_pos (show 0 < wsZ m (fun f => nowZ m 12 (w1 mI p) f 1) m from c)] at hst
        refine go_astoren_2 iT_losesAlone_36 rfl (by simp [Value.category, am_U]) ?_
        refine go_aloadn_2 iT_losesAlone_37 rfl ?_
        refine gx_V1 iT_losesAlone_38 rfl (by decide) hR1 rfl (Nat.le_of_ble_eq_true rfl) (Nat.le_of_ble_eq_true rfl) (by decide) hst (fun mI38_ mL38_ h38_ => ?_)
        obtain ⟨d0, d1, d2, d3, d4, d5⟩ := h38_
        subst mI38_
        have d6 : mL38_ (23 + 4 * 1) 7 = zL (Uz m 12 1 (w1 mI p)) := d4
        have ho := sp_R_outcome (S := S) (n := n) (mI := mI33_) (k := 1) (by omega) (by omega) d6
        rw [ho3] at ho
        refine go_if_eq iT_losesAlone_41 (fun c_41 => ?_) (fun c_41 => ?_)
        · (first | omega | exact absurd c_41 (by decide) | (exfalso; simp (disch := omega) only [Int32.lt_iff_toInt_lt, Int32.le_iff_toInt_le, ← Int32.toInt_inj, nI_toInt, i32_m1, i32_0, i32_m20, i32_m40, i32_m30, i32_m9] at *; omega))
        refine go_aloadn_2 iT_losesAlone_44 rfl ?_
        refine gc_V1 iT_losesAlone_45 rfl (by decide) hR1 rfl (Nat.le_of_ble_eq_true rfl) (Nat.le_of_ble_eq_true rfl) (by decide) ho ?_
        refine go_iconst (v := nI 2) iT_losesAlone_48 rfl ?_
        first | refine gn_ic_ne iT_losesAlone_49 (by omega) (by omega) (fun c_49 => ?_) (fun c_49 => ?_) | refine go_ic_ne iT_losesAlone_49 (fun c_49 => ?_) (fun c_49 => ?_)
        rotate_left
        · (first | omega | exact absurd c_49 (by decide) | (exfalso; simp (disch := omega) only [Int32.lt_iff_toInt_lt, Int32.le_iff_toInt_le, ← Int32.toInt_inj, nI_toInt, i32_m1, i32_0, i32_m20, i32_m40, i32_m30, i32_m9] at *; omega))
        refine go_iconst (v := nI 0) iT_losesAlone_56 rfl ?_
        refine go_zret iT_losesAlone_57 rfl (by first | exact Or.inl rfl | exact Or.inr rfl) ?_
        exact ex_i (e2.trans ⟨d2.c (by omega), d2.2 4 (by omega) (by omega) (by omega) (by omega)⟩)
    · obtain rfl : b = 0 := by rw [hb, if_neg]; unfold lsB laB; simp [c]
      refine go_aloadn_0 iT_losesAlone_0 rfl ?_
      refine go_iloadn_1 iT_losesAlone_1 ?_
      refine gc_V1 iT_losesAlone_2 rfl (by decide) (sk_0 _) rfl (Nat.le_of_ble_eq_true rfl) (Nat.le_of_ble_eq_true rfl) (by decide) (hn ck) ?_
      refine go_if_ne iT_losesAlone_5 (fun c_5 => ?_) (fun c_5 => ?_)
      rotate_left
      · (first | omega | exact absurd c_5 (by decide) | (exfalso; simp (disch := omega) only [Int32.lt_iff_toInt_lt, Int32.le_iff_toInt_le, ← Int32.toInt_inj, nI_toInt, i32_m1, i32_0, i32_m20, i32_m40, i32_m30, i32_m9] at *; omega))
      refine go_aloadn_0 iT_losesAlone_10 rfl ?_
      refine go_getR iT_losesAlone_11 rfl (sk_0 _) (mR_0_11 _) ?_
      refine go_iconst (v := nI 1) iT_losesAlone_14 rfl ?_
      refine gc_V0 iT_losesAlone_15 rfl (by decide) (sk_9 _) rfl (Nat.le_of_ble_eq_true rfl) (Nat.le_of_ble_eq_true rfl) (by decide) (sp_W_become (sk_9 _) (mR_9_1 _) (sh_10 _) (by decide)) ?_
      refine go_aloadn_0 iT_losesAlone_18 rfl ?_
      refine go_getR iT_losesAlone_19 rfl (sk_0 _) (mR_0_11 _) ?_
      refine go_getR iT_losesAlone_22 rfl (sk_9 _) (mR_9_1 _) ?_
      refine go_iconst (v := nI 0) iT_losesAlone_25 rfl ?_
      refine go_iloadn_1 iT_losesAlone_26 ?_
      refine go_iast iT_losesAlone_27 (sh_10 _) rfl (by omega) (by omega) ?_
      refine go_aloadn_0 iT_losesAlone_28 rfl ?_
      refine go_aloadn_0 iT_losesAlone_29 rfl ?_
      refine go_getR iT_losesAlone_30 rfl (sk_0 _) (mR_0_11 _) ?_
      refine gx_V1 iT_losesAlone_33 rfl (by decide) (sk_0 _) rfl (Nat.le_of_ble_eq_true rfl) (Nat.le_of_ble_eq_true rfl) (by decide) htr (fun mI33_ mL33_ h33_ => ?_)
      obtain ⟨e1, e2⟩ := h33_
      have e1 : RdI mI33_ mL33_ 1 m 1 (pw 12 1) (fun f => nowZ m 12 (w1 mI p) f 1) (fun f => gZ m 12 (w1 mI p) f 1) := e1
      have hst := ex_R_settles (S := S) (n := n) (k := 1) (by omega) hG.1 hG.2.1 (by unfold Wz at hW; omega) e1
      rw [if_neg (show ¬ 0 < wsZ m (fun f => nowZ m 12 (w1 mI p) f 1) m from c)] at hst
      refine go_astoren_2 iT_losesAlone_36 rfl (by simp [Value.category, am_U]) ?_
      refine go_aloadn_2 iT_losesAlone_37 rfl ?_
      refine gx_V1 iT_losesAlone_38 rfl (by decide) hR1 rfl (Nat.le_of_ble_eq_true rfl) (Nat.le_of_ble_eq_true rfl) (by decide) hst (fun mI38_ mL38_ h38_ => ?_)
      obtain ⟨d0, d1, d2, d3, d4, d5⟩ := h38_
      subst mI38_
      refine go_if_eq iT_losesAlone_41 (fun c_41 => ?_) (fun c_41 => ?_)
      rotate_left
      · (first | omega | exact absurd c_41 (by decide) | (exfalso; simp (disch := omega) only [Int32.lt_iff_toInt_lt, Int32.le_iff_toInt_le, ← Int32.toInt_inj, nI_toInt, i32_m1, i32_0, i32_m20, i32_m40, i32_m30, i32_m9] at *; omega))
      refine go_iconst (v := nI 0) iT_losesAlone_56 rfl ?_
      refine go_zret iT_losesAlone_57 rfl (by first | exact Or.inl rfl | exact Or.inr rfl) ?_
      exact ex_i (e2.trans ⟨d2.c (by omega), d2.2 4 (by omega) (by omega) (by omega) (by omega)⟩)
theorem ex_T_wins (h8 : n ≤ 8) (hm1 : 1 ≤ m) (hm3 : m ≤ 3) (hp : p < n) (hq : q < n) (hmT : mI 0 0 = nI m) (hcT : mI 0 1 = nI n) (hpl : ∀ p, p < n → PlR mI p) (hb : b = if wnB mI m p q = true then 1 else 0) : Ex S 3 tT_winByTurns n mI mL [.ref 0, .int (nI p), .int (nI q)] (some (.int (nI b))) (fun mI' mL' => FrD mI mI' mL mL') := by
  have hG := Gm_2 hm1 hm3 (hpl p hp) (hpl q hq)
  have hW := hG.b
  have hR1 := sk_rnd n (show 2 < 5 by omega)
  have htr := ex_T_trial (S := S) (mI1 := am_u (am_u (roI mI 9 10 (nI 2)) 10 0 (nI p)) 10 1 (nI q)) (mL := mL) (s := 2) (ps := fun t => if t = 0 then p else q) h8 hm3 (by omega) hmT hcT hpl (fun a h1 h2 => by rw [am_u_r h2, am_u_r h2, roI_r h1 h2]) (by rw [am_u_n (by decide), am_u_n (by decide), roI_0 (by decide)]) (fun i hi => by
    by_cases e : i = 0
    · subst e; rw [am_u_k (by decide), am_u_s]; exact ⟨by rw [if_pos rfl], by rw [if_pos rfl]; exact hp⟩
    · obtain rfl : i = 1 := by omega
      rw [am_u_s]; exact ⟨by rw [if_neg (by decide)], by rw [if_neg (by decide)]; exact hq⟩)
  unfold Ex
  show Go _ _ tT_winByTurns (_, 0, [.ref 0, .int (nI p), .int (nI q), am_U], []) _
  by_cases c : 0 < Wz m 12 2 (w2 mI p q)
  · by_cases c1 : 0 < Uz m 12 2 (w2 mI p q)
    · obtain rfl : b = 1 := by rw [hb, if_pos]; unfold wnB; simp [c, c1]
      refine go_aloadn_0 iT_winByTurns_0 rfl ?_
      refine go_getR iT_winByTurns_1 rfl (sk_0 _) (mR_0_11 _) ?_
      refine go_iconst (v := nI 2) iT_winByTurns_4 rfl ?_
      refine gc_V0 iT_winByTurns_5 rfl (by decide) (sk_9 _) rfl (Nat.le_of_ble_eq_true rfl) (Nat.le_of_ble_eq_true rfl) (by decide) (sp_W_become (sk_9 _) (mR_9_1 _) (sh_10 _) (by decide)) ?_
      refine go_aloadn_0 iT_winByTurns_8 rfl ?_
      refine go_getR iT_winByTurns_9 rfl (sk_0 _) (mR_0_11 _) ?_
      refine go_getR iT_winByTurns_12 rfl (sk_9 _) (mR_9_1 _) ?_
      refine go_iconst (v := nI 0) iT_winByTurns_15 rfl ?_
      refine go_iloadn_1 iT_winByTurns_16 ?_
      refine go_iast iT_winByTurns_17 (sh_10 _) rfl (by omega) (by omega) ?_
      refine go_aloadn_0 iT_winByTurns_18 rfl ?_
      refine go_getR iT_winByTurns_19 rfl (sk_0 _) (mR_0_11 _) ?_
      refine go_getR iT_winByTurns_22 rfl (sk_9 _) (mR_9_1 _) ?_
      refine go_iconst (v := nI 1) iT_winByTurns_25 rfl ?_
      refine go_iloadn_2 iT_winByTurns_26 ?_
      refine go_iast iT_winByTurns_27 (sh_10 _) rfl (by omega) (by omega) ?_
      refine go_aloadn_0 iT_winByTurns_28 rfl ?_
      refine go_aloadn_0 iT_winByTurns_29 rfl ?_
      refine go_getR iT_winByTurns_30 rfl (sk_0 _) (mR_0_11 _) ?_
      refine gx_V1 iT_winByTurns_33 rfl (by decide) (sk_0 _) rfl (Nat.le_of_ble_eq_true rfl) (Nat.le_of_ble_eq_true rfl) (by decide) htr (fun mI33_ mL33_ h33_ => ?_)
      obtain ⟨e1, e2⟩ := h33_
      have e1 : RdI mI33_ mL33_ 2 m 2 (pw 12 2) (fun f => nowZ m 12 (w2 mI p q) f 2) (fun f => gZ m 12 (w2 mI p q) f 2) := e1
      have hst := ex_R_settles (S := S) (n := n) (k := 2) (by omega) hG.1 hG.2.1 (by unfold Wz at hW; omega) e1
      rw [if_pos (show 0 < wsZ m (fun f => nowZ m 12 (w2 mI p q) f 2) m from c)] at hst
      refine go_astoren_3 iT_winByTurns_36 rfl (by simp [Value.category, am_U]) ?_
      refine go_aloadn_3 iT_winByTurns_37 rfl ?_
      refine gx_V1 iT_winByTurns_38 rfl (by decide) hR1 rfl (Nat.le_of_ble_eq_true rfl) (Nat.le_of_ble_eq_true rfl) (by decide) hst (fun mI38_ mL38_ h38_ => ?_)
      obtain ⟨d0, d1, d2, d3, d4, d5⟩ := h38_
      subst mI38_
      have d6 : mL38_ (23 + 4 * 2) 7 = zL (Uz m 12 2 (w2 mI p q)) := d4
      have ho := sp_R_outcome (S := S) (n := n) (mI := mI33_) (k := 2) (by omega) (by omega) d6
      rw [if_pos c1] at ho
      refine go_if_eq iT_winByTurns_41 (fun c_41 => ?_) (fun c_41 => ?_)
      · (first | omega | exact absurd c_41 (by decide) | (exfalso; simp (disch := omega) only [Int32.lt_iff_toInt_lt, Int32.le_iff_toInt_le, ← Int32.toInt_inj, nI_toInt, i32_m1, i32_0, i32_m20, i32_m40, i32_m30, i32_m9] at *; omega))
      refine go_aloadn_3 iT_winByTurns_44 rfl ?_
      refine gc_V1 iT_winByTurns_45 rfl (by decide) hR1 rfl (Nat.le_of_ble_eq_true rfl) (Nat.le_of_ble_eq_true rfl) (by decide) ho ?_
      refine go_iconst (v := nI 1) iT_winByTurns_48 rfl ?_
      first | refine gn_ic_ne iT_winByTurns_49 (by omega) (by omega) (fun c_49 => ?_) (fun c_49 => ?_) | refine go_ic_ne iT_winByTurns_49 (fun c_49 => ?_) (fun c_49 => ?_)
      · (first | omega | exact absurd c_49 (by decide) | (exfalso; simp (disch := omega) only [Int32.lt_iff_toInt_lt, Int32.le_iff_toInt_le, ← Int32.toInt_inj, nI_toInt, i32_m1, i32_0, i32_m20, i32_m40, i32_m30, i32_m9] at *; omega))
      refine go_iconst (v := nI 1) iT_winByTurns_52 rfl ?_
      refine go_goto iT_winByTurns_53 ?_
      refine go_zret iT_winByTurns_57 rfl (by first | exact Or.inl rfl | exact Or.inr rfl) ?_
      exact ex_i (e2.trans ⟨d2.c (by omega), d2.2 4 (by omega) (by omega) (by omega) (by omega)⟩)
    · obtain rfl : b = 0 := by rw [hb, if_neg]; unfold wnB; simp [c1]
      obtain ⟨o, ho1, ho2, ho3⟩ : ∃ o : Nat, o ≤ 2 ∧ o ≠ 1 ∧ (if 0 < Uz m 12 2 (w2 mI p q) then 1 else if Uz m 12 2 (w2 mI p q) < 0 then 2 else 0) = o := by
        rw [if_neg c1]
        by_cases c2 : Uz m 12 2 (w2 mI p q) < 0
        · rw [if_pos c2]; exact ⟨2, by omega, by omega, rfl⟩
        · rw [if_neg c2]; exact ⟨0, by omega, by omega, rfl⟩
      refine go_aloadn_0 iT_winByTurns_0 rfl ?_
      refine go_getR iT_winByTurns_1 rfl (sk_0 _) (mR_0_11 _) ?_
      refine go_iconst (v := nI 2) iT_winByTurns_4 rfl ?_
      refine gc_V0 iT_winByTurns_5 rfl (by decide) (sk_9 _) rfl (Nat.le_of_ble_eq_true rfl) (Nat.le_of_ble_eq_true rfl) (by decide) (sp_W_become (sk_9 _) (mR_9_1 _) (sh_10 _) (by decide)) ?_
      refine go_aloadn_0 iT_winByTurns_8 rfl ?_
      refine go_getR iT_winByTurns_9 rfl (sk_0 _) (mR_0_11 _) ?_
      refine go_getR iT_winByTurns_12 rfl (sk_9 _) (mR_9_1 _) ?_
      refine go_iconst (v := nI 0) iT_winByTurns_15 rfl ?_
      refine go_iloadn_1 iT_winByTurns_16 ?_
      refine go_iast iT_winByTurns_17 (sh_10 _) rfl (by omega) (by omega) ?_
      refine go_aloadn_0 iT_winByTurns_18 rfl ?_
      refine go_getR iT_winByTurns_19 rfl (sk_0 _) (mR_0_11 _) ?_
      refine go_getR iT_winByTurns_22 rfl (sk_9 _) (mR_9_1 _) ?_
      refine go_iconst (v := nI 1) iT_winByTurns_25 rfl ?_
      refine go_iloadn_2 iT_winByTurns_26 ?_
      refine go_iast iT_winByTurns_27 (sh_10 _) rfl (by omega) (by omega) ?_
      refine go_aloadn_0 iT_winByTurns_28 rfl ?_
      refine go_aloadn_0 iT_winByTurns_29 rfl ?_
      refine go_getR iT_winByTurns_30 rfl (sk_0 _) (mR_0_11 _) ?_
      refine gx_V1 iT_winByTurns_33 rfl (by decide) (sk_0 _) rfl (Nat.le_of_ble_eq_true rfl) (Nat.le_of_ble_eq_true rfl) (by decide) htr (fun mI33_ mL33_ h33_ => ?_)
      obtain ⟨e1, e2⟩ := h33_
      have e1 : RdI mI33_ mL33_ 2 m 2 (pw 12 2) (fun f => nowZ m 12 (w2 mI p q) f 2) (fun f => gZ m 12 (w2 mI p q) f 2) := e1
      have hst := ex_R_settles (S := S) (n := n) (k := 2) (by omega) hG.1 hG.2.1 (by unfold Wz at hW; omega) e1
      rw [if_pos (show 0 < wsZ m (fun f => nowZ m 12 (w2 mI p q) f 2) m from c)] at hst
      refine go_astoren_3 iT_winByTurns_36 rfl (by simp [Value.category, am_U]) ?_
      refine go_aloadn_3 iT_winByTurns_37 rfl ?_
      refine gx_V1 iT_winByTurns_38 rfl (by decide) hR1 rfl (Nat.le_of_ble_eq_true rfl) (Nat.le_of_ble_eq_true rfl) (by decide) hst (fun mI38_ mL38_ h38_ => ?_)
      obtain ⟨d0, d1, d2, d3, d4, d5⟩ := h38_
      subst mI38_
      have d6 : mL38_ (23 + 4 * 2) 7 = zL (Uz m 12 2 (w2 mI p q)) := d4
      have ho := sp_R_outcome (S := S) (n := n) (mI := mI33_) (k := 2) (by omega) (by omega) d6
      rw [ho3] at ho
      refine go_if_eq iT_winByTurns_41 (fun c_41 => ?_) (fun c_41 => ?_)
      · (first | omega | exact absurd c_41 (by decide) | (exfalso; simp (disch := omega) only [Int32.lt_iff_toInt_lt, Int32.le_iff_toInt_le, ← Int32.toInt_inj, nI_toInt, i32_m1, i32_0, i32_m20, i32_m40, i32_m30, i32_m9] at *; omega))
      refine go_aloadn_3 iT_winByTurns_44 rfl ?_
      refine gc_V1 iT_winByTurns_45 rfl (by decide) hR1 rfl (Nat.le_of_ble_eq_true rfl) (Nat.le_of_ble_eq_true rfl) (by decide) ho ?_
      refine go_iconst (v := nI 1) iT_winByTurns_48 rfl ?_
      first | refine gn_ic_ne iT_winByTurns_49 (by omega) (by omega) (fun c_49 => ?_) (fun c_49 => ?_) | refine go_ic_ne iT_winByTurns_49 (fun c_49 => ?_) (fun c_49 => ?_)
      rotate_left
      · (first | omega | exact absurd c_49 (by decide) | (exfalso; simp (disch := omega) only [Int32.lt_iff_toInt_lt, Int32.le_iff_toInt_le, ← Int32.toInt_inj, nI_toInt, i32_m1, i32_0, i32_m20, i32_m40, i32_m30, i32_m9] at *; omega))
      refine go_iconst (v := nI 0) iT_winByTurns_56 rfl ?_
      refine go_zret iT_winByTurns_57 rfl (by first | exact Or.inl rfl | exact Or.inr rfl) ?_
      exact ex_i (e2.trans ⟨d2.c (by omega), d2.2 4 (by omega) (by omega) (by omega) (by omega)⟩)
  · obtain rfl : b = 0 := by rw [hb, if_neg]; unfold wnB; simp [c]
    refine go_aloadn_0 iT_winByTurns_0 rfl ?_
    refine go_getR iT_winByTurns_1 rfl (sk_0 _) (mR_0_11 _) ?_
    refine go_iconst (v := nI 2) iT_winByTurns_4 rfl ?_
    refine gc_V0 iT_winByTurns_5 rfl (by decide) (sk_9 _) rfl (Nat.le_of_ble_eq_true rfl) (Nat.le_of_ble_eq_true rfl) (by decide) (sp_W_become (sk_9 _) (mR_9_1 _) (sh_10 _) (by decide)) ?_
    refine go_aloadn_0 iT_winByTurns_8 rfl ?_
    refine go_getR iT_winByTurns_9 rfl (sk_0 _) (mR_0_11 _) ?_
    refine go_getR iT_winByTurns_12 rfl (sk_9 _) (mR_9_1 _) ?_
    refine go_iconst (v := nI 0) iT_winByTurns_15 rfl ?_
    refine go_iloadn_1 iT_winByTurns_16 ?_
    refine go_iast iT_winByTurns_17 (sh_10 _) rfl (by omega) (by omega) ?_
    refine go_aloadn_0 iT_winByTurns_18 rfl ?_
    refine go_getR iT_winByTurns_19 rfl (sk_0 _) (mR_0_11 _) ?_
    refine go_getR iT_winByTurns_22 rfl (sk_9 _) (mR_9_1 _) ?_
    refine go_iconst (v := nI 1) iT_winByTurns_25 rfl ?_
    refine go_iloadn_2 iT_winByTurns_26 ?_
    refine go_iast iT_winByTurns_27 (sh_10 _) rfl (by omega) (by omega) ?_
    refine go_aloadn_0 iT_winByTurns_28 rfl ?_
    refine go_aloadn_0 iT_winByTurns_29 rfl ?_
    refine go_getR iT_winByTurns_30 rfl (sk_0 _) (mR_0_11 _) ?_
    refine gx_V1 iT_winByTurns_33 rfl (by decide) (sk_0 _) rfl (Nat.le_of_ble_eq_true rfl) (Nat.le_of_ble_eq_true rfl) (by decide) htr (fun mI33_ mL33_ h33_ => ?_)
    obtain ⟨e1, e2⟩ := h33_
    have e1 : RdI mI33_ mL33_ 2 m 2 (pw 12 2) (fun f => nowZ m 12 (w2 mI p q) f 2) (fun f => gZ m 12 (w2 mI p q) f 2) := e1
    have hst := ex_R_settles (S := S) (n := n) (k := 2) (by omega) hG.1 hG.2.1 (by unfold Wz at hW; omega) e1
    rw [if_neg (show ¬ 0 < wsZ m (fun f => nowZ m 12 (w2 mI p q) f 2) m from c)] at hst
    refine go_astoren_3 iT_winByTurns_36 rfl (by simp [Value.category, am_U]) ?_
    refine go_aloadn_3 iT_winByTurns_37 rfl ?_
    refine gx_V1 iT_winByTurns_38 rfl (by decide) hR1 rfl (Nat.le_of_ble_eq_true rfl) (Nat.le_of_ble_eq_true rfl) (by decide) hst (fun mI38_ mL38_ h38_ => ?_)
    obtain ⟨d0, d1, d2, d3, d4, d5⟩ := h38_
    subst mI38_
    refine go_if_eq iT_winByTurns_41 (fun c_41 => ?_) (fun c_41 => ?_)
    rotate_left
    · (first | omega | exact absurd c_41 (by decide) | (exfalso; simp (disch := omega) only [Int32.lt_iff_toInt_lt, Int32.le_iff_toInt_le, ← Int32.toInt_inj, nI_toInt, i32_m1, i32_0, i32_m20, i32_m40, i32_m30, i32_m9] at *; omega))
    refine go_iconst (v := nI 0) iT_winByTurns_56 rfl ?_
    refine go_zret iT_winByTurns_57 rfl (by first | exact Or.inl rfl | exact Or.inr rfl) ?_
    exact ex_i (e2.trans ⟨d2.c (by omega), d2.2 4 (by omega) (by omega) (by omega) (by omega)⟩)
theorem lo_T_px2 (h8 : n ≤ 8) (hm1 : 1 ≤ m) (hm3 : m ≤ 3) (hp : p < n) (hmT : mI 0 0 = nI m) (hcT : mI 0 1 = nI n) (hpl : ∀ p, p < n → PlR mI p) (hls : lsB mI m p = true) {C : Nat} {Q : Option Value × am_M → Prop} (kq : ∀ mI' mL' z, FrD mI mI' mL mL' → Go S 4 tT_paradoxes ((am_sh n, mI', mL', am_mR n), 61, [.ref 0, .int (nI (C + cnB (pxB mI m) p (n - 1 - p))), .int (nI p), z], []) Q) : ∀ l i (mI' : Nat → Nat → Int32) (mL' : Nat → Nat → Int64), p + 1 + i + l = n → FrD mI mI' mL mL' → Go S 4 tT_paradoxes ((am_sh n, mI', mL', am_mR n), 27, [.ref 0, .int (nI (C + cnB (pxB mI m) p i)), .int (nI p), .int (nI (p + 1 + i))], []) Q
  | 0, i, mI', mL', hi, hF => by
    obtain rfl : i = n - 1 - p := by omega
    have q1 := hcT
    rw [← hF.1.1 0 (by omega)] at q1
    refine go_iloadn_3 iT_paradoxes_27 ?_
    refine go_aloadn_0 iT_paradoxes_28 rfl ?_
    refine go_getI iT_paradoxes_29 (Or.inl rfl) (sk_0 _) ?_
    try simp (disch := omega) only [am_u_n, am_u_s, am_u_k, q1]
    first | refine gn_ic_ge iT_paradoxes_32 (by omega) (by omega) (fun c_32 => ?_) (fun c_32 => ?_) | refine go_ic_ge iT_paradoxes_32 (fun c_32 => ?_) (fun c_32 => ?_)
    rotate_left
    · (first | omega | exact absurd c_32 (by decide) | (exfalso; simp (disch := omega) only [Int32.lt_iff_toInt_lt, Int32.le_iff_toInt_le, ← Int32.toInt_inj, nI_toInt, i32_m1, i32_0, i32_m20, i32_m40, i32_m30, i32_m9] at *; omega))
    exact kq _ _ _ hF
  | l + 1, i, mI', mL', hi, hF => by
    have q1 := hcT
    rw [← hF.1.1 0 (by omega)] at q1
    have q2 := hmT
    rw [← hF.1.1 0 (by omega)] at q2
    have hf := px_fr (hF.1.1 45 (by omega)) (fun a ha => hF.1.1 a (by omega))
    have hpl2 : ∀ p, p < n → PlR mI' p := fun p hp => (hpl p hp).c (fun a ha _ _ _ => hF.1.1 a (by omega))
    by_cases c : lsB mI m (p + 1 + i) = true
    · have hx := ex_T_loses (S := S) (mL := mL') (b := 1) h8 hm1 hm3 (show p + 1 + i < n by omega) q2 q1 hpl2 (by rw [hf.2.1, if_pos c])
      by_cases c2 : wnB mI m p (p + 1 + i) = true
      · have e : C + cnB (pxB mI m) p i + 1 = C + cnB (pxB mI m) p (i + 1) := by rw [cnB_t (by unfold pxB; rw [hls, c, c2]; rfl)]; omega
        refine go_iloadn_3 iT_paradoxes_27 ?_
        refine go_aloadn_0 iT_paradoxes_28 rfl ?_
        refine go_getI iT_paradoxes_29 (Or.inl rfl) (sk_0 _) ?_
        try simp (disch := omega) only [am_u_n, am_u_s, am_u_k, q1]
        first | refine gn_ic_ge iT_paradoxes_32 (by omega) (by omega) (fun c_32 => ?_) (fun c_32 => ?_) | refine go_ic_ge iT_paradoxes_32 (fun c_32 => ?_) (fun c_32 => ?_)
        · (first | omega | exact absurd c_32 (by decide) | (exfalso; simp (disch := omega) only [Int32.lt_iff_toInt_lt, Int32.le_iff_toInt_le, ← Int32.toInt_inj, nI_toInt, i32_m1, i32_0, i32_m20, i32_m40, i32_m30, i32_m9] at *; omega))
        refine go_aloadn_0 iT_paradoxes_35 rfl ?_
        refine go_iloadn_3 iT_paradoxes_36 ?_
        refine gx_V1 iT_paradoxes_37 rfl (by decide) (sk_0 _) rfl (Nat.le_of_ble_eq_true rfl) (Nat.le_of_ble_eq_true rfl) (by decide) hx (fun mI37_ mL37_ h37_ => ?_)
        have f2 := hF.trans h37_
        have hg := px_fr (f2.1.1 45 (by omega)) (fun a ha => f2.1.1 a (by omega))
        have hy := ex_T_wins (S := S) (mI := mI37_) (mL := mL37_) (p := p) (q := p + 1 + i) (b := 1) h8 hm1 hm3 hp (by omega) (by rw [f2.1.1 0 (by omega)]; exact hmT) (by rw [f2.1.1 0 (by omega)]; exact hcT) (fun p hp => (hpl p hp).c (fun a ha _ _ _ => f2.1.1 a (by omega))) (by unfold wnB w2; rw [od_fr (fun a ha => f2.1.1 a (by omega))]; exact (if_pos c2).symm)
        refine go_if_eq iT_paradoxes_40 (fun c_40 => ?_) (fun c_40 => ?_)
        · (first | omega | exact absurd c_40 (by decide) | (exfalso; simp (disch := omega) only [Int32.lt_iff_toInt_lt, Int32.le_iff_toInt_le, ← Int32.toInt_inj, nI_toInt, i32_m1, i32_0, i32_m20, i32_m40, i32_m30, i32_m9] at *; omega))
        refine go_aloadn_0 iT_paradoxes_43 rfl ?_
        refine go_iloadn_2 iT_paradoxes_44 ?_
        refine go_iloadn_3 iT_paradoxes_45 ?_
        refine gx_V1 iT_paradoxes_46 rfl (by decide) (sk_0 _) rfl (Nat.le_of_ble_eq_true rfl) (Nat.le_of_ble_eq_true rfl) (by decide) hy (fun mI46_ mL46_ h46_ => ?_)
        refine go_if_eq iT_paradoxes_49 (fun c_49 => ?_) (fun c_49 => ?_)
        · (first | omega | exact absurd c_49 (by decide) | (exfalso; simp (disch := omega) only [Int32.lt_iff_toInt_lt, Int32.le_iff_toInt_le, ← Int32.toInt_inj, nI_toInt, i32_m1, i32_0, i32_m20, i32_m40, i32_m30, i32_m9] at *; omega))
        first | refine go_iinc_1 iT_paradoxes_52 (ni_inc _ 1) (by simp [Value.category, am_U]) ?_ | refine go_iinc_1 iT_paradoxes_52 rfl (by simp [Value.category, am_U]) ?_
        first | refine go_iinc_3 iT_paradoxes_55 (ni_inc _ 1) (by simp [Value.category, am_U]) ?_ | refine go_iinc_3 iT_paradoxes_55 rfl (by simp [Value.category, am_U]) ?_
        refine go_goto iT_paradoxes_58 ?_
        rw [e]
        exact lo_T_px2 h8 hm1 hm3 hp hmT hcT hpl hls kq l (i + 1) _ _ (by omega) (f2.trans h46_)
      · have e : C + cnB (pxB mI m) p i = C + cnB (pxB mI m) p (i + 1) := by rw [cnB_f (by unfold pxB; rw [Bool.not_eq_true] at c2; rw [hls, c, c2]; rfl)]
        refine go_iloadn_3 iT_paradoxes_27 ?_
        refine go_aloadn_0 iT_paradoxes_28 rfl ?_
        refine go_getI iT_paradoxes_29 (Or.inl rfl) (sk_0 _) ?_
        try simp (disch := omega) only [am_u_n, am_u_s, am_u_k, q1]
        first | refine gn_ic_ge iT_paradoxes_32 (by omega) (by omega) (fun c_32 => ?_) (fun c_32 => ?_) | refine go_ic_ge iT_paradoxes_32 (fun c_32 => ?_) (fun c_32 => ?_)
        · (first | omega | exact absurd c_32 (by decide) | (exfalso; simp (disch := omega) only [Int32.lt_iff_toInt_lt, Int32.le_iff_toInt_le, ← Int32.toInt_inj, nI_toInt, i32_m1, i32_0, i32_m20, i32_m40, i32_m30, i32_m9] at *; omega))
        refine go_aloadn_0 iT_paradoxes_35 rfl ?_
        refine go_iloadn_3 iT_paradoxes_36 ?_
        refine gx_V1 iT_paradoxes_37 rfl (by decide) (sk_0 _) rfl (Nat.le_of_ble_eq_true rfl) (Nat.le_of_ble_eq_true rfl) (by decide) hx (fun mI37_ mL37_ h37_ => ?_)
        have f2 := hF.trans h37_
        have hy := ex_T_wins (S := S) (mI := mI37_) (mL := mL37_) (p := p) (q := p + 1 + i) (b := 0) h8 hm1 hm3 hp (by omega) (by rw [f2.1.1 0 (by omega)]; exact hmT) (by rw [f2.1.1 0 (by omega)]; exact hcT) (fun p hp => (hpl p hp).c (fun a ha _ _ _ => f2.1.1 a (by omega))) (by unfold wnB w2; rw [od_fr (fun a ha => f2.1.1 a (by omega))]; exact (if_neg c2).symm)
        refine go_if_eq iT_paradoxes_40 (fun c_40 => ?_) (fun c_40 => ?_)
        · (first | omega | exact absurd c_40 (by decide) | (exfalso; simp (disch := omega) only [Int32.lt_iff_toInt_lt, Int32.le_iff_toInt_le, ← Int32.toInt_inj, nI_toInt, i32_m1, i32_0, i32_m20, i32_m40, i32_m30, i32_m9] at *; omega))
        refine go_aloadn_0 iT_paradoxes_43 rfl ?_
        refine go_iloadn_2 iT_paradoxes_44 ?_
        refine go_iloadn_3 iT_paradoxes_45 ?_
        refine gx_V1 iT_paradoxes_46 rfl (by decide) (sk_0 _) rfl (Nat.le_of_ble_eq_true rfl) (Nat.le_of_ble_eq_true rfl) (by decide) hy (fun mI46_ mL46_ h46_ => ?_)
        refine go_if_eq iT_paradoxes_49 (fun c_49 => ?_) (fun c_49 => ?_)
        rotate_left
        · (first | omega | exact absurd c_49 (by decide) | (exfalso; simp (disch := omega) only [Int32.lt_iff_toInt_lt, Int32.le_iff_toInt_le, ← Int32.toInt_inj, nI_toInt, i32_m1, i32_0, i32_m20, i32_m40, i32_m30, i32_m9] at *; omega))
        first | refine go_iinc_3 iT_paradoxes_55 (ni_inc _ 1) (by simp [Value.category, am_U]) ?_ | refine go_iinc_3 iT_paradoxes_55 rfl (by simp [Value.category, am_U]) ?_
        refine go_goto iT_paradoxes_58 ?_
        rw [e]
        exact lo_T_px2 h8 hm1 hm3 hp hmT hcT hpl hls kq l (i + 1) _ _ (by omega) (f2.trans h46_)
    · have hx := ex_T_loses (S := S) (mL := mL') (b := 0) h8 hm1 hm3 (show p + 1 + i < n by omega) q2 q1 hpl2 (by rw [hf.2.1, if_neg c])
      have e : C + cnB (pxB mI m) p i = C + cnB (pxB mI m) p (i + 1) := by rw [cnB_f (by unfold pxB; rw [Bool.not_eq_true] at c; rw [hls, c]; rfl)]
      refine go_iloadn_3 iT_paradoxes_27 ?_
      refine go_aloadn_0 iT_paradoxes_28 rfl ?_
      refine go_getI iT_paradoxes_29 (Or.inl rfl) (sk_0 _) ?_
      try simp (disch := omega) only [am_u_n, am_u_s, am_u_k, q1]
      first | refine gn_ic_ge iT_paradoxes_32 (by omega) (by omega) (fun c_32 => ?_) (fun c_32 => ?_) | refine go_ic_ge iT_paradoxes_32 (fun c_32 => ?_) (fun c_32 => ?_)
      · (first | omega | exact absurd c_32 (by decide) | (exfalso; simp (disch := omega) only [Int32.lt_iff_toInt_lt, Int32.le_iff_toInt_le, ← Int32.toInt_inj, nI_toInt, i32_m1, i32_0, i32_m20, i32_m40, i32_m30, i32_m9] at *; omega))
      refine go_aloadn_0 iT_paradoxes_35 rfl ?_
      refine go_iloadn_3 iT_paradoxes_36 ?_
      refine gx_V1 iT_paradoxes_37 rfl (by decide) (sk_0 _) rfl (Nat.le_of_ble_eq_true rfl) (Nat.le_of_ble_eq_true rfl) (by decide) hx (fun mI37_ mL37_ h37_ => ?_)
      refine go_if_eq iT_paradoxes_40 (fun c_40 => ?_) (fun c_40 => ?_)
      rotate_left
      · (first | omega | exact absurd c_40 (by decide) | (exfalso; simp (disch := omega) only [Int32.lt_iff_toInt_lt, Int32.le_iff_toInt_le, ← Int32.toInt_inj, nI_toInt, i32_m1, i32_0, i32_m20, i32_m40, i32_m30, i32_m9] at *; omega))
      first | refine go_iinc_3 iT_paradoxes_55 (ni_inc _ 1) (by simp [Value.category, am_U]) ?_ | refine go_iinc_3 iT_paradoxes_55 rfl (by simp [Value.category, am_U]) ?_
      refine go_goto iT_paradoxes_58 ?_
      rw [e]
      exact lo_T_px2 h8 hm1 hm3 hp hmT hcT hpl hls kq l (i + 1) _ _ (by omega) (hF.trans h37_)
theorem lo_T_px1 (h8 : n ≤ 8) (hm1 : 1 ≤ m) (hm3 : m ≤ 3) (hmT : mI 0 0 = nI m) (hcT : mI 0 1 = nI n) (hpl : ∀ p, p < n → PlR mI p) : ∀ l p (mI' : Nat → Nat → Int32) (mL' : Nat → Nat → Int64) (z : Value), p + l = n → FrD mI mI' mL mL' → Go S 4 tT_paradoxes ((am_sh n, mI', mL', am_mR n), 4, [.ref 0, .int (nI (cnA (pxB mI m) n p)), .int (nI p), z], []) (fun r => ∃ mI'' mL'', r = (some (.int (nI (cnA (pxB mI m) n n))), (am_sh n, mI'', mL'', am_mR n)) ∧ FrD mI mI'' mL mL'')
  | 0, p, mI', mL', z, hi, hF => by
    obtain rfl : p = n := by omega
    have q1 := hcT
    rw [← hF.1.1 0 (by omega)] at q1
    refine go_iloadn_2 iT_paradoxes_4 ?_
    refine go_aloadn_0 iT_paradoxes_5 rfl ?_
    refine go_getI iT_paradoxes_6 (Or.inl rfl) (sk_0 _) ?_
    try simp (disch := omega) only [am_u_n, am_u_s, am_u_k, q1]
    first | refine gn_ic_ge iT_paradoxes_9 (by omega) (by omega) (fun c_9 => ?_) (fun c_9 => ?_) | refine go_ic_ge iT_paradoxes_9 (fun c_9 => ?_) (fun c_9 => ?_)
    rotate_left
    · (first | omega | exact absurd c_9 (by decide) | (exfalso; simp (disch := omega) only [Int32.lt_iff_toInt_lt, Int32.le_iff_toInt_le, ← Int32.toInt_inj, nI_toInt, i32_m1, i32_0, i32_m20, i32_m40, i32_m30, i32_m9] at *; omega))
    refine go_iloadn_1 iT_paradoxes_67 ?_
    refine go_iret iT_paradoxes_68 rfl ?_
    exact ex_i hF
  | l + 1, p, mI', mL', z, hi, hF => by
    have q1 := hcT
    rw [← hF.1.1 0 (by omega)] at q1
    have q2 := hmT
    rw [← hF.1.1 0 (by omega)] at q2
    have hf := px_fr (hF.1.1 45 (by omega)) (fun a ha => hF.1.1 a (by omega))
    have hpl2 : ∀ p, p < n → PlR mI' p := fun p hp => (hpl p hp).c (fun a ha _ _ _ => hF.1.1 a (by omega))
    by_cases c : lsB mI m p = true
    · have hx := ex_T_loses (S := S) (mL := mL') (b := 1) h8 hm1 hm3 (show p < n by omega) q2 q1 hpl2 (by rw [hf.2.1, if_pos c])
      refine go_iloadn_2 iT_paradoxes_4 ?_
      refine go_aloadn_0 iT_paradoxes_5 rfl ?_
      refine go_getI iT_paradoxes_6 (Or.inl rfl) (sk_0 _) ?_
      try simp (disch := omega) only [am_u_n, am_u_s, am_u_k, q1]
      first | refine gn_ic_ge iT_paradoxes_9 (by omega) (by omega) (fun c_9 => ?_) (fun c_9 => ?_) | refine go_ic_ge iT_paradoxes_9 (fun c_9 => ?_) (fun c_9 => ?_)
      · (first | omega | exact absurd c_9 (by decide) | (exfalso; simp (disch := omega) only [Int32.lt_iff_toInt_lt, Int32.le_iff_toInt_le, ← Int32.toInt_inj, nI_toInt, i32_m1, i32_0, i32_m20, i32_m40, i32_m30, i32_m9] at *; omega))
      refine go_aloadn_0 iT_paradoxes_12 rfl ?_
      refine go_iloadn_2 iT_paradoxes_13 ?_
      refine gx_V1 iT_paradoxes_14 rfl (by decide) (sk_0 _) rfl (Nat.le_of_ble_eq_true rfl) (Nat.le_of_ble_eq_true rfl) (by decide) hx (fun mI14_ mL14_ h14_ => ?_)
      refine go_if_ne iT_paradoxes_17 (fun c_17 => ?_) (fun c_17 => ?_)
      rotate_left
      · (first | omega | exact absurd c_17 (by decide) | (exfalso; simp (disch := omega) only [Int32.lt_iff_toInt_lt, Int32.le_iff_toInt_le, ← Int32.toInt_inj, nI_toInt, i32_m1, i32_0, i32_m20, i32_m40, i32_m30, i32_m9] at *; omega))
      refine go_iloadn_2 iT_paradoxes_23 ?_
      refine go_iconst (v := nI 1) iT_paradoxes_24 rfl ?_
      first | refine gn_iadd iT_paradoxes_25 ?_ | refine go_iadd iT_paradoxes_25 ?_
      refine go_istoren_3 iT_paradoxes_26 (by simp [Value.category, am_U]) ?_
      refine lo_T_px2 (mI := mI) (mL := mL) (C := cnA (pxB mI m) n p) h8 hm1 hm3 (by omega) hmT hcT hpl c (fun mI2 mL2 z f2 => ?_) (n - (p + 1)) 0 _ _ (by omega) (hF.trans h14_)
      first | refine go_iinc_2 iT_paradoxes_61 (ni_inc _ 1) (by simp [Value.category, am_U]) ?_ | refine go_iinc_2 iT_paradoxes_61 rfl (by simp [Value.category, am_U]) ?_
      refine go_goto iT_paradoxes_64 ?_
      exact lo_T_px1 h8 hm1 hm3 hmT hcT hpl l (p + 1) _ _ _ (by omega) f2
    · have hx := ex_T_loses (S := S) (mL := mL') (b := 0) h8 hm1 hm3 (show p < n by omega) q2 q1 hpl2 (by rw [hf.2.1, if_neg c])
      have e : cnA (pxB mI m) n p = cnA (pxB mI m) n (p + 1) := by simp only [cnA]; rw [cnB_0 (fun b => by unfold pxB; rw [Bool.not_eq_true] at c; rw [c]; rfl)]; rfl
      refine go_iloadn_2 iT_paradoxes_4 ?_
      refine go_aloadn_0 iT_paradoxes_5 rfl ?_
      refine go_getI iT_paradoxes_6 (Or.inl rfl) (sk_0 _) ?_
      try simp (disch := omega) only [am_u_n, am_u_s, am_u_k, q1]
      first | refine gn_ic_ge iT_paradoxes_9 (by omega) (by omega) (fun c_9 => ?_) (fun c_9 => ?_) | refine go_ic_ge iT_paradoxes_9 (fun c_9 => ?_) (fun c_9 => ?_)
      · (first | omega | exact absurd c_9 (by decide) | (exfalso; simp (disch := omega) only [Int32.lt_iff_toInt_lt, Int32.le_iff_toInt_le, ← Int32.toInt_inj, nI_toInt, i32_m1, i32_0, i32_m20, i32_m40, i32_m30, i32_m9] at *; omega))
      refine go_aloadn_0 iT_paradoxes_12 rfl ?_
      refine go_iloadn_2 iT_paradoxes_13 ?_
      refine gx_V1 iT_paradoxes_14 rfl (by decide) (sk_0 _) rfl (Nat.le_of_ble_eq_true rfl) (Nat.le_of_ble_eq_true rfl) (by decide) hx (fun mI14_ mL14_ h14_ => ?_)
      refine go_if_ne iT_paradoxes_17 (fun c_17 => ?_) (fun c_17 => ?_)
      · (first | omega | exact absurd c_17 (by decide) | (exfalso; simp (disch := omega) only [Int32.lt_iff_toInt_lt, Int32.le_iff_toInt_le, ← Int32.toInt_inj, nI_toInt, i32_m1, i32_0, i32_m20, i32_m40, i32_m30, i32_m9] at *; omega))
      refine go_goto iT_paradoxes_20 ?_
      first | refine go_iinc_2 iT_paradoxes_61 (ni_inc _ 1) (by simp [Value.category, am_U]) ?_ | refine go_iinc_2 iT_paradoxes_61 rfl (by simp [Value.category, am_U]) ?_
      refine go_goto iT_paradoxes_64 ?_
      rw [e]
      exact lo_T_px1 h8 hm1 hm3 hmT hcT hpl l (p + 1) _ _ _ (by omega) (hF.trans h14_)
end PDX
