/-! ===== the class's search of choices ===== -/
def wE (o : Nat → Nat → Nat) (k m c : Nat) : Nat → Nat → Nat := fun _ i => o (dg k m c i) i
def chU (o : Nat → Nat → Nat) (m k : Nat) : Nat → Int := fun c => Uz m 12 1 (wE o k m c)
def chW (o : Nat → Nat → Nat) (m k : Nat) : Nat → Int := fun c => Wz m 12 1 (wE o k m c)
def chL (o : Nat → Nat → Nat) (m k : Nat) : Nat → Int := fun c => Wz m 12 1 (wE o k m c) * pw 12 1 * ((1 : Nat) : Int)
def chO (kd : Nat → Nat) (o : Nat → Nat → Nat) (m k : Nat) : Nat → Bool := fun c => gdR kd k m c m && decide (0 < chW o m k c)
def choF (kd : Nat → Nat) (o : Nat → Nat → Nat) (m k : Nat) : Nat → Option Nat := bsF (chO kd o m k) (chU o m k) (chW o m k)
def ChT (o : Nat → Nat → Nat) (m k : Nat) (mI : Nat → Nat → Int32) (mL : Nat → Nat → Int64) (b : Option Nat) : Prop := BsT (chU o m k) (chW o m k) (chL o m k) m (dg k m) mI mL b
theorem Gm_ch {o : Nat → Nat → Nat} {m k c : Nat} (h1 : 1 ≤ m) (hm3 : m ≤ 3) (hk : 0 < k) (ho : ∀ p i, p < k → i < 3 → o p i ≤ 12) : Gm m 12 1 (wE o k m c) := ⟨h1, hm3, Or.inl ⟨rfl, by omega, by omega⟩, fun t i _ hi => ho _ i (dg_lt hk) (by omega)⟩
theorem ch_bd {kd : Nat → Nat} {o : Nat → Nat → Nat} {m k c b : Nat} (h1 : 1 ≤ m) (hm3 : m ≤ 3) (hk : 0 < k) (ho : ∀ p i, p < k → i < 3 → o p i ≤ 12) (h : choF kd o m k c = some b) : (0 < chW o m k b ∧ chW o m k b ≤ 1289945088) ∧ -106993205379072 ≤ chU o m k b ∧ chU o m k b ≤ 106993205379072 := by
  have hb := (Gm_ch (c := b) h1 hm3 hk ho).b
  have z := (bsF_ok c b h).1
  have z : (gdR kd k m b m && decide (0 < chW o m k b)) = true := z
  rw [Bool.and_eq_true] at z
  have z2 := of_decide_eq_true z.2
  refine ⟨⟨z2, ?_⟩, hb.2⟩
  exact hb.1.2
def FrQ (d : Nat) (mI mI' : Nat → Nat → Int32) (mL mL' : Nat → Nat → Int64) : Prop := (∀ a, a ≠ 7 → a ≠ 8 → a ≠ 11 → a ≠ 12 → (a < 27 ∨ 42 < a) → mI' a = mI a) ∧ (∀ t, t < d → mI' 7 t = mI 7 t ∧ mI' 8 t = mI 8 t) ∧ ∀ a, a ≠ 11 → (a < 27 ∨ 42 < a) → mL' a = mL a
theorem FrQ.rfl' {d : Nat} {mI : Nat → Nat → Int32} {mL : Nat → Nat → Int64} : FrQ d mI mI mL mL := ⟨fun _ _ _ _ _ _ => rfl, fun _ _ => ⟨rfl, rfl⟩, fun _ _ _ => rfl⟩
theorem FrQ.trans {d : Nat} {mI mI' mI'' : Nat → Nat → Int32} {mL mL' mL'' : Nat → Nat → Int64} (h : FrQ d mI mI' mL mL') (h' : FrQ d mI' mI'' mL' mL'') : FrQ d mI mI'' mL mL'' := ⟨fun a h1 h2 h3 h4 h5 => (h'.1 a h1 h2 h3 h4 h5).trans (h.1 a h1 h2 h3 h4 h5), fun t ht => ⟨(h'.2.1 t ht).1.trans (h.2.1 t ht).1, (h'.2.1 t ht).2.trans (h.2.1 t ht).2⟩, fun a h1 h2 => (h'.2.2 a h1 h2).trans (h.2.2 a h1 h2)⟩
theorem FrQ.wk {d d' : Nat} {mI mI' : Nat → Nat → Int32} {mL mL' : Nat → Nat → Int64} (h : FrQ d' mI mI' mL mL') (h2 : d ≤ d') : FrQ d mI mI' mL mL' := ⟨h.1, fun t ht => h.2.1 t (by omega), h.2.2⟩
/-- the search stands at the choices P for the first d rests -/
def ChH (n m : Nat) (o : Nat → Nat → Nat) (kd : Nat → Nat) (d P : Nat) (mI : Nat → Nat → Int32) (mL : Nat → Nat → Int64) : Prop := (mI 0 0 = nI m ∧ mI 0 1 = nI n) ∧ (∀ p, p < n → PlR mI p) ∧ (odN mI = o ∧ kdN mI = kd) ∧ RdI mI mL 0 m 0 1 (fun f x => if x = f then 1 else 0) (fun _ => 0) ∧ (∀ t, t < d → mI 7 t = nI (o (dg n d P t) t) ∧ mI 8 t = nI (dg n d P t)) ∧ ∀ t, t < d → kd (dg n d P t) ≠ 2
theorem ChH.fr {n m d P : Nat} {o : Nat → Nat → Nat} {kd : Nat → Nat} {mI mI' : Nat → Nat → Int32} {mL mL' : Nat → Nat → Int64} (h : ChH n m o kd d P mI mL) (hf : FrQ d mI mI' mL mL') : ChH n m o kd d P mI' mL' := by
  obtain ⟨⟨a0, a1⟩, a2, ⟨a3, a4⟩, a5, a6, a7⟩ := h
  refine ⟨⟨?_, ?_⟩, fun p hp => (a2 p hp).c (fun a ha _ _ _ => hf.1 a (by omega) (by omega) (by omega) (by omega) (by omega)), ⟨?_, ?_⟩, a5.of (hf.1 _ (by omega) (by omega) (by omega) (by omega) (by omega)) (by rw [hf.2.2 _ (by omega) (by omega)]) (hf.2.2 _ (by omega) (by omega)) (hf.2.2 _ (by omega) (by omega)), fun t ht => ⟨by rw [(hf.2.1 t ht).1]; exact (a6 t ht).1, by rw [(hf.2.1 t ht).2]; exact (a6 t ht).2⟩, a7⟩
  · rw [hf.1 0 (by omega) (by omega) (by omega) (by omega) (by omega)]; exact a0
  · rw [hf.1 0 (by omega) (by omega) (by omega) (by omega) (by omega)]; exact a1
  · rw [od_fr (fun a ha => hf.1 a (by omega) (by omega) (by omega) (by omega) (by omega))]; exact a3
  · rw [← a4]; funext p; unfold kdN; rw [hf.1 45 (by omega) (by omega) (by omega) (by omega) (by omega)]
section CHO
variable {S : am_S} {mI : Nat → Nat → Int32} {mL : Nat → Nat → Int64} {n m d l P p : Nat} {o : Nat → Nat → Nat} {kd : Nat → Nat}
/-- the contract of tryChoices with l rests to go -/
def ChC (S : am_S) (n m l d : Nat) (o : Nat → Nat → Nat) (kd : Nat → Nat) : Prop := ∀ (P : Nat) (mI : Nat → Nat → Int32) (mL : Nat → Nat → Int64), ChH n m o kd d P mI mL → ChT o m n mI mL (choF kd o m n (P * n ^ l)) → Ex S (4 + 2 * l) tT_tryChoices n mI mL [.ref 0, .int (nI d)] none (fun mI' mL' => ChT o m n mI' mL' (choF kd o m n ((P + 1) * n ^ l)) ∧ FrQ d mI mI' mL mL')
theorem cho_0 (hm1 : 1 ≤ m) (hm3 : m ≤ 3) (hn : 0 < n) (ho : ∀ p i, p < n → i < 3 → o p i ≤ 12) : ChC S n m 0 m o kd := by
  intro P mI mL hH hB
  rw [Nat.pow_zero, Nat.mul_one] at hB ⊢
  obtain ⟨⟨a0, a1⟩, a2, ⟨a3, a4⟩, a5, a6, a7⟩ := hH
  have hG : Gm m 12 1 (wE o n m P) := Gm_ch hm1 hm3 hn ho
  have hr0 := (sh_rnd n (show 0 < 5 by omega)).2.1
  have hr1 := (sh_rnd n (show 1 < 5 by omega)).2.1
  have hR1 := sk_rnd n (show 1 < 5 by omega)
  have hfo := ex_R_follow (S := S) (n := n) (mI := mI) (mL := mL) (k := 1) (j := 0) (m := m) (B := 12) (c := 7) (nc := 3) (w := wE o n m P 0) (by omega) (by omega) (by omega) hm3 (by omega) (sh_7 n) (by omega) (by omega) (by omega) (fun i hi => (a6 i hi).1) (fun i hi => hG.2.2.2 0 i (by omega) hi) a5
  unfold Ex
  show Go _ _ tT_tryChoices (_, 0, [.ref 0, .int (nI m), am_U], []) _
  refine go_iloadn_1 iT_tryChoices_0 ?_
  refine go_aloadn_0 iT_tryChoices_1 rfl ?_
  refine go_getI iT_tryChoices_2 (Or.inl rfl) (sk_0 _) ?_
  try simp (disch := omega) only [am_u_n, am_u_s, am_u_k, a0]
  first | refine gn_ic_ge iT_tryChoices_5 (by omega) (by omega) (fun c_5 => ?_) (fun c_5 => ?_) | refine go_ic_ge iT_tryChoices_5 (fun c_5 => ?_) (fun c_5 => ?_)
  rotate_left
  · (first | omega | exact absurd c_5 (by decide) | (exfalso; simp (disch := omega) only [Int32.lt_iff_toInt_lt, Int32.le_iff_toInt_le, ← Int32.toInt_inj, nI_toInt, i32_m1, i32_0, i32_m20, i32_m40, i32_m30, i32_m9] at *; omega))
  refine go_aloadn_0 iT_tryChoices_13 rfl ?_
  refine go_getR iT_tryChoices_14 rfl (sk_0 _) (mR_0_8 _) ?_
  refine go_iconst (v := nI 1) iT_tryChoices_17 rfl ?_
  refine go_aald iT_tryChoices_18 (sh_6 _) (by decide) (by decide) rfl (by omega) (by omega) (by first | exact hr1 | exact hr0) ?_
  refine go_aloadn_0 iT_tryChoices_19 rfl ?_
  refine go_getR iT_tryChoices_20 rfl (sk_0 _) (mR_0_8 _) ?_
  refine go_iconst (v := nI 0) iT_tryChoices_23 rfl ?_
  refine go_aald iT_tryChoices_24 (sh_6 _) (by decide) (by decide) rfl (by omega) (by omega) (by first | exact hr1 | exact hr0) ?_
  refine go_aloadn_0 iT_tryChoices_25 rfl ?_
  refine go_getR iT_tryChoices_26 rfl (sk_0 _) (mR_0_9 _) ?_
  refine go_bipush (v := nI 12) iT_tryChoices_29 (by decide) ?_
  refine gx_V0 iT_tryChoices_31 rfl (by decide) hR1 rfl (Nat.le_of_ble_eq_true rfl) (Nat.le_of_ble_eq_true rfl) (by omega) hfo (fun mI31_ mL31_ h31_ => ?_)
  obtain ⟨e1, e2⟩ := h31_
  have e1 : RdI mI31_ mL31_ 1 m 1 (pw 12 1) (fun f => nowZ m 12 (wE o n m P) f 1) (fun f => gZ m 12 (wE o n m P) f 1) := e1
  have hx := ex_B_offer (S := S) (n := n) (j := 1) (B := 12) (T := 1) (N := m) (c := P) (w := wE o n m P) (ok := chO kd o m n) (U := chU o m n) (W := chW o m n) (L := chL o m n) (dt := dg n m) (o := choF kd o m n P) (by omega) hG e1 rfl rfl rfl (by show (gdR kd n m P m && decide (0 < chW o m n P)) = decide (0 < chW o m n P); rw [gdR_t m a7, Bool.true_and]) (by omega) (fun t ht => by rw [e2.1 8 (by omega)]; exact (a6 t ht).2) (BsT.of hB (e2.1 11 (by omega)) (e2.1 12 (by omega)) (e2.2 11 (by omega) (by omega) (by omega) (by omega))) (fun b hb => ch_bd hm1 hm3 hn ho hb)
  refine go_aloadn_0 iT_tryChoices_34 rfl ?_
  refine go_getR iT_tryChoices_35 rfl (sk_0 _) (mR_0_12 _) ?_
  refine go_aloadn_0 iT_tryChoices_38 rfl ?_
  refine go_getR iT_tryChoices_39 rfl (sk_0 _) (mR_0_8 _) ?_
  refine go_iconst (v := nI 1) iT_tryChoices_42 rfl ?_
  refine go_aald iT_tryChoices_43 (sh_6 _) (by decide) (by decide) rfl (by omega) (by omega) (by first | exact hr1 | exact hr0) ?_
  refine go_aloadn_0 iT_tryChoices_44 rfl ?_
  refine go_getR iT_tryChoices_45 rfl (sk_0 _) (mR_0_10 _) ?_
  refine gx_V0 iT_tryChoices_48 rfl (by decide) (sk_11 _) rfl (Nat.le_of_ble_eq_true rfl) (Nat.le_of_ble_eq_true rfl) (by omega) hx (fun mI48_ mL48_ h48_ => ?_)
  refine go_vret iT_tryChoices_51 rfl ?_
  refine ex_i ⟨h48_.1, fun a b1 b2 b3 b4 b5 => (h48_.2.1 a b3 b4).trans (e2.1 a (by omega)), fun t ht => ⟨?_, ?_⟩, fun a b1 b2 => (h48_.2.2 a b1 (by omega) (by omega) (by omega) (by omega)).trans (e2.2 a (by omega) (by omega) (by omega) (by omega))⟩
  · rw [h48_.2.1 7 (by decide) (by decide), e2.1 7 (by omega)]
  · rw [h48_.2.1 8 (by decide) (by decide), e2.1 8 (by omega)]
theorem ex_T_chw (hm3 : m ≤ 3) (h8 : n ≤ 8) (hdl : d + (l + 1) = m) (hp : p < n) (hI : ChC S n m l (d + 1) o kd) (hH : ChH n m o kd d P mI mL) (hB : ChT o m n mI mL (choF kd o m n ((P * n + p) * n ^ l))) : Ex S (5 + 2 * l) tT_tryChoicesWith n mI mL [.ref 0, .int (nI p), .int (nI d)] none (fun mI' mL' => ChT o m n mI' mL' (choF kd o m n ((P * n + p + 1) * n ^ l)) ∧ FrQ d mI mI' mL mL') := by
  have hH0 := hH
  obtain ⟨⟨a0, a1⟩, a2, ⟨a3, a4⟩, a5, a6, a7⟩ := hH
  obtain ⟨k0, hk0, hkT, hkM, _⟩ := a2 p hp
  have hkk := kdN_of hkM hk0
  rw [a4] at hkk
  have k1 := sk_play hp
  have k3 := mR_wins n hp
  have k5 := sh_wins hp
  have r1 := ((odN_ok (a2 p hp)).1 d (by omega)).1
  rw [a3] at r1
  unfold Ex
  show Go _ _ tT_tryChoicesWith (_, 0, [.ref 0, .int (nI p), .int (nI d), am_U], []) _
  by_cases c : k0 = 2
  · have e9 : (P * n + p + 1) * n ^ l = (P * n + p) * n ^ l + n ^ l := Nat.succ_mul _ _
    have hsk : choF kd o m n ((P * n + p + 1) * n ^ l) = choF kd o m n ((P * n + p) * n ^ l) := by
      rw [e9]
      refine bsF_skip _ (fun z h1 h2 => ?_)
      have hd2 : kd (dg n m z d) = 2 := by
        rw [← hdl, dg_mid h1 (by rw [e9]; exact h2), pkd_mod hp, hkk, c]
      show (gdR kd n m z m && decide (0 < chW o m n z)) = false
      rw [gdR_f hd2 m (by omega), Bool.false_and]
    rw [hsk]
    refine go_aloadn_0 iT_tryChoicesWith_0 rfl ?_
    refine go_iloadn_1 iT_tryChoicesWith_1 ?_
    refine gc_V1 iT_tryChoicesWith_2 rfl (by decide) (sk_0 _) rfl (Nat.le_of_ble_eq_true rfl) (Nat.le_of_ble_eq_true rfl) (by omega) (sp_T_playAt_t h8 a1 hp) ?_
    refine go_astoren_3 iT_tryChoicesWith_5 rfl (by simp [Value.category, am_U]) ?_
    refine go_aloadn_3 iT_tryChoicesWith_6 rfl ?_
    refine go_nulR iT_tryChoicesWith_7 ?_
    refine go_aloadn_3 iT_tryChoicesWith_10 rfl ?_
    refine go_getI iT_tryChoicesWith_11 (Or.inl rfl) (by assumption) ?_
    try simp (disch := omega) only [am_u_n, am_u_s, am_u_k, hkT]
    refine go_iconst (v := nI 2) iT_tryChoicesWith_14 rfl ?_
    first | refine gn_ic_eq iT_tryChoicesWith_15 (by omega) (by omega) (fun c_15 => ?_) (fun c_15 => ?_) | refine go_ic_eq iT_tryChoicesWith_15 (fun c_15 => ?_) (fun c_15 => ?_)
    rotate_left
    · (first | omega | exact absurd c_15 (by decide) | (exfalso; simp (disch := omega) only [Int32.lt_iff_toInt_lt, Int32.le_iff_toInt_le, ← Int32.toInt_inj, nI_toInt, i32_m1, i32_0, i32_m20, i32_m40, i32_m30, i32_m9] at *; omega))
    refine go_vret iT_tryChoicesWith_44 rfl ?_
    exact ex_i ⟨hB, FrQ.rfl'⟩
  · have fr1 : FrQ d mI (am_u (am_u mI 8 d (nI p)) 7 d (nI (o p d))) mL mL := ⟨fun a h1 h2 h3 h4 h5 => by rw [am_u_r h1, am_u_r h2], fun t ht => ⟨by rw [am_u_k (by omega), am_u_n (by omega)], by rw [am_u_n (by omega), am_u_k (by omega)]⟩, fun a _ _ => rfl⟩
    obtain ⟨⟨c0, c1⟩, c2, ⟨c3, c4⟩, c5, c6, c7⟩ := hH0.fr fr1
    have hT2 : ChH n m o kd (d + 1) (P * n + p) (am_u (am_u mI 8 d (nI p)) 7 d (nI (o p d))) mL := by
      refine ⟨⟨c0, c1⟩, c2, ⟨c3, c4⟩, c5, fun t ht => ?_, fun t ht => ?_⟩
      · by_cases q : t = d
        · rw [q, dg_new hp]
          exact ⟨am_u_s, by rw [am_u_n (by omega), am_u_s]⟩
        · rw [dg_ext hp (by omega)]; exact c6 t (by omega)
      · by_cases q : t = d
        · rw [q, dg_new hp, hkk]; exact c
        · rw [dg_ext hp (by omega)]; exact a7 t (by omega)
    have hnx := hI (P * n + p) _ mL hT2 (BsT.of hB (by rw [am_u_r (by decide), am_u_r (by decide)]) (by rw [am_u_r (by decide), am_u_r (by decide)]) rfl)
    refine go_aloadn_0 iT_tryChoicesWith_0 rfl ?_
    refine go_iloadn_1 iT_tryChoicesWith_1 ?_
    refine gc_V1 iT_tryChoicesWith_2 rfl (by decide) (sk_0 _) rfl (Nat.le_of_ble_eq_true rfl) (Nat.le_of_ble_eq_true rfl) (by omega) (sp_T_playAt_t h8 a1 hp) ?_
    refine go_astoren_3 iT_tryChoicesWith_5 rfl (by simp [Value.category, am_U]) ?_
    refine go_aloadn_3 iT_tryChoicesWith_6 rfl ?_
    refine go_nulR iT_tryChoicesWith_7 ?_
    refine go_aloadn_3 iT_tryChoicesWith_10 rfl ?_
    refine go_getI iT_tryChoicesWith_11 (Or.inl rfl) (by assumption) ?_
    try simp (disch := omega) only [am_u_n, am_u_s, am_u_k, hkT, r1]
    refine go_iconst (v := nI 2) iT_tryChoicesWith_14 rfl ?_
    first | refine gn_ic_eq iT_tryChoicesWith_15 (by omega) (by omega) (fun c_15 => ?_) (fun c_15 => ?_) | refine go_ic_eq iT_tryChoicesWith_15 (fun c_15 => ?_) (fun c_15 => ?_)
    · (first | omega | exact absurd c_15 (by decide) | (exfalso; simp (disch := omega) only [Int32.lt_iff_toInt_lt, Int32.le_iff_toInt_le, ← Int32.toInt_inj, nI_toInt, i32_m1, i32_0, i32_m20, i32_m40, i32_m30, i32_m9] at *; omega))
    refine go_aloadn_0 iT_tryChoicesWith_18 rfl ?_
    refine go_getR iT_tryChoicesWith_19 rfl (sk_0 _) (mR_0_10 _) ?_
    refine go_iloadn_2 iT_tryChoicesWith_22 ?_
    refine go_iloadn_1 iT_tryChoicesWith_23 ?_
    refine go_iast iT_tryChoicesWith_24 (sh_8 _) rfl (by omega) (by omega) ?_
    refine go_aloadn_0 iT_tryChoicesWith_25 rfl ?_
    refine go_getR iT_tryChoicesWith_26 rfl (sk_0 _) (mR_0_9 _) ?_
    refine go_iloadn_2 iT_tryChoicesWith_29 ?_
    refine go_aloadn_3 iT_tryChoicesWith_30 rfl ?_
    refine go_getR iT_tryChoicesWith_31 rfl (by assumption) (by assumption) ?_
    refine go_iloadn_2 iT_tryChoicesWith_34 ?_
    refine go_iald iT_tryChoicesWith_35 (by assumption) rfl (by omega) (by omega) ?_
    try simp (disch := omega) only [am_u_n, am_u_s, am_u_k, hkT, r1]
    refine go_iast iT_tryChoicesWith_36 (sh_7 _) rfl (by omega) (by omega) ?_
    refine go_aloadn_0 iT_tryChoicesWith_37 rfl ?_
    refine go_iloadn_2 iT_tryChoicesWith_38 ?_
    refine go_iconst (v := nI 1) iT_tryChoicesWith_39 rfl ?_
    first | refine gn_iadd iT_tryChoicesWith_40 ?_ | refine go_iadd iT_tryChoicesWith_40 ?_
    refine gx_V0 iT_tryChoicesWith_41 rfl (by decide) (sk_0 _) rfl (Nat.le_of_ble_eq_true rfl) (Nat.le_of_ble_eq_true rfl) (by omega) hnx (fun mI41_ mL41_ h41_ => ?_)
    refine go_vret iT_tryChoicesWith_44 rfl ?_
    exact ex_i ⟨h41_.1, fr1.trans (h41_.2.wk (by omega))⟩
theorem lo_T_cho (hm3 : m ≤ 3) (h8 : n ≤ 8) (hdl : d + (l + 1) = m) (hI : ChC S n m l (d + 1) o kd) : ∀ q p (mI' : Nat → Nat → Int32) (mL' : Nat → Nat → Int64), p + q = n → ChH n m o kd d P mI' mL' → ChT o m n mI' mL' (choF kd o m n ((P * n + p) * n ^ l)) → FrQ d mI mI' mL mL' → Go S (4 + 2 * (l + 1)) tT_tryChoices ((am_sh n, mI', mL', am_mR n), 54, [.ref 0, .int (nI d), .int (nI p)], []) (fun r => ∃ mI'' mL'', r = (none, (am_sh n, mI'', mL'', am_mR n)) ∧ (ChT o m n mI'' mL'' (choF kd o m n ((P * n + n) * n ^ l)) ∧ FrQ d mI mI'' mL mL''))
  | 0, p, mI', mL', hi, hH, hB, hF => by
    obtain rfl : p = n := by omega
    have q1 := hH.1.2
    refine go_iloadn_2 iT_tryChoices_54 ?_
    refine go_aloadn_0 iT_tryChoices_55 rfl ?_
    refine go_getI iT_tryChoices_56 (Or.inl rfl) (sk_0 _) ?_
    try simp (disch := omega) only [am_u_n, am_u_s, am_u_k, q1]
    first | refine gn_ic_ge iT_tryChoices_59 (by omega) (by omega) (fun c_59 => ?_) (fun c_59 => ?_) | refine go_ic_ge iT_tryChoices_59 (fun c_59 => ?_) (fun c_59 => ?_)
    rotate_left
    · (first | omega | exact absurd c_59 (by decide) | (exfalso; simp (disch := omega) only [Int32.lt_iff_toInt_lt, Int32.le_iff_toInt_le, ← Int32.toInt_inj, nI_toInt, i32_m1, i32_0, i32_m20, i32_m40, i32_m30, i32_m9] at *; omega))
    refine go_vret iT_tryChoices_74 rfl ?_
    exact ex_i ⟨hB, hF⟩
  | q + 1, p, mI', mL', hi, hH, hB, hF => by
    have q1 := hH.1.2
    have hx := ex_T_chw (S := S) (p := p) hm3 h8 hdl (by omega) hI hH hB
    refine go_iloadn_2 iT_tryChoices_54 ?_
    refine go_aloadn_0 iT_tryChoices_55 rfl ?_
    refine go_getI iT_tryChoices_56 (Or.inl rfl) (sk_0 _) ?_
    try simp (disch := omega) only [am_u_n, am_u_s, am_u_k, q1]
    first | refine gn_ic_ge iT_tryChoices_59 (by omega) (by omega) (fun c_59 => ?_) (fun c_59 => ?_) | refine go_ic_ge iT_tryChoices_59 (fun c_59 => ?_) (fun c_59 => ?_)
    · (first | omega | exact absurd c_59 (by decide) | (exfalso; simp (disch := omega) only [Int32.lt_iff_toInt_lt, Int32.le_iff_toInt_le, ← Int32.toInt_inj, nI_toInt, i32_m1, i32_0, i32_m20, i32_m40, i32_m30, i32_m9] at *; omega))
    refine go_aloadn_0 iT_tryChoices_62 rfl ?_
    refine go_iloadn_2 iT_tryChoices_63 ?_
    refine go_iloadn_1 iT_tryChoices_64 ?_
    refine gx_V0 iT_tryChoices_65 rfl (by decide) (sk_0 _) rfl (Nat.le_of_ble_eq_true rfl) (Nat.le_of_ble_eq_true rfl) (by omega) hx (fun mI65_ mL65_ h65_ => ?_)
    first | refine go_iinc_2 iT_tryChoices_68 (ni_inc _ 1) (by simp [Value.category, am_U]) ?_ | refine go_iinc_2 iT_tryChoices_68 rfl (by simp [Value.category, am_U]) ?_
    refine go_goto iT_tryChoices_71 ?_
    exact lo_T_cho hm3 h8 hdl hI q (p + 1) _ _ (by omega) (hH.fr h65_.2) (by rw [show P * n + (p + 1) = P * n + p + 1 from rfl]; exact h65_.1) (hF.trans h65_.2)
theorem cho_all (hm1 : 1 ≤ m) (hm3 : m ≤ 3) (h8 : n ≤ 8) (ho : 0 < n → ∀ p i, p < n → i < 3 → o p i ≤ 12) : ∀ l d, d + l = m → (0 < l ∨ 0 < n) → ChC S n m l d o kd
  | 0, d, hd, hn => by
    obtain rfl : d = m := by omega
    have hn : 0 < n := by omega
    exact cho_0 hm1 hm3 hn (ho hn)
  | l + 1, d, hd, hn => by
    intro P mI mL hH hB
    have eP : P * n ^ (l + 1) = (P * n + 0) * n ^ l := by rw [Nat.pow_succ, Nat.add_zero, Nat.mul_assoc, Nat.mul_comm n (n ^ l)]
    have eQ : (P + 1) * n ^ (l + 1) = (P * n + n) * n ^ l := by rw [Nat.pow_succ, show P * n + n = (P + 1) * n by rw [Nat.add_mul, Nat.one_mul], Nat.mul_assoc, Nat.mul_comm n (n ^ l)]
    rw [eP] at hB
    rw [eQ]
    have q0 := hH.1.1
    have q1 := hH.1.2
    unfold Ex
    show Go _ _ tT_tryChoices (_, 0, [.ref 0, .int (nI d), am_U], []) _
    by_cases h0 : n = 0
    · have ez : (P * n + n) * n ^ l = (P * n + 0) * n ^ l := by rw [h0]
      rw [ez]
      refine go_iloadn_1 iT_tryChoices_0 ?_
      refine go_aloadn_0 iT_tryChoices_1 rfl ?_
      refine go_getI iT_tryChoices_2 (Or.inl rfl) (sk_0 _) ?_
      try simp (disch := omega) only [am_u_n, am_u_s, am_u_k, q0, q1]
      first | refine gn_ic_ge iT_tryChoices_5 (by omega) (by omega) (fun c_5 => ?_) (fun c_5 => ?_) | refine go_ic_ge iT_tryChoices_5 (fun c_5 => ?_) (fun c_5 => ?_)
      · (first | omega | exact absurd c_5 (by decide) | (exfalso; simp (disch := omega) only [Int32.lt_iff_toInt_lt, Int32.le_iff_toInt_le, ← Int32.toInt_inj, nI_toInt, i32_m1, i32_0, i32_m20, i32_m40, i32_m30, i32_m9] at *; omega))
      refine go_iloadn_1 iT_tryChoices_8 ?_
      refine go_iconst (v := nI 3) iT_tryChoices_9 rfl ?_
      first | refine gn_ic_lt iT_tryChoices_10 (by omega) (by omega) (fun c_10 => ?_) (fun c_10 => ?_) | refine go_ic_lt iT_tryChoices_10 (fun c_10 => ?_) (fun c_10 => ?_)
      rotate_left
      · (first | omega | exact absurd c_10 (by decide) | (exfalso; simp (disch := omega) only [Int32.lt_iff_toInt_lt, Int32.le_iff_toInt_le, ← Int32.toInt_inj, nI_toInt, i32_m1, i32_0, i32_m20, i32_m40, i32_m30, i32_m9] at *; omega))
      refine go_iconst (v := nI 0) iT_tryChoices_52 rfl ?_
      refine go_istoren_2 iT_tryChoices_53 (by simp [Value.category, am_U]) ?_
      refine go_iloadn_2 iT_tryChoices_54 ?_
      refine go_aloadn_0 iT_tryChoices_55 rfl ?_
      refine go_getI iT_tryChoices_56 (Or.inl rfl) (sk_0 _) ?_
      try simp (disch := omega) only [am_u_n, am_u_s, am_u_k, q0, q1]
      first | refine gn_ic_ge iT_tryChoices_59 (by omega) (by omega) (fun c_59 => ?_) (fun c_59 => ?_) | refine go_ic_ge iT_tryChoices_59 (fun c_59 => ?_) (fun c_59 => ?_)
      rotate_left
      · (first | omega | exact absurd c_59 (by decide) | (exfalso; simp (disch := omega) only [Int32.lt_iff_toInt_lt, Int32.le_iff_toInt_le, ← Int32.toInt_inj, nI_toInt, i32_m1, i32_0, i32_m20, i32_m40, i32_m30, i32_m9] at *; omega))
      refine go_vret iT_tryChoices_74 rfl ?_
      exact ex_i ⟨hB, FrQ.rfl'⟩
    · have hI := cho_all hm1 hm3 h8 ho l (d + 1) (by omega) (by omega)
      refine go_iloadn_1 iT_tryChoices_0 ?_
      refine go_aloadn_0 iT_tryChoices_1 rfl ?_
      refine go_getI iT_tryChoices_2 (Or.inl rfl) (sk_0 _) ?_
      try simp (disch := omega) only [am_u_n, am_u_s, am_u_k, q0]
      first | refine gn_ic_ge iT_tryChoices_5 (by omega) (by omega) (fun c_5 => ?_) (fun c_5 => ?_) | refine go_ic_ge iT_tryChoices_5 (fun c_5 => ?_) (fun c_5 => ?_)
      · (first | omega | exact absurd c_5 (by decide) | (exfalso; simp (disch := omega) only [Int32.lt_iff_toInt_lt, Int32.le_iff_toInt_le, ← Int32.toInt_inj, nI_toInt, i32_m1, i32_0, i32_m20, i32_m40, i32_m30, i32_m9] at *; omega))
      refine go_iloadn_1 iT_tryChoices_8 ?_
      refine go_iconst (v := nI 3) iT_tryChoices_9 rfl ?_
      first | refine gn_ic_lt iT_tryChoices_10 (by omega) (by omega) (fun c_10 => ?_) (fun c_10 => ?_) | refine go_ic_lt iT_tryChoices_10 (fun c_10 => ?_) (fun c_10 => ?_)
      rotate_left
      · (first | omega | exact absurd c_10 (by decide) | (exfalso; simp (disch := omega) only [Int32.lt_iff_toInt_lt, Int32.le_iff_toInt_le, ← Int32.toInt_inj, nI_toInt, i32_m1, i32_0, i32_m20, i32_m40, i32_m30, i32_m9] at *; omega))
      refine go_iconst (v := nI 0) iT_tryChoices_52 rfl ?_
      refine go_istoren_2 iT_tryChoices_53 (by simp [Value.category, am_U]) ?_
      exact lo_T_cho hm3 h8 hd hI n 0 _ _ (by omega) hH hB FrQ.rfl'
end CHO
