/-! ===== the class's search of rows ===== -/
def gdR (kd : Nat → Nat) (k N c : Nat) : Nat → Bool
  | 0 => true
  | t + 1 => gdR kd k N c t && decide (kd (dg k N c t) ≠ 2)
theorem gdR_t {kd : Nat → Nat} {k N c : Nat} : ∀ u, (∀ t, t < u → kd (dg k N c t) ≠ 2) → gdR kd k N c u = true
  | 0, _ => rfl
  | u + 1, h => by
    show (gdR kd k N c u && decide (kd (dg k N c u) ≠ 2)) = true
    rw [gdR_t u (fun t ht => h t (by omega)), decide_eq_true (h u (by omega))]
    rfl
theorem gdR_f {kd : Nat → Nat} {k N c t : Nat} (ht : kd (dg k N c t) = 2) : ∀ u, t < u → gdR kd k N c u = false
  | 0, h => by omega
  | u + 1, h => by
    show (gdR kd k N c u && decide (kd (dg k N c u) ≠ 2)) = false
    by_cases q : t = u
    · rw [← q, decide_eq_false (fun z => z ht), Bool.and_false]
    · rw [gdR_f ht u (by omega), Bool.false_and]
def srU (o : Nat → Nat → Nat) (m k N : Nat) : Nat → Int := fun c => Uz m 12 N (wD o k N c)
def srW (o : Nat → Nat → Nat) (m k N : Nat) : Nat → Int := fun c => Wz m 12 N (wD o k N c)
def srL (o : Nat → Nat → Nat) (m k N : Nat) : Nat → Int := fun c => Wz m 12 N (wD o k N c) * pw 12 N * (N : Int)
def srO (kd : Nat → Nat) (o : Nat → Nat → Nat) (m k N : Nat) : Nat → Bool := fun c => gdR kd k N c N && decide (0 < srW o m k N c)
def srF (kd : Nat → Nat) (o : Nat → Nat → Nat) (m k N : Nat) : Nat → Option Nat := bsF (srO kd o m k N) (srU o m k N) (srW o m k N)
def SrT (o : Nat → Nat → Nat) (m k N : Nat) (mI : Nat → Nat → Int32) (mL : Nat → Nat → Int64) (b : Option Nat) : Prop := BsT (srU o m k N) (srW o m k N) (srL o m k N) N (dg k N) mI mL b
theorem Gm_sr {o : Nat → Nat → Nat} {m k N c : Nat} (h1 : 1 ≤ m) (hm3 : m ≤ 3) (hN1 : 1 ≤ N) (hN : N ≤ 4) (hk : 0 < k) (ho : ∀ p i, p < k → i < 3 → o p i ≤ 12) : Gm m 12 N (wD o k N c) := ⟨h1, hm3, Or.inl ⟨rfl, hN1, hN⟩, fun t i _ hi => ho _ i (dg_lt hk) (by omega)⟩
theorem sr_bd {kd : Nat → Nat} {o : Nat → Nat → Nat} {m k N c b : Nat} (h1 : 1 ≤ m) (hm3 : m ≤ 3) (hN1 : 1 ≤ N) (hN : N ≤ 4) (hk : 0 < k) (ho : ∀ p i, p < k → i < 3 → o p i ≤ 12) (h : srF kd o m k N c = some b) : (0 < srW o m k N b ∧ srW o m k N b ≤ 1289945088) ∧ -106993205379072 ≤ srU o m k N b ∧ srU o m k N b ≤ 106993205379072 := by
  have hb := (Gm_sr (c := b) h1 hm3 hN1 hN hk ho).b
  have z := (bsF_ok c b h).1
  have z : (gdR kd k N b N && decide (0 < srW o m k N b)) = true := z
  rw [Bool.and_eq_true] at z
  have z2 := of_decide_eq_true z.2
  refine ⟨⟨z2, ?_⟩, hb.2⟩
  exact hb.1.2
def FrS (e d : Nat) (mI mI' : Nat → Nat → Int32) (mL mL' : Nat → Nat → Int64) : Prop := (∀ a, a ≠ 8 → a ≠ 11 → a ≠ 12 → (a < 23 + 4 * e ∨ 42 < a) → mI' a = mI a) ∧ (∀ t, t < d → mI' 8 t = mI 8 t) ∧ ∀ a, a ≠ 11 → (a < 23 + 4 * e ∨ 42 < a) → mL' a = mL a
theorem FrS.rfl' {e d : Nat} {mI : Nat → Nat → Int32} {mL : Nat → Nat → Int64} : FrS e d mI mI mL mL := ⟨fun _ _ _ _ _ => rfl, fun _ _ => rfl, fun _ _ _ => rfl⟩
theorem FrS.trans {e d : Nat} {mI mI' mI'' : Nat → Nat → Int32} {mL mL' mL'' : Nat → Nat → Int64} (h : FrS e d mI mI' mL mL') (h' : FrS e d mI' mI'' mL' mL'') : FrS e d mI mI'' mL mL'' := ⟨fun a h1 h2 h3 h4 => (h'.1 a h1 h2 h3 h4).trans (h.1 a h1 h2 h3 h4), fun t ht => (h'.2.1 t ht).trans (h.2.1 t ht), fun a h1 h2 => (h'.2.2 a h1 h2).trans (h.2.2 a h1 h2)⟩
theorem FrS.wk {e e' d d' : Nat} {mI mI' : Nat → Nat → Int32} {mL mL' : Nat → Nat → Int64} (h : FrS e' d' mI mI' mL mL') (h1 : e ≤ e') (h2 : d ≤ d') : FrS e d mI mI' mL mL' := ⟨fun a a1 a2 a3 a4 => h.1 a a1 a2 a3 (by omega), fun t ht => h.2.1 t (by omega), fun a a1 a2 => h.2.2 a a1 (by omega)⟩
/-- the search stands at the first d turns P -/
def TrH (n m : Nat) (o : Nat → Nat → Nat) (kd : Nat → Nat) (d P : Nat) (mI : Nat → Nat → Int32) (mL : Nat → Nat → Int64) : Prop := mI 0 1 = nI n ∧ (∀ p, p < n → PlR mI p) ∧ (odN mI = o ∧ kdN mI = kd) ∧ RdI mI mL d m d (pw 12 d) (fun f => nowZ m 12 (wD o n d P) f d) (fun f => gZ m 12 (wD o n d P) f d) ∧ (∀ t, t < d → mI 8 t = nI (dg n d P t)) ∧ ∀ t, t < d → kd (dg n d P t) ≠ 2
theorem TrH.fr {n m d P : Nat} {o : Nat → Nat → Nat} {kd : Nat → Nat} {mI mI' : Nat → Nat → Int32} {mL mL' : Nat → Nat → Int64} (hd : d < 4) (h : TrH n m o kd d P mI mL) (hf : FrS (d + 1) d mI mI' mL mL') : TrH n m o kd d P mI' mL' := by
  obtain ⟨a1, a2, ⟨a3, a4⟩, a5, a6, a7⟩ := h
  refine ⟨?_, fun p hp => (a2 p hp).c (fun a ha _ _ _ => hf.1 a (by omega) (by omega) (by omega) (by omega)), ⟨?_, ?_⟩, a5.of (hf.1 _ (by omega) (by omega) (by omega) (by omega)) (by rw [hf.2.2 _ (by omega) (by omega)]) (hf.2.2 _ (by omega) (by omega)) (hf.2.2 _ (by omega) (by omega)), fun t ht => by rw [hf.2.1 t ht]; exact a6 t ht, a7⟩
  · rw [hf.1 0 (by omega) (by omega) (by omega) (by omega)]; exact a1
  · rw [od_fr (fun a ha => hf.1 a (by omega) (by omega) (by omega) (by omega))]; exact a3
  · rw [← a4]; funext p; unfold kdN; rw [hf.1 45 (by omega) (by omega) (by omega) (by omega)]
section TRY
variable {S : am_S} {mI : Nat → Nat → Int32} {mL : Nat → Nat → Int64} {n m N d l P p : Nat} {o : Nat → Nat → Nat} {kd : Nat → Nat}
/-- the contract of tryRows with l turns to go -/
def TryC (S : am_S) (n m N l d : Nat) (o : Nat → Nat → Nat) (kd : Nat → Nat) : Prop := ∀ (P : Nat) (mI : Nat → Nat → Int32) (mL : Nat → Nat → Int64), TrH n m o kd d P mI mL → SrT o m n N mI mL (srF kd o m n N (P * n ^ l)) → Ex S (4 + 2 * l) tT_tryRows n mI mL [.ref 0, .int (nI d), .int (nI N)] none (fun mI' mL' => SrT o m n N mI' mL' (srF kd o m n N ((P + 1) * n ^ l)) ∧ FrS d d mI mI' mL mL')
theorem try_0 (hm1 : 1 ≤ m) (hm3 : m ≤ 3) (hN1 : 1 ≤ N) (hN : N ≤ 4) (hn : 0 < n) (ho : ∀ p i, p < n → i < 3 → o p i ≤ 12) : TryC S n m N 0 N o kd := by
  intro P mI mL hH hB
  rw [Nat.pow_zero, Nat.mul_one] at hB ⊢
  obtain ⟨a1, a2, ⟨a3, a4⟩, a5, a6, a7⟩ := hH
  have hx := ex_B_offer (S := S) (n := n) (j := N) (B := 12) (T := N) (N := N) (c := P) (w := wD o n N P) (ok := srO kd o m n N) (U := srU o m n N) (W := srW o m n N) (L := srL o m n N) (dt := dg n N) (o := srF kd o m n N P) (by omega) (Gm_sr hm1 hm3 hN1 hN hn ho) a5 rfl rfl rfl (by show (gdR kd n N P N && decide (0 < srW o m n N P)) = decide (0 < srW o m n N P); rw [gdR_t N a7, Bool.true_and]) hN a6 hB (fun b hb => sr_bd hm1 hm3 hN1 hN hn ho hb)
  have hr := (sh_rnd n (show N < 5 by omega)).2.1
  unfold Ex
  show Go _ _ tT_tryRows (_, 0, [.ref 0, .int (nI N), .int (nI N), am_U], []) _
  refine go_iloadn_1 iT_tryRows_0 ?_
  refine go_iloadn_2 iT_tryRows_1 ?_
  first | refine gn_ic_ge iT_tryRows_2 (by omega) (by omega) (fun c_2 => ?_) (fun c_2 => ?_) | refine go_ic_ge iT_tryRows_2 (fun c_2 => ?_) (fun c_2 => ?_)
  rotate_left
  · (first | omega | exact absurd c_2 (by decide) | (exfalso; simp (disch := omega) only [Int32.lt_iff_toInt_lt, Int32.le_iff_toInt_le, ← Int32.toInt_inj, nI_toInt, i32_m1, i32_0, i32_m20, i32_m40, i32_m30, i32_m9] at *; omega))
  refine go_aloadn_0 iT_tryRows_10 rfl ?_
  refine go_getR iT_tryRows_11 rfl (sk_0 _) (mR_0_12 _) ?_
  refine go_aloadn_0 iT_tryRows_14 rfl ?_
  refine go_getR iT_tryRows_15 rfl (sk_0 _) (mR_0_8 _) ?_
  refine go_iloadn_1 iT_tryRows_18 ?_
  refine go_aald iT_tryRows_19 (sh_6 _) (by decide) (by decide) rfl (by omega) (by omega) hr ?_
  refine go_aloadn_0 iT_tryRows_20 rfl ?_
  refine go_getR iT_tryRows_21 rfl (sk_0 _) (mR_0_10 _) ?_
  refine gx_V0 iT_tryRows_24 rfl (by decide) (sk_11 _) rfl (Nat.le_of_ble_eq_true rfl) (Nat.le_of_ble_eq_true rfl) (by omega) hx (fun mI24_ mL24_ h24_ => ?_)
  refine go_vret iT_tryRows_27 rfl ?_
  refine ex_i ⟨h24_.1, fun a b1 b2 b3 b4 => h24_.2.1 a b2 b3, fun t ht => ?_, fun a b1 b2 => h24_.2.2 a b1 (by omega) (by omega) (by omega) (by omega)⟩
  rw [h24_.2.1 8 (by decide) (by decide)]
theorem ex_T_with (hm3 : m ≤ 3) (hN : N ≤ 4) (h8 : n ≤ 8) (hdl : d + (l + 1) = N) (hp : p < n) (hI : TryC S n m N l (d + 1) o kd) (hH : TrH n m o kd d P mI mL) (hB : SrT o m n N mI mL (srF kd o m n N ((P * n + p) * n ^ l))) : Ex S (5 + 2 * l) tT_tryRowsWith n mI mL [.ref 0, .int (nI p), .int (nI d), .int (nI N)] none (fun mI' mL' => SrT o m n N mI' mL' (srF kd o m n N ((P * n + p + 1) * n ^ l)) ∧ FrS (d + 1) d mI mI' mL mL') := by
  have hH0 := hH
  obtain ⟨a1, a2, ⟨a3, a4⟩, a5, a6, a7⟩ := hH
  obtain ⟨k0, hk0, hkT, hkM, _⟩ := a2 p hp
  have hkk := kdN_of hkM hk0
  rw [a4] at hkk
  have k1 := sk_play hp
  have k3 := mR_wins n hp
  have hod := odN_ok (a2 p hp)
  unfold Ex
  show Go _ _ tT_tryRowsWith (_, 0, [.ref 0, .int (nI p), .int (nI d), .int (nI N), am_U], []) _
  by_cases c : k0 = 2
  · have e9 : (P * n + p + 1) * n ^ l = (P * n + p) * n ^ l + n ^ l := Nat.succ_mul _ _
    have hsk : srF kd o m n N ((P * n + p + 1) * n ^ l) = srF kd o m n N ((P * n + p) * n ^ l) := by
      rw [e9]
      refine bsF_skip _ (fun z h1 h2 => ?_)
      have hd2 : kd (dg n N z d) = 2 := by
        rw [← hdl, dg_mid h1 (by rw [e9]; exact h2), pkd_mod hp, hkk, c]
      show (gdR kd n N z N && decide (0 < srW o m n N z)) = false
      rw [gdR_f hd2 N (by omega), Bool.false_and]
    rw [hsk]
    refine go_aloadn_0 iT_tryRowsWith_0 rfl ?_
    refine go_iloadn_1 iT_tryRowsWith_1 ?_
    refine gc_V1 iT_tryRowsWith_2 rfl (by decide) (sk_0 _) rfl (Nat.le_of_ble_eq_true rfl) (Nat.le_of_ble_eq_true rfl) (by omega) (sp_T_playAt_t h8 a1 hp) ?_
    refine go_astore_4 iT_tryRowsWith_5 rfl (by simp [Value.category, am_U]) ?_
    refine go_aload_4 iT_tryRowsWith_7 rfl ?_
    refine go_nulR iT_tryRowsWith_9 ?_
    refine go_aload_4 iT_tryRowsWith_12 rfl ?_
    refine go_getI iT_tryRowsWith_14 (Or.inl rfl) (by assumption) ?_
    try simp (disch := omega) only [am_u_n, am_u_s, am_u_k, hkT]
    refine go_iconst (v := nI 2) iT_tryRowsWith_17 rfl ?_
    first | refine gn_ic_eq iT_tryRowsWith_18 (by omega) (by omega) (fun c_18 => ?_) (fun c_18 => ?_) | refine go_ic_eq iT_tryRowsWith_18 (fun c_18 => ?_) (fun c_18 => ?_)
    rotate_left
    · (first | omega | exact absurd c_18 (by decide) | (exfalso; simp (disch := omega) only [Int32.lt_iff_toInt_lt, Int32.le_iff_toInt_le, ← Int32.toInt_inj, nI_toInt, i32_m1, i32_0, i32_m20, i32_m40, i32_m30, i32_m9] at *; omega))
    refine go_vret iT_tryRowsWith_60 rfl ?_
    exact ex_i ⟨hB, FrS.rfl'⟩
  · have hr1 := (sh_rnd n (show d + 1 < 5 by omega)).2.1
    have hr0 := (sh_rnd n (show d < 5 by omega)).2.1
    have hR1 := sk_rnd n (show d + 1 < 5 by omega)
    have hfo := ex_R_follow (S := S) (n := n) (mI := am_u mI 8 d (nI p)) (mL := mL) (k := d + 1) (j := d) (m := m) (B := 12) (c := 61 + 2 * p) (nc := 4) (w := odN mI p) (by omega) (by omega) (by omega) hm3 (by omega) (sh_wins hp) (by omega) (by omega) (by omega) (fun i hi => by rw [am_u_n (by omega)]; exact (hod.1 i (by omega)).1) (fun i hi => (hod.1 i (by omega)).2) (a5.of (am_u_r (by omega)) rfl rfl rfl)
    refine go_aloadn_0 iT_tryRowsWith_0 rfl ?_
    refine go_iloadn_1 iT_tryRowsWith_1 ?_
    refine gc_V1 iT_tryRowsWith_2 rfl (by decide) (sk_0 _) rfl (Nat.le_of_ble_eq_true rfl) (Nat.le_of_ble_eq_true rfl) (by omega) (sp_T_playAt_t h8 a1 hp) ?_
    refine go_astore_4 iT_tryRowsWith_5 rfl (by simp [Value.category, am_U]) ?_
    refine go_aload_4 iT_tryRowsWith_7 rfl ?_
    refine go_nulR iT_tryRowsWith_9 ?_
    refine go_aload_4 iT_tryRowsWith_12 rfl ?_
    refine go_getI iT_tryRowsWith_14 (Or.inl rfl) (by assumption) ?_
    try simp (disch := omega) only [am_u_n, am_u_s, am_u_k, hkT]
    refine go_iconst (v := nI 2) iT_tryRowsWith_17 rfl ?_
    first | refine gn_ic_eq iT_tryRowsWith_18 (by omega) (by omega) (fun c_18 => ?_) (fun c_18 => ?_) | refine go_ic_eq iT_tryRowsWith_18 (fun c_18 => ?_) (fun c_18 => ?_)
    · (first | omega | exact absurd c_18 (by decide) | (exfalso; simp (disch := omega) only [Int32.lt_iff_toInt_lt, Int32.le_iff_toInt_le, ← Int32.toInt_inj, nI_toInt, i32_m1, i32_0, i32_m20, i32_m40, i32_m30, i32_m9] at *; omega))
    refine go_aloadn_0 iT_tryRowsWith_21 rfl ?_
    refine go_getR iT_tryRowsWith_22 rfl (sk_0 _) (mR_0_10 _) ?_
    refine go_iloadn_2 iT_tryRowsWith_25 ?_
    refine go_iloadn_1 iT_tryRowsWith_26 ?_
    refine go_iast iT_tryRowsWith_27 (sh_8 _) rfl (by omega) (by omega) ?_
    refine go_aloadn_0 iT_tryRowsWith_28 rfl ?_
    refine go_getR iT_tryRowsWith_29 rfl (sk_0 _) (mR_0_8 _) ?_
    refine go_iloadn_2 iT_tryRowsWith_32 ?_
    refine go_iconst (v := nI 1) iT_tryRowsWith_33 rfl ?_
    first | refine gn_iadd iT_tryRowsWith_34 ?_ | refine go_iadd iT_tryRowsWith_34 ?_
    refine go_aald iT_tryRowsWith_35 (sh_6 _) (by decide) (by decide) rfl (by omega) (by omega) (by first | exact hr1 | exact hr0) ?_
    refine go_aloadn_0 iT_tryRowsWith_36 rfl ?_
    refine go_getR iT_tryRowsWith_37 rfl (sk_0 _) (mR_0_8 _) ?_
    refine go_iloadn_2 iT_tryRowsWith_40 ?_
    refine go_aald iT_tryRowsWith_41 (sh_6 _) (by decide) (by decide) rfl (by omega) (by omega) (by first | exact hr1 | exact hr0) ?_
    refine go_aload_4 iT_tryRowsWith_42 rfl ?_
    refine go_getR iT_tryRowsWith_44 rfl (by assumption) (by assumption) ?_
    refine go_bipush (v := nI 12) iT_tryRowsWith_47 (by decide) ?_
    refine gx_V0 iT_tryRowsWith_49 rfl (by decide) hR1 rfl (Nat.le_of_ble_eq_true rfl) (Nat.le_of_ble_eq_true rfl) (by omega) hfo (fun mI49_ mL49_ h49_ => ?_)
    obtain ⟨e1, e2⟩ := h49_
    have fr1 : FrS (d + 1) d mI mI49_ mL mL49_ := ⟨fun a h1 h2 h3 h4 => by rw [e2.1 a (by omega), am_u_r h1], fun t ht => by rw [e2.1 8 (by omega), am_u_k (by omega)], fun a h1 h2 => e2.2 a (by omega) (by omega) (by omega) (by omega)⟩
    have hT1 := hH0.fr (by omega) fr1
    obtain ⟨c1, c2, ⟨c3, c4⟩, c5, c6, c7⟩ := hT1
    have hw : ∀ s, s < d → wD o n (d + 1) (P * n + p) s = wD o n d P s := fun s hs => by unfold wD; rw [dg_ext hp hs]
    have hwd : wD o n (d + 1) (P * n + p) d = odN mI p := by unfold wD; rw [dg_new hp, a3]
    have hT2 : TrH n m o kd (d + 1) (P * n + p) mI49_ mL49_ := by
      refine ⟨c1, c2, ⟨c3, c4⟩, ?_, fun t ht => ?_, fun t ht => ?_⟩
      · obtain ⟨r1, r2, r3, r4, r5⟩ := e1
        refine ⟨r1, r2, by rw [pw_s]; exact r3, fun f x hf hx => ?_, fun f hf => ?_⟩
        · rw [r4 f x hf hx]
          show _ = zL (stP m 12 (wD o n (d + 1) (P * n + p) d) (nowZ m 12 (wD o n (d + 1) (P * n + p)) f d) m x)
          rw [hwd, now_congr d hw]
        · rw [r5 f hf]
          show _ = zL (gZ m 12 (wD o n (d + 1) (P * n + p)) f d * ((12 : Nat) : Int) + gP 12 (wD o n (d + 1) (P * n + p) d) (nowZ m 12 (wD o n (d + 1) (P * n + p)) f d) m)
          rw [hwd, now_congr d hw, gz_congr d hw]
      · by_cases q : t = d
        · rw [q, e2.1 8 (by omega), am_u_s, dg_new hp]
        · rw [dg_ext hp (by omega)]; exact c6 t (by omega)
      · by_cases q : t = d
        · rw [q, dg_new hp, hkk]; exact c
        · rw [dg_ext hp (by omega)]; exact a7 t (by omega)
    have hnx := hI (P * n + p) mI49_ mL49_ hT2 (BsT.of hB (by rw [e2.1 11 (by omega), am_u_r (by decide)]) (by rw [e2.1 12 (by omega), am_u_r (by decide)]) (e2.2 11 (by omega) (by omega) (by omega) (by omega)))
    refine go_aloadn_0 iT_tryRowsWith_52 rfl ?_
    refine go_iloadn_2 iT_tryRowsWith_53 ?_
    refine go_iconst (v := nI 1) iT_tryRowsWith_54 rfl ?_
    first | refine gn_iadd iT_tryRowsWith_55 ?_ | refine go_iadd iT_tryRowsWith_55 ?_
    refine go_iloadn_3 iT_tryRowsWith_56 ?_
    refine gx_V0 iT_tryRowsWith_57 rfl (by decide) (sk_0 _) rfl (Nat.le_of_ble_eq_true rfl) (Nat.le_of_ble_eq_true rfl) (by omega) hnx (fun mI57_ mL57_ h57_ => ?_)
    refine go_vret iT_tryRowsWith_60 rfl ?_
    exact ex_i ⟨h57_.1, fr1.trans (h57_.2.wk (Nat.le_refl _) (by omega))⟩
theorem lo_T_try (hm3 : m ≤ 3) (hN : N ≤ 4) (h8 : n ≤ 8) (hdl : d + (l + 1) = N) (hI : TryC S n m N l (d + 1) o kd) : ∀ q p (mI' : Nat → Nat → Int32) (mL' : Nat → Nat → Int64), p + q = n → TrH n m o kd d P mI' mL' → SrT o m n N mI' mL' (srF kd o m n N ((P * n + p) * n ^ l)) → FrS d d mI mI' mL mL' → Go S (4 + 2 * (l + 1)) tT_tryRows ((am_sh n, mI', mL', am_mR n), 30, [.ref 0, .int (nI d), .int (nI N), .int (nI p)], []) (fun r => ∃ mI'' mL'', r = (none, (am_sh n, mI'', mL'', am_mR n)) ∧ (SrT o m n N mI'' mL'' (srF kd o m n N ((P * n + n) * n ^ l)) ∧ FrS d d mI mI'' mL mL''))
  | 0, p, mI', mL', hi, hH, hB, hF => by
    obtain rfl : p = n := by omega
    have q1 := hH.1
    refine go_iloadn_3 iT_tryRows_30 ?_
    refine go_aloadn_0 iT_tryRows_31 rfl ?_
    refine go_getI iT_tryRows_32 (Or.inl rfl) (sk_0 _) ?_
    try simp (disch := omega) only [am_u_n, am_u_s, am_u_k, q1]
    first | refine gn_ic_ge iT_tryRows_35 (by omega) (by omega) (fun c_35 => ?_) (fun c_35 => ?_) | refine go_ic_ge iT_tryRows_35 (fun c_35 => ?_) (fun c_35 => ?_)
    rotate_left
    · (first | omega | exact absurd c_35 (by decide) | (exfalso; simp (disch := omega) only [Int32.lt_iff_toInt_lt, Int32.le_iff_toInt_le, ← Int32.toInt_inj, nI_toInt, i32_m1, i32_0, i32_m20, i32_m40, i32_m30, i32_m9] at *; omega))
    refine go_vret iT_tryRows_51 rfl ?_
    exact ex_i ⟨hB, hF⟩
  | q + 1, p, mI', mL', hi, hH, hB, hF => by
    have q1 := hH.1
    have hx := ex_T_with (S := S) (p := p) hm3 hN h8 hdl (by omega) hI hH hB
    refine go_iloadn_3 iT_tryRows_30 ?_
    refine go_aloadn_0 iT_tryRows_31 rfl ?_
    refine go_getI iT_tryRows_32 (Or.inl rfl) (sk_0 _) ?_
    try simp (disch := omega) only [am_u_n, am_u_s, am_u_k, q1]
    first | refine gn_ic_ge iT_tryRows_35 (by omega) (by omega) (fun c_35 => ?_) (fun c_35 => ?_) | refine go_ic_ge iT_tryRows_35 (fun c_35 => ?_) (fun c_35 => ?_)
    · (first | omega | exact absurd c_35 (by decide) | (exfalso; simp (disch := omega) only [Int32.lt_iff_toInt_lt, Int32.le_iff_toInt_le, ← Int32.toInt_inj, nI_toInt, i32_m1, i32_0, i32_m20, i32_m40, i32_m30, i32_m9] at *; omega))
    refine go_aloadn_0 iT_tryRows_38 rfl ?_
    refine go_iloadn_3 iT_tryRows_39 ?_
    refine go_iloadn_1 iT_tryRows_40 ?_
    refine go_iloadn_2 iT_tryRows_41 ?_
    refine gx_V0 iT_tryRows_42 rfl (by decide) (sk_0 _) rfl (Nat.le_of_ble_eq_true rfl) (Nat.le_of_ble_eq_true rfl) (by omega) hx (fun mI42_ mL42_ h42_ => ?_)
    first | refine go_iinc_3 iT_tryRows_45 (ni_inc _ 1) (by simp [Value.category, am_U]) ?_ | refine go_iinc_3 iT_tryRows_45 rfl (by simp [Value.category, am_U]) ?_
    refine go_goto iT_tryRows_48 ?_
    exact lo_T_try hm3 hN h8 hdl hI q (p + 1) _ _ (by omega) (hH.fr (by omega) h42_.2) (by rw [show P * n + (p + 1) = P * n + p + 1 from rfl]; exact h42_.1) (hF.trans (h42_.2.wk (by omega) (Nat.le_refl _)))
theorem try_all (hm1 : 1 ≤ m) (hm3 : m ≤ 3) (hN1 : 1 ≤ N) (hN : N ≤ 4) (h8 : n ≤ 8) (ho : 0 < n → ∀ p i, p < n → i < 3 → o p i ≤ 12) : ∀ l d, d + l = N → (0 < l ∨ 0 < n) → TryC S n m N l d o kd
  | 0, d, hd, hn => by
    obtain rfl : d = N := by omega
    have hn : 0 < n := by omega
    exact try_0 hm1 hm3 hN1 hN hn (ho hn)
  | l + 1, d, hd, hn => by
    intro P mI mL hH hB
    have eP : P * n ^ (l + 1) = (P * n + 0) * n ^ l := by rw [Nat.pow_succ, Nat.add_zero, Nat.mul_assoc, Nat.mul_comm n (n ^ l)]
    have eQ : (P + 1) * n ^ (l + 1) = (P * n + n) * n ^ l := by rw [Nat.pow_succ, show P * n + n = (P + 1) * n by rw [Nat.add_mul, Nat.one_mul], Nat.mul_assoc, Nat.mul_comm n (n ^ l)]
    rw [eP] at hB
    rw [eQ]
    unfold Ex
    show Go _ _ tT_tryRows (_, 0, [.ref 0, .int (nI d), .int (nI N), am_U], []) _
    by_cases h0 : n = 0
    · have q1 := hH.1
      have ez : (P * n + n) * n ^ l = (P * n + 0) * n ^ l := by rw [h0]
      rw [ez]
      refine go_iloadn_1 iT_tryRows_0 ?_
      refine go_iloadn_2 iT_tryRows_1 ?_
      first | refine gn_ic_ge iT_tryRows_2 (by omega) (by omega) (fun c_2 => ?_) (fun c_2 => ?_) | refine go_ic_ge iT_tryRows_2 (fun c_2 => ?_) (fun c_2 => ?_)
      · (first | omega | exact absurd c_2 (by decide) | (exfalso; simp (disch := omega) only [Int32.lt_iff_toInt_lt, Int32.le_iff_toInt_le, ← Int32.toInt_inj, nI_toInt, i32_m1, i32_0, i32_m20, i32_m40, i32_m30, i32_m9] at *; omega))
      refine go_iloadn_1 iT_tryRows_5 ?_
      refine go_iconst (v := nI 4) iT_tryRows_6 rfl ?_
      first | refine gn_ic_lt iT_tryRows_7 (by omega) (by omega) (fun c_7 => ?_) (fun c_7 => ?_) | refine go_ic_lt iT_tryRows_7 (fun c_7 => ?_) (fun c_7 => ?_)
      rotate_left
      · (first | omega | exact absurd c_7 (by decide) | (exfalso; simp (disch := omega) only [Int32.lt_iff_toInt_lt, Int32.le_iff_toInt_le, ← Int32.toInt_inj, nI_toInt, i32_m1, i32_0, i32_m20, i32_m40, i32_m30, i32_m9] at *; omega))
      refine go_iconst (v := nI 0) iT_tryRows_28 rfl ?_
      refine go_istoren_3 iT_tryRows_29 (by simp [Value.category, am_U]) ?_
      refine go_iloadn_3 iT_tryRows_30 ?_
      refine go_aloadn_0 iT_tryRows_31 rfl ?_
      refine go_getI iT_tryRows_32 (Or.inl rfl) (sk_0 _) ?_
      try simp (disch := omega) only [am_u_n, am_u_s, am_u_k, q1]
      first | refine gn_ic_ge iT_tryRows_35 (by omega) (by omega) (fun c_35 => ?_) (fun c_35 => ?_) | refine go_ic_ge iT_tryRows_35 (fun c_35 => ?_) (fun c_35 => ?_)
      rotate_left
      · (first | omega | exact absurd c_35 (by decide) | (exfalso; simp (disch := omega) only [Int32.lt_iff_toInt_lt, Int32.le_iff_toInt_le, ← Int32.toInt_inj, nI_toInt, i32_m1, i32_0, i32_m20, i32_m40, i32_m30, i32_m9] at *; omega))
      refine go_vret iT_tryRows_51 rfl ?_
      exact ex_i ⟨hB, FrS.rfl'⟩
    · have hI := try_all hm1 hm3 hN1 hN h8 ho l (d + 1) (by omega) (by omega)
      refine go_iloadn_1 iT_tryRows_0 ?_
      refine go_iloadn_2 iT_tryRows_1 ?_
      first | refine gn_ic_ge iT_tryRows_2 (by omega) (by omega) (fun c_2 => ?_) (fun c_2 => ?_) | refine go_ic_ge iT_tryRows_2 (fun c_2 => ?_) (fun c_2 => ?_)
      · (first | omega | exact absurd c_2 (by decide) | (exfalso; simp (disch := omega) only [Int32.lt_iff_toInt_lt, Int32.le_iff_toInt_le, ← Int32.toInt_inj, nI_toInt, i32_m1, i32_0, i32_m20, i32_m40, i32_m30, i32_m9] at *; omega))
      refine go_iloadn_1 iT_tryRows_5 ?_
      refine go_iconst (v := nI 4) iT_tryRows_6 rfl ?_
      first | refine gn_ic_lt iT_tryRows_7 (by omega) (by omega) (fun c_7 => ?_) (fun c_7 => ?_) | refine go_ic_lt iT_tryRows_7 (fun c_7 => ?_) (fun c_7 => ?_)
      rotate_left
      · (first | omega | exact absurd c_7 (by decide) | (exfalso; simp (disch := omega) only [Int32.lt_iff_toInt_lt, Int32.le_iff_toInt_le, ← Int32.toInt_inj, nI_toInt, i32_m1, i32_0, i32_m20, i32_m40, i32_m30, i32_m9] at *; omega))
      refine go_iconst (v := nI 0) iT_tryRows_28 rfl ?_
      refine go_istoren_3 iT_tryRows_29 (by simp [Value.category, am_U]) ?_
      exact lo_T_try hm3 hN h8 hd hI n 0 _ _ (by omega) hH hB FrS.rfl'
end TRY
