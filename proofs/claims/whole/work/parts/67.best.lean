/-! ===== the search in numbers; Best.offer ===== -/
def dg (k d P t : Nat) : Nat := P / k ^ (d - 1 - t) % k
theorem dg_lt {k d P t : Nat} (hk : 0 < k) : dg k d P t < k := Nat.mod_lt _ hk
theorem pkd_div {k P p : Nat} (hp : p < k) : (P * k + p) / k = P := by
  rw [Nat.mul_comm, Nat.mul_add_div (by omega), Nat.div_eq_of_lt hp, Nat.add_zero]
theorem pkd_mod {k P p : Nat} (hp : p < k) : (P * k + p) % k = p := by
  rw [Nat.mul_comm, Nat.mul_add_mod, Nat.mod_eq_of_lt hp]
theorem dg_ext {k d P p t : Nat} (hp : p < k) (ht : t < d) : dg k (d + 1) (P * k + p) t = dg k d P t := by
  unfold dg
  rw [show d + 1 - 1 - t = (d - 1 - t) + 1 by omega, Nat.pow_succ, Nat.mul_comm (k ^ (d - 1 - t)) k, ← Nat.div_div_eq_div_mul, pkd_div hp]
theorem dg_new {k d P p : Nat} (hp : p < k) : dg k (d + 1) (P * k + p) d = p := by
  unfold dg
  rw [show d + 1 - 1 - d = 0 by omega, Nat.pow_zero, Nat.div_one, pkd_mod hp]
/-- codes that begin with Q have its last digit there -/
theorem dg_mid {k d l c Q : Nat} (h1 : Q * k ^ l ≤ c) (h2 : c < (Q + 1) * k ^ l) : dg k (d + (l + 1)) c d = Q % k := by
  unfold dg
  have hk : 0 < k ^ l := by
    rcases Nat.eq_zero_or_pos (k ^ l) with e | e
    · rw [e] at h2; omega
    · exact e
  have : c / k ^ l = Q := by
    have a1 := (Nat.le_div_iff_mul_le hk).mpr h1
    have a2 := (Nat.div_lt_iff_lt_mul hk).mpr h2
    omega
  rw [show d + (l + 1) - 1 - d = l by omega, this]
def wD (o : Nat → Nat → Nat) (k d P : Nat) : Nat → Nat → Nat := fun t => o (dg k d P t)
theorem now_congr {m b : Nat} {w w' : Nat → Nat → Nat} {f : Nat} : ∀ t, (∀ s, s < t → w s = w' s) → nowZ m b w f t = nowZ m b w' f t
  | 0, _ => rfl
  | t + 1, h => by
    funext x
    show stP m b (w t) (nowZ m b w f t) m x = stP m b (w' t) (nowZ m b w' f t) m x
    rw [now_congr t (fun s hs => h s (by omega)), h t (by omega)]
theorem gz_congr {m b : Nat} {w w' : Nat → Nat → Nat} {f : Nat} : ∀ t, (∀ s, s < t → w s = w' s) → gZ m b w f t = gZ m b w' f t
  | 0, _ => rfl
  | t + 1, h => by
    show gZ m b w f t * (b : Int) + gP b (w t) (nowZ m b w f t) m = gZ m b w' f t * (b : Int) + gP b (w' t) (nowZ m b w' f t) m
    rw [gz_congr t (fun s hs => h s (by omega)), now_congr t (fun s hs => h s (by omega)), h t (by omega)]
def bsN (ok : Nat → Bool) (U W : Nat → Int) (o : Option Nat) (c : Nat) : Option Nat := match o with
  | none => if ok c = true then some c else none
  | some b => if ok c = true ∧ U b * W c < U c * W b then some c else some b
def bsF (ok : Nat → Bool) (U W : Nat → Int) : Nat → Option Nat
  | 0 => none
  | c + 1 => bsN ok U W (bsF ok U W c) c
theorem bsN_f {ok : Nat → Bool} {U W : Nat → Int} {c : Nat} (h : ok c = false) : ∀ o, bsN ok U W o c = o
  | none => by show (if ok c = true then some c else none) = none; rw [if_neg (by rw [h]; decide)]
  | some b => by show (if ok c = true ∧ U b * W c < U c * W b then some c else some b) = some b; rw [if_neg (fun q => by rw [h] at q; exact absurd q.1 (by decide))]
theorem bsF_skip {ok : Nat → Bool} {U W : Nat → Int} {lo : Nat} : ∀ j, (∀ c, lo ≤ c → c < lo + j → ok c = false) → bsF ok U W (lo + j) = bsF ok U W lo
  | 0, _ => rfl
  | j + 1, h => by
    show bsN ok U W (bsF ok U W (lo + j)) (lo + j) = _
    rw [bsN_f (h _ (by omega) (by omega)), bsF_skip j (fun c h1 h2 => h c h1 (by omega))]
theorem bsF_ok {ok : Nat → Bool} {U W : Nat → Int} : ∀ c b, bsF ok U W c = some b → ok b = true ∧ b < c
  | 0, b, h => by cases h
  | c + 1, b, h => by
    have h : bsN ok U W (bsF ok U W c) c = some b := h
    cases e : bsF ok U W c with
    | none =>
      rw [e] at h
      have h : (if ok c = true then some c else none) = some b := h
      by_cases q : ok c = true
      · rw [if_pos q] at h
        have e2 : c = b := Option.some.inj h
        rw [← e2]
        exact ⟨q, by omega⟩
      · rw [if_neg q] at h; cases h
    | some a =>
      rw [e] at h
      have h : (if ok c = true ∧ U a * W c < U c * W a then some c else some a) = some b := h
      by_cases q : ok c = true ∧ U a * W c < U c * W a
      · rw [if_pos q] at h
        have e2 : c = b := Option.some.inj h
        rw [← e2]
        exact ⟨q.1, by omega⟩
      · rw [if_neg q] at h
        have e2 : a = b := Option.some.inj h
        have z := bsF_ok c a e
        rw [← e2]
        exact ⟨z.1, by omega⟩
def BsT (U W L : Nat → Int) (N : Nat) (dt : Nat → Nat → Nat) (mI : Nat → Nat → Int32) (mL : Nat → Nat → Int64) (o : Option Nat) : Prop := match o with
  | none => mI 11 0 = nI 0
  | some b => mI 11 0 = nI 1 ∧ mL 11 1 = zL (U b) ∧ mL 11 2 = zL (W b) ∧ mL 11 3 = zL (L b) ∧ ∀ t, t < N → mI 12 t = nI (dt b t)
theorem BsT.of {U W L : Nat → Int} {N : Nat} {dt : Nat → Nat → Nat} {mI mI' : Nat → Nat → Int32} {mL mL' : Nat → Nat → Int64} {o : Option Nat} (h : BsT U W L N dt mI mL o) (h1 : mI' 11 = mI 11) (h2 : mI' 12 = mI 12) (h3 : mL' 11 = mL 11) : BsT U W L N dt mI' mL' o := by
  cases o with
  | none => show mI' 11 0 = nI 0; rw [h1]; exact h
  | some b =>
    obtain ⟨a1, a2, a3, a4, a5⟩ := h
    exact ⟨by rw [h1]; exact a1, by rw [h3]; exact a2, by rw [h3]; exact a3, by rw [h3]; exact a4, fun t ht => by rw [h2]; exact a5 t ht⟩
/-- what an offer may change -/
def FrO (j : Nat) (mI mI' : Nat → Nat → Int32) (mL mL' : Nat → Nat → Int64) : Prop := (∀ a, a ≠ 11 → a ≠ 12 → mI' a = mI a) ∧ ∀ a, a ≠ 11 → a ≠ 23 + 4 * j → a ≠ 24 + 4 * j → a ≠ 25 + 4 * j → a ≠ 26 + 4 * j → mL' a = mL a
section OFR
variable {S : am_S} {mI : Nat → Nat → Int32} {mL : Nat → Nat → Int64} {n j m B T N c : Nat} {w : Nat → Nat → Nat} {ok : Nat → Bool} {U W L : Nat → Int} {dt : Nat → Nat → Nat} {o : Option Nat}
theorem ex_B_offer (hj : j < 5) (hG : Gm m B T w) (hR : RdI mI mL j m T (pw B T) (fun f => nowZ m B w f T) (fun f => gZ m B w f T)) (hU : U c = Uz m B T w) (hW : W c = Wz m B T w) (hL : L c = Wz m B T w * pw B T * (T : Int)) (hok : ok c = decide (0 < W c)) (hN : N ≤ 4) (hdg : ∀ t, t < N → mI 8 t = nI (dt c t)) (hB : BsT U W L N dt mI mL o) (hbd : ∀ b, o = some b → (0 < W b ∧ W b ≤ 1289945088) ∧ -106993205379072 ≤ U b ∧ U b ≤ 106993205379072) : Ex S 3 tB_offer n mI mL [.ref 11, .ref (23 + 4 * j), .ref 8] none (fun mI' mL' => BsT U W L N dt mI' mL' (bsN ok U W o c) ∧ FrO j mI mI' mL mL') := by
  obtain ⟨b1, b2, b3, b4, b5⟩ := hG.pb
  have hb := hG.b
  have hs := sk_11 n
  have hr := mR_11_4 n
  have hA := sh_12 n
  have hA8 := sh_8 n
  have hk := sk_rnd n hj
  have hst := ex_R_settles (S := S) (n := n) hj hG.1 hG.2.1 (by unfold Wz at hb; omega) hR
  unfold Ex
  show Go _ _ tB_offer (_, 0, [.ref 11, .ref (23 + 4 * j), .ref 8], []) _
  by_cases q : 0 < Wz m B T w
  · have hokt : ok c = true := by rw [hok, hW]; exact decide_eq_true q
    rw [if_pos (show 0 < wsZ m (fun f => nowZ m B w f T) m from q)] at hst
    /- the piece that takes the offer over -/
    have take : ∀ mL1 : Nat → Nat → Int64, RdI mI mL1 j m T (pw B T) (fun f => nowZ m B w f T) (fun f => gZ m B w f T) → FrK j mI mI mL mL1 → mL1 (23 + 4 * j) 6 = zL (Wz m B T w) → mL1 (23 + 4 * j) 7 = zL (Uz m B T w) → bsN ok U W o c = some c → Go S 3 tB_offer ((am_sh n, mI, mL1, am_mR n), 29, [.ref 11, .ref (23 + 4 * j), .ref 8], []) (fun r => ∃ mI' mL', r = (none, (am_sh n, mI', mL', am_mR n)) ∧ (BsT U W L N dt mI' mL' (bsN ok U W o c) ∧ FrO j mI mI' mL mL')) := by
      intro mL1 e1 e2 e6 e7 hbs
      rw [hbs]
      refine go_aloadn_0 iB_offer_29 rfl ?_
      refine go_iconst (v := nI 1) iB_offer_30 rfl ?_
      refine go_putZ iB_offer_31 rfl (by assumption) (by first | exact Or.inl rfl | exact Or.inr rfl) ?_
      refine go_aloadn_0 iB_offer_34 rfl ?_
      refine go_aloadn_1 iB_offer_35 rfl ?_
      refine go_getL iB_offer_36 rfl (by assumption) ?_
      try simp (disch := omega) only [am_u_n, am_u_s, am_u_k, e6, e7]
      refine go_putL iB_offer_39 rfl (by assumption) ?_
      refine go_aloadn_0 iB_offer_42 rfl ?_
      refine go_aloadn_1 iB_offer_43 rfl ?_
      refine go_getL iB_offer_44 rfl (by assumption) ?_
      try simp (disch := omega) only [am_u_n, am_u_s, am_u_k, e6, e7]
      refine go_putL iB_offer_47 rfl (by assumption) ?_
      refine go_aloadn_0 iB_offer_50 rfl ?_
      refine go_aloadn_1 iB_offer_51 rfl ?_
      refine gc_V1 iB_offer_52 rfl (by decide) hk rfl (Nat.le_of_ble_eq_true rfl) (Nat.le_of_ble_eq_true rfl) (by decide) (sp_R_gainScale hj b4 (e1.of (am_u_r (by omega)) (by rw [am_u_n (by omega), am_u_n (by omega)]) (by rw [am_u_r (by omega), am_u_r (by omega)]) (by rw [am_u_r (by omega), am_u_r (by omega)])) (by rw [am_u_n (by omega), am_u_n (by omega)]; exact e6)) ?_
      refine go_putL iB_offer_55 rfl (by assumption) ?_
      refine go_aloadn_2 iB_offer_58 rfl ?_
      refine go_iconst (v := nI 0) iB_offer_59 rfl ?_
      refine go_aloadn_0 iB_offer_60 rfl ?_
      refine go_getR iB_offer_61 rfl (by assumption) (by assumption) ?_
      refine go_iconst (v := nI 0) iB_offer_64 rfl ?_
      refine go_iconst (v := nI 4) iB_offer_65 rfl ?_
      refine go_acp iB_offer_66 rfl hA8 hA rfl rfl rfl (by omega) (by omega) (by decide) (by decide) (Nat.le_of_ble_eq_true rfl) ?_
      refine go_vret iB_offer_69 rfl ?_
      refine ex_i ⟨⟨?_, ?_, ?_, ?_, fun t ht => ?_⟩, fun a h1 h2 => ?_, fun a h1 h2 h3 h4 h5 => ?_⟩
      · rw [va_up_ne _ _ (by decide), am_u_s]
      · rw [am_u_k (by decide), am_u_k (by decide), am_u_s, hU]
      · rw [am_u_k (by decide), am_u_s, hW]
      · rw [am_u_s, hL]
      · rw [va_up_self]; unfold va_cpy; rw [if_pos (by omega), am_u_n (by decide), show 0 + (t - 0) = t by omega]; exact hdg t ht
      · rw [va_up_ne _ _ h2, am_u_r h1]
      · rw [am_u_r h1, am_u_r h1, am_u_r h1]; exact e2.2 a h2 h3 h4 h5
    cases o with
    | none =>
      have f0 : mI 11 0 = nI 0 := hB
      refine go_aloadn_1 iB_offer_0 rfl ?_
      refine gx_V1 iB_offer_1 rfl (by decide) hk rfl (Nat.le_of_ble_eq_true rfl) (Nat.le_of_ble_eq_true rfl) (by decide) hst (fun mI1_ mL1_ h1_ => ?_)
      obtain ⟨d0, d1, d2, d3, d4, d5⟩ := h1_
      subst mI1_
      refine go_if_eq iB_offer_4 (fun c_4 => ?_) (fun c_4 => ?_)
      · (first | omega | exact absurd c_4 (by decide) | (exfalso; simp (disch := omega) only [Int32.lt_iff_toInt_lt, Int32.le_iff_toInt_le, ← Int32.toInt_inj, nI_toInt, i32_m1, i32_0, i32_m20, i32_m40, i32_m30, i32_m9] at *; omega))
      refine go_aloadn_0 iB_offer_7 rfl ?_
      refine go_getI iB_offer_8 (Or.inr rfl) (by assumption) ?_
      try simp (disch := omega) only [am_u_n, am_u_s, am_u_k, f0]
      refine go_if_eq iB_offer_11 (fun c_11 => ?_) (fun c_11 => ?_)
      rotate_left
      · (first | omega | exact absurd c_11 (by decide) | (exfalso; simp (disch := omega) only [Int32.lt_iff_toInt_lt, Int32.le_iff_toInt_le, ← Int32.toInt_inj, nI_toInt, i32_m1, i32_0, i32_m20, i32_m40, i32_m30, i32_m9] at *; omega))
      exact take _ d1 d2 d3 d4 (if_pos hokt)
    | some b =>
      obtain ⟨f0, f1, f2, f3, f4⟩ := hB
      obtain ⟨g1, g2⟩ := hbd b rfl
      by_cases q2 : U b * W c < U c * W b
      · refine go_aloadn_1 iB_offer_0 rfl ?_
        refine gx_V1 iB_offer_1 rfl (by decide) hk rfl (Nat.le_of_ble_eq_true rfl) (Nat.le_of_ble_eq_true rfl) (by decide) hst (fun mI1_ mL1_ h1_ => ?_)
        obtain ⟨d0, d1, d2, d3, d4, d5⟩ := h1_
        subst mI1_
        have z1 : mL1_ 11 1 = zL (U b) := by rw [d2.2 11 (by omega) (by omega) (by omega) (by omega)]; exact f1
        have z2 : mL1_ 11 2 = zL (W b) := by rw [d2.2 11 (by omega) (by omega) (by omega) (by omega)]; exact f2
        have d3 : mL1_ (23 + 4 * j) 6 = zL (Wz m B T w) := d3
        have d4 : mL1_ (23 + 4 * j) 7 = zL (Uz m B T w) := d4
        refine go_if_eq iB_offer_4 (fun c_4 => ?_) (fun c_4 => ?_)
        · (first | omega | exact absurd c_4 (by decide) | (exfalso; simp (disch := omega) only [Int32.lt_iff_toInt_lt, Int32.le_iff_toInt_le, ← Int32.toInt_inj, nI_toInt, i32_m1, i32_0, i32_m20, i32_m40, i32_m30, i32_m9] at *; omega))
        refine go_aloadn_0 iB_offer_7 rfl ?_
        refine go_getI iB_offer_8 (Or.inr rfl) (by assumption) ?_
        try simp (disch := omega) only [am_u_n, am_u_s, am_u_k, f0, d3, d4]
        refine go_if_eq iB_offer_11 (fun c_11 => ?_) (fun c_11 => ?_)
        · (first | omega | exact absurd c_11 (by decide) | (exfalso; simp (disch := omega) only [Int32.lt_iff_toInt_lt, Int32.le_iff_toInt_le, ← Int32.toInt_inj, nI_toInt, i32_m1, i32_0, i32_m20, i32_m40, i32_m30, i32_m9] at *; omega))
        refine go_aloadn_0 iB_offer_14 rfl ?_
        refine go_aloadn_1 iB_offer_15 rfl ?_
        refine go_getL iB_offer_16 rfl (by assumption) ?_
        try simp (disch := omega) only [am_u_n, am_u_s, am_u_k, f0, d3, d4]
        refine go_aloadn_1 iB_offer_19 rfl ?_
        refine go_getL iB_offer_20 rfl (by assumption) ?_
        try simp (disch := omega) only [am_u_n, am_u_s, am_u_k, f0, d3, d4]
        refine gc_V1 iB_offer_23 rfl (by decide) hs rfl (Nat.le_of_ble_eq_true rfl) (Nat.le_of_ble_eq_true rfl) (by decide) (sp_B_isBelow (v := 1) z1 z2 (by omega) g2 (by omega) g1 (by rw [← hU, ← hW, if_pos q2])) ?_
        refine go_if_eq iB_offer_26 (fun c_26 => ?_) (fun c_26 => ?_)
        · (first | omega | exact absurd c_26 (by decide) | (exfalso; simp (disch := omega) only [Int32.lt_iff_toInt_lt, Int32.le_iff_toInt_le, ← Int32.toInt_inj, nI_toInt, i32_m1, i32_0, i32_m20, i32_m40, i32_m30, i32_m9] at *; omega))
        exact take _ d1 d2 d3 d4 (if_pos ⟨hokt, q2⟩)
      · have hbs : bsN ok U W (some b) c = some b := if_neg (fun z => q2 z.2)
        rw [hbs]
        refine go_aloadn_1 iB_offer_0 rfl ?_
        refine gx_V1 iB_offer_1 rfl (by decide) hk rfl (Nat.le_of_ble_eq_true rfl) (Nat.le_of_ble_eq_true rfl) (by decide) hst (fun mI1_ mL1_ h1_ => ?_)
        obtain ⟨d0, d1, d2, d3, d4, d5⟩ := h1_
        subst mI1_
        have z1 : mL1_ 11 1 = zL (U b) := by rw [d2.2 11 (by omega) (by omega) (by omega) (by omega)]; exact f1
        have z2 : mL1_ 11 2 = zL (W b) := by rw [d2.2 11 (by omega) (by omega) (by omega) (by omega)]; exact f2
        have z3 : mL1_ 11 3 = zL (L b) := by rw [d2.2 11 (by omega) (by omega) (by omega) (by omega)]; exact f3
        have d3 : mL1_ (23 + 4 * j) 6 = zL (Wz m B T w) := d3
        have d4 : mL1_ (23 + 4 * j) 7 = zL (Uz m B T w) := d4
        refine go_if_eq iB_offer_4 (fun c_4 => ?_) (fun c_4 => ?_)
        · (first | omega | exact absurd c_4 (by decide) | (exfalso; simp (disch := omega) only [Int32.lt_iff_toInt_lt, Int32.le_iff_toInt_le, ← Int32.toInt_inj, nI_toInt, i32_m1, i32_0, i32_m20, i32_m40, i32_m30, i32_m9] at *; omega))
        refine go_aloadn_0 iB_offer_7 rfl ?_
        refine go_getI iB_offer_8 (Or.inr rfl) (by assumption) ?_
        try simp (disch := omega) only [am_u_n, am_u_s, am_u_k, f0, d3, d4]
        refine go_if_eq iB_offer_11 (fun c_11 => ?_) (fun c_11 => ?_)
        · (first | omega | exact absurd c_11 (by decide) | (exfalso; simp (disch := omega) only [Int32.lt_iff_toInt_lt, Int32.le_iff_toInt_le, ← Int32.toInt_inj, nI_toInt, i32_m1, i32_0, i32_m20, i32_m40, i32_m30, i32_m9] at *; omega))
        refine go_aloadn_0 iB_offer_14 rfl ?_
        refine go_aloadn_1 iB_offer_15 rfl ?_
        refine go_getL iB_offer_16 rfl (by assumption) ?_
        try simp (disch := omega) only [am_u_n, am_u_s, am_u_k, f0, d3, d4]
        refine go_aloadn_1 iB_offer_19 rfl ?_
        refine go_getL iB_offer_20 rfl (by assumption) ?_
        try simp (disch := omega) only [am_u_n, am_u_s, am_u_k, f0, d3, d4]
        refine gc_V1 iB_offer_23 rfl (by decide) hs rfl (Nat.le_of_ble_eq_true rfl) (Nat.le_of_ble_eq_true rfl) (by decide) (sp_B_isBelow (v := 0) z1 z2 (by omega) g2 (by omega) g1 (by rw [← hU, ← hW, if_neg q2])) ?_
        refine go_if_eq iB_offer_26 (fun c_26 => ?_) (fun c_26 => ?_)
        rotate_left
        · (first | omega | exact absurd c_26 (by decide) | (exfalso; simp (disch := omega) only [Int32.lt_iff_toInt_lt, Int32.le_iff_toInt_le, ← Int32.toInt_inj, nI_toInt, i32_m1, i32_0, i32_m20, i32_m40, i32_m30, i32_m9] at *; omega))
        refine go_vret iB_offer_69 rfl ?_
        exact ex_i ⟨⟨f0, z1, z2, z3, f4⟩, fun a _ _ => rfl, fun a h1 h2 h3 h4 h5 => d2.2 a h2 h3 h4 h5⟩
  · have hokf : ok c = false := by rw [hok, hW]; exact decide_eq_false q
    rw [if_neg (show ¬ 0 < wsZ m (fun f => nowZ m B w f T) m from q)] at hst
    rw [bsN_f hokf]
    refine go_aloadn_1 iB_offer_0 rfl ?_
    refine gx_V1 iB_offer_1 rfl (by decide) hk rfl (Nat.le_of_ble_eq_true rfl) (Nat.le_of_ble_eq_true rfl) (by decide) hst (fun mI1_ mL1_ h1_ => ?_)
    obtain ⟨d0, d1, d2, d3, d4, d5⟩ := h1_
    subst mI1_
    refine go_if_eq iB_offer_4 (fun c_4 => ?_) (fun c_4 => ?_)
    rotate_left
    · (first | omega | exact absurd c_4 (by decide) | (exfalso; simp (disch := omega) only [Int32.lt_iff_toInt_lt, Int32.le_iff_toInt_le, ← Int32.toInt_inj, nI_toInt, i32_m1, i32_0, i32_m20, i32_m40, i32_m30, i32_m9] at *; omega))
    refine go_vret iB_offer_69 rfl ?_
    exact ex_i ⟨hB.of rfl rfl (d2.2 11 (by omega) (by omega) (by omega) (by omega)), fun a _ _ => rfl, fun a h1 h2 h3 h4 h5 => d2.2 a h2 h3 h4 h5⟩
end OFR
