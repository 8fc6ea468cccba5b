/-! ===== calls and ends; the simulation by induction on the fuel ===== -/
/-- what a callee asks, and what it gives -/
def am_Pc (S : am_S) (h0 b : Nat) (H0 : Heap) (D : va_G) (cA : Nat → ClassId) (M : am_M) (as : List Value) : Array Value → State → Prop := fun a U => a = (as.map (am_tv h0 b)).toArray ∧ am_Rep h0 H0 D cA M U.heap ∧ am_Kn D cA U ∧ va_X b S.1 S.2 U H0
def am_Qc (h0 b : Nat) (H0 : Heap) (D : va_G) (cA : Nat → ClassId) (M : am_M) (v : Option Value) : Array Value → State → Outcome → State → Prop := fun _ _ o t => o = .returned (v.map (am_tv h0 b)) ∧ am_Rep h0 H0 D cA M t.heap
theorem am_Pc_blind {S : am_S} {h0 b : Nat} {H0 : Heap} {D : va_G} {cA : Nat → ClassId} {M : am_M} {as : List Value} : FrameBlind (am_Pc S h0 b H0 D cA M as) := fun a U g mk q => ⟨q.1, q.2.1, am_Kn_same (s := U) (U := U.calling g mk a) rfl q.2.2.1, va_X.moved (u := U) (U := U.calling g mk a) (Vm.Alike.refl U.vm) q.2.2.2⟩
theorem am_Pc_now {S : am_S} {h0 b : Nat} {H0 : Heap} {D : va_G} {cA : Nat → ClassId} {M : am_M} {as : List Value} {s : State} {H : Heap} (hR : am_Rep h0 H0 D cA M H) (hK : am_Kn D cA s) (hX : va_X b S.1 S.2 s H0) : ∀ U : State, U.heap = H → s.WarmedH U.vm → am_Pc S h0 b H0 D cA M as (as.map (am_tv h0 b)).toArray U := fun U hU hW => ⟨rfl, by rw [hU]; exact hR, am_Kn_warm hW hK, va_X.moved hW.alike hX⟩
def am_ws (t : am_T) : List Cond := .code t.1 t.2.1 t.2.2.1 t.2.2.2.1 :: am_Ts
def am_rm (d mc ms : Nat) : Room := { frames := d + 1, cells := mc, slots := ms, locals := 100 * (d + 1) }
theorem am_okM_spec {t : am_T} {mm : Nat × Nat × Nat × Nat × Nat} (h : am_okM t mm = true) : Cond.code t.1 t.2.1 t.2.2.1 t.2.2.2.1 ∈ am_Ts ∧ Cond.initialized t.1.cls ∈ am_Ts ∧ plainFor t.1 = true ∧ (t.1.cls ≠ "java/lang/invoke/MethodHandle" ∧ t.1.cls ≠ "java/lang/invoke/VarHandle" ∧ t.2.2.1 ≤ 80) ∧ (mm.2.2.2.2 = 1 → Cond.static t.1 ∈ am_Ts) ∧ (mm.2.2.2.2 = 0 → Cond.instanceMethod t.1 ∈ am_Ts ∧ 10 ≤ t.2.2.2.2.1 ∧ (∃ q, vwCl[t.2.2.2.2.1 - 10]? = some q ∧ q.1 = t.1.cls) ∧ (t.1.name = "<init>" → t.2.2.2.1 = none) ∧ (t.1.name ≠ "<init>" → Cond.selects t.1.cls t.1 t.1 ∈ am_Ts)) := by
  unfold am_okM at h
  simp only [Bool.and_eq_true, decide_eq_true_eq] at h
  obtain ⟨⟨⟨⟨h1, h2⟩, h3⟩, h4⟩, h5⟩ := h
  refine ⟨am_has_spec h1, am_has_spec h2, h3, h4, fun e => ?_, fun e => ?_⟩
  · rw [if_pos e] at h5
    exact am_has_spec h5
  · rw [if_neg (by omega)] at h5
    simp only [Bool.and_eq_true, decide_eq_true_eq] at h5
    obtain ⟨⟨⟨g1, g2⟩, g3⟩, g4⟩ := h5
    refine ⟨am_has_spec g1, g2, ?_, fun hn => ?_, fun hn => ?_⟩
    · cases hq : vwCl[t.2.2.2.2.1 - 10]? with
      | none => rw [hq] at g3; cases g3
      | some q => rw [hq] at g3; exact ⟨q, rfl, of_decide_eq_true g3⟩
    · rw [if_pos hn] at g4
      exact of_decide_eq_true g4
    · rw [if_neg hn] at g4
      exact am_has_spec g4
theorem am_ws_good {t : am_T} (h : Cond.code t.1 t.2.1 t.2.2.1 t.2.2.2.1 ∈ am_Ts) : GoodIn am_Ts (am_ws t) := fun w hw => by
  rcases List.mem_cons.mp hw with rfl | hw
  · exact am_good _ h
  · exact am_good _ hw
set_option maxHeartbeats 1000000 in
/-- a method's contract out of its run -/
theorem am_met {l : Launch} {S : am_S} {t : am_T} {mm : Nat × Nat × Nat × Nat × Nat} {M M2 : am_M} {as : List Value} {v : Option Value} {d h0 b : Nat} {H0 : Heap} {D : va_G} {cA : Nat → ClassId} (hok : am_okM t mm = true) (hlen : (am_lay as).length ≤ t.2.2.1) (hbh : b < h0) (h1 : am_c M ≤ am_c M2) (h2 : am_z M ≤ am_z M2) (ih : am_Sim S d t (am_ent t M as) (v, M2)) :
    Met l t.1 (am_ws t) (am_rm d (am_c M2 - am_c M) (am_z M2 - am_z M)) (am_Pc S h0 b H0 D cA M as) (am_Qc h0 b H0 D cA M2 v) (am_c M2 - am_c M) (am_z M2 - am_z M) (fun q => h0 ≤ q) := by
  obtain ⟨k1, k2, k3, k4, -, -⟩ := am_okM_spec hok
  refine va_MetF (cc := t.2.1) (maxL := t.2.2.1) (ret := t.2.2.2.1) k3 rfl ?_
  intro p e s m args below meth c s₁ B hml hP
  obtain ⟨rfl, hR, hK, hX⟩ := hP
  have hts0 : ∀ w ∈ am_ws t, w.before (as.map (am_tv h0 b)).toArray s = true := atoms_spec (ws := am_ws t) B.pre
  have hts : ∀ w ∈ am_Ts, w.before (as.map (am_tv h0 b)).toArray s = true := fun w hw => hts0 w (List.mem_cons_of_mem _ hw)
  have hL := am_L_ent (h0 := h0) (b := b) as hlen
  rw [lg_entry_eq]
  have hsz := hL.1
  rw [List.length_append, List.length_replicate] at hsz
  refine ih p l e (am_rm d (am_c M2 - am_c M) (am_z M2 - am_z M)) s m _ below meth c s.heap [] 0 0 _ _ h0 b H0 D cA B.exec B.bytes (by rw [hml, hsz]; omega) (findClass_of_methodNamed B.named) hts (fun hn => ?_) hK hX hbh hR hL (fun q hq => by cases hq) (Nat.le_refl _) (Nat.le_refl _) ?_ ?_ ?_
  · rw [← hn]
    exact (name_of_methodNamed B.named B.method).1
  · show 0 + am_c M2 ≤ (am_c M2 - am_c M) + am_c M
    omega
  · show 0 + am_z M2 ≤ (am_z M2 - am_z M) + am_z M
    omega
  · intro H' locs' cells' slots' pc' ls' hR' hlo' hc hz hrok
    have hc : cells' + am_c M = 0 + am_c M2 := hc
    have hz : slots' + am_z M = 0 + am_z M2 := hz
    obtain rfl : cells' = am_c M2 - am_c M := by omega
    obtain rfl : slots' = am_z M2 - am_z M := by omega
    have hlocks := B.notSynchronized
    match v, hrok with
    | none, hrok =>
      exact W.vret B.exec B.bytes (by rw [B.returns]; exact hrok.2) (fun t' ht _ => ⟨rfl, by rw [ht]; exact hR'⟩) hlo' hrok.1
    | some (.int x), hrok =>
      rcases hrok.2 with hr | ⟨hr, hx⟩
      · exact W.iret B.exec B.bytes (by rw [B.returns]; exact hr) (fun t' ht _ => ⟨rfl, by rw [ht]; exact hR'⟩) hlo' hrok.1
      · exact W.zret (ty := .boolean) B.exec B.bytes (by rw [B.returns]; exact hr) (by rcases hx with rfl | rfl <;> decide) (fun t' ht _ => ⟨rfl, by rw [ht]; exact hR'⟩) hlo' hrok.1
    | some (.long x), hrok =>
      exact W.lret B.exec B.bytes (by rw [B.returns]; exact hrok.2) (fun t' ht _ => ⟨rfl, by rw [ht]; exact hR'⟩) hlo' hrok.1
    | some (.ref x), hrok =>
      have hrok : decode t.2.1 pc' = .ok (.areturn, 1) ∧ am_isO t.2.2.2.1 = true := hrok
      cases hrt : t.2.2.2.1 with
      | none => rw [hrt] at hrok; cases hrok.2
      | some rt =>
        rw [hrt] at hrok
        cases rt with
        | object n => exact W.aret (rt := .object n) B.exec B.bytes (by rw [B.returns, hrt]) (Or.inl ⟨_, rfl⟩) (Or.inr ⟨_, rfl⟩) (fun t' ht _ => ⟨rfl, by rw [ht]; exact hR'⟩) hlo' hrok.1
        | _ => cases hrok.2
    | some .null, hrok =>
      have hrok : decode t.2.1 pc' = .ok (.areturn, 1) ∧ am_isO t.2.2.2.1 = true := hrok
      cases hrt : t.2.2.2.1 with
      | none => rw [hrt] at hrok; cases hrok.2
      | some rt =>
        rw [hrt] at hrok
        cases rt with
        | object n => exact W.aret (rt := .object n) B.exec B.bytes (by rw [B.returns, hrt]) (Or.inl ⟨_, rfl⟩) (Or.inl rfl) (fun t' ht _ => ⟨rfl, by rw [ht]; exact hR'⟩) hlo' hrok.1
        | _ => cases hrok.2
    | some (.float x), hrok => cases hrok
    | some (.double x), hrok => cases hrok
    | some (.retAddr x), hrok => cases hrok
section AMC
variable {p : Program} {l : Launch} {e : Env} {R : Room} {s : State} {m : MethodId} {args : Array Value} {below : List Frame} {meth : Method} {c : Code} {H : Heap} {locs : List Loc} {cells slots : Nat} {Q : State → Prop}
variable {pc : Nat} {ls : Array Slot} {h0 b : Nat} {la st : List Value} {H0 : Heap} {D : va_G} {cA : Nat → ClassId} {M : am_M} {t : am_T} {S : am_S}
theorem am_after {mc ms : Nat} {g0 rest : List Value} {M2 : am_M} {v : Option Value} {a0 : Array Value} (hr : va_Run p l e R s m args below meth c H locs cells slots mc ms (F0 m pc ls g0) rest (am_Qc h0 b H0 D cA M2 v a0) (fun q => h0 ≤ q)) (hlo : ∀ q ∈ locs, h0 ≤ q.base)
    (kk : ∀ (H' : Heap) (locs' : List Loc), am_Rep h0 H0 D cA M2 H' → (∀ q ∈ locs', h0 ≤ q.base) → W p l e R s m args below meth c H' locs' (cells + mc) (slots + ms) Q (F0 m (pc + 3) ls ((v.map (am_tv h0 b)).toList ++ rest))) : W p l e R s m args below meth c H locs cells slots Q (F0 m pc ls g0) := by
  intro T hT X
  obtain ⟨v', st₀, t', T', L, k0, X', hL, e1, e2, ⟨hv, hR⟩, stp⟩ := hr T hT X
  cases hv
  obtain ⟨t2, a1, b1⟩ := kk t'.heap (locs ++ L) hR (fun q hq => by
    rcases List.mem_append.mp hq with h | h
    · exact hlo q h
    · exact hL q h) T' e1 X'
  exact ⟨t2, stp t2 a1, b1⟩
theorem am_stack {bb : Nat} {as r : List Value} (h : am_take bb st [] = some (as, r)) : as.length = bb ∧ st.map (am_tv h0 b) = (as.map (am_tv h0 b)).reverse ++ r.map (am_tv h0 b) := by
  obtain ⟨l, h1, h2, h3⟩ := am_take_spec _ _ _ _ _ h
  rw [List.append_nil] at h3
  subst h2; subst h3
  simp [h1]
theorem am_np_spec {y : MethodName} {n : Nat} (h : am_np y = some n) : (parseMethodDescriptor y.desc).map (fun d => d.parameters.length) = some n := h
set_option maxHeartbeats 1000000 in
/-- a call: the callee's run, then the rest -/
theorem am_call_ok (hM : ∀ (j : Nat) (t : am_T) (mm : Nat × Nat × Nat × Nat × Nat), am_mt[j]? = some t → am_hm[j]? = some mm → mm.2.2.2.2 ≠ 2 → am_okM t mm = true) (hx : p.tables.exec = Jvm.exec) (hb : c.code = t.2.1) (hml : c.maxLocals = ls.size) (hown : s.vm.findClass t.1.cls = some m.cls) (hts : ∀ w ∈ am_Ts, w.before args s = true) (hK : am_Kn D cA s) (hX : va_X b S.1 S.2 s H0) (hbh : b < h0) (hR : am_Rep h0 H0 D cA M H) (hlo : ∀ q ∈ locs, h0 ≤ q.base)
    {ins : Instr} {nx a bb hh d : Nat} (hE : am_okE t (pc, ins, nx, a, bb, hh) = true) (hfr : d + 1 + 1 ≤ R.frames) (hloc : 100 * (d + 1 + 1) ≤ R.locals) {j : Nat} {as : List Value} {fr' : am_F} (h : am_mem S t ins nx a bb M la st = some (.inr (.inr (j, as, fr')))) {t' : am_T} (ht' : am_mt[j]? = some t') (hlen : (am_lay as).length ≤ t'.2.2.1) {v : Option Value} {M2 : am_M} (ih : am_Sim S d t' (am_ent t' fr'.1 as) (v, M2)) (h1 : am_c M ≤ am_c M2) (h2 : am_z M ≤ am_z M2) (hbc : cells + am_c M2 ≤ R.cells + am_c M) (hbz : slots + am_z M2 ≤ R.slots + am_z M)
    (kk : ∀ (H' : Heap) (locs' : List Loc), am_Rep h0 H0 D cA M2 H' → (∀ q ∈ locs', h0 ≤ q.base) → W p l e R s m args below meth c H' locs' (cells + (am_c M2 - am_c M)) (slots + (am_z M2 - am_z M)) Q (F0 m fr'.2.1 ls ((v.toList ++ fr'.2.2.2).map (am_tv h0 b)))) : W p l e R s m args below meth c H locs cells slots Q (F0 m pc ls (st.map (am_tv h0 b))) := by
  have hfr1 : fr'.1 = M := ((am_mem_mono h).2.2 _ rfl).1
  rw [hfr1] at ih
  simp only [am_okE, Bool.and_eq_true, Bool.or_eq_true, decide_eq_true_eq] at hE
  obtain ⟨⟨hd, hlen0⟩, hl⟩ := hE
  have key : am_len ins ≠ 0 → nx = pc + am_len ins ∧ decode t.2.1 pc = .ok (ins, am_len ins) := fun hz => by
    rcases hlen0 with h1 | h1
    · exact absurd h1 hz
    · refine ⟨h1, ?_⟩
      rw [hd, h1]
      congr 2
      omega
  have hvt : (v.toList ++ fr'.2.2.2).map (am_tv h0 b) = (v.map (am_tv h0 b)).toList ++ fr'.2.2.2.map (am_tv h0 b) := by cases v <;> simp
  rw [hvt] at kk
  have cat : ∀ r : List Value, (r.map fun v => v.category).sum ≤ 8 → ((r.map (am_tv h0 b)).map fun v => v.category).sum ≤ 8 := fun r hr => by simpa [Function.comp_def, am_tv_cat] using hr
  have room : ∀ {mx : Nat}, mx ≤ 80 → (am_rm d (am_c M2 - am_c M) (am_z M2 - am_z M)).frames + 1 ≤ R.frames ∧ 8 + (mx + 11) + (am_rm d (am_c M2 - am_c M) (am_z M2 - am_z M)).locals ≤ R.locals := fun {mx} hmx => by
    show d + 1 + 1 ≤ R.frames ∧ 8 + (mx + 11) + 100 * (d + 1) ≤ R.locals
    exact ⟨hfr, by omega⟩
  have fit : cells + (am_c M2 - am_c M) ≤ R.cells ∧ slots + (am_z M2 - am_z M) ≤ R.slots := ⟨by omega, by omega⟩
  cases ins
  case invokestatic ix =>
    obtain ⟨rfl, hdd⟩ := key (by simp [am_len])
    simp only [am_mem] at h
    split at h
    · exact (am_inlr h).elim
    · next hne =>
      obtain ⟨as', r, htk, hrs, e⟩ := am_calS_spec h
      cases e
      simp only [am_okL, if_neg hne, ht'] at hl
      cases hmm : am_hm[a]? with
      | none => rw [hmm] at hl; cases hl
      | some mm =>
        rw [hmm] at hl
        simp only [Bool.and_eq_true, decide_eq_true_eq] at hl
        obtain ⟨⟨g1, g2⟩, g3⟩ := hl
        have hok := hM a t' mm ht' hmm (by omega)
        obtain ⟨k1, k2, k3, k4, k5, -⟩ := am_okM_spec hok
        obtain ⟨hn, hst⟩ := am_stack (h0 := h0) (b := b) htk
        rw [hst]
        refine am_after (va_runS (y := t'.1) (bytes := t'.2.1) (maxL := t'.2.2.1) (ret := t'.2.2.2.1) (n := bb) ⟨hx, hb, hml, hown, hts⟩ (am_met hok hlen hbh h1 h2 ih) ⟨callB_of bb hts (am_ws_good k1) rfl rfl rfl (hts _ k2) (hts _ (am_has_spec g1)) ⟨k4.1, k4.2.1, am_np_spec g2⟩ (room k4.2.2), hts _ (k5 g3)⟩ ⟨am_Pc_blind, am_Pc_now hR hK hX⟩ rfl (by rw [List.length_map]; exact hn) rfl rfl (lv_room (cat r hrs)) hdd fit) hlo (fun H' locs' hR' hlo' => kk H' locs' hR' hlo')
  case invokevirtual ix =>
    obtain ⟨rfl, hdd⟩ := key (by simp [am_len])
    obtain ⟨as', i, r, t2, htk, hrs, ht2, h10, hki, e⟩ := am_calV_spec h
    cases e
    cases ht'.symm.trans ht2
    simp only [am_okL, ht'] at hl
    cases hmm : am_hm[a]? with
    | none => rw [hmm] at hl; cases hl
    | some mm =>
      rw [hmm] at hl
      simp only [Bool.and_eq_true, decide_eq_true_eq] at hl
      obtain ⟨⟨⟨g1, g2⟩, g3⟩, g4⟩ := hl
      have hok := hM a t' mm ht' hmm (by omega)
      obtain ⟨k1, k2, k3, k4, -, k6⟩ := am_okM_spec hok
      obtain ⟨k6, -, ⟨q, hq, hqc⟩, -, k7⟩ := k6 g3
      obtain ⟨hn, hst⟩ := am_stack (h0 := h0) (b := b) htk
      obtain ⟨n, hi⟩ := am_map_spec hki
      have hi' : M.1[i]? = some ((t'.2.2.2.2.1 - 10) + 10, n) := by rw [hi]; congr 2; omega
      obtain ⟨q', hq', cellB, c1, c2, c3, -⟩ := am_at_obj hR hi'
      rw [hst]
      refine am_after (va_runV (C := t'.1.cls) (y := t'.1) (bytes := t'.2.1) (maxL := t'.2.2.1) (ret := t'.2.2.2.1) (n := bb) (b := h0 + i) ⟨hx, hb, hml, hown, hts⟩ (am_met hok hlen hbh h1 h2 ih) ⟨callB_of bb hts (am_ws_good k1) rfl rfl rfl (hts _ k2) (hts _ (am_has_spec g1)) ⟨k4.1, k4.2.1, am_np_spec g2⟩ (room k4.2.2), hts _ k6, hts _ (k7 g4)⟩ ⟨am_Pc_blind, ⟨cellB, c1, by rw [c3]; rfl, by rw [c2, ← hqc]; exact (hK.1.1 _ _ hq).2.1⟩, am_Pc_now hR hK hX⟩ rfl (by rw [List.length_map]; exact hn) rfl rfl (lv_room (cat r hrs)) hdd fit) hlo (fun H' locs' hR' hlo' => kk H' locs' hR' hlo')
  case invokespecial ix =>
    obtain ⟨rfl, hdd⟩ := key (by simp [am_len])
    simp only [am_mem] at h
    split at h
    · exact (am_inlr h).elim
    · next hne =>
      obtain ⟨as', i, r, t2, htk, hrs, ht2, h10, hki, e⟩ := am_calV_spec h
      cases e
      cases ht'.symm.trans ht2
      simp only [am_okL, if_neg hne, ht'] at hl
      cases hmm : am_hm[a]? with
      | none => rw [hmm] at hl; cases hl
      | some mm =>
        rw [hmm] at hl
        simp only [Bool.and_eq_true, decide_eq_true_eq] at hl
        obtain ⟨⟨⟨g1, g2⟩, g3⟩, g4⟩ := hl
        have hok := hM a t' mm ht' hmm (by omega)
        obtain ⟨k1, k2, k3, k4, -, k6⟩ := am_okM_spec hok
        obtain ⟨k6, -, -, k8, -⟩ := k6 g3
        have hnone := k8 g4
        obtain ⟨hn, hst⟩ := am_stack (h0 := h0) (b := b) htk
        rw [hst]
        by_cases hnb : bb < 100
        · rw [if_pos hnb] at g1
          have hcb := callB_of (R := R) (s := s) (own := t.1.cls) (index := ix) (y := t'.1) (rm := am_rm d (am_c M2 - am_c M) (am_z M2 - am_z M)) (bb % 100) hts (am_ws_good k1) rfl rfl rfl (hts _ k2) (hts _ (am_has_spec g1)) ⟨k4.1, k4.2.1, am_np_spec g2⟩ (room k4.2.2)
          rw [hnone] at hcb
          exact am_after (va_runI (y := t'.1) (bytes := t'.2.1) (maxL := t'.2.2.1) (n := bb % 100) (b := h0 + i) (As := as'.map (am_tv h0 b)) ⟨hx, hb, hml, hown, hts⟩ (am_met hok hlen hbh h1 h2 ih) ⟨hcb, g4, hts _ k6⟩ ⟨am_Pc_blind, am_Pc_now hR hK hX⟩ rfl (by rw [List.length_map]; exact hn) rfl rfl (lv_room (cat r hrs)) hdd fit) hlo (fun H' locs' hR' hlo' => kk H' locs' hR' hlo')
        · rw [if_neg hnb] at g1
          have g1 := of_decide_eq_true g1
          have hcb := va_cnB (R := R) (s := s) (args := args) (own := t.1.cls) (index := ix) (y := t'.1) (host := "TwoGames") (rm := am_rm d (am_c M2 - am_c M) (am_z M2 - am_z M)) (bb % 100) hts (am_ws_good k1) rfl rfl rfl (hK.2.1 _ (List.mem_of_getElem? g1) rfl) (hts _ k2) ⟨k4.1, k4.2.1, am_np_spec g2⟩ (room k4.2.2)
          rw [hnone] at hcb
          exact am_after (va_runIN (y := t'.1) (bytes := t'.2.1) (maxL := t'.2.2.1) (n := bb % 100) (b := h0 + i) (As := as'.map (am_tv h0 b)) ⟨hx, hb, hml, hown, hts⟩ (am_met hok hlen hbh h1 h2 ih) ⟨hcb, g4, hts _ k6⟩ ⟨am_Pc_blind, am_Pc_now hR hK hX⟩ rfl (by rw [List.length_map]; exact hn) rfl rfl (lv_room (cat r hrs)) hdd fit) hlo (fun H' locs' hR' hlo' => kk H' locs' hR' hlo')
  case getfield => exact (am_inlr h).elim
  case putfield => exact (am_inlr h).elim
  case arraylength => exact (am_inlr h).elim
  case iaload => exact (am_inlr h).elim
  case laload => exact (am_inlr h).elim
  case aaload => exact (am_inlr h).elim
  case iastore => exact (am_inlr h).elim
  case lastore => exact (am_inlr h).elim
  case aastore => exact (am_inlr h).elim
  case new => exact (am_inlr h).elim
  case newarray ty =>
    cases ty
    case int => exact (am_inlr h).elim
    case long => exact (am_inlr h).elim
    all_goals exact absurd h.symm (Option.some_ne_none _)
  case anewarray => exact (am_inlr h).elim
  case ireturn =>
    obtain ⟨z, -, -, e⟩ := am_retI_spec h
    cases e
  case lreturn =>
    obtain ⟨z, -, -, e⟩ := am_retL_spec h
    cases e
  case areturn =>
    obtain ⟨-, ⟨z, -, e⟩ | ⟨-, e⟩⟩ := am_retA_spec h
    · cases e
    · cases e
  case return_ =>
    obtain ⟨-, -, e⟩ := am_retV_spec h
    cases e
  all_goals exact absurd h.symm (Option.some_ne_none _)
end AMC
theorem am_ret_ok {S : am_S} {t : am_T} {ins : Instr} {pc nx a bb hh : Nat} {M : am_M} {la st : List Value} {r : Option Value × am_M} (hE : am_okE t (pc, ins, nx, a, bb, hh) = true) (h : am_mem S t ins nx a bb M la st = some (.inr (.inl r))) : am_rok t pc r.1 ∧ st = r.1.toList := by
  simp only [am_okE, Bool.and_eq_true, Bool.or_eq_true, decide_eq_true_eq] at hE
  obtain ⟨⟨hd, hlen0⟩, hl⟩ := hE
  have key : am_len ins ≠ 0 → nx = pc + am_len ins ∧ decode t.2.1 pc = .ok (ins, am_len ins) := fun hz => by
    rcases hlen0 with h1 | h1
    · exact absurd h1 hz
    · refine ⟨h1, ?_⟩
      rw [hd, h1]
      congr 2
      omega
  cases ins
  case ireturn =>
    obtain ⟨rfl, hdd⟩ := key (by simp [am_len])
    obtain ⟨z, rfl, hz, e⟩ := am_retI_spec h
    cases e
    exact ⟨⟨hdd, hz⟩, rfl⟩
  case lreturn =>
    obtain ⟨rfl, hdd⟩ := key (by simp [am_len])
    obtain ⟨z, rfl, hz, e⟩ := am_retL_spec h
    cases e
    exact ⟨⟨hdd, hz⟩, rfl⟩
  case areturn =>
    obtain ⟨rfl, hdd⟩ := key (by simp [am_len])
    obtain ⟨hz, ⟨z, rfl, e⟩ | ⟨rfl, e⟩⟩ := am_retA_spec h
    · cases e
      exact ⟨⟨hdd, hz⟩, rfl⟩
    · cases e
      exact ⟨⟨hdd, hz⟩, rfl⟩
  case return_ =>
    obtain ⟨rfl, hdd⟩ := key (by simp [am_len])
    obtain ⟨rfl, hz, e⟩ := am_retV_spec h
    cases e
    exact ⟨⟨hdd, hz⟩, rfl⟩
  case getfield => exact (am_inlr h).elim
  case putfield => exact (am_inlr h).elim
  case arraylength => exact (am_inlr h).elim
  case iaload => exact (am_inlr h).elim
  case laload => exact (am_inlr h).elim
  case aaload => exact (am_inlr h).elim
  case iastore => exact (am_inlr h).elim
  case lastore => exact (am_inlr h).elim
  case aastore => exact (am_inlr h).elim
  case new => exact (am_inlr h).elim
  case newarray ty =>
    cases ty
    case int => exact (am_inlr h).elim
    case long => exact (am_inlr h).elim
    all_goals exact absurd h.symm (Option.some_ne_none _)
  case anewarray => exact (am_inlr h).elim
  case invokestatic ix =>
    simp only [am_mem] at h
    split at h
    · exact (am_inlr h).elim
    · obtain ⟨as', r, -, -, e⟩ := am_calS_spec h
      cases e
  case invokevirtual ix =>
    obtain ⟨as', i, r, t2, -, -, -, -, -, e⟩ := am_calV_spec h
    cases e
  case invokespecial ix =>
    simp only [am_mem] at h
    split at h
    · exact (am_inlr h).elim
    · obtain ⟨as', i, r, t2, -, -, -, -, -, e⟩ := am_calV_spec h
      cases e
  all_goals exact absurd h.symm (Option.some_ne_none _)
set_option maxHeartbeats 1000000 in
theorem am_sim (S : am_S) (hC : ∀ t ∈ am_mt, t.2.2.2.2.2.all (am_okE t) = true) (hM : ∀ (j : Nat) (t : am_T) (mm : Nat × Nat × Nat × Nat × Nat), am_mt[j]? = some t → am_hm[j]? = some mm → mm.2.2.2.2 ≠ 2 → am_okM t mm = true) : ∀ (f d : Nat) (t : am_T) (fr : am_F) (r : Option Value × am_M), t ∈ am_mt → am_run S f d t fr = some r → am_Sim S d t fr r
  | 0, d, t, fr, r, _, h => by cases h
  | f + 1, d, t, fr, r, ht, h => by
    intro p l e R s m args below meth c H locs cells slots Q ls h0 b H0 D cA hx hb hml hown hts hin2 hK hX hbh hR hL hlo hfr hloc hbc hbz hret
    unfold am_run at h
    cases hs : am_step S t fr with
    | none => rw [hs] at h; cases h
    | some x =>
      rw [hs] at h
      obtain ⟨ins, nx, a, bb, hh, hmem, hcs⟩ := am_step_cases hs
      have hE := List.all_eq_true.mp (hC t ht) _ hmem
      match x, h, hcs with
      | .inl fr', h, hcs =>
        have ih := am_sim S hC hM f d t fr' r ht h
        rcases hcs with ⟨q, hq, e'⟩ | hm
        · have e' := Sum.inl.inj e'
          subst e'
          refine am_pure_ok hx hb hown hts hL hE hq (fun ls' hL' => ?_)
          refine ih p l e R s m args below meth c H locs cells slots Q ls' h0 b H0 D cA hx hb (by rw [hL'.1, am_pure_len hq, hml, hL.1]) hown hts hin2 hK hX hbh hR hL' hlo hfr hloc hbc hbz hret
        · have hk := (am_mem_mono hm).1 fr' rfl
          have hmo := am_mono f d t fr' r h
          refine am_mem_ok hx hb hml hown hts hin2 hK hX hbh hR hlo hE (by omega) (by omega) hm (by omega) (by omega) (fun H' locs' cells' slots' hR' hlo' hc' hz' => ?_)
          exact ih p l e R s m args below meth c H' locs' cells' slots' Q ls h0 b H0 D cA hx hb hml hown hts hin2 hK hX hbh hR' (by rw [hk.2.2]; exact hL) hlo' hfr hloc (by omega) (by omega) (fun H2 locs2 cells2 slots2 pc2 ls2 a1 a2 a3 a4 a5 => hret H2 locs2 cells2 slots2 pc2 ls2 a1 a2 (by omega) (by omega) a5)
      | .inr (.inl r'), h, hcs =>
        rcases hcs with ⟨q, -, e'⟩ | hm
        · cases e'
        · have hk := (am_mem_mono hm).2.1 r' rfl
          have h := Option.some.inj h
          subst h
          obtain ⟨hro, hst⟩ := am_ret_ok hE hm
          rw [hst]
          rw [hk] at hret
          exact hret H locs cells slots _ ls hR hlo rfl rfl hro
      | .inr (.inr (j, as, fr')), h, hcs =>
        rcases hcs with ⟨q, -, e'⟩ | hm
        · cases e'
        · obtain ⟨hk, hla⟩ := (am_mem_mono hm).2.2 _ rfl
          dsimp only at h hk hla
          cases d with
          | zero => cases h
          | succ d' =>
            cases hmt : am_mt[j]? with
            | none => rw [hmt] at h; cases h
            | some t' =>
              rw [hmt] at h
              dsimp only at h
              split at h
              · next hlen =>
                cases hr : am_run S f d' t' (am_ent t' fr'.1 as) with
                | none => rw [hr] at h; cases h
                | some vm =>
                  obtain ⟨v, M2⟩ := vm
                  rw [hr] at h
                  have i1 := am_mono f d' t' _ _ hr
                  have i2 := am_mono f (d' + 1) t _ _ h
                  have e1 : (am_ent t' fr'.1 as).1 = fr'.1 := rfl
                  rw [e1, hk] at i1
                  dsimp only at i1 i2
                  have ih1 := am_sim S hC hM f d' t' _ _ (List.mem_of_getElem? hmt) hr
                  have ih2 := am_sim S hC hM f (d' + 1) t _ _ ht h
                  refine am_call_ok hM hx hb hml hown hts hK hX hbh hR hlo hE hfr hloc hm hmt hlen ih1 i1.1 i1.2 (by omega) (by omega) (fun H' locs' hR' hlo' => ?_)
                  exact ih2 p l e R s m args below meth c H' locs' _ _ Q ls h0 b H0 D cA hx hb hml hown hts hin2 hK hX hbh hR' (by rw [show (M2, fr'.2.1, fr'.2.2.1, v.toList ++ fr'.2.2.2).2.2.1 = fr'.2.2.1 from rfl, hla]; exact hL) hlo' hfr hloc (by dsimp only; omega) (by dsimp only; omega) (fun H2 locs2 cells2 slots2 pc2 ls2 a1 a2 a3 a4 a5 => hret H2 locs2 cells2 slots2 pc2 ls2 a1 a2 (by dsimp only at a3; omega) (by dsimp only at a4; omega) a5)
              · cases h
