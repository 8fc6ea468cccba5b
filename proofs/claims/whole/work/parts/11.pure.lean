/-! ===== an instruction that touches no cell: the real machine follows the abstract one ===== -/
theorem am_ldI_spec {nx i : Nat} {la st : List Value} {q : am_P} (h : am_ldI nx la st i = some q) : ∃ x, la[i]? = some (.int x) ∧ q = (nx, la, .int x :: st) := by
  unfold am_ldI at h
  split at h
  · next x hx => exact ⟨x, hx, (Option.some.inj h).symm⟩
  · cases h
theorem am_ldL_spec {nx i : Nat} {la st : List Value} {q : am_P} (h : am_ldL nx la st i = some q) : ∃ x, la[i]? = some (.long x) ∧ q = (nx, la, .long x :: st) := by
  unfold am_ldL at h
  split at h
  · next x hx => exact ⟨x, hx, (Option.some.inj h).symm⟩
  · cases h
theorem am_ldA_spec {nx i : Nat} {la st : List Value} {q : am_P} (h : am_ldA nx la st i = some q) : ∃ v, la[i]? = some v ∧ am_isR v = true ∧ q = (nx, la, v :: st) := by
  unfold am_ldA at h
  split at h
  · next v hv =>
    split at h
    · next hr => exact ⟨v, hv, hr, (Option.some.inj h).symm⟩
    · cases h
  · cases h
theorem am_stI_spec {nx i : Nat} {la st : List Value} {q : am_P} (h : am_stI nx la st i = some q) : ∃ x r, st = .int x :: r ∧ i < la.length ∧ q = (nx, am_s1 la i (.int x), r) := by
  unfold am_stI at h
  split at h
  · next x r =>
    split at h
    · next hi => exact ⟨x, r, rfl, hi, (Option.some.inj h).symm⟩
    · cases h
  · cases h
theorem am_stL_spec {nx i : Nat} {la st : List Value} {q : am_P} (h : am_stL nx la st i = some q) : ∃ x r, st = .long x :: r ∧ i + 1 < la.length ∧ q = (nx, am_s2 la i (.long x), r) := by
  unfold am_stL at h
  split at h
  · next x r =>
    split at h
    · next hi => exact ⟨x, r, rfl, hi, (Option.some.inj h).symm⟩
    · cases h
  · cases h
theorem am_stA_spec {nx i : Nat} {la st : List Value} {q : am_P} (h : am_stA nx la st i = some q) : ∃ v r, st = v :: r ∧ i < la.length ∧ am_isR v = true ∧ q = (nx, am_s1 la i v, r) := by
  unfold am_stA at h
  split at h
  · next v r =>
    split at h
    · next hi => exact ⟨v, r, rfl, hi.1, hi.2, (Option.some.inj h).symm⟩
    · cases h
  · cases h
theorem am_inc_spec {nx i : Nat} {n : Int} {la st : List Value} {q : am_P} (h : am_inc nx la st i n = some q) : ∃ x, la[i]? = some (.int x) ∧ q = (nx, am_s1 la i (.int (x + Int32.ofInt n)), st) := by
  unfold am_inc at h
  split at h
  · next x hx => exact ⟨x, hx, (Option.some.inj h).symm⟩
  · cases h
theorem am_bI_spec {f : Int32 → Int32 → Int32} {nx : Nat} {la st : List Value} {q : am_P} (h : am_bI f nx la st = some q) : ∃ x y r, st = .int y :: .int x :: r ∧ q = (nx, la, .int (f x y) :: r) := by
  unfold am_bI at h
  split at h
  · next y x r => exact ⟨x, y, r, rfl, (Option.some.inj h).symm⟩
  · cases h
theorem am_dI_spec {f : Int32 → Int32 → Int32} {nx : Nat} {la st : List Value} {q : am_P} (h : am_dI f nx la st = some q) : ∃ x y r, st = .int y :: .int x :: r ∧ ¬ y = 0 ∧ q = (nx, la, .int (f x y) :: r) := by
  unfold am_dI at h
  split at h
  · next y x r =>
    split at h
    · cases h
    · next hy => exact ⟨x, y, r, rfl, hy, (Option.some.inj h).symm⟩
  · cases h
theorem am_bL_spec {f : Int64 → Int64 → Int64} {nx : Nat} {la st : List Value} {q : am_P} (h : am_bL f nx la st = some q) : ∃ x y r, st = .long y :: .long x :: r ∧ q = (nx, la, .long (f x y) :: r) := by
  unfold am_bL at h
  split at h
  · next y x r => exact ⟨x, y, r, rfl, (Option.some.inj h).symm⟩
  · cases h
theorem am_dL_spec {f : Int64 → Int64 → Int64} {nx : Nat} {la st : List Value} {q : am_P} (h : am_dL f nx la st = some q) : ∃ x y r, st = .long y :: .long x :: r ∧ ¬ y = 0 ∧ q = (nx, la, .long (f x y) :: r) := by
  unfold am_dL at h
  split at h
  · next y x r =>
    split at h
    · cases h
    · next hy => exact ⟨x, y, r, rfl, hy, (Option.some.inj h).symm⟩
  · cases h
theorem am_uL_spec {nx : Nat} {la st : List Value} {q : am_P} (h : am_uL nx la st = some q) : ∃ x r, st = .long x :: r ∧ q = (nx, la, .long (-x) :: r) := by
  unfold am_uL at h
  split at h
  · next x r => exact ⟨x, r, rfl, (Option.some.inj h).symm⟩
  · cases h
theorem am_i2l_spec {nx : Nat} {la st : List Value} {q : am_P} (h : am_i2l nx la st = some q) : ∃ x r, st = .int x :: r ∧ q = (nx, la, .long x.toInt64 :: r) := by
  unfold am_i2l at h
  split at h
  · next x r => exact ⟨x, r, rfl, (Option.some.inj h).symm⟩
  · cases h
theorem am_cmp_spec {nx : Nat} {la st : List Value} {q : am_P} (h : am_cmp nx la st = some q) : ∃ x y r, st = .long y :: .long x :: r ∧ q = (nx, la, .int (lg_cmp x y) :: r) := by
  unfold am_cmp at h
  split at h
  · next y x r => exact ⟨x, y, r, rfl, (Option.some.inj h).symm⟩
  · cases h
theorem am_dup_spec {nx : Nat} {la st : List Value} {q : am_P} (h : am_dup nx la st = some q) : ∃ v r, st = v :: r ∧ v.category = 1 ∧ q = (nx, la, v :: v :: r) := by
  unfold am_dup at h
  split at h
  · next v r =>
    split at h
    · next hc => exact ⟨v, r, rfl, hc, (Option.some.inj h).symm⟩
    · cases h
  · cases h
theorem am_dup2_spec {nx : Nat} {la st : List Value} {q : am_P} (h : am_dup2 nx la st = some q) : ∃ v w r, st = v :: w :: r ∧ v.category = 1 ∧ w.category = 1 ∧ q = (nx, la, v :: w :: v :: w :: r) := by
  unfold am_dup2 at h
  split at h
  · next v w r =>
    split at h
    · next hc => exact ⟨v, w, r, rfl, hc.1, hc.2, (Option.some.inj h).symm⟩
    · cases h
  · cases h
theorem am_if0_spec {cd : ClassFile.Cond} {nx a : Nat} {la st : List Value} {q : am_P} (h : am_if0 cd nx a la st = some q) : ∃ x r, st = .int x :: r ∧ q = (if am_c0 cd x = true then a else nx, la, r) := by
  unfold am_if0 at h
  split at h
  · next x r => exact ⟨x, r, rfl, (Option.some.inj h).symm⟩
  · cases h
theorem am_if2_spec {cd : ClassFile.Cond} {nx a : Nat} {la st : List Value} {q : am_P} (h : am_if2 cd nx a la st = some q) : ∃ x y r, st = .int y :: .int x :: r ∧ q = (if am_c2 cd x y = true then a else nx, la, r) := by
  unfold am_if2 at h
  split at h
  · next y x r => exact ⟨x, y, r, rfl, (Option.some.inj h).symm⟩
  · cases h
theorem am_nul_spec {nx a : Nat} {la st : List Value} {q : am_P} (h : am_nul nx a la st = some q) : (∃ r, st = .null :: r ∧ q = (a, la, r)) ∨ ∃ i r, st = .ref i :: r ∧ q = (nx, la, r) := by
  unfold am_nul at h
  split at h
  · next r => exact Or.inl ⟨r, rfl, (Option.some.inj h).symm⟩
  · next i r => exact Or.inr ⟨i, r, rfl, (Option.some.inj h).symm⟩
  · cases h
theorem am_nnul_spec {nx a : Nat} {la st : List Value} {q : am_P} (h : am_nnul nx a la st = some q) : (∃ r, st = .null :: r ∧ q = (nx, la, r)) ∨ ∃ i r, st = .ref i :: r ∧ q = (a, la, r) := by
  unfold am_nnul at h
  split at h
  · next r => exact Or.inl ⟨r, rfl, (Option.some.inj h).symm⟩
  · next i r => exact Or.inr ⟨i, r, rfl, (Option.some.inj h).symm⟩
  · cases h
section AMP
variable {p : Program} {l : Launch} {e : Env} {R : Room} {s : State} {m : MethodId} {args : Array Value} {below : List Frame} {meth : Method} {c : Code} {H : Heap} {locs : List Loc} {cells slots : Nat} {Q : State → Prop}
variable {cc : ByteArray} {pc : Nat} {ls : Array Slot} {h0 b : Nat} {la st : List Value}
theorem am_ldA_ok (hx : p.tables.exec = Jvm.exec) (hb : c.code = cc) (hL : am_L h0 b ls la) {i : Nat} {v : Value} (hv : la[i]? = some v) (hr : am_isR v = true) (hd : decode cc pc = .ok (.aload i, 2)) (kk : W p l e R s m args below meth c H locs cells slots Q (F0 m (pc + 2) ls (am_tv h0 b v :: st))) : W p l e R s m args below meth c H locs cells slots Q (F0 m pc ls st) := by
  cases v with
  | ref x => exact lv_aload hx hb hd (hL.2.2 i _ hv (by simp [am_U])) kk
  | null => exact lv_aloadN hx hb hd (hL.2.2 i _ hv (by simp [am_U])) kk
  | retAddr x => exact lv_aload hx hb hd (hL.2.2 i _ hv (by simp [am_U])) kk
  | _ => cases hr
theorem am_ldAn_ok (hx : p.tables.exec = Jvm.exec) (hb : c.code = cc) (hL : am_L h0 b ls la) {i : Fin 4} {v : Value} (hv : la[(i : Nat)]? = some v) (hr : am_isR v = true) (hd : decode cc pc = .ok (.aload_n i, 1)) (kk : W p l e R s m args below meth c H locs cells slots Q (F0 m (pc + 1) ls (am_tv h0 b v :: st))) : W p l e R s m args below meth c H locs cells slots Q (F0 m pc ls st) := by
  cases v with
  | ref x => exact lv_aload_n hx hb hd rfl (hL.2.2 i _ hv (by simp [am_U])) kk
  | null => exact lv_aload_nN hx hb hd rfl (hL.2.2 i _ hv (by simp [am_U])) kk
  | retAddr x => exact lv_aload_n hx hb hd rfl (hL.2.2 i _ hv (by simp [am_U])) kk
  | _ => cases hr
theorem am_stA_ok (hx : p.tables.exec = Jvm.exec) (hb : c.code = cc) (hL : am_L h0 b ls la) {i : Nat} {v : Value} (hi : i < la.length) (hr : am_isR v = true) (hd : decode cc pc = .ok (.astore i, 2)) (kk : ∀ ls' : Array Slot, am_L h0 b ls' (am_s1 la i v) → W p l e R s m args below meth c H locs cells slots Q (F0 m (pc + 2) ls' st)) : W p l e R s m args below meth c H locs cells slots Q (F0 m pc ls (am_tv h0 b v :: st)) := by
  cases v with
  | ref x => exact lv_astore hx hb hd (am_L_has hL) hi rfl (fun ls' h' => kk ls' (am_L_s1 h'))
  | null => exact lv_astoreN hx hb hd (am_L_has hL) hi rfl (fun ls' h' => kk ls' (am_L_s1 h'))
  | retAddr x => exact lv_astore hx hb hd (am_L_has hL) hi rfl (fun ls' h' => kk ls' (am_L_s1 (v := .retAddr x) h'))
  | _ => cases hr
theorem am_stAn_ok (hx : p.tables.exec = Jvm.exec) (hb : c.code = cc) (hL : am_L h0 b ls la) {i : Fin 4} {v : Value} (hi : (i : Nat) < la.length) (hr : am_isR v = true) (hd : decode cc pc = .ok (.astore_n i, 1)) (kk : ∀ ls' : Array Slot, am_L h0 b ls' (am_s1 la i v) → W p l e R s m args below meth c H locs cells slots Q (F0 m (pc + 1) ls' st)) : W p l e R s m args below meth c H locs cells slots Q (F0 m pc ls (am_tv h0 b v :: st)) := by
  cases v with
  | ref x => exact lv_astore_n hx hb hd rfl (am_L_has hL) hi rfl (fun ls' h' => kk ls' (am_L_s1 h'))
  | null => exact lv_astore_nN hx hb hd rfl (am_L_has hL) hi rfl (fun ls' h' => kk ls' (am_L_s1 h'))
  | retAddr x => exact lv_astore_n hx hb hd rfl (am_L_has hL) hi rfl (fun ls' h' => kk ls' (am_L_s1 (v := .retAddr x) h'))
  | _ => cases hr
theorem am_if0_ok (hx : p.tables.exec = Jvm.exec) (hb : c.code = cc) {cd : ClassFile.Cond} {o : Int} {a : Nat} {x : Int32} (hd : decode cc pc = .ok (.ifCond cd o, 3)) (ht : (pc : Int) + o = (a : Int)) (kk : W p l e R s m args below meth c H locs cells slots Q (F0 m (if am_c0 cd x = true then a else pc + 3) ls st)) : W p l e R s m args below meth c H locs cells slots Q (F0 m pc ls (.int x :: st)) := by
  have kt : am_c0 cd x = true → W p l e R s m args below meth c H locs cells slots Q (F0 m a ls st) := fun h => by rw [if_pos h] at kk; exact kk
  have kf : ¬ am_c0 cd x = true → W p l e R s m args below meth c H locs cells slots Q (F0 m (pc + 3) ls st) := fun h => by rw [if_neg h] at kk; exact kk
  cases cd with
  | eq => exact lv_if_eq hx hb hd ht (fun h => kt (by simp [am_c0, h])) (fun h => kf (by simp [am_c0, h]))
  | ne => exact lv_if_ne hx hb hd ht (fun h => kt (by simp [am_c0, h])) (fun h => kf (by simp [am_c0, h]))
  | lt => exact lv_if_lt hx hb hd ht (fun h => kt (by simp only [am_c0, decide_eq_true_eq]; exact h)) (fun h => kf (by simp only [am_c0, decide_eq_true_eq]; exact h))
  | ge => exact lv_if_ge hx hb hd ht (fun h => kt (by simp only [am_c0, decide_eq_true_eq]; exact h)) (fun h => kf (by simp only [am_c0, decide_eq_true_eq]; exact h))
  | gt => exact lv_if_gt hx hb hd ht (fun h => kt (by simp only [am_c0, decide_eq_true_eq]; exact h)) (fun h => kf (by simp only [am_c0, decide_eq_true_eq]; exact h))
  | le => exact lv_if_le hx hb hd ht (fun h => kt (by simp only [am_c0, decide_eq_true_eq]; exact h)) (fun h => kf (by simp only [am_c0, decide_eq_true_eq]; exact h))
theorem am_if2_ok (hx : p.tables.exec = Jvm.exec) (hb : c.code = cc) {cd : ClassFile.Cond} {o : Int} {a : Nat} {x y : Int32} (hd : decode cc pc = .ok (.if_icmp cd o, 3)) (ht : (pc : Int) + o = (a : Int)) (kk : W p l e R s m args below meth c H locs cells slots Q (F0 m (if am_c2 cd x y = true then a else pc + 3) ls st)) : W p l e R s m args below meth c H locs cells slots Q (F0 m pc ls (.int y :: .int x :: st)) := by
  have kt : am_c2 cd x y = true → W p l e R s m args below meth c H locs cells slots Q (F0 m a ls st) := fun h => by rw [if_pos h] at kk; exact kk
  have kf : ¬ am_c2 cd x y = true → W p l e R s m args below meth c H locs cells slots Q (F0 m (pc + 3) ls st) := fun h => by rw [if_neg h] at kk; exact kk
  cases cd with
  | eq => exact lv_icmp_eq hx hb hd ht (fun h => kt (by simp only [am_c2, decide_eq_true_eq]; exact h)) (fun h => kf (by simp only [am_c2, decide_eq_true_eq]; exact h))
  | ne => exact lv_icmp_ne hx hb hd ht (fun h => kt (by simp only [am_c2, decide_eq_true_eq]; exact h)) (fun h => kf (by simp only [am_c2, decide_eq_true_eq]; exact fun g => g h))
  | lt => exact lv_icmp_lt hx hb hd ht (fun h => kt (by simp only [am_c2, decide_eq_true_eq]; exact h)) (fun h => kf (by simp only [am_c2, decide_eq_true_eq]; exact h))
  | ge => exact lv_icmp_ge hx hb hd ht (fun h => kt (by simp only [am_c2, decide_eq_true_eq]; exact h)) (fun h => kf (by simp only [am_c2, decide_eq_true_eq]; exact h))
  | gt => exact lv_icmp_gt hx hb hd ht (fun h => kt (by simp only [am_c2, decide_eq_true_eq]; exact h)) (fun h => kf (by simp only [am_c2, decide_eq_true_eq]; exact h))
  | le => exact lv_icmp_le hx hb hd ht (fun h => kt (by simp only [am_c2, decide_eq_true_eq]; exact h)) (fun h => kf (by simp only [am_c2, decide_eq_true_eq]; exact h))
theorem am_tsw_ok (hx : p.tables.exec = Jvm.exec) (hb : c.code = cc) {d lo hi : Int} {offs : Array Int} {ln : Nat} {q : am_P} (hd : decode cc pc = .ok (.tableswitch d lo hi offs, ln)) (h : am_tsw pc d lo hi offs la st = some q) (kk : q.2.1 = la → W p l e R s m args below meth c H locs cells slots Q (F0 m q.1 ls (q.2.2.map (am_tv h0 b)))) : W p l e R s m args below meth c H locs cells slots Q (F0 m pc ls (st.map (am_tv h0 b))) := by
  unfold am_tsw at h
  split at h
  · next x r =>
    split at h
    · next ho =>
      split at h
      · next hz =>
        have h := Option.some.inj h
        subst h
        exact lv_tableOut hx hb hd ho (tgt := ((pc : Int) + d).toNat) (by omega) (kk rfl)
      · cases h
    · next ho =>
      split at h
      · next o hoo =>
        split at h
        · next hz =>
          have h := Option.some.inj h
          subst h
          exact lv_tableIn hx hb hd (fun z => ho (Or.inl z)) (fun z => ho (Or.inr z)) hoo (tgt := ((pc : Int) + o).toNat) (by omega) (kk rfl)
        · cases h
      · cases h
  · cases h
theorem am_lsw_ok (hx : p.tables.exec = Jvm.exec) (hb : c.code = cc) {d : Int} {ps : Array (Int × Int)} {ln : Nat} {q : am_P} (hd : decode cc pc = .ok (.lookupswitch d ps, ln)) (h : am_lsw pc d ps la st = some q) (kk : q.2.1 = la → W p l e R s m args below meth c H locs cells slots Q (F0 m q.1 ls (q.2.2.map (am_tv h0 b)))) : W p l e R s m args below meth c H locs cells slots Q (F0 m pc ls (st.map (am_tv h0 b))) := by
  unfold am_lsw at h
  split at h
  · next x r =>
    split at h
    · next ho =>
      have h := Option.some.inj h
      subst h
      exact lv_lookup hx hb hd ho.1 rfl (tgt := ((pc : Int) + Op.lookupswitch.offset ps.toList d x.toInt).toNat) (by omega) (kk rfl)
    · cases h
  · cases h
set_option maxHeartbeats 4000000 in
theorem am_pure_ok {t : am_T} {ins : Instr} {nx a bb hh : Nat} {q : am_P} (hx : p.tables.exec = Jvm.exec) (hb : c.code = t.2.1) (hown : s.vm.findClass t.1.cls = some m.cls) (hts : ∀ w ∈ am_Ts, w.before args s = true) (hL : am_L h0 b ls la)
    (hE : am_okE t (pc, ins, nx, a, bb, hh) = true) (h : am_pure ins pc nx a la st = some q) (kk : ∀ ls' : Array Slot, am_L h0 b ls' q.2.1 → W p l e R s m args below meth c H locs cells slots Q (F0 m q.1 ls' (q.2.2.map (am_tv h0 b)))) : W p l e R s m args below meth c H locs cells slots Q (F0 m pc ls (st.map (am_tv h0 b))) := by
  simp only [am_okE, Bool.and_eq_true, Bool.or_eq_true, decide_eq_true_eq] at hE
  obtain ⟨⟨hd, hlen⟩, hl⟩ := hE
  have key : am_len ins ≠ 0 → nx = pc + am_len ins ∧ decode t.2.1 pc = .ok (ins, am_len ins) := fun hz => by
    rcases hlen with h1 | h1
    · exact absurd h1 hz
    · refine ⟨h1, ?_⟩
      rw [hd, h1]
      congr 2
      omega
  cases ins
  case iconst n =>
    obtain ⟨rfl, hdd⟩ := key (by simp [am_len])
    cases h
    exact lv_iconst hx hb hdd rfl (kk ls hL)
  case bipush n =>
    obtain ⟨rfl, hdd⟩ := key (by simp [am_len])
    cases h
    exact lv_bipush hx hb hdd rfl (kk ls hL)
  case sipush n =>
    obtain ⟨rfl, hdd⟩ := key (by simp [am_len])
    cases h
    exact lv_sipush hx hb hdd rfl (kk ls hL)
  case lconst n =>
    obtain ⟨rfl, hdd⟩ := key (by simp [am_len])
    cases h
    exact lv_lconst hx hb hdd rfl (kk ls hL)
  case aconst_null =>
    obtain ⟨rfl, hdd⟩ := key (by simp [am_len])
    cases h
    exact lv_null hx hb hdd (kk ls hL)
  case ldc2_w ix =>
    obtain ⟨rfl, hdd⟩ := key (by simp [am_len])
    cases h
    exact lv_ldc2 hx hb hown (hts _ (am_has_spec hl)) hdd (kk ls hL)
  case iload i =>
    obtain ⟨rfl, hdd⟩ := key (by simp [am_len])
    obtain ⟨x, h1, rfl⟩ := am_ldI_spec h
    exact lv_iload hx hb hdd (hL.2.2 i _ h1 (by simp [am_U])) (kk ls hL)
  case iload_n i =>
    obtain ⟨rfl, hdd⟩ := key (by simp [am_len])
    obtain ⟨x, h1, rfl⟩ := am_ldI_spec h
    exact lv_iload_n hx hb hdd rfl (hL.2.2 i _ h1 (by simp [am_U])) (kk ls hL)
  case lload i =>
    obtain ⟨rfl, hdd⟩ := key (by simp [am_len])
    obtain ⟨x, h1, rfl⟩ := am_ldL_spec h
    exact lv_lload hx hb hdd (hL.2.2 i _ h1 (by simp [am_U])) (kk ls hL)
  case lload_n i =>
    obtain ⟨rfl, hdd⟩ := key (by simp [am_len])
    obtain ⟨x, h1, rfl⟩ := am_ldL_spec h
    exact lv_lload_n hx hb hdd rfl (hL.2.2 i _ h1 (by simp [am_U])) (kk ls hL)
  case aload i =>
    obtain ⟨rfl, hdd⟩ := key (by simp [am_len])
    obtain ⟨x, h1, h2, rfl⟩ := am_ldA_spec h
    exact am_ldA_ok hx hb hL h1 h2 hdd (kk ls hL)
  case aload_n i =>
    obtain ⟨rfl, hdd⟩ := key (by simp [am_len])
    obtain ⟨x, h1, h2, rfl⟩ := am_ldA_spec h
    exact am_ldAn_ok hx hb hL h1 h2 hdd (kk ls hL)
  case istore i =>
    obtain ⟨rfl, hdd⟩ := key (by simp [am_len])
    obtain ⟨x, r, rfl, h1, rfl⟩ := am_stI_spec h
    exact lv_istore hx hb hdd (am_L_has hL) h1 rfl (fun ls' h' => kk ls' (am_L_s1 h'))
  case istore_n i =>
    obtain ⟨rfl, hdd⟩ := key (by simp [am_len])
    obtain ⟨x, r, rfl, h1, rfl⟩ := am_stI_spec h
    exact lv_istore_n hx hb hdd rfl (am_L_has hL) h1 rfl (fun ls' h' => kk ls' (am_L_s1 h'))
  case lstore i =>
    obtain ⟨rfl, hdd⟩ := key (by simp [am_len])
    obtain ⟨x, r, rfl, h1, rfl⟩ := am_stL_spec h
    exact lv_lstore hx hb hdd (am_L_has hL) h1 rfl (fun ls' h' => kk ls' (am_L_s2 h1 h'))
  case lstore_n i =>
    obtain ⟨rfl, hdd⟩ := key (by simp [am_len])
    obtain ⟨x, r, rfl, h1, rfl⟩ := am_stL_spec h
    exact lv_lstore_n hx hb hdd rfl (am_L_has hL) h1 rfl (fun ls' h' => kk ls' (am_L_s2 h1 h'))
  case astore i =>
    obtain ⟨rfl, hdd⟩ := key (by simp [am_len])
    obtain ⟨v, r, rfl, h1, h2, rfl⟩ := am_stA_spec h
    exact am_stA_ok hx hb hL h1 h2 hdd kk
  case astore_n i =>
    obtain ⟨rfl, hdd⟩ := key (by simp [am_len])
    obtain ⟨v, r, rfl, h1, h2, rfl⟩ := am_stA_spec h
    exact am_stAn_ok hx hb hL h1 h2 hdd kk
  case iinc i n =>
    obtain ⟨rfl, hdd⟩ := key (by simp [am_len])
    obtain ⟨x, h1, rfl⟩ := am_inc_spec h
    have hm : (i, Value.int x) ∈ am_al h0 b la := am_al_mem (v := .int x) h1 (by simp [am_U])
    obtain ⟨k, hk⟩ := List.getElem?_of_mem hm
    exact lv_iinc hx hb hdd (am_L_has hL) hk rfl (List.getElem?_eq_some_iff.mp h1).1 rfl (fun ls' h' => kk ls' (am_L_s1 h'))
  case iadd =>
    obtain ⟨rfl, hdd⟩ := key (by simp [am_len])
    obtain ⟨x, y, r, rfl, rfl⟩ := am_bI_spec h
    exact lv_iadd hx hb hdd (kk ls hL)
  case isub =>
    obtain ⟨rfl, hdd⟩ := key (by simp [am_len])
    obtain ⟨x, y, r, rfl, rfl⟩ := am_bI_spec h
    exact lv_isub hx hb hdd (kk ls hL)
  case imul =>
    obtain ⟨rfl, hdd⟩ := key (by simp [am_len])
    obtain ⟨x, y, r, rfl, rfl⟩ := am_bI_spec h
    exact lv_imul hx hb hdd (kk ls hL)
  case iand =>
    obtain ⟨rfl, hdd⟩ := key (by simp [am_len])
    obtain ⟨x, y, r, rfl, rfl⟩ := am_bI_spec h
    exact lv_iand hx hb hdd (kk ls hL)
  case ior =>
    obtain ⟨rfl, hdd⟩ := key (by simp [am_len])
    obtain ⟨x, y, r, rfl, rfl⟩ := am_bI_spec h
    exact lv_ior hx hb hdd (kk ls hL)
  case ixor =>
    obtain ⟨rfl, hdd⟩ := key (by simp [am_len])
    obtain ⟨x, y, r, rfl, rfl⟩ := am_bI_spec h
    exact lv_ixor hx hb hdd (kk ls hL)
  case ishl =>
    obtain ⟨rfl, hdd⟩ := key (by simp [am_len])
    obtain ⟨x, y, r, rfl, rfl⟩ := am_bI_spec h
    exact lv_ishl hx hb hdd (kk ls hL)
  case ishr =>
    obtain ⟨rfl, hdd⟩ := key (by simp [am_len])
    obtain ⟨x, y, r, rfl, rfl⟩ := am_bI_spec h
    exact lv_ishr hx hb hdd (kk ls hL)
  case idiv =>
    obtain ⟨rfl, hdd⟩ := key (by simp [am_len])
    obtain ⟨x, y, r, rfl, hy, rfl⟩ := am_dI_spec h
    exact lv_idiv hx hb hdd hy (kk ls hL)
  case irem =>
    obtain ⟨rfl, hdd⟩ := key (by simp [am_len])
    obtain ⟨x, y, r, rfl, hy, rfl⟩ := am_dI_spec h
    exact lv_irem hx hb hdd hy (kk ls hL)
  case ladd =>
    obtain ⟨rfl, hdd⟩ := key (by simp [am_len])
    obtain ⟨x, y, r, rfl, rfl⟩ := am_bL_spec h
    exact lv_ladd hx hb hdd (kk ls hL)
  case lsub =>
    obtain ⟨rfl, hdd⟩ := key (by simp [am_len])
    obtain ⟨x, y, r, rfl, rfl⟩ := am_bL_spec h
    exact lv_lsub hx hb hdd (kk ls hL)
  case lmul =>
    obtain ⟨rfl, hdd⟩ := key (by simp [am_len])
    obtain ⟨x, y, r, rfl, rfl⟩ := am_bL_spec h
    exact lv_lmul hx hb hdd (kk ls hL)
  case lxor =>
    obtain ⟨rfl, hdd⟩ := key (by simp [am_len])
    obtain ⟨x, y, r, rfl, rfl⟩ := am_bL_spec h
    exact lv_lxor hx hb hdd (kk ls hL)
  case ldiv =>
    obtain ⟨rfl, hdd⟩ := key (by simp [am_len])
    obtain ⟨x, y, r, rfl, hy, rfl⟩ := am_dL_spec h
    exact lv_ldiv hx hb hdd hy (kk ls hL)
  case lrem =>
    obtain ⟨rfl, hdd⟩ := key (by simp [am_len])
    obtain ⟨x, y, r, rfl, hy, rfl⟩ := am_dL_spec h
    exact lv_lrem hx hb hdd hy (kk ls hL)
  case lneg =>
    obtain ⟨rfl, hdd⟩ := key (by simp [am_len])
    obtain ⟨x, r, rfl, rfl⟩ := am_uL_spec h
    exact lv_lneg hx hb hdd (kk ls hL)
  case i2l =>
    obtain ⟨rfl, hdd⟩ := key (by simp [am_len])
    obtain ⟨x, r, rfl, rfl⟩ := am_i2l_spec h
    exact lv_i2l hx hb hdd rfl (kk ls hL)
  case lcmp =>
    obtain ⟨rfl, hdd⟩ := key (by simp [am_len])
    obtain ⟨x, y, r, rfl, rfl⟩ := am_cmp_spec h
    exact W.lcmp hx hb hdd (kk ls hL)
  case dup =>
    obtain ⟨rfl, hdd⟩ := key (by simp [am_len])
    obtain ⟨v, r, rfl, h1, rfl⟩ := am_dup_spec h
    exact lv_dup hx hb hdd (by rw [am_tv_cat]; exact h1) (kk ls hL)
  case dup2 =>
    obtain ⟨rfl, hdd⟩ := key (by simp [am_len])
    obtain ⟨v, w, r, rfl, h1, h2, rfl⟩ := am_dup2_spec h
    exact lv_dup2_11 hx hb hdd (by rw [am_tv_cat]; exact h1) (by rw [am_tv_cat]; exact h2) (kk ls hL)
  case goto o =>
    obtain ⟨rfl, hdd⟩ := key (by simp [am_len])
    cases h
    exact lv_goto hx hb hdd (of_decide_eq_true hl) (kk ls hL)
  case ifCond cd o =>
    obtain ⟨rfl, hdd⟩ := key (by simp [am_len])
    obtain ⟨x, r, rfl, rfl⟩ := am_if0_spec h
    exact am_if0_ok hx hb hdd (of_decide_eq_true hl) (kk ls hL)
  case if_icmp cd o =>
    obtain ⟨rfl, hdd⟩ := key (by simp [am_len])
    obtain ⟨x, y, r, rfl, rfl⟩ := am_if2_spec h
    exact am_if2_ok hx hb hdd (of_decide_eq_true hl) (kk ls hL)
  case ifnull o =>
    obtain ⟨rfl, hdd⟩ := key (by simp [am_len])
    rcases am_nul_spec h with ⟨r, rfl, rfl⟩ | ⟨i, r, rfl, rfl⟩
    · exact lv_ifnullN hx hb hdd (of_decide_eq_true hl) (kk ls hL)
    · exact lv_ifnull hx hb hdd (kk ls hL)
  case ifnonnull o =>
    obtain ⟨rfl, hdd⟩ := key (by simp [am_len])
    rcases am_nnul_spec h with ⟨r, rfl, rfl⟩ | ⟨i, r, rfl, rfl⟩
    · exact lv_ifnonnullN hx hb hdd (kk ls hL)
    · exact lv_ifnonnull hx hb hdd (of_decide_eq_true hl) (kk ls hL)
  case tableswitch d lo hi offs =>
    exact am_tsw_ok hx hb hd h (fun e => kk ls (by rw [e]; exact hL))
  case lookupswitch d ps =>
    exact am_lsw_ok hx hb hd h (fun e => kk ls (by rw [e]; exact hL))
  all_goals exact absurd h.symm (Option.some_ne_none _)
end AMP
