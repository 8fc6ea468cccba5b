/-! ===== an instruction that touches cells: the real machine follows the abstract one ===== -/
def am_c (M : am_M) : Nat := M.1.length
def am_z (M : am_M) : Nat := (M.1.map (fun q => q.2)).sum
theorem am_map_spec {o : Option (Nat × Nat)} {a : Nat} (h : o.map (fun q => q.1) = some a) : ∃ n, o = some (a, n) := by
  cases o with
  | none => cases h
  | some q => exact ⟨q.2, by rw [Option.map_some] at h; rw [← Option.some.inj h]⟩
theorem am_in_spec {M : am_M} {kd i : Nat} {j : Int32} (h : am_in M kd i j = true) : ∃ n, M.1[i]? = some (kd, n) ∧ ¬ (j < 0 ∨ n ≤ j.toNatClampNeg) := by
  unfold am_in at h
  split at h
  · next q hq =>
    have h := of_decide_eq_true h
    exact ⟨q.2, by rw [hq, ← h.1], h.2⟩
  · cases h
theorem am_kr_spec {M : am_M} {v : Nat} (h : 10 ≤ am_kr M v) : ∃ n, M.1[v]? = some (am_kr M v, n) := by
  unfold am_kr at h ⊢
  split at h
  · next q hq => exact ⟨q.2, by rw [hq]⟩
  · omega
section AMM
variable {p : Program} {l : Launch} {e : Env} {R : Room} {s : State} {m : MethodId} {args : Array Value} {below : List Frame} {meth : Method} {c : Code} {H : Heap} {locs : List Loc} {cells slots : Nat} {Q : State → Prop}
variable {pc : Nat} {ls : Array Slot} {h0 b : Nat} {la st : List Value} {H0 : Heap} {D : va_G} {cA : Nat → ClassId} {M : am_M} {t : am_T} {rs : List Value}
theorem am_at_obj {i a n : Nat} (hR : am_Rep h0 H0 D cA M H) (hi : M.1[i]? = some (a + 10, n)) : ∃ r : vw_C, vwCl[a]? = some r ∧ t_OB (h0 + i) (D.1 a) r.2.2 (D.2 a) H (am_cv h0 M i a) := by
  have h := hR.2.2 i _ hi
  unfold am_at at h
  rw [if_neg (show ¬ (a + 10 = 0) by omega), if_neg (show ¬ (a + 10 = 1) by omega), if_neg (show ¬ (a + 10 < 10) by omega), Nat.add_sub_cancel] at h
  exact h
theorem am_at_int {i n : Nat} (hR : am_Rep h0 H0 D cA M H) (hi : M.1[i]? = some (0, n)) : H[h0 + i]? = some (arrV (cA 0) n (fun j => .int (M.2.1 i j))) := by
  have h := hR.2.2 i _ hi
  unfold am_at at h
  rwa [if_pos rfl] at h
theorem am_at_long {i n : Nat} (hR : am_Rep h0 H0 D cA M H) (hi : M.1[i]? = some (1, n)) : H[h0 + i]? = some (arrV (cA 1) n (fun j => .long (M.2.2.1 i j))) := by
  have h := hR.2.2 i _ hi
  unfold am_at at h
  rwa [if_neg (by simp), if_pos rfl] at h
theorem am_at_ref {i n kd : Nat} (hR : am_Rep h0 H0 D cA M H) (hi : M.1[i]? = some (kd, n)) (h2 : 2 ≤ kd) (h5 : kd < 5) : H[h0 + i]? = some (arrV (cA kd) n (fun j => va_rf ((M.2.2.2 i j).map (fun z => h0 + z)))) := by
  have h := hR.2.2 i _ hi
  unfold am_at at h
  rwa [if_neg (show ¬ (kd = 0) by omega), if_neg (show ¬ (kd = 1) by omega), if_pos (show kd < 10 by omega)] at h
theorem am_tys_at {kd : Nat} (h2 : 2 ≤ kd) (h5 : kd < 5) : (am_tys cA)[kd]? = some (cA kd, .object (am_ra kd)) := by
  rcases (by omega : kd = 2 ∨ kd = 3 ∨ kd = 4) with rfl | rfl | rfl <;> rfl
theorem am_getf_ok (hx : p.tables.exec = Jvm.exec) (hb : c.code = t.2.1) (hown : s.vm.findClass t.1.cls = some m.cls) (hts : ∀ w ∈ am_Ts, w.before args s = true) (hK : am_Kn D cA s) (hR : am_Rep h0 H0 D cA M H)
    {ix a bb hh i n : Nat} (hd : decode t.2.1 pc = .ok (.getfield ix, 3)) (hl : am_okL t pc (.getfield ix) a bb hh = true) (hi : M.1[i]? = some (a + 10, n))
    (kk : W p l e R s m args below meth c H locs cells slots Q (F0 m (pc + 3) ls (am_tv h0 b (am_gv M i a bb) :: rs))) : W p l e R s m args below meth c H locs cells slots Q (F0 m pc ls (.ref (h0 + i) :: rs)) := by
  obtain ⟨q, hc, hO⟩ := am_at_obj hR hi
  simp only [am_okL, hc, Bool.and_eq_true, decide_eq_true_eq] at hl
  rw [am_tv_gv] at kk
  refine va_get (D := D) (cl := vwCl) (ws := [(h0 + i, .inr (a, (List.range q.2.2).map (am_cv h0 M i a)))]) hx hb hts (am_hin hc) hown hK.1 ?_ 0 rfl hc bb hl.1 (hts _ (am_has_spec hl.2)) (fun _ h => h) (v := am_cv h0 M i a bb) (by simp [hl.1]) hd kk
  intro k x hk
  have hz : k < 1 := (List.getElem?_eq_some_iff.mp hk).1
  rw [show k = 0 by omega] at hk
  cases hk
  exact ⟨q, hc, hO.to (fun k hk => by simp [vp_V, hk])⟩
theorem am_putf_ok (hx : p.tables.exec = Jvm.exec) (hb : c.code = t.2.1) (hown : s.vm.findClass t.1.cls = some m.cls) (hts : ∀ w ∈ am_Ts, w.before args s = true) (hin2 : t.1.name = "<init>" → meth.name = "<init>") (hK : am_Kn D cA s) (hR : am_Rep h0 H0 D cA M H) (hlo : ∀ q ∈ locs, h0 ≤ q.base)
    {ix a bb hh i n : Nat} {v : Value} {M' : am_M} (hd : decode t.2.1 pc = .ok (.putfield ix, 3)) (hl : am_okL t pc (.putfield ix) a bb hh = true) (hi : M.1[i]? = some (a + 10, n)) (hv : am_pv M i a bb v = some M')
    (kk : ∀ (H' : Heap) (locs' : List Loc), am_Rep h0 H0 D cA M' H' → (∀ q ∈ locs', h0 ≤ q.base) → W p l e R s m args below meth c H' locs' cells slots Q (F0 m (pc + 3) ls rs)) : W p l e R s m args below meth c H locs cells slots Q (F0 m pc ls (am_tv h0 b v :: .ref (h0 + i) :: rs)) := by
  obtain ⟨⟨C, T, N⟩, hc, cell, q1, q2, q3, q4⟩ := am_at_obj hR hi
  obtain ⟨v1, v2, v3, v4, v5, v6, v7⟩ := am_pv_spec (h0 := h0) (b := b) hv
  simp only [am_okL, hc, Bool.and_eq_true, decide_eq_true_eq, Bool.or_eq_true] at hl
  obtain ⟨⟨hk, hlk⟩, hfin⟩ := hl
  have hlink := hts _ (am_has_spec hlk)
  have hap := va_apart (own := t.1.cls) hts (am_hin hc) (am_ty a) (am_hty hc) (am_hnm hc) hK.1 hc
  obtain ⟨hS, hfc, kC, hkC, hkind⟩ := hK.1.1 a _ hc
  obtain ⟨cf, kf, fi, f, hf, hsl⟩ := hS bb hk
  have hty := am_hty hc bb hk
  have hst := (u_facts hfc hkC (u_lays hts (am_hin hc) hk) hf).1
  have hlay := hts _ (am_hin hc _ (u_in_lay hk))
  unfold u_lay at hlay
  have fin : ∀ H' : Heap, H'[h0 + i]? = some (cell.setSlot f.slot (am_tv h0 b v)) → H'.size = H.size → (∀ q, q ≠ h0 + i → H'[q]? = H[q]?) → am_Rep h0 H0 D cA M' H' := fun H' e1 e2 e3 => by
    refine am_Rep_upd hR v1 e2 e3 v2 v3 v4 (fun q hq => ?_)
    rw [hi] at hq
    have hq := Option.some.inj hq
    subst hq
    unfold am_at
    rw [if_neg (show ¬ (a + 10 = 0) by omega), if_neg (show ¬ (a + 10 = 1) by omega), if_neg (show ¬ (a + 10 < 10) by omega), Nat.add_sub_cancel]
    rw [hsl] at e1
    exact ⟨_, hc, t_OB.to (V := updV (am_cv h0 M i a) bb (am_tv h0 b v)) ⟨_, e1, q2, q3, t_set q4 hap hk _⟩ (fun j _ => v5 j)⟩
  have hlo' : ∀ q ∈ locs ++ [(⟨h0 + i, f.slot⟩ : Loc)], h0 ≤ q.base := fun q hq => by
    rcases List.mem_append.mp hq with h | h
    · exact hlo q h
    · rw [List.mem_singleton.mp h]
      exact Nat.le_add_right _ _
  rcases hfin with hfin | ⟨⟨hfin, hnm⟩, hdc⟩
  · rw [if_neg (by rw [hfin]; decide)] at hlay
    have h6 := u_store hfc hkC hkind hlay hf hty v6 v7
    exact W.putK hx hb (f := f) ⟨hown, hlink, ⟨_, _, _, hf⟩, hst⟩ (by rw [q2]; exact h6) q1 q3 (by rw [hsl]; exact k2_hasslot (q4 bb hk)) rfl rfl hd fun H' e1 e2 e3 => kk H' _ (fin H' e1 e2 e3) hlo'
  · rw [if_pos hfin] at hlay
    have hcf : m.cls = cf := by
      obtain ⟨_, _, c', _, _, _, -, -, hf', -, -, -, hown2, -⟩ := Cond.laysFinal_spec hlay
      have e1 : c' = cf := by have := hf.symm.trans hf'; simp at this; exact this.1.symm
      rw [hdc] at hown2
      rw [← e1]; exact Option.some.inj (hown.symm.trans hown2)
    have h6 := u_fits hfc hkC hkind (Or.inr hlay) hf hty v6 v7
    exact W.putFinK hx hb hown hlink hf hst hcf (hin2 hnm) (by rw [q2]; exact h6) q1 q3 (by rw [hsl]; exact k2_hasslot (q4 bb hk)) rfl rfl hd fun H' e1 e2 e3 => kk H' _ (fin H' e1 e2 e3) hlo'
theorem am_store_ok (hR : am_Rep h0 H0 D cA M H) {i : Nat} {q : Nat × Nat} (hi : M.1[i]? = some q) {M' : am_M} (v1 : M'.1 = M.1) (v2 : ∀ j, j ≠ i → M'.2.1 j = M.2.1 j) (v3 : ∀ j, j ≠ i → M'.2.2.1 j = M.2.2.1 j) (v4 : ∀ j, j ≠ i → M'.2.2.2 j = M.2.2.2 j) {H' : Heap} (ha : am_at h0 D cA M' H' i q) (e2 : H'.size = H.size) (e3 : ∀ q, q ≠ h0 + i → H'[q]? = H[q]?) : am_Rep h0 H0 D cA M' H' := by
  refine am_Rep_upd hR v1 e2 e3 v2 v3 v4 (fun q' hq => ?_)
  rw [hi] at hq
  have hq := Option.some.inj hq
  subst hq
  exact ha
theorem am_lo' {i j : Nat} (hlo : ∀ q ∈ locs, h0 ≤ q.base) : ∀ q ∈ locs ++ [(⟨h0 + i, j⟩ : Loc)], h0 ≤ q.base := fun q hq => by
  rcases List.mem_append.mp hq with h | h
  · exact hlo q h
  · rw [List.mem_singleton.mp h]
    exact Nat.le_add_right _ _
theorem am_iast_ok (hx : p.tables.exec = Jvm.exec) (hb : c.code = t.2.1) (hK : am_Kn D cA s) (hR : am_Rep h0 H0 D cA M H) (hlo : ∀ q ∈ locs, h0 ≤ q.base) {i n : Nat} {j x : Int32} (hd : decode t.2.1 pc = .ok (.iastore, 1)) (hi : M.1[i]? = some (0, n)) (hin : ¬ (j < 0 ∨ n ≤ j.toNatClampNeg))
    (kk : ∀ (H' : Heap) (locs' : List Loc), am_Rep h0 H0 D cA (M.1, am_u M.2.1 i j.toNatClampNeg x, M.2.2.1, M.2.2.2) H' → (∀ q ∈ locs', h0 ≤ q.base) → W p l e R s m args below meth c H' locs' cells slots Q (F0 m (pc + 1) ls rs)) : W p l e R s m args below meth c H locs cells slots Q (F0 m pc ls (.int x :: .int j :: .ref (h0 + i) :: rs)) := by
  have ha := am_at_int hR hi
  refine W.iast hx hb ha ((hK.1.2 0 (cA 0, .int) rfl).1 n _) (fun h => by cases h) (by rw [arrV_size]; exact hin) rfl rfl hd fun H' e1 e2 e3 => kk H' _ (am_store_ok (M' := (M.1, am_u M.2.1 i j.toNatClampNeg x, M.2.2.1, M.2.2.2)) hR hi rfl (fun _ hj => va_up_ne _ _ hj) (fun _ _ => rfl) (fun _ _ => rfl) ?_ e2 e3) (am_lo' hlo)
  unfold am_at
  rw [if_pos rfl, e1, arrV_store]
  congr 2
  funext z
  by_cases hz : z = j.toNatClampNeg
  · subst hz
    simp [updV, am_u, va_up]
  · simp [updV, am_u, va_up, hz]
theorem am_last_ok (hx : p.tables.exec = Jvm.exec) (hb : c.code = t.2.1) (hK : am_Kn D cA s) (hR : am_Rep h0 H0 D cA M H) (hlo : ∀ q ∈ locs, h0 ≤ q.base) {i n : Nat} {j : Int32} {x : Int64} (hd : decode t.2.1 pc = .ok (.lastore, 1)) (hi : M.1[i]? = some (1, n)) (hin : ¬ (j < 0 ∨ n ≤ j.toNatClampNeg))
    (kk : ∀ (H' : Heap) (locs' : List Loc), am_Rep h0 H0 D cA (M.1, M.2.1, am_u M.2.2.1 i j.toNatClampNeg x, M.2.2.2) H' → (∀ q ∈ locs', h0 ≤ q.base) → W p l e R s m args below meth c H' locs' cells slots Q (F0 m (pc + 1) ls rs)) : W p l e R s m args below meth c H locs cells slots Q (F0 m pc ls (.long x :: .int j :: .ref (h0 + i) :: rs)) := by
  have ha := am_at_long hR hi
  refine W.last hx hb ha ((hK.1.2 1 (cA 1, .long) rfl).1 n _) (fun h => by cases h) (by rw [arrV_size]; exact hin) rfl rfl hd fun H' e1 e2 e3 => kk H' _ (am_store_ok (M' := (M.1, M.2.1, am_u M.2.2.1 i j.toNatClampNeg x, M.2.2.2)) hR hi rfl (fun _ _ => rfl) (fun _ hj => va_up_ne _ _ hj) (fun _ _ => rfl) ?_ e2 e3) (am_lo' hlo)
  unfold am_at
  rw [if_neg (by simp), if_pos rfl, e1, arrV_store]
  congr 2
  funext z
  by_cases hz : z = j.toNatClampNeg
  · subst hz
    simp [updV, am_u, va_up]
  · simp [updV, am_u, va_up, hz]
theorem am_aast_ok (hx : p.tables.exec = Jvm.exec) (hb : c.code = t.2.1) (hK : am_Kn D cA s) (hR : am_Rep h0 H0 D cA M H) (hlo : ∀ q ∈ locs, h0 ≤ q.base) {i n v kd kv nv : Nat} {j : Int32} (hd : decode t.2.1 pc = .ok (.aastore, 1)) (hi : M.1[i]? = some (kd, n)) (h2 : 2 ≤ kd) (h5 : kd < 5) (hin : ¬ (j < 0 ∨ n ≤ j.toNatClampNeg)) (hv : M.1[v]? = some (kv + 10, nv)) {r : vw_C} (hr : vwCl[kv]? = some r) (hra : r.1 = am_ra kd)
    (kk : ∀ (H' : Heap) (locs' : List Loc), am_Rep h0 H0 D cA (M.1, M.2.1, M.2.2.1, am_u M.2.2.2 i j.toNatClampNeg (some v)) H' → (∀ q ∈ locs', h0 ≤ q.base) → W p l e R s m args below meth c H' locs' cells slots Q (F0 m (pc + 1) ls rs)) : W p l e R s m args below meth c H locs cells slots Q (F0 m pc ls (.ref (h0 + v) :: .int j :: .ref (h0 + i) :: rs)) := by
  have ha := am_at_ref hR hi h2 h5
  obtain ⟨r', hr', cellV, g1, g2, g3, -⟩ := am_at_obj hR hv
  have hcls := (hK.1.1 kv r hr).2
  obtain ⟨kA, comp, k1, k2, k3, -⟩ := (hK.1.2 kd _ (am_tys_at h2 h5)).2
  rw [← hra] at k3
  have hcomp : comp = D.1 kv := Option.some.inj (k3.symm.trans hcls.1)
  subst hcomp
  obtain ⟨kC, hkC, -⟩ := hcls.2
  have hlt : j.toNatClampNeg < n := Nat.not_le.mp fun q => hin (Or.inr q)
  refine W.aast hx hb ha (fun q h => by cases h) (fun h => by cases h) k1 k2 rfl hkC ⟨fun q => hin (Or.inl q), by rw [arrV_size]; exact hlt⟩ g1 (fun q h => by rw [g3] at h; cases h) (by rw [g2]; exact hkC) (by rw [g2]; exact va_assign hcls) rfl rfl hd fun H' e1 e2 e3 => kk H' _ (am_store_ok (M' := (M.1, M.2.1, M.2.2.1, am_u M.2.2.2 i j.toNatClampNeg (some v))) hR hi rfl (fun _ _ => rfl) (fun _ _ => rfl) (fun _ hj => va_up_ne _ _ hj) ?_ e2 e3) (am_lo' hlo)
  unfold am_at
  rw [if_neg (show ¬ (kd = 0) by omega), if_neg (show ¬ (kd = 1) by omega), if_pos (show kd < 10 by omega), e1, arrV_store]
  congr 2
  funext z
  by_cases hz : z = j.toNatClampNeg
  · subst hz
    simp [updV, am_u, va_up, va_rf]
  · simp [updV, am_u, va_up, hz]
theorem am_newO_ok (hx : p.tables.exec = Jvm.exec) (hb : c.code = t.2.1) (hown : s.vm.findClass t.1.cls = some m.cls) (hts : ∀ w ∈ am_Ts, w.before args s = true) (hK : am_Kn D cA s) (hR : am_Rep h0 H0 D cA M H)
    {ix a bb hh : Nat} {q : vw_C} (hd : decode t.2.1 pc = .ok (.new ix, 3)) (hl : am_okL t pc (.new ix) a bb hh = true) (hq : vwCl[a - 10]? = some q) (ha : 10 ≤ a) (hcells : cells + 1 ≤ R.cells) (hslots : slots + q.2.2 ≤ R.slots)
    (kk : ∀ (H' : Heap), am_Rep h0 H0 D cA (am_new M a q.2.2) H' → W p l e R s m args below meth c H' locs (cells + 1) (slots + q.2.2) Q (F0 m (pc + 3) ls (.ref (h0 + M.1.length) :: rs))) : W p l e R s m args below meth c H locs cells slots Q (F0 m pc ls rs) := by
  simp only [am_okL, hq, Bool.and_eq_true] at hl
  have hm := List.all_eq_true.mp am_made q (List.mem_of_getElem? hq)
  simp only [Bool.and_eq_true, decide_eq_true_eq] at hm
  have hKn := hK.1.1 _ _ hq
  refine W.newcK hx hb hown (hts _ (am_has_spec hl.2)) (hts _ hm.1) (hts _ hm.2) rfl hd hcells hslots hKn.2.1 hR.1 fun H1 kC hkC e1 z1 o1 => kk H1 (am_Rep_new hR (by rw [z1, hR.1]) (fun x hx => o1 x (by rw [← hR.1]; exact hx)) ?_)
  unfold am_at
  rw [if_neg (show ¬ (a = 0) by omega), if_neg (show ¬ (a = 1) by omega), if_neg (show ¬ (a < 10) by omega)]
  refine ⟨q, hq, (u_born (am_ty (a - 10)) hts (am_hin hq) hKn hkC e1 (am_hty hq)).to (fun k hk => ?_)⟩
  rw [← am_dflt (am_kind hq hk) h0]
  simp [am_cv, am_new, va_up]
theorem am_newI_ok (hx : p.tables.exec = Jvm.exec) (hb : c.code = t.2.1) (hts : ∀ w ∈ am_Ts, w.before args s = true) (hK : am_Kn D cA s) (hR : am_Rep h0 H0 D cA M H)
    {n : Int32} (hd : decode t.2.1 pc = .ok (.newarray .int, 2)) (hn : ¬ n < 0) (hn2 : n.toNatClampNeg ≤ 1000) (hcells : cells + 1 ≤ R.cells) (hslots : slots + n.toNatClampNeg ≤ R.slots)
    (kk : ∀ (H' : Heap), am_Rep h0 H0 D cA (am_new M 0 n.toNatClampNeg) H' → W p l e R s m args below meth c H' locs (cells + 1) (slots + n.toNatClampNeg) Q (F0 m (pc + 2) ls (.ref (h0 + M.1.length) :: rs))) : W p l e R s m args below meth c H locs cells slots Q (F0 m pc ls (.int n :: rs)) := by
  refine va_newaK (atype := .int) hx hb (hts _ am_w0.1) rfl hd rfl hn rfl (Nat.le_trans (Nat.mul_le_mul_right _ hn2) (by decide)) hcells hslots hR.1 fun H1 cB e1 z1 o1 hAr hNm => kk H1 (am_Rep_new hR (by rw [z1, hR.1]) (fun x hx => o1 x (by rw [← hR.1]; exact hx)) ?_)
  have hc : cB = cA 0 := Option.some.inj (hNm.symm.trans (hK.1.2 0 (cA 0, .int) rfl).2)
  subst hc
  unfold am_at
  rw [if_pos rfl, e1]
  simp [am_new, va_up]
  rfl
theorem am_newL_ok (hx : p.tables.exec = Jvm.exec) (hb : c.code = t.2.1) (hts : ∀ w ∈ am_Ts, w.before args s = true) (hK : am_Kn D cA s) (hR : am_Rep h0 H0 D cA M H)
    {n : Int32} (hd : decode t.2.1 pc = .ok (.newarray .long, 2)) (hn : ¬ n < 0) (hn2 : n.toNatClampNeg ≤ 1000) (hcells : cells + 1 ≤ R.cells) (hslots : slots + n.toNatClampNeg ≤ R.slots)
    (kk : ∀ (H' : Heap), am_Rep h0 H0 D cA (am_new M 1 n.toNatClampNeg) H' → W p l e R s m args below meth c H' locs (cells + 1) (slots + n.toNatClampNeg) Q (F0 m (pc + 2) ls (.ref (h0 + M.1.length) :: rs))) : W p l e R s m args below meth c H locs cells slots Q (F0 m pc ls (.int n :: rs)) := by
  refine va_newaK (atype := .long) hx hb (hts _ am_w0.2.1) rfl hd rfl hn rfl (Nat.le_trans (Nat.mul_le_mul_right _ hn2) (by decide)) hcells hslots hR.1 fun H1 cB e1 z1 o1 hAr hNm => kk H1 (am_Rep_new hR (by rw [z1, hR.1]) (fun x hx => o1 x (by rw [← hR.1]; exact hx)) ?_)
  have hc : cB = cA 1 := Option.some.inj (hNm.symm.trans (hK.1.2 1 (cA 1, .long) rfl).2)
  subst hc
  unfold am_at
  rw [if_neg (by simp), if_pos rfl, e1]
  simp [am_new, va_up]
  rfl
theorem am_newA_ok (hx : p.tables.exec = Jvm.exec) (hb : c.code = t.2.1) (hown : s.vm.findClass t.1.cls = some m.cls) (hts : ∀ w ∈ am_Ts, w.before args s = true) (hK : am_Kn D cA s) (hR : am_Rep h0 H0 D cA M H)
    {ix a bb hh : Nat} {n : Int32} (hd : decode t.2.1 pc = .ok (.anewarray ix, 3)) (hl : am_okL t pc (.anewarray ix) a bb hh = true) (hn : ¬ n < 0) (hn2 : n.toNatClampNeg ≤ 1000) (hcells : cells + 1 ≤ R.cells) (hslots : slots + n.toNatClampNeg ≤ R.slots)
    (kk : ∀ (H' : Heap), am_Rep h0 H0 D cA (am_new M a n.toNatClampNeg) H' → W p l e R s m args below meth c H' locs (cells + 1) (slots + n.toNatClampNeg) Q (F0 m (pc + 3) ls (.ref (h0 + M.1.length) :: rs))) : W p l e R s m args below meth c H locs cells slots Q (F0 m pc ls (.int n :: rs)) := by
  simp only [am_okL, Bool.and_eq_true, decide_eq_true_eq] at hl
  obtain ⟨⟨h2, h5⟩, hlk⟩ := hl
  have hAO : va_AO (am_ra a) s := by
    rcases (by omega : a = 2 ∨ a = 3 ∨ a = 4) with rfl | rfl | rfl
    · exact hK.2.2.1
    · exact hK.2.2.2.1
    · exact hK.2.2.2.2
  refine W.anew hx hb hown (hts _ (am_has_spec hlk)) (va_AO.use hAO) rfl hd rfl hn (Nat.le_trans (Nat.mul_le_mul_right _ hn2) (by decide)) hcells hslots fun cB kA comp f1 f2 f3 f4 => ?_
  obtain ⟨kA', comp', k1, k2, k3, k4⟩ := (hK.1.2 a _ (am_tys_at h2 h5)).2
  have hc : cB = cA a := Option.some.inj (f1.symm.trans k4)
  subst hc
  rw [hR.1]
  refine kk _ (am_Rep_new hR (by simp) (fun x hx => by rw [Array.getElem?_push, if_neg (Nat.ne_of_lt hx)]) ?_)
  unfold am_at
  rw [if_neg (show ¬ (a = 0) by omega), if_neg (show ¬ (a = 1) by omega), if_pos (show a < 10 by omega), ← hR.1, Array.getElem?_push_size, arrV_new]
  simp [am_new, va_up, va_rf]
theorem am_acp_ok (hx : p.tables.exec = Jvm.exec) (hb : c.code = t.2.1) (hml : c.maxLocals = ls.size) (hown : s.vm.findClass t.1.cls = some m.cls) (hts : ∀ w ∈ am_Ts, w.before args s = true) (hK : am_Kn D cA s) (hR : am_Rep h0 H0 D cA M H) (hlo : ∀ q ∈ locs, h0 ≤ q.base)
    {ix hh i1 i2 n1 n2 : Nat} {sp dp n : Int32} (hd : decode t.2.1 pc = .ok (.invokestatic ix, 3)) (hlk : am_has hh (.methodLink t.1.cls ix arraycopyName) = true) (hi1 : M.1[i1]? = some (0, n1)) (hi2 : M.1[i2]? = some (0, n2)) (h1 : ¬ sp < 0) (h2 : ¬ dp < 0) (h3 : ¬ n < 0) (h4 : sp.toNatClampNeg + n.toNatClampNeg ≤ n1) (h5 : dp.toNatClampNeg + n.toNatClampNeg ≤ n2) (hfr : 1 ≤ R.frames) (hloc : 100 ≤ R.locals) (hrs : (rs.map fun v => v.category).sum ≤ 8)
    (kk : ∀ (H' : Heap) (locs' : List Loc), am_Rep h0 H0 D cA (M.1, va_up M.2.1 i2 (va_cpy (M.2.1 i1) (M.2.1 i2) sp.toNatClampNeg dp.toNatClampNeg n.toNatClampNeg), M.2.2.1, M.2.2.2) H' → (∀ q ∈ locs', h0 ≤ q.base) → W p l e R s m args below meth c H' locs' cells slots Q (F0 m (pc + 3) ls rs)) : W p l e R s m args below meth c H locs cells slots Q (F0 m pc ls (.int n :: .int dp :: .ref (h0 + i2) :: .int sp :: .ref (h0 + i1) :: rs)) := by
  have nn : ∀ z : Int32, ¬ z < 0 → z.toInt = (z.toNatClampNeg : Int) := by
    intro z hz
    have hz0 : (0 : Int) ≤ z.toInt := by
      have := Int32.not_lt.mp hz
      simpa using Int32.le_iff_toInt_le.mp this
    show z.toInt = ((z.toInt.toNat : Nat) : Int)
    omega
  intro T hT X
  have hc0 := am_at_int hR hi1
  have hc1 := am_at_int hR hi2
  obtain ⟨-, k0, hk0, cm0, hkk0⟩ := (hK.1.2 0 (cA 0, .int) rfl).1 n1 (fun j => .int (M.2.1 i1 j))
  obtain ⟨-, k1, hk1, cm1, hkk1⟩ := (hK.1.2 0 (cA 0, .int) rfl).1 n2 (fun j => .int (M.2.1 i2 j))
  obtain ⟨vm', X', step⟩ := X.arraycopy hx hown (hts _ (am_has_spec hlk)) (hts _ am_w0.2.2.1) (hts _ am_w0.2.2.2.1) (hts _ am_w0.2.2.2.2.1) (src := h0 + i1) (dst := h0 + i2) (cs := arrV (cA 0) n1 (fun j => .int (M.2.1 i1 j))) (cd := arrV (cA 0) n2 (fun j => .int (M.2.1 i2 j))) (srcPos := sp) (destPos := dp) (n := n) (by rw [hT]; exact hc0) (by rw [hT]; exact hc1)
    (fun _ h => by cases h) (fun _ h => by cases h) (fun h => by cases h) (fun h => by cases h) hk0 hk1 hkk0 hkk1 (by simp) h1 h2 h3
    (by rw [nn sp h1, nn n h3, arrV_size]; omega)
    (by rw [nn dp h2, nn n h3, arrV_size]; omega)
    (fun vm₁ _ i hi => by
      have e : (arrV (cA 0) n1 (fun j => .int (M.2.1 i1 j))).slots.getD (sp.toNatClampNeg + i) .null = .int (M.2.1 i1 (sp.toNatClampNeg + i)) := by
        rw [Array.getD_eq_getD_getElem?, arrV_read _ _ (by omega)]
        rfl
      refine ⟨?_, ?_⟩
      · rw [e]
        rfl
      · rw [e]
        exact trivial)
    (g := F0 m pc ls (.int n :: .int dp :: .ref (h0 + i2) :: .int sp :: .ref (h0 + i1) :: rs)) rfl (by rw [hml]) (rest := rs) rfl (by rw [hb]; exact hd) hfr (by
      have hw : nativeFrameWords "java/lang/System" "arraycopy" 5 = 7 := by decide +kernel
      rw [hw]
      show 2 * 0 + _ + _ ≤ _
      omega)
  have e1 : copied (arrV (cA 0) n1 (fun j => .int (M.2.1 i1 j))) (arrV (cA 0) n2 (fun j => .int (M.2.1 i2 j))) sp dp n = arrV (cA 0) n2 (fun j => .int (va_cpy (M.2.1 i1) (M.2.1 i2) sp.toNatClampNeg dp.toNatClampNeg n.toNatClampNeg j)) := va_copied (fun z => .int z) (cA 0) (cA 0) (M.2.1 i1) (M.2.1 i2) h4
  rw [e1] at X' step
  have hl : h0 + i2 < H.size := (Array.getElem?_eq_some_iff.mp hc1).1
  generalize hcell : arrV (cA 0) n2 (fun j => .int (va_cpy (M.2.1 i1) (M.2.1 i2) sp.toNatClampNeg dp.toNatClampNeg n.toNatClampNeg j)) = cell at X' step
  have hheap : ((T.setVm vm').setCell (h0 + i2) cell).heap = H.setIfInBounds (h0 + i2) cell := by rw [← hT]; rfl
  have oq : ∀ q : Nat, q ≠ h0 + i2 → (H.setIfInBounds (h0 + i2) cell)[q]? = H[q]? := fun q hq => by simp [Array.getElem?_setIfInBounds, Ne.symm hq]
  obtain ⟨t', a1, b1⟩ := kk _ _ (am_store_ok (M' := (M.1, va_up M.2.1 i2 (va_cpy (M.2.1 i1) (M.2.1 i2) sp.toNatClampNeg dp.toNatClampNeg n.toNatClampNeg), M.2.2.1, M.2.2.2)) hR hi2 rfl (fun _ hj => va_up_ne _ _ hj) (fun _ _ => rfl) (fun _ _ => rfl) (H' := H.setIfInBounds (h0 + i2) cell) (by
      unfold am_at
      rw [if_pos rfl]
      simp only [va_up_self]
      rw [hcell]
      simp [Array.getElem?_setIfInBounds, hl]) (by simp) oq) (fun q hq => by
      rcases List.mem_append.mp hq with h | h
      · exact hlo q h
      · obtain ⟨z, -, hz⟩ := List.mem_map.mp h
        rw [← hz]
        exact Nat.le_add_right _ _) _ hheap X'
  exact ⟨t', step t' a1, b1⟩
end AMM
