/-! ===== the abstract machine's values, locals and memory beside the real ones ===== -/
def am_tv (h0 b : Nat) (v : Value) : Value := match v with
  | .ref i => .ref (h0 + i)
  | .retAddr _ => .ref b
  | v => v
theorem am_tv_cat (h0 b : Nat) (v : Value) : (am_tv h0 b v).category = v.category := by cases v <;> rfl
def am_L (h0 b : Nat) (ls : Array Slot) (la : List Value) : Prop := ls.size = la.length ∧ lv_wf ls ∧ ∀ (i : Nat) (v : Value), la[i]? = some v → v ≠ am_U → ls[i]? = some (.val (am_tv h0 b v))
theorem am_s1_len : ∀ (l : List Value) (i : Nat) (v : Value), (am_s1 l i v).length = l.length
  | [], i, v => by simp [am_s1]
  | _ :: l, 0, v => by simp [am_s1]
  | w :: l, 1, v => by simp [am_s1, am_s1_len l 0 v]
  | w :: l, i + 2, v => by simp [am_s1, am_s1_len l (i + 1) v]
theorem am_s1_get : ∀ (l : List Value) (i : Nat) (v : Value) (j : Nat), (am_s1 l i v)[j]? = if j = i then (if i < l.length then some v else none) else if j + 1 = i then (l[j]?).map (fun w => if w.category = 2 then am_U else w) else l[j]?
  | [], i, v, j => by simp [am_s1]
  | _ :: l, 0, v, j => by
    cases j with
    | zero => simp [am_s1]
    | succ j => simp [am_s1]
  | w :: l, 1, v, j => by
    cases j with
    | zero => simp [am_s1]
    | succ j =>
      have h := am_s1_get l 0 v j
      simp only [am_s1, List.getElem?_cons_succ, h]
      simp
  | w :: l, i + 2, v, j => by
    cases j with
    | zero => simp [am_s1]
    | succ j =>
      have h := am_s1_get l (i + 1) v j
      have e : (i + 2 < l.length + 1) = (i + 1 < l.length) := propext ⟨fun h => by omega, fun h => by omega⟩
      simp only [am_s1, List.getElem?_cons_succ, h]
      simp [e]
def am_al (h0 b : Nat) (la : List Value) : List (Nat × Value) := (List.range la.length).filterMap (fun i => match la[i]? with
  | some v => if v = am_U then none else some (i, am_tv h0 b v)
  | none => none)
theorem am_al_mem {h0 b : Nat} {la : List Value} {i : Nat} {v : Value} (h : la[i]? = some v) (hv : v ≠ am_U) : (i, am_tv h0 b v) ∈ am_al h0 b la := by
  refine List.mem_filterMap.mpr ⟨i, List.mem_range.mpr (List.getElem?_eq_some_iff.mp h).1, ?_⟩
  simp [h, hv]
theorem am_L_has {h0 b : Nat} {ls : Array Slot} {la : List Value} (h : am_L h0 b ls la) : lv_has ls la.length (am_al h0 b la) := by
  refine ⟨h.1, h.2.1, fun q hq => ?_⟩
  obtain ⟨i, -, hi⟩ := List.mem_filterMap.mp hq
  cases hl : la[i]? with
  | none => simp [hl] at hi
  | some v =>
    by_cases hv : v = am_U
    · simp [hl, hv] at hi
    · simp [hl, hv] at hi
      rw [← hi]
      exact h.2.2 i v hl hv
theorem am_L_s1 {h0 b : Nat} {ls' : Array Slot} {la : List Value} {i : Nat} {v : Value} (h' : lv_has ls' la.length ((i, am_tv h0 b v) :: (am_al h0 b la).filter (fun q => !(q.1 == i) && !(q.1 + 1 == i && q.2.category == 2)))) : am_L h0 b ls' (am_s1 la i v) := by
  refine ⟨by rw [am_s1_len]; exact h'.1, h'.2.1, fun j w hj hw => ?_⟩
  rw [am_s1_get] at hj
  by_cases e : j = i
  · rw [if_pos e] at hj
    split at hj
    · cases hj
      rw [e]
      exact h'.2.2 (i, am_tv h0 b v) List.mem_cons_self
    · cases hj
  · rw [if_neg e] at hj
    by_cases e2 : j + 1 = i
    · rw [if_pos e2] at hj
      cases hl : la[j]? with
      | none => simp [hl] at hj
      | some u =>
        rw [hl, Option.map_some] at hj
        by_cases hc : u.category = 2
        · rw [if_pos hc] at hj
          exact absurd (Option.some.inj hj).symm hw
        · rw [if_neg hc] at hj
          have hj := Option.some.inj hj
          subst hj
          refine h'.2.2 (j, am_tv h0 b _) (List.mem_cons_of_mem _ (List.mem_filter.mpr ⟨am_al_mem hl hw, ?_⟩))
          simp [e, am_tv_cat, hc]
    · rw [if_neg e2] at hj
      refine h'.2.2 (j, am_tv h0 b w) (List.mem_cons_of_mem _ (List.mem_filter.mpr ⟨am_al_mem hj hw, ?_⟩))
      simp [e, e2]
theorem am_L_s2 {h0 b : Nat} {ls' : Array Slot} {la : List Value} {i : Nat} {v : Value} (hi : i + 1 < la.length) (h' : lv_has ls' la.length ((i, am_tv h0 b v) :: (am_al h0 b la).filter (fun q => !(q.1 == i) && (!(q.1 == i + 1) && !(q.1 + 1 == i && q.2.category == 2))))) : am_L h0 b ls' (am_s2 la i v) := by
  unfold am_s2
  refine ⟨by rw [am_s1_len, am_s1_len]; exact h'.1, h'.2.1, fun j w hj hw => ?_⟩
  rw [am_s1_get, am_s1_len] at hj
  by_cases e : j = i
  · rw [if_pos e, if_pos (by omega)] at hj
    cases hj
    rw [e]
    exact h'.2.2 (i, am_tv h0 b v) List.mem_cons_self
  · rw [if_neg e] at hj
    rw [am_s1_get] at hj
    by_cases e2 : j + 1 = i
    · rw [if_pos e2, if_neg (by omega), if_neg (by omega)] at hj
      cases hl : la[j]? with
      | none => simp [hl] at hj
      | some u =>
        rw [hl, Option.map_some] at hj
        by_cases hc : u.category = 2
        · rw [if_pos hc] at hj
          exact absurd (Option.some.inj hj).symm hw
        · rw [if_neg hc] at hj
          have hj := Option.some.inj hj
          subst hj
          refine h'.2.2 (j, am_tv h0 b _) (List.mem_cons_of_mem _ (List.mem_filter.mpr ⟨am_al_mem hl hw, ?_⟩))
          simp [e, am_tv_cat, hc]
          omega
    · rw [if_neg e2] at hj
      by_cases e3 : j = i + 1
      · rw [if_pos e3, if_pos hi] at hj
        exact absurd (Option.some.inj hj).symm hw
      · rw [if_neg e3, if_neg (by omega)] at hj
        refine h'.2.2 (j, am_tv h0 b w) (List.mem_cons_of_mem _ (List.mem_filter.mpr ⟨am_al_mem hj hw, ?_⟩))
        simp [e, e2, e3]
theorem am_lay_len (h0 b : Nat) : ∀ as : List Value, (lg_sl (as.map (am_tv h0 b))).length = (am_lay as).length
  | [] => rfl
  | v :: l => by
    have h := am_lay_len h0 b l
    by_cases hc : v.category = 2
    · simp only [lg_sl, List.map_cons, List.flatMap_cons, am_tv_cat, hc, if_true, am_lay, List.length_append, List.length_cons, List.length_nil] at h ⊢
      omega
    · simp only [lg_sl, List.map_cons, List.flatMap_cons, am_tv_cat, hc, if_false, am_lay, List.length_append, List.length_cons, List.length_nil] at h ⊢
      omega
theorem am_lay_get (h0 b : Nat) : ∀ (as : List Value) (i : Nat) (v : Value), (am_lay as)[i]? = some v → v ≠ am_U → (lg_sl (as.map (am_tv h0 b)))[i]? = some (.val (am_tv h0 b v))
  | [], i, v, h, _ => by simp [am_lay] at h
  | u :: l, i, v, h, hv => by
    by_cases hc : u.category = 2
    · have e : lg_sl ((u :: l).map (am_tv h0 b)) = .val (am_tv h0 b u) :: .second :: lg_sl (l.map (am_tv h0 b)) := by simp [lg_sl, am_tv_cat, hc]
      rw [e]
      simp only [am_lay, hc, if_true] at h
      match i, h with
      | 0, h => simp at h; simp [h]
      | 1, h => simp at h; exact absurd h.symm hv
      | i + 2, h => simp only [List.getElem?_cons_succ] at h ⊢; exact am_lay_get h0 b l i v h hv
    · have e : lg_sl ((u :: l).map (am_tv h0 b)) = .val (am_tv h0 b u) :: lg_sl (l.map (am_tv h0 b)) := by simp [lg_sl, am_tv_cat, hc]
      rw [e]
      simp only [am_lay, hc, if_false] at h
      match i, h with
      | 0, h => simp at h; simp [h]
      | i + 1, h => simp only [List.getElem?_cons_succ] at h ⊢; exact am_lay_get h0 b l i v h hv
theorem am_L_ent {h0 b n : Nat} (as : List Value) (h : (am_lay as).length ≤ n) : am_L h0 b ((lg_sl (as.map (am_tv h0 b)) ++ List.replicate (n - (lg_sl (as.map (am_tv h0 b))).length) Slot.unset).toArray) (am_lay as ++ List.replicate (n - (am_lay as).length) am_U) := by
  have hl := am_lay_len h0 b as
  have he := lv_entry (as.map (am_tv h0 b)) (n := n) (by omega)
  refine ⟨by rw [he.1]; simp; omega, he.2.1, fun i v hi hv => ?_⟩
  rw [List.getElem?_toArray]
  by_cases hlt : i < (am_lay as).length
  · rw [List.getElem?_append_left hlt] at hi
    rw [List.getElem?_append_left (by omega)]
    exact am_lay_get h0 b as i v hi hv
  · rw [List.getElem?_append_right (by omega)] at hi
    exact absurd (List.eq_of_mem_replicate (List.mem_of_getElem? hi)) hv
theorem am_take_spec : ∀ (n : Nat) (st acc as r : List Value), am_take n st acc = some (as, r) → ∃ l : List Value, l.length = n ∧ st = l ++ r ∧ as = l.reverse ++ acc
  | 0, st, acc, as, r, h => by
    simp only [am_take] at h
    cases h
    exact ⟨[], rfl, rfl, rfl⟩
  | n + 1, [], acc, as, r, h => by simp [am_take] at h
  | n + 1, v :: st, acc, as, r, h => by
    simp only [am_take] at h
    obtain ⟨l, h1, h2, h3⟩ := am_take_spec n st (v :: acc) as r h
    exact ⟨v :: l, by simp [h1], by simp [h2], by simp [h3]⟩
/-! the memory -/
def am_cv (h0 : Nat) (M : am_M) (i c k : Nat) : Value := if am_fk c k = 1 then .long (M.2.2.1 i k) else if am_fk c k = 2 then va_rf ((M.2.2.2 i k).map (fun j => h0 + j)) else .int (M.2.1 i k)
theorem am_tv_rf (h0 b : Nat) (r : Option Nat) : am_tv h0 b (va_rf r) = va_rf (r.map (fun j => h0 + j)) := by cases r <;> rfl
theorem am_tv_gv (h0 b : Nat) (M : am_M) (i c k : Nat) : am_tv h0 b (am_gv M i c k) = am_cv h0 M i c k := by
  unfold am_gv am_cv
  split
  · rfl
  · split
    · exact am_tv_rf h0 b _
    · rfl
def am_at (h0 : Nat) (D : va_G) (cA : Nat → ClassId) (M : am_M) (H : Heap) (i : Nat) (q : Nat × Nat) : Prop :=
  if q.1 = 0 then H[h0 + i]? = some (arrV (cA 0) q.2 (fun j => .int (M.2.1 i j)))
  else if q.1 = 1 then H[h0 + i]? = some (arrV (cA 1) q.2 (fun j => .long (M.2.2.1 i j)))
  else if q.1 < 10 then H[h0 + i]? = some (arrV (cA q.1) q.2 (fun j => va_rf ((M.2.2.2 i j).map (fun z => h0 + z))))
  else ∃ r : vw_C, vwCl[q.1 - 10]? = some r ∧ t_OB (h0 + i) (D.1 (q.1 - 10)) r.2.2 (D.2 (q.1 - 10)) H (am_cv h0 M i (q.1 - 10))
def am_Rep (h0 : Nat) (H0 : Heap) (D : va_G) (cA : Nat → ClassId) (M : am_M) (H : Heap) : Prop :=
  H.size = h0 + M.1.length ∧ (∀ q : Nat, q < h0 → H[q]? = H0[q]?) ∧ ∀ (i : Nat) (q : Nat × Nat), M.1[i]? = some q → am_at h0 D cA M H i q
theorem am_at_congr {h0 : Nat} {D : va_G} {cA : Nat → ClassId} {M M' : am_M} {H H' : Heap} {i : Nat} {q : Nat × Nat} (hI : M'.2.1 i = M.2.1 i) (hL : M'.2.2.1 i = M.2.2.1 i) (hR : M'.2.2.2 i = M.2.2.2 i) (hH : H'[h0 + i]? = H[h0 + i]?) (h : am_at h0 D cA M H i q) : am_at h0 D cA M' H' i q := by
  unfold am_at at h ⊢
  by_cases e0 : q.1 = 0
  · rw [if_pos e0] at h ⊢
    rw [hI, hH]
    exact h
  · rw [if_neg e0] at h ⊢
    by_cases e1 : q.1 = 1
    · rw [if_pos e1] at h ⊢
      rw [hL, hH]
      exact h
    · rw [if_neg e1] at h ⊢
      by_cases e2 : q.1 < 10
      · rw [if_pos e2] at h ⊢
        rw [hR, hH]
        exact h
      · rw [if_neg e2] at h ⊢
        obtain ⟨r, h1, h2⟩ := h
        refine ⟨r, h1, (h2.kept hH).to (fun k _ => ?_)⟩
        unfold am_cv
        rw [hI, hL, hR]
theorem am_Rep_upd {h0 : Nat} {H0 : Heap} {D : va_G} {cA : Nat → ClassId} {M M' : am_M} {H H' : Heap} {i : Nat} (h : am_Rep h0 H0 D cA M H) (hs : M'.1 = M.1) (hz : H'.size = H.size) (ho : ∀ q : Nat, q ≠ h0 + i → H'[q]? = H[q]?) (hI : ∀ j, j ≠ i → M'.2.1 j = M.2.1 j) (hL : ∀ j, j ≠ i → M'.2.2.1 j = M.2.2.1 j) (hR : ∀ j, j ≠ i → M'.2.2.2 j = M.2.2.2 j) (hi : ∀ q, M.1[i]? = some q → am_at h0 D cA M' H' i q) : am_Rep h0 H0 D cA M' H' := by
  refine ⟨by rw [hz, hs]; exact h.1, fun q hq => by rw [ho q (by omega)]; exact h.2.1 q hq, fun j q hj => ?_⟩
  rw [hs] at hj
  by_cases e : j = i
  · subst e
    exact hi q hj
  · exact am_at_congr (hI j e) (hL j e) (hR j e) (ho _ (by omega)) (h.2.2 j q hj)
theorem am_Rep_new {h0 : Nat} {H0 : Heap} {D : va_G} {cA : Nat → ClassId} {M : am_M} {H H' : Heap} {kd len : Nat} (h : am_Rep h0 H0 D cA M H) (hz : H'.size = H.size + 1) (ho : ∀ q : Nat, q < H.size → H'[q]? = H[q]?) (hi : am_at h0 D cA (am_new M kd len) H' M.1.length (kd, len)) : am_Rep h0 H0 D cA (am_new M kd len) H' := by
  refine ⟨by rw [hz, h.1]; simp [am_new]; omega, fun q hq => by rw [ho q (by rw [h.1]; omega)]; exact h.2.1 q hq, fun j q hj => ?_⟩
  simp only [am_new] at hj
  by_cases e : j < M.1.length
  · rw [List.getElem?_append_left e] at hj
    have hne : j ≠ M.1.length := by omega
    exact am_at_congr (va_up_ne _ _ hne) (va_up_ne _ _ hne) (va_up_ne _ _ hne) (ho _ (by rw [h.1]; omega)) (h.2.2 j q hj)
  · rw [List.getElem?_append_right (by omega)] at hj
    have hz : j - M.1.length < 1 := (List.getElem?_eq_some_iff.mp hj).1
    have ej : j = M.1.length := by omega
    subst ej
    rw [Nat.sub_self] at hj
    cases hj
    exact hi
def am_isN : Cond → Bool
  | .methodLinkNest _ _ _ _ => true
  | _ => false
def am_Ts : List Cond := lw_tbl.filter goodWord
def am_tys (cA : Nat → ClassId) : List (ClassId × FieldType) := [(cA 0, .int), (cA 1, .long), (cA 2, .object (am_ra 2)), (cA 3, .object (am_ra 3)), (cA 4, .object (am_ra 4))]
def am_Kn (D : va_G) (cA : Nat → ClassId) (U : State) : Prop := va_K D vwCl (am_tys cA) U ∧ (∀ w ∈ lw_tbl, am_isN w = true → va_Nw w U) ∧ va_AO (am_ra 2) U ∧ va_AO (am_ra 3) U ∧ va_AO (am_ra 4) U
theorem am_Kn_warm {D : va_G} {cA : Nat → ClassId} {s U : State} (hW : s.WarmedH U.vm) (h : am_Kn D cA s) : am_Kn D cA U := by
  refine ⟨h.1.moved hW.alike, fun w hw hn => ?_, h.2.2.1.moved hW.alike, h.2.2.2.1.moved hW.alike, h.2.2.2.2.moved hW.alike⟩
  have hz := h.2.1 w hw hn
  cases w <;> first | exact va_Nw.warmM hW hz | cases hn
theorem am_Kn_same {D : va_G} {cA : Nat → ClassId} {s U : State} (hv : s.vm = U.vm) (h : am_Kn D cA s) : am_Kn D cA U := by
  have ha : s.vm.Alike U.vm := by rw [hv]; exact Vm.Alike.refl _
  refine ⟨h.1.moved ha, fun w hw hn => ?_, h.2.2.1.moved ha, h.2.2.2.1.moved ha, h.2.2.2.2.moved ha⟩
  have hz := h.2.1 w hw hn
  cases w <;> first | exact va_Nw.same rfl hv hz | cases hn
theorem am_has_spec {h : Nat} {w : Cond} (hh : am_has h w = true) : w ∈ am_Ts := by
  simp only [am_has, Bool.and_eq_true, decide_eq_true_eq] at hh
  exact List.mem_filter.mpr ⟨List.mem_of_getElem? hh.1, hh.2⟩
theorem am_good : GoodIn am_Ts am_Ts := fun w hw => ⟨hw, good_of_word (List.mem_filter.mp hw).2⟩
