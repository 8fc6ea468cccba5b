/-! ===== the law's walk out of the abstract machine's run ===== -/
def am_M0 : am_M := ([], fun _ _ => 0, fun _ _ => 0, fun _ _ => none)
/-- what is to be shown of the abstract machine -/
def am_Goal : Prop := ∀ (L : Nat) (xs : Nat → Int32), L ≤ 3072 → ∃ (f : Nat) (M : am_M), am_run (L, xs) f 30 tL_law (am_ent tL_law am_M0 [.retAddr 0]) = some (some (.int 1), M) ∧ am_c M ≤ 835449 ∧ am_z M ≤ 6595900
theorem am_nw {w : Cond} (h : am_isN w = true) : w.onTables = true := by
  cases w <;> first | rfl | cases h
set_option maxHeartbeats 1000000 in
theorem am_Kn_start {s : State} {args : Array Value} (hts0 : ∀ w ∈ lw_tbl, w.before args s = true) : ∃ (D : va_G) (cA : Nat → ClassId), am_Kn D cA s := by
  have hts : ∀ w ∈ am_Ts, w.before args s = true := fun w hw => hts0 w (List.mem_filter.mp hw).1
  have hm := fun (q : vw_C) (hq : q ∈ vwCl) => List.all_eq_true.mp am_made q hq
  simp only [Bool.and_eq_true, decide_eq_true_eq] at hm
  have hex : ∀ ci : Nat, ∃ (c : ClassId) (iS : Nat → Nat), ∀ q : vw_C, vwCl[ci]? = some q → u_Kn s q.1 q.2.1 q.2.2 c iS := fun ci => by
    cases hq : vwCl[ci]? with
    | none => exact ⟨0, fun _ => 0, fun q h => by cases h⟩
    | some q =>
      obtain ⟨c, iS, h⟩ := u_known (C := q.1) (T := q.2.1) (N := q.2.2) (n := q.2.2) hts (am_hin hq) (hts _ (hm q (List.mem_of_getElem? hq)).1)
      exact ⟨c, iS, fun q' h' => by cases h'; exact h⟩
  have ao : ∀ k, k < 5 → 2 ≤ k → Cond.arrayOver (.object (am_ra k)) ∈ lw_tbl := by decide +kernel
  have haz : ∀ k : Nat, ∃ cA : ClassId, ∀ q : ClassId × FieldType, (am_tys (fun _ => cA))[k]? = some q → ArrOfT s q.1 q.2 ∧ va_RA s q.1 q.2 := fun k => by
    match k with
    | 0 =>
      obtain ⟨c, kk, comp, h1, h2, h3⟩ := Cond.arrayClass_spec (hts _ am_w0.1)
      exact ⟨c, fun q hq => by cases hq; exact ⟨fun n z => ⟨(fun k h => by cases h), kk, h2, comp, h3⟩, h1⟩⟩
    | 1 =>
      obtain ⟨c, kk, comp, h1, h2, h3⟩ := Cond.arrayClass_spec (hts _ am_w0.2.1)
      exact ⟨c, fun q hq => by cases hq; exact ⟨fun n z => ⟨(fun k h => by cases h), kk, h2, comp, h3⟩, h1⟩⟩
    | 2 =>
      obtain ⟨comp, c, kk, h1, h2, h3, h4, h5⟩ := Cond.arrayOver_spec (hts0 _ (ao 2 (by decide) (by decide)))
      exact ⟨c, fun q hq => by cases hq; exact ⟨fun n z => ⟨(fun k h => by cases h), kk, h3, comp, h4⟩, kk, comp, h3, h4, h1, h5⟩⟩
    | 3 =>
      obtain ⟨comp, c, kk, h1, h2, h3, h4, h5⟩ := Cond.arrayOver_spec (hts0 _ (ao 3 (by decide) (by decide)))
      exact ⟨c, fun q hq => by cases hq; exact ⟨fun n z => ⟨(fun k h => by cases h), kk, h3, comp, h4⟩, kk, comp, h3, h4, h1, h5⟩⟩
    | 4 =>
      obtain ⟨comp, c, kk, h1, h2, h3, h4, h5⟩ := Cond.arrayOver_spec (hts0 _ (ao 4 (by decide) (by decide)))
      exact ⟨c, fun q hq => by cases hq; exact ⟨fun n z => ⟨(fun k h => by cases h), kk, h3, comp, h4⟩, kk, comp, h3, h4, h1, h5⟩⟩
    | k + 5 => exact ⟨0, fun q hq => by simp [am_tys] at hq⟩
  refine ⟨(fun ci => Classical.choose (hex ci), fun ci => Classical.choose (Classical.choose_spec (hex ci))), fun k => Classical.choose (haz k), ⟨fun ci q hq => Classical.choose_spec (Classical.choose_spec (hex ci)) q hq, fun k q hq => ?_⟩, fun w hw hn => va_Nw.of (am_nw hn) (hts0 w hw), va_AO.of (hts0 _ (ao 2 (by decide) (by decide))), va_AO.of (hts0 _ (ao 3 (by decide) (by decide))), va_AO.of (hts0 _ (ao 4 (by decide) (by decide)))⟩
  match k, hq with
  | 0, hq => cases hq; exact Classical.choose_spec (haz 0) _ rfl
  | 1, hq => cases hq; exact Classical.choose_spec (haz 1) _ rfl
  | 2, hq => cases hq; exact Classical.choose_spec (haz 2) _ rfl
  | 3, hq => cases hq; exact Classical.choose_spec (haz 3) _ rfl
  | 4, hq => cases hq; exact Classical.choose_spec (haz 4) _ rfl
  | k + 5, hq => simp [am_tys] at hq
theorem am_law_in : tL_law ∈ am_mt := List.mem_of_getElem? (i := 161) rfl
set_option maxHeartbeats 1000000 in
theorem am_start (hG : am_Goal) (hC : ∀ t ∈ am_mt, t.2.2.2.2.2.all (am_okE t) = true) (hM : ∀ (j : Nat) (t : am_T) (mm : Nat × Nat × Nat × Nat × Nat), am_mt[j]? = some t → am_hm[j]? = some mm → mm.2.2.2.2 ≠ 2 → am_okM t mm = true) {p : Program} {e : Env} {s : State} {m : MethodId} {below : List Frame} {meth : Method} {c : Code} (l : Launch) {b L : Nat} {xs : Nat → Int32} (hL : L ≤ 3072) (C0 : lw_At p s m meth c b L xs) : W p l e room_1 s m #[Value.ref b] below meth c s.heap [] 0 0 (lw_Z below #[Value.ref b] s) (entryFrame m ([Value.ref b] : List Value).toArray 4) := by
  obtain ⟨hx, hb, hr, hml, hown, hts0, hX, hbl, hlocks, hgv⟩ := id C0
  obtain ⟨D, cA, hK⟩ := am_Kn_start hts0
  obtain ⟨f, M, hrun, hc, hz⟩ := hG L xs hL
  have sim := am_sim (L, xs) hC hM f 30 tL_law _ _ am_law_in hrun
  rw [lg_entry_eq]
  have hLs := am_L_ent (h0 := s.heap.size) (b := b) (n := 4) [.retAddr 0] (by decide)
  have hsz := hLs.1
  refine sim p l e room_1 s m _ below meth c s.heap [] 0 0 _ _ s.heap.size b s.heap D cA hx hb (by rw [hml]; exact hsz.symm) hown (fun w hw => hts0 w (List.mem_filter.mp hw).1) (fun hn => absurd hn (by decide)) hK hX hbl ⟨rfl, fun _ _ => rfl, fun i q hq => by cases hq⟩ hLs (fun q hq => by cases hq) (by decide) (by decide) ?_ ?_ ?_
  · show 0 + am_c M ≤ 835449 + 0
    omega
  · show 0 + am_z M ≤ 6595900 + 0
    omega
  · intro H' locs' cells' slots' pc' ls' hR' hlo' hc' hz' hrok
    have hc' : cells' + 0 = 0 + am_c M := hc'
    have hz' : slots' + 0 = 0 + am_z M := hz'
    refine va_forget hlo' (W.widen (k := 835449) (n := 6595900) (by omega) (by omega) ?_)
    exact lw_ret hx hb hr hlocks hrok.1
