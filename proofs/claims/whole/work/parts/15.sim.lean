/-! ===== THE SIMULATION: what the abstract machine runs, the real one runs ===== -/
/-- the real machine follows this run -/
def am_Sim (S : am_S) (d : Nat) (t : am_T) (fr : am_F) (r : Option Value × am_M) : Prop :=
  ∀ (p : Program) (l : Launch) (e : Env) (R : Room) (s : State) (m : MethodId) (args : Array Value) (below : List Frame) (meth : Method) (c : Code) (H : Heap) (locs : List Loc) (cells slots : Nat) (Q : State → Prop) (ls : Array Slot) (h0 b : Nat) (H0 : Heap) (D : va_G) (cA : Nat → ClassId),
    p.tables.exec = Jvm.exec → c.code = t.2.1 → c.maxLocals = ls.size → s.vm.findClass t.1.cls = some m.cls → (∀ w ∈ am_Ts, w.before args s = true) → (t.1.name = "<init>" → meth.name = "<init>") → am_Kn D cA s → va_X b S.1 S.2 s H0 → b < h0 →
    am_Rep h0 H0 D cA fr.1 H → am_L h0 b ls fr.2.2.1 → (∀ q ∈ locs, h0 ≤ q.base) → d + 1 ≤ R.frames → 100 * (d + 1) ≤ R.locals → cells + am_c r.2 ≤ R.cells + am_c fr.1 → slots + am_z r.2 ≤ R.slots + am_z fr.1 →
    (∀ (H' : Heap) (locs' : List Loc) (cells' slots' pc' : Nat) (ls' : Array Slot), am_Rep h0 H0 D cA r.2 H' → (∀ q ∈ locs', h0 ≤ q.base) → cells' + am_c fr.1 = cells + am_c r.2 → slots' + am_z fr.1 = slots + am_z r.2 → am_rok t pc' r.1 → W p l e R s m args below meth c H' locs' cells' slots' Q (F0 m pc' ls' (r.1.toList.map (am_tv h0 b)))) →
    W p l e R s m args below meth c H locs cells slots Q (F0 m fr.2.1 ls (fr.2.2.2.map (am_tv h0 b)))
section AMS
variable {p : Program} {l : Launch} {e : Env} {R : Room} {s : State} {m : MethodId} {args : Array Value} {below : List Frame} {meth : Method} {c : Code} {H : Heap} {locs : List Loc} {cells slots : Nat} {Q : State → Prop}
variable {pc : Nat} {ls : Array Slot} {h0 b : Nat} {la st : List Value} {H0 : Heap} {D : va_G} {cA : Nat → ClassId} {M : am_M} {t : am_T} {S : am_S}
set_option maxHeartbeats 4000000 in
theorem am_mem_ok (hx : p.tables.exec = Jvm.exec) (hb : c.code = t.2.1) (hml : c.maxLocals = ls.size) (hown : s.vm.findClass t.1.cls = some m.cls) (hts : ∀ w ∈ am_Ts, w.before args s = true) (hin2 : t.1.name = "<init>" → meth.name = "<init>") (hK : am_Kn D cA s) (hX : va_X b S.1 S.2 s H0) (hbh : b < h0) (hR : am_Rep h0 H0 D cA M H) (hlo : ∀ q ∈ locs, h0 ≤ q.base)
    {ins : Instr} {nx a bb hh : Nat} (hE : am_okE t (pc, ins, nx, a, bb, hh) = true) (hfr : 1 ≤ R.frames) (hloc : 100 ≤ R.locals) {f : am_F} (h : am_mem S t ins nx a bb M la st = some (.inl f)) (hbc : cells + am_c f.1 ≤ R.cells + am_c M) (hbz : slots + am_z f.1 ≤ R.slots + am_z M)
    (kk : ∀ (H' : Heap) (locs' : List Loc) (cells' slots' : Nat), am_Rep h0 H0 D cA f.1 H' → (∀ q ∈ locs', h0 ≤ q.base) → cells' + am_c M = cells + am_c f.1 → slots' + am_z M = slots + am_z f.1 → W p l e R s m args below meth c H' locs' cells' slots' Q (F0 m f.2.1 ls (f.2.2.2.map (am_tv h0 b)))) : W p l e R s m args below meth c H locs cells slots Q (F0 m pc ls (st.map (am_tv h0 b))) := by
  simp only [am_okE, Bool.and_eq_true, Bool.or_eq_true, decide_eq_true_eq] at hE
  obtain ⟨⟨hd, hlen⟩, hl⟩ := hE
  have key : am_len ins ≠ 0 → nx = pc + am_len ins ∧ decode t.2.1 pc = .ok (ins, am_len ins) := fun hz => by
    rcases hlen with h1 | h1
    · exact absurd h1 hz
    · refine ⟨h1, ?_⟩
      rw [hd, h1]
      congr 2
      omega
  cases ins
  case getfield ix =>
    obtain ⟨rfl, hdd⟩ := key (by simp [am_len])
    obtain ⟨i, r, n, rfl, hi, rfl⟩ := am_get_spec (am_inl h)
    exact am_getf_ok hx hb hown hts hK hR hdd hl hi (kk H locs cells slots hR hlo rfl rfl)
  case putfield ix =>
    obtain ⟨rfl, hdd⟩ := key (by simp [am_len])
    obtain ⟨v, i, r, n, M', rfl, hi, hp, rfl⟩ := am_put_spec (am_inl h)
    exact am_putf_ok hx hb hown hts hin2 hK hR hlo hdd hl hi hp (fun H' locs' hR' hlo' => kk H' locs' cells slots hR' hlo' (by simp only [am_c, am_pv_1 hp]) (by simp only [am_z, am_pv_1 hp]))
  case arraylength =>
    obtain ⟨rfl, hdd⟩ := key (by simp [am_len])
    rcases am_alen_spec (am_inl h) with ⟨i, r, q, rfl, hi, hq, rfl⟩ | ⟨z, r, rfl, rfl⟩
    · obtain ⟨kd, n⟩ := q
      have kk := kk H locs cells slots hR hlo rfl rfl
      dsimp only at hq
      rcases (by omega : kd = 0 ∨ kd = 1 ∨ 2 ≤ kd) with rfl | rfl | h2
      · exact W.alen (n := Int32.ofNat n) hx hb (am_at_int hR hi) ((hK.1.2 0 (cA 0, .int) rfl).1 n _) (by rw [arrV_size]) rfl rfl hdd kk
      · exact W.alen (n := Int32.ofNat n) hx hb (am_at_long hR hi) ((hK.1.2 1 (cA 1, .long) rfl).1 n _) (by rw [arrV_size]) rfl rfl hdd kk
      · exact W.alen (n := Int32.ofNat n) hx hb (am_at_ref hR hi h2 hq) ((hK.1.2 kd _ (am_tys_at h2 hq)).1 n _) (by rw [arrV_size]) rfl rfl hdd kk
    · obtain ⟨scr, x1, x2, x3, x4, x5⟩ := hX
      exact W.alen (n := Int32.ofNat S.1) hx hb (by rw [hR.2.1 b hbh]; exact x1) x2 (by rw [x4]) rfl rfl hdd (kk H locs cells slots hR hlo rfl rfl)
  case iaload =>
    obtain ⟨rfl, hdd⟩ := key (by simp [am_len])
    rcases am_iald_spec (am_inl h) with ⟨i, j, r, n, rfl, hi, hin, rfl⟩ | ⟨j, z, r, rfl, hin, rfl⟩
    · exact W.iald (v := .int (M.2.1 i j.toNatClampNeg)) hx hb (am_at_int hR hi) ((hK.1.2 0 (cA 0, .int) rfl).1 n _) (fun q => by cases q) (by rw [arrV_size]; exact hin) (by rw [arrV_read _ _ (Nat.not_le.mp fun q => hin (Or.inr q))]) rfl rfl hdd (kk H locs cells slots hR hlo rfl rfl)
    · obtain ⟨scr, x1, x2, x3, x4, x5⟩ := hX
      exact W.iald (v := .int (S.2 j.toNatClampNeg)) hx hb (by rw [hR.2.1 b hbh]; exact x1) x2 x3 (by rw [x4]; exact hin) (x5 _ (Nat.not_le.mp fun q => hin (Or.inr q))) rfl rfl hdd (kk H locs cells slots hR hlo rfl rfl)
  case laload =>
    obtain ⟨rfl, hdd⟩ := key (by simp [am_len])
    obtain ⟨i, j, r, n, rfl, hi, hin, rfl⟩ := am_lald_spec (am_inl h)
    exact W.lald (v := .long (M.2.2.1 i j.toNatClampNeg)) hx hb (am_at_long hR hi) ((hK.1.2 1 (cA 1, .long) rfl).1 n _) (fun q => by cases q) (by rw [arrV_size]; exact hin) (by rw [arrV_read _ _ (Nat.not_le.mp fun q => hin (Or.inr q))]) rfl rfl hdd (kk H locs cells slots hR hlo rfl rfl)
  case aaload =>
    obtain ⟨rfl, hdd⟩ := key (by simp [am_len])
    obtain ⟨i, j, r, n, kd, rfl, h2, h5, hi, hin, rfl⟩ := am_aald_spec (am_inl h)
    have kk := kk H locs cells slots hR hlo rfl rfl
    rw [List.map_cons, am_tv_rf] at kk
    exact W.aald (ty := .object (am_ra kd)) hx hb (am_at_ref hR hi h2 h5) ((hK.1.2 kd _ (am_tys_at h2 h5)).1 n _) rfl (fun q => by cases q) (by rw [arrV_size]; exact hin) (by rw [arrV_read _ _ (Nat.not_le.mp fun q => hin (Or.inr q))]) rfl rfl hdd kk
  case iastore =>
    obtain ⟨rfl, hdd⟩ := key (by simp [am_len])
    obtain ⟨i, j, x, r, n, rfl, hi, hin, rfl⟩ := am_iast_spec (am_inl h)
    exact am_iast_ok hx hb hK hR hlo hdd hi hin (fun H' locs' hR' hlo' => kk H' locs' cells slots hR' hlo' rfl rfl)
  case lastore =>
    obtain ⟨rfl, hdd⟩ := key (by simp [am_len])
    obtain ⟨i, j, x, r, n, rfl, hi, hin, rfl⟩ := am_last_spec (am_inl h)
    exact am_last_ok hx hb hK hR hlo hdd hi hin (fun H' locs' hR' hlo' => kk H' locs' cells slots hR' hlo' rfl rfl)
  case aastore =>
    obtain ⟨rfl, hdd⟩ := key (by simp [am_len])
    obtain ⟨i, j, v, r, n, kd, kv, nv, q, rfl, h2, h5, hi, hin, hv, hq, hra, rfl⟩ := am_aast_spec (am_inl h)
    exact am_aast_ok hx hb hK hR hlo hdd hi h2 h5 hin hv hq hra (fun H' locs' hR' hlo' => kk H' locs' cells slots hR' hlo' rfl rfl)
  case new ix =>
    obtain ⟨rfl, hdd⟩ := key (by simp [am_len])
    obtain ⟨q, hq, h10, rfl⟩ := am_mkO_spec (am_inl h)
    have hn := am_new_c M a q.2.2
    dsimp only at hbc hbz
    exact am_newO_ok hx hb hown hts hK hR hdd hl hq h10 (by omega) (by omega) (fun H' hR' => kk H' locs _ _ hR' hlo (by dsimp only; omega) (by dsimp only; omega))
  case newarray ty =>
    cases ty
    case int =>
      obtain ⟨rfl, hdd⟩ := key (by simp [am_len])
      obtain ⟨n, r, rfl, hn0, hn1, rfl⟩ := am_mkA_spec (am_inl h)
      have hn := am_new_c M 0 n.toNatClampNeg
      dsimp only at hbc hbz
      exact am_newI_ok hx hb hts hK hR hdd hn0 hn1 (by omega) (by omega) (fun H' hR' => kk H' locs _ _ hR' hlo (by dsimp only; omega) (by dsimp only; omega))
    case long =>
      obtain ⟨rfl, hdd⟩ := key (by simp [am_len])
      obtain ⟨n, r, rfl, hn0, hn1, rfl⟩ := am_mkA_spec (am_inl h)
      have hn := am_new_c M 1 n.toNatClampNeg
      dsimp only at hbc hbz
      exact am_newL_ok hx hb hts hK hR hdd hn0 hn1 (by omega) (by omega) (fun H' hR' => kk H' locs _ _ hR' hlo (by dsimp only; omega) (by dsimp only; omega))
    all_goals exact absurd h.symm (Option.some_ne_none _)
  case anewarray ix =>
    obtain ⟨rfl, hdd⟩ := key (by simp [am_len])
    obtain ⟨n, r, rfl, hn0, hn1, rfl⟩ := am_mkA_spec (am_inl h)
    have hn := am_new_c M a n.toNatClampNeg
    dsimp only at hbc hbz
    exact am_newA_ok hx hb hown hts hK hR hdd hl hn0 hn1 (by omega) (by omega) (fun H' hR' => kk H' locs _ _ hR' hlo (by dsimp only; omega) (by dsimp only; omega))
  case invokestatic ix =>
    obtain ⟨rfl, hdd⟩ := key (by simp [am_len])
    simp only [am_mem] at h
    split at h
    · next h300 =>
      simp only [am_okL, h300, if_true] at hl
      obtain ⟨n, dp, i2, sp, i1, r, n1, n2, rfl, hi1, hi2, hrs, g1, g2, g3, g4, g5, rfl⟩ := am_acp_spec (am_inl h)
      exact am_acp_ok hx hb hml hown hts hK hR hlo hdd hl hi1 hi2 g1 g2 g3 g4 g5 hfr hloc (by simpa [Function.comp_def, am_tv_cat] using hrs) (fun H' locs' hR' hlo' => kk H' locs' cells slots hR' hlo' rfl rfl)
    · obtain ⟨as, r, -, -, e⟩ := am_calS_spec h
      cases e
  case invokevirtual ix =>
    obtain ⟨as, i, r, t', -, -, -, -, -, e⟩ := am_calV_spec h
    cases e
  case invokespecial ix =>
    obtain ⟨rfl, hdd⟩ := key (by simp [am_len])
    simp only [am_mem] at h
    split at h
    · next h200 =>
      simp only [am_okL, h200, if_true] at hl
      obtain ⟨i, r, rfl, hrs, rfl⟩ := am_pop_spec (am_inl h)
      have hrs' : ((r.map (am_tv h0 b)).map fun v => v.category).sum ≤ 8 := by simpa [Function.comp_def, am_tv_cat] using hrs
      exact W.objInit hx hb hown (hts _ (am_has_spec hl)) (hts _ am_w0.2.2.2.2.2.1) (hts _ am_w0.2.2.2.2.2.2) rfl hml.symm rfl hdd hfr (by show 2 * 0 + _ + 12 ≤ _; omega) (kk H locs cells slots hR hlo rfl rfl)
    · obtain ⟨as, i, r, t', -, -, -, -, -, e⟩ := am_calV_spec h
      cases e
  case ireturn =>
    obtain ⟨z, -, -, e⟩ := am_retI_spec h
    cases e
  case lreturn =>
    obtain ⟨z, -, -, e⟩ := am_retL_spec h
    cases e
  case areturn =>
    obtain ⟨-, ⟨z, -, e⟩ | ⟨-, e⟩⟩ := am_retA_spec h
    · cases e
    · cases e
  case return_ =>
    obtain ⟨-, -, e⟩ := am_retV_spec h
    cases e
  all_goals exact absurd h.symm (Option.some_ne_none _)
end AMS
