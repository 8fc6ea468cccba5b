/-! ===== the layout: which cells there are, and who points where ===== -/
def am_shT : List (Nat × Nat) := [(16, 14), (2, 8), (4, 4), (0, 6), (11, 2), (0, 3), (3, 5), (0, 3), (0, 4), (15, 2), (0, 4), (10, 5), (0, 4), (13, 4), (1, 19), (15, 2), (0, 4), (15, 2), (0, 4), (15, 2), (0, 4), (15, 2), (0, 4), (14, 8), (1, 9), (1, 3), (1, 3), (14, 8), (1, 9), (1, 3), (1, 3), (14, 8), (1, 9), (1, 3), (1, 3), (14, 8), (1, 9), (1, 3), (1, 3), (14, 8), (1, 9), (1, 3), (1, 3)]
def am_shM : List (Nat × Nat) := [(17, 29), (0, 6), (0, 8), (0, 32), (0, 4), (0, 16), (0, 4), (1, 12), (1, 9), (1, 3), (1, 3), (1, 3), (1, 3), (0, 4), (0, 3), (1, 61), (1, 61)]
def am_shP : Nat → List (Nat × Nat)
  | 0 => []
  | n + 1 => am_shP n ++ [(12, 3), (0, 4)]
/-- the cells with n plays -/
def am_sh (n : Nat) : List (Nat × Nat) := am_shT ++ (am_shM ++ am_shP n)
def am_q0 : Nat → Nat → Option Nat := am_u (va_up (va_up (am_u (va_up (am_u (va_up (am_u (va_up (am_u (va_up (am_u (va_up (am_u (va_up (am_u (va_up (am_u (va_up (va_up (fun _ _ => none) 0 (fun _ => none)) 1 (fun _ => none)) 0 2 (some 1)) 2 (fun _ => none)) 0 3 (some 2)) 3 (fun _ => none)) 0 5 (some 3)) 4 (fun _ => none)) 0 6 (some 4)) 5 (fun _ => none)) 0 7 (some 5)) 6 (fun _ => none)) 0 8 (some 6)) 7 (fun _ => none)) 0 9 (some 7)) 8 (fun _ => none)) 0 10 (some 8)) 9 (fun _ => none)) 10 (fun _ => none)) 9 1 (some 10)
def am_q1 : Nat → Nat → Option Nat := am_u (va_up (va_up (am_u (am_u (va_up (va_up (am_u (am_u (va_up (va_up (am_u (am_u (va_up (va_up (am_u (am_u (va_up (va_up (am_u (am_q0) 0 11 (some 9)) 11 (fun _ => none)) 12 (fun _ => none)) 11 4 (some 12)) 0 12 (some 11)) 13 (fun _ => none)) 14 (fun _ => none)) 13 3 (some 14)) 0 13 (some 13)) 15 (fun _ => none)) 16 (fun _ => none)) 15 1 (some 16)) 2 0 (some 15)) 17 (fun _ => none)) 18 (fun _ => none)) 17 1 (some 18)) 2 1 (some 17)) 19 (fun _ => none)) 20 (fun _ => none)) 19 1 (some 20)
def am_q2 : Nat → Nat → Option Nat := am_u (va_up (am_u (va_up (am_u (va_up (va_up (am_u (am_u (va_up (am_u (va_up (am_u (va_up (va_up (am_u (am_u (va_up (va_up (am_u (am_q1) 2 2 (some 19)) 21 (fun _ => none)) 22 (fun _ => none)) 21 1 (some 22)) 2 3 (some 21)) 23 (fun _ => none)) 24 (fun _ => none)) 23 3 (some 24)) 25 (fun _ => none)) 23 4 (some 25)) 26 (fun _ => none)) 23 5 (some 26)) 6 0 (some 23)) 27 (fun _ => none)) 28 (fun _ => none)) 27 3 (some 28)) 29 (fun _ => none)) 27 4 (some 29)) 30 (fun _ => none)) 27 5 (some 30)
def am_q3 : Nat → Nat → Option Nat := am_u (va_up (va_up (am_u (am_u (va_up (am_u (va_up (am_u (va_up (va_up (am_u (am_u (va_up (am_u (va_up (am_u (va_up (va_up (am_u (am_q2) 6 1 (some 27)) 31 (fun _ => none)) 32 (fun _ => none)) 31 3 (some 32)) 33 (fun _ => none)) 31 4 (some 33)) 34 (fun _ => none)) 31 5 (some 34)) 6 2 (some 31)) 35 (fun _ => none)) 36 (fun _ => none)) 35 3 (some 36)) 37 (fun _ => none)) 35 4 (some 37)) 38 (fun _ => none)) 35 5 (some 38)) 6 3 (some 35)) 39 (fun _ => none)) 40 (fun _ => none)) 39 3 (some 40)
def am_q4 : Nat → Nat → Option Nat := am_u (va_up (am_u (va_up (am_u (va_up (am_u (va_up (am_u (va_up (am_u (va_up (am_u (va_up (va_up (am_u (am_u (va_up (am_u (va_up (am_q3) 41 (fun _ => none)) 39 4 (some 41)) 42 (fun _ => none)) 39 5 (some 42)) 6 4 (some 39)) 43 (fun _ => none)) 44 (fun _ => none)) 43 1 (some 44)) 45 (fun _ => none)) 43 6 (some 45)) 46 (fun _ => none)) 43 7 (some 46)) 47 (fun _ => none)) 43 8 (some 47)) 48 (fun _ => none)) 43 9 (some 48)) 49 (fun _ => none)) 43 10 (some 49)) 50 (fun _ => none)) 43 13 (some 50)
def am_q5 : Nat → Nat → Option Nat := am_u (va_up (am_u (va_up (am_u (va_up (am_u (va_up (am_u (va_up (am_u (va_up (am_u (va_up (am_u (va_up (am_u (va_up (am_q4) 51 (fun _ => none)) 43 15 (some 51)) 52 (fun _ => none)) 43 16 (some 52)) 53 (fun _ => none)) 43 17 (some 53)) 54 (fun _ => none)) 43 18 (some 54)) 55 (fun _ => none)) 43 19 (some 55)) 56 (fun _ => none)) 43 25 (some 56)) 57 (fun _ => none)) 43 26 (some 57)) 58 (fun _ => none)) 43 27 (some 58)) 59 (fun _ => none)) 43 28 (some 59)
/-- who points where, with n plays -/
def am_mR : Nat → Nat → Nat → Option Nat
  | 0 => am_q5
  | n + 1 => am_u (am_u (va_up (va_up (am_mR n) (60 + 2 * n) (fun _ => none)) (61 + 2 * n) (fun _ => none)) (60 + 2 * n) 2 (some (61 + 2 * n))) 1 n (some (60 + 2 * n))
theorem am_shP_len : ∀ n, (am_shP n).length = 2 * n
  | 0 => rfl
  | n + 1 => by simp [am_shP, am_shP_len n]; omega
theorem am_sh_len (n : Nat) : (am_sh n).length = 60 + 2 * n := by
  simp [am_sh, am_shP_len, am_shT, am_shM]
  omega
theorem am_shP_at : ∀ n p, p < n → (am_shP n)[2 * p]? = some (12, 3) ∧ (am_shP n)[2 * p + 1]? = some (0, 4)
  | 0, p, h => by omega
  | n + 1, p, h => by
    have hl := am_shP_len n
    by_cases e : p = n
    · subst e
      simp only [am_shP]
      refine ⟨?_, ?_⟩
      · rw [List.getElem?_append_right (by omega), hl, show 2 * p - 2 * p = 0 by omega]; rfl
      · rw [List.getElem?_append_right (by omega), hl, show 2 * p + 1 - 2 * p = 1 by omega]; rfl
    · have h := am_shP_at n p (by omega)
      simp only [am_shP]
      refine ⟨?_, ?_⟩
      · rw [List.getElem?_append_left (by omega)]; exact h.1
      · rw [List.getElem?_append_left (by omega)]; exact h.2
theorem am_sh_lo {n i : Nat} (h : i < 60) : (am_sh n)[i]? = (am_shT ++ am_shM)[i]? := by
  unfold am_sh
  rw [← List.append_assoc, List.getElem?_append_left (by simp [am_shT, am_shM]; omega)]
theorem am_sh_hi (n i : Nat) : (am_sh n)[60 + i]? = (am_shP n)[i]? := by
  unfold am_sh
  rw [← List.append_assoc, List.getElem?_append_right (by simp [am_shT, am_shM])]
  congr 1
  simp [am_shT, am_shM]
theorem sh_play {n p : Nat} (h : p < n) : (am_sh n)[60 + 2 * p]? = some (12, 3) := by rw [am_sh_hi]; exact (am_shP_at n p h).1
theorem sh_wins {n p : Nat} (h : p < n) : (am_sh n)[61 + 2 * p]? = some (0, 4) := by rw [show 61 + 2 * p = 60 + (2 * p + 1) by omega, am_sh_hi]; exact (am_shP_at n p h).2
theorem am_mR_old {n i k : Nat} (h1 : i ≠ 60 + 2 * n) (h2 : i ≠ 61 + 2 * n) (h3 : i ≠ 1 ∨ k ≠ n) : am_mR (n + 1) i k = am_mR n i k := by
  simp only [am_mR, am_u]
  by_cases e : i = 1
  · subst e
    have h3 : k ≠ n := by omega
    rw [va_up_self, va_up_ne _ _ h3, va_up_ne _ _ (by omega), va_up_ne _ _ (by omega), va_up_ne _ _ (by omega)]
  · rw [va_up_ne _ _ e, va_up_ne _ _ (by omega), va_up_ne _ _ (by omega), va_up_ne _ _ (by omega)]
theorem am_mR_lo {i k : Nat} (h : i < 60) (h1 : i ≠ 1) : ∀ n, am_mR n i k = am_mR 0 i k
  | 0 => rfl
  | n + 1 => by rw [am_mR_old (by omega) (by omega) (Or.inl h1)]; exact am_mR_lo h h1 n
theorem mR_plays {p : Nat} : ∀ n, p < n → am_mR n 1 p = some (60 + 2 * p)
  | 0, h => by omega
  | n + 1, h => by
    by_cases e : p = n
    · subst e
      simp only [am_mR, am_u]
      rw [va_up_self, va_up_self]
    · rw [am_mR_old (by omega) (by omega) (Or.inr e)]
      exact mR_plays n (by omega)
theorem mR_wins {p : Nat} : ∀ n, p < n → am_mR n (60 + 2 * p) 2 = some (61 + 2 * p)
  | 0, h => by omega
  | n + 1, h => by
    by_cases e : p = n
    · subst e
      simp only [am_mR, am_u]
      rw [va_up_ne _ _ (by omega), va_up_self, va_up_self]
    · rw [am_mR_old (by omega) (by omega) (Or.inl (by omega))]
      exact mR_wins n (by omega)
theorem sh_0 (n : Nat) : (am_sh n)[0]? = some (16, 14) := (am_sh_lo (by decide)).trans rfl
theorem sk_0 (n : Nat) : ((am_sh n)[0]?).map (fun q => q.1) = some 16 := by rw [sh_0]; rfl
theorem sh_1 (n : Nat) : (am_sh n)[1]? = some (2, 8) := (am_sh_lo (by decide)).trans rfl
theorem sh_2 (n : Nat) : (am_sh n)[2]? = some (4, 4) := (am_sh_lo (by decide)).trans rfl
theorem sh_3 (n : Nat) : (am_sh n)[3]? = some (0, 6) := (am_sh_lo (by decide)).trans rfl
theorem sh_4 (n : Nat) : (am_sh n)[4]? = some (11, 2) := (am_sh_lo (by decide)).trans rfl
theorem sk_4 (n : Nat) : ((am_sh n)[4]?).map (fun q => q.1) = some 11 := by rw [sh_4]; rfl
theorem sh_5 (n : Nat) : (am_sh n)[5]? = some (0, 3) := (am_sh_lo (by decide)).trans rfl
theorem sh_6 (n : Nat) : (am_sh n)[6]? = some (3, 5) := (am_sh_lo (by decide)).trans rfl
theorem sh_7 (n : Nat) : (am_sh n)[7]? = some (0, 3) := (am_sh_lo (by decide)).trans rfl
theorem sh_8 (n : Nat) : (am_sh n)[8]? = some (0, 4) := (am_sh_lo (by decide)).trans rfl
theorem sh_9 (n : Nat) : (am_sh n)[9]? = some (15, 2) := (am_sh_lo (by decide)).trans rfl
theorem sk_9 (n : Nat) : ((am_sh n)[9]?).map (fun q => q.1) = some 15 := by rw [sh_9]; rfl
theorem sh_10 (n : Nat) : (am_sh n)[10]? = some (0, 4) := (am_sh_lo (by decide)).trans rfl
theorem sh_11 (n : Nat) : (am_sh n)[11]? = some (10, 5) := (am_sh_lo (by decide)).trans rfl
theorem sk_11 (n : Nat) : ((am_sh n)[11]?).map (fun q => q.1) = some 10 := by rw [sh_11]; rfl
theorem sh_12 (n : Nat) : (am_sh n)[12]? = some (0, 4) := (am_sh_lo (by decide)).trans rfl
theorem sh_13 (n : Nat) : (am_sh n)[13]? = some (13, 4) := (am_sh_lo (by decide)).trans rfl
theorem sk_13 (n : Nat) : ((am_sh n)[13]?).map (fun q => q.1) = some 13 := by rw [sh_13]; rfl
theorem sh_14 (n : Nat) : (am_sh n)[14]? = some (1, 19) := (am_sh_lo (by decide)).trans rfl
theorem sh_15 (n : Nat) : (am_sh n)[15]? = some (15, 2) := (am_sh_lo (by decide)).trans rfl
theorem sk_15 (n : Nat) : ((am_sh n)[15]?).map (fun q => q.1) = some 15 := by rw [sh_15]; rfl
theorem sh_16 (n : Nat) : (am_sh n)[16]? = some (0, 4) := (am_sh_lo (by decide)).trans rfl
theorem sh_17 (n : Nat) : (am_sh n)[17]? = some (15, 2) := (am_sh_lo (by decide)).trans rfl
theorem sk_17 (n : Nat) : ((am_sh n)[17]?).map (fun q => q.1) = some 15 := by rw [sh_17]; rfl
theorem sh_18 (n : Nat) : (am_sh n)[18]? = some (0, 4) := (am_sh_lo (by decide)).trans rfl
theorem sh_19 (n : Nat) : (am_sh n)[19]? = some (15, 2) := (am_sh_lo (by decide)).trans rfl
theorem sk_19 (n : Nat) : ((am_sh n)[19]?).map (fun q => q.1) = some 15 := by rw [sh_19]; rfl
theorem sh_20 (n : Nat) : (am_sh n)[20]? = some (0, 4) := (am_sh_lo (by decide)).trans rfl
theorem sh_21 (n : Nat) : (am_sh n)[21]? = some (15, 2) := (am_sh_lo (by decide)).trans rfl
theorem sk_21 (n : Nat) : ((am_sh n)[21]?).map (fun q => q.1) = some 15 := by rw [sh_21]; rfl
theorem sh_22 (n : Nat) : (am_sh n)[22]? = some (0, 4) := (am_sh_lo (by decide)).trans rfl
theorem sh_23 (n : Nat) : (am_sh n)[23]? = some (14, 8) := (am_sh_lo (by decide)).trans rfl
theorem sk_23 (n : Nat) : ((am_sh n)[23]?).map (fun q => q.1) = some 14 := by rw [sh_23]; rfl
theorem sh_24 (n : Nat) : (am_sh n)[24]? = some (1, 9) := (am_sh_lo (by decide)).trans rfl
theorem sh_25 (n : Nat) : (am_sh n)[25]? = some (1, 3) := (am_sh_lo (by decide)).trans rfl
theorem sh_26 (n : Nat) : (am_sh n)[26]? = some (1, 3) := (am_sh_lo (by decide)).trans rfl
theorem sh_27 (n : Nat) : (am_sh n)[27]? = some (14, 8) := (am_sh_lo (by decide)).trans rfl
theorem sk_27 (n : Nat) : ((am_sh n)[27]?).map (fun q => q.1) = some 14 := by rw [sh_27]; rfl
theorem sh_28 (n : Nat) : (am_sh n)[28]? = some (1, 9) := (am_sh_lo (by decide)).trans rfl
theorem sh_29 (n : Nat) : (am_sh n)[29]? = some (1, 3) := (am_sh_lo (by decide)).trans rfl
theorem sh_30 (n : Nat) : (am_sh n)[30]? = some (1, 3) := (am_sh_lo (by decide)).trans rfl
theorem sh_31 (n : Nat) : (am_sh n)[31]? = some (14, 8) := (am_sh_lo (by decide)).trans rfl
theorem sk_31 (n : Nat) : ((am_sh n)[31]?).map (fun q => q.1) = some 14 := by rw [sh_31]; rfl
theorem sh_32 (n : Nat) : (am_sh n)[32]? = some (1, 9) := (am_sh_lo (by decide)).trans rfl
theorem sh_33 (n : Nat) : (am_sh n)[33]? = some (1, 3) := (am_sh_lo (by decide)).trans rfl
theorem sh_34 (n : Nat) : (am_sh n)[34]? = some (1, 3) := (am_sh_lo (by decide)).trans rfl
theorem sh_35 (n : Nat) : (am_sh n)[35]? = some (14, 8) := (am_sh_lo (by decide)).trans rfl
theorem sk_35 (n : Nat) : ((am_sh n)[35]?).map (fun q => q.1) = some 14 := by rw [sh_35]; rfl
theorem sh_36 (n : Nat) : (am_sh n)[36]? = some (1, 9) := (am_sh_lo (by decide)).trans rfl
theorem sh_37 (n : Nat) : (am_sh n)[37]? = some (1, 3) := (am_sh_lo (by decide)).trans rfl
theorem sh_38 (n : Nat) : (am_sh n)[38]? = some (1, 3) := (am_sh_lo (by decide)).trans rfl
theorem sh_39 (n : Nat) : (am_sh n)[39]? = some (14, 8) := (am_sh_lo (by decide)).trans rfl
theorem sk_39 (n : Nat) : ((am_sh n)[39]?).map (fun q => q.1) = some 14 := by rw [sh_39]; rfl
theorem sh_40 (n : Nat) : (am_sh n)[40]? = some (1, 9) := (am_sh_lo (by decide)).trans rfl
theorem sh_41 (n : Nat) : (am_sh n)[41]? = some (1, 3) := (am_sh_lo (by decide)).trans rfl
theorem sh_42 (n : Nat) : (am_sh n)[42]? = some (1, 3) := (am_sh_lo (by decide)).trans rfl
theorem sh_43 (n : Nat) : (am_sh n)[43]? = some (17, 29) := (am_sh_lo (by decide)).trans rfl
theorem sk_43 (n : Nat) : ((am_sh n)[43]?).map (fun q => q.1) = some 17 := by rw [sh_43]; rfl
theorem sh_44 (n : Nat) : (am_sh n)[44]? = some (0, 6) := (am_sh_lo (by decide)).trans rfl
theorem sh_45 (n : Nat) : (am_sh n)[45]? = some (0, 8) := (am_sh_lo (by decide)).trans rfl
theorem sh_46 (n : Nat) : (am_sh n)[46]? = some (0, 32) := (am_sh_lo (by decide)).trans rfl
theorem sh_47 (n : Nat) : (am_sh n)[47]? = some (0, 4) := (am_sh_lo (by decide)).trans rfl
theorem sh_48 (n : Nat) : (am_sh n)[48]? = some (0, 16) := (am_sh_lo (by decide)).trans rfl
theorem sh_49 (n : Nat) : (am_sh n)[49]? = some (0, 4) := (am_sh_lo (by decide)).trans rfl
theorem sh_50 (n : Nat) : (am_sh n)[50]? = some (1, 12) := (am_sh_lo (by decide)).trans rfl
theorem sh_51 (n : Nat) : (am_sh n)[51]? = some (1, 9) := (am_sh_lo (by decide)).trans rfl
theorem sh_52 (n : Nat) : (am_sh n)[52]? = some (1, 3) := (am_sh_lo (by decide)).trans rfl
theorem sh_53 (n : Nat) : (am_sh n)[53]? = some (1, 3) := (am_sh_lo (by decide)).trans rfl
theorem sh_54 (n : Nat) : (am_sh n)[54]? = some (1, 3) := (am_sh_lo (by decide)).trans rfl
theorem sh_55 (n : Nat) : (am_sh n)[55]? = some (1, 3) := (am_sh_lo (by decide)).trans rfl
theorem sh_56 (n : Nat) : (am_sh n)[56]? = some (0, 4) := (am_sh_lo (by decide)).trans rfl
theorem sh_57 (n : Nat) : (am_sh n)[57]? = some (0, 3) := (am_sh_lo (by decide)).trans rfl
theorem sh_58 (n : Nat) : (am_sh n)[58]? = some (1, 61) := (am_sh_lo (by decide)).trans rfl
theorem sh_59 (n : Nat) : (am_sh n)[59]? = some (1, 61) := (am_sh_lo (by decide)).trans rfl
theorem mR_0_2 (n : Nat) : am_mR n 0 2 = some 1 := (am_mR_lo (by decide) (by decide) n).trans (by decide +kernel)
theorem mR_0_3 (n : Nat) : am_mR n 0 3 = some 2 := (am_mR_lo (by decide) (by decide) n).trans (by decide +kernel)
theorem mR_0_5 (n : Nat) : am_mR n 0 5 = some 3 := (am_mR_lo (by decide) (by decide) n).trans (by decide +kernel)
theorem mR_0_6 (n : Nat) : am_mR n 0 6 = some 4 := (am_mR_lo (by decide) (by decide) n).trans (by decide +kernel)
theorem mR_0_7 (n : Nat) : am_mR n 0 7 = some 5 := (am_mR_lo (by decide) (by decide) n).trans (by decide +kernel)
theorem mR_0_8 (n : Nat) : am_mR n 0 8 = some 6 := (am_mR_lo (by decide) (by decide) n).trans (by decide +kernel)
theorem mR_0_9 (n : Nat) : am_mR n 0 9 = some 7 := (am_mR_lo (by decide) (by decide) n).trans (by decide +kernel)
theorem mR_0_10 (n : Nat) : am_mR n 0 10 = some 8 := (am_mR_lo (by decide) (by decide) n).trans (by decide +kernel)
theorem mR_9_1 (n : Nat) : am_mR n 9 1 = some 10 := (am_mR_lo (by decide) (by decide) n).trans (by decide +kernel)
theorem mR_0_11 (n : Nat) : am_mR n 0 11 = some 9 := (am_mR_lo (by decide) (by decide) n).trans (by decide +kernel)
theorem mR_11_4 (n : Nat) : am_mR n 11 4 = some 12 := (am_mR_lo (by decide) (by decide) n).trans (by decide +kernel)
theorem mR_0_12 (n : Nat) : am_mR n 0 12 = some 11 := (am_mR_lo (by decide) (by decide) n).trans (by decide +kernel)
theorem mR_13_3 (n : Nat) : am_mR n 13 3 = some 14 := (am_mR_lo (by decide) (by decide) n).trans (by decide +kernel)
theorem mR_0_13 (n : Nat) : am_mR n 0 13 = some 13 := (am_mR_lo (by decide) (by decide) n).trans (by decide +kernel)
theorem mR_15_1 (n : Nat) : am_mR n 15 1 = some 16 := (am_mR_lo (by decide) (by decide) n).trans (by decide +kernel)
theorem mR_2_0 (n : Nat) : am_mR n 2 0 = some 15 := (am_mR_lo (by decide) (by decide) n).trans (by decide +kernel)
theorem mR_17_1 (n : Nat) : am_mR n 17 1 = some 18 := (am_mR_lo (by decide) (by decide) n).trans (by decide +kernel)
theorem mR_2_1 (n : Nat) : am_mR n 2 1 = some 17 := (am_mR_lo (by decide) (by decide) n).trans (by decide +kernel)
theorem mR_19_1 (n : Nat) : am_mR n 19 1 = some 20 := (am_mR_lo (by decide) (by decide) n).trans (by decide +kernel)
theorem mR_2_2 (n : Nat) : am_mR n 2 2 = some 19 := (am_mR_lo (by decide) (by decide) n).trans (by decide +kernel)
theorem mR_21_1 (n : Nat) : am_mR n 21 1 = some 22 := (am_mR_lo (by decide) (by decide) n).trans (by decide +kernel)
theorem mR_2_3 (n : Nat) : am_mR n 2 3 = some 21 := (am_mR_lo (by decide) (by decide) n).trans (by decide +kernel)
theorem mR_23_3 (n : Nat) : am_mR n 23 3 = some 24 := (am_mR_lo (by decide) (by decide) n).trans (by decide +kernel)
theorem mR_23_4 (n : Nat) : am_mR n 23 4 = some 25 := (am_mR_lo (by decide) (by decide) n).trans (by decide +kernel)
theorem mR_23_5 (n : Nat) : am_mR n 23 5 = some 26 := (am_mR_lo (by decide) (by decide) n).trans (by decide +kernel)
theorem mR_6_0 (n : Nat) : am_mR n 6 0 = some 23 := (am_mR_lo (by decide) (by decide) n).trans (by decide +kernel)
theorem mR_27_3 (n : Nat) : am_mR n 27 3 = some 28 := (am_mR_lo (by decide) (by decide) n).trans (by decide +kernel)
theorem mR_27_4 (n : Nat) : am_mR n 27 4 = some 29 := (am_mR_lo (by decide) (by decide) n).trans (by decide +kernel)
theorem mR_27_5 (n : Nat) : am_mR n 27 5 = some 30 := (am_mR_lo (by decide) (by decide) n).trans (by decide +kernel)
theorem mR_6_1 (n : Nat) : am_mR n 6 1 = some 27 := (am_mR_lo (by decide) (by decide) n).trans (by decide +kernel)
theorem mR_31_3 (n : Nat) : am_mR n 31 3 = some 32 := (am_mR_lo (by decide) (by decide) n).trans (by decide +kernel)
theorem mR_31_4 (n : Nat) : am_mR n 31 4 = some 33 := (am_mR_lo (by decide) (by decide) n).trans (by decide +kernel)
theorem mR_31_5 (n : Nat) : am_mR n 31 5 = some 34 := (am_mR_lo (by decide) (by decide) n).trans (by decide +kernel)
theorem mR_6_2 (n : Nat) : am_mR n 6 2 = some 31 := (am_mR_lo (by decide) (by decide) n).trans (by decide +kernel)
theorem mR_35_3 (n : Nat) : am_mR n 35 3 = some 36 := (am_mR_lo (by decide) (by decide) n).trans (by decide +kernel)
theorem mR_35_4 (n : Nat) : am_mR n 35 4 = some 37 := (am_mR_lo (by decide) (by decide) n).trans (by decide +kernel)
theorem mR_35_5 (n : Nat) : am_mR n 35 5 = some 38 := (am_mR_lo (by decide) (by decide) n).trans (by decide +kernel)
theorem mR_6_3 (n : Nat) : am_mR n 6 3 = some 35 := (am_mR_lo (by decide) (by decide) n).trans (by decide +kernel)
theorem mR_39_3 (n : Nat) : am_mR n 39 3 = some 40 := (am_mR_lo (by decide) (by decide) n).trans (by decide +kernel)
theorem mR_39_4 (n : Nat) : am_mR n 39 4 = some 41 := (am_mR_lo (by decide) (by decide) n).trans (by decide +kernel)
theorem mR_39_5 (n : Nat) : am_mR n 39 5 = some 42 := (am_mR_lo (by decide) (by decide) n).trans (by decide +kernel)
theorem mR_6_4 (n : Nat) : am_mR n 6 4 = some 39 := (am_mR_lo (by decide) (by decide) n).trans (by decide +kernel)
theorem mR_43_1 (n : Nat) : am_mR n 43 1 = some 44 := (am_mR_lo (by decide) (by decide) n).trans (by decide +kernel)
theorem mR_43_6 (n : Nat) : am_mR n 43 6 = some 45 := (am_mR_lo (by decide) (by decide) n).trans (by decide +kernel)
theorem mR_43_7 (n : Nat) : am_mR n 43 7 = some 46 := (am_mR_lo (by decide) (by decide) n).trans (by decide +kernel)
theorem mR_43_8 (n : Nat) : am_mR n 43 8 = some 47 := (am_mR_lo (by decide) (by decide) n).trans (by decide +kernel)
theorem mR_43_9 (n : Nat) : am_mR n 43 9 = some 48 := (am_mR_lo (by decide) (by decide) n).trans (by decide +kernel)
theorem mR_43_10 (n : Nat) : am_mR n 43 10 = some 49 := (am_mR_lo (by decide) (by decide) n).trans (by decide +kernel)
theorem mR_43_13 (n : Nat) : am_mR n 43 13 = some 50 := (am_mR_lo (by decide) (by decide) n).trans (by decide +kernel)
theorem mR_43_15 (n : Nat) : am_mR n 43 15 = some 51 := (am_mR_lo (by decide) (by decide) n).trans (by decide +kernel)
theorem mR_43_16 (n : Nat) : am_mR n 43 16 = some 52 := (am_mR_lo (by decide) (by decide) n).trans (by decide +kernel)
theorem mR_43_17 (n : Nat) : am_mR n 43 17 = some 53 := (am_mR_lo (by decide) (by decide) n).trans (by decide +kernel)
theorem mR_43_18 (n : Nat) : am_mR n 43 18 = some 54 := (am_mR_lo (by decide) (by decide) n).trans (by decide +kernel)
theorem mR_43_19 (n : Nat) : am_mR n 43 19 = some 55 := (am_mR_lo (by decide) (by decide) n).trans (by decide +kernel)
theorem mR_43_25 (n : Nat) : am_mR n 43 25 = some 56 := (am_mR_lo (by decide) (by decide) n).trans (by decide +kernel)
theorem mR_43_26 (n : Nat) : am_mR n 43 26 = some 57 := (am_mR_lo (by decide) (by decide) n).trans (by decide +kernel)
theorem mR_43_27 (n : Nat) : am_mR n 43 27 = some 58 := (am_mR_lo (by decide) (by decide) n).trans (by decide +kernel)
theorem mR_43_28 (n : Nat) : am_mR n 43 28 = some 59 := (am_mR_lo (by decide) (by decide) n).trans (by decide +kernel)
theorem sk_play {n p : Nat} (h : p < n) : ((am_sh n)[60 + 2 * p]?).map (fun q => q.1) = some 12 := by rw [sh_play h]; rfl
theorem sh_row {r : Nat} (n : Nat) (h : r < 4) : (am_sh n)[15 + 2 * r]? = some (15, 2) ∧ (am_sh n)[16 + 2 * r]? = some (0, 4) ∧ am_mR n 2 r = some (15 + 2 * r) ∧ am_mR n (15 + 2 * r) 1 = some (16 + 2 * r) := by
  rcases (by omega : r = 0 ∨ r = 1 ∨ r = 2 ∨ r = 3) with rfl | rfl | rfl | rfl
  · exact ⟨sh_15 n, sh_16 n, mR_2_0 n, mR_15_1 n⟩
  · exact ⟨sh_17 n, sh_18 n, mR_2_1 n, mR_17_1 n⟩
  · exact ⟨sh_19 n, sh_20 n, mR_2_2 n, mR_19_1 n⟩
  · exact ⟨sh_21 n, sh_22 n, mR_2_3 n, mR_21_1 n⟩
theorem sh_rnd {k : Nat} (n : Nat) (h : k < 5) : ((am_sh n)[23 + 4 * k]? = some (14, 8) ∧ (am_sh n)[24 + 4 * k]? = some (1, 9) ∧ (am_sh n)[25 + 4 * k]? = some (1, 3) ∧ (am_sh n)[26 + 4 * k]? = some (1, 3)) ∧ am_mR n 6 k = some (23 + 4 * k) ∧ am_mR n (23 + 4 * k) 3 = some (24 + 4 * k) ∧ am_mR n (23 + 4 * k) 4 = some (25 + 4 * k) ∧ am_mR n (23 + 4 * k) 5 = some (26 + 4 * k) := by
  rcases (by omega : k = 0 ∨ k = 1 ∨ k = 2 ∨ k = 3 ∨ k = 4) with rfl | rfl | rfl | rfl | rfl
  · exact ⟨⟨sh_23 n, sh_24 n, sh_25 n, sh_26 n⟩, mR_6_0 n, mR_23_3 n, mR_23_4 n, mR_23_5 n⟩
  · exact ⟨⟨sh_27 n, sh_28 n, sh_29 n, sh_30 n⟩, mR_6_1 n, mR_27_3 n, mR_27_4 n, mR_27_5 n⟩
  · exact ⟨⟨sh_31 n, sh_32 n, sh_33 n, sh_34 n⟩, mR_6_2 n, mR_31_3 n, mR_31_4 n, mR_31_5 n⟩
  · exact ⟨⟨sh_35 n, sh_36 n, sh_37 n, sh_38 n⟩, mR_6_3 n, mR_35_3 n, mR_35_4 n, mR_35_5 n⟩
  · exact ⟨⟨sh_39 n, sh_40 n, sh_41 n, sh_42 n⟩, mR_6_4 n, mR_39_3 n, mR_39_4 n, mR_39_5 n⟩
/-! rows on numbers: places and counters are Nats -/
theorem ni_inc (a n : Nat) : nI a + Int32.ofInt (n : Int) = nI (a + n) := by
  rw [← nI_add]
  rfl
section GN
variable {S : am_S} {d : Nat} {t : am_T} {M : am_M} {pc nx a b h : Nat} {la st : List Value} {Q : Option Value × am_M → Prop} {x y : Nat}
theorem gn_iadd (hl : At t pc (.iadd, nx, a, b, h)) (k : Go S d t (M, nx, la, .int (nI (x + y)) :: st) Q) : Go S d t (M, pc, la, .int (nI y) :: .int (nI x) :: st) Q := go_iadd hl (by rw [nI_add]; exact k)
theorem gn_imul (hl : At t pc (.imul, nx, a, b, h)) (k : Go S d t (M, nx, la, .int (nI (x * y)) :: st) Q) : Go S d t (M, pc, la, .int (nI y) :: .int (nI x) :: st) Q := go_imul hl (by rw [pk_mul]; exact k)
theorem gn_isub (hl : At t pc (.isub, nx, a, b, h)) (hy : y ≤ x) (k : Go S d t (M, nx, la, .int (nI (x - y)) :: st) Q) : Go S d t (M, pc, la, .int (nI y) :: .int (nI x) :: st) Q := go_isub hl (by rw [pk_sub hy]; exact k)
theorem gn_idiv (hl : At t pc (.idiv, nx, a, b, h)) (hx : x < 2 ^ 31) (h0 : 0 < y) (hy : y < 2 ^ 31) (k : Go S d t (M, nx, la, .int (nI (x / y)) :: st) Q) : Go S d t (M, pc, la, .int (nI y) :: .int (nI x) :: st) Q := go_idiv hl (nI_ne0 h0 hy) (by rw [pk_div hx h0 hy]; exact k)
theorem gn_irem (hl : At t pc (.irem, nx, a, b, h)) (hx : x < 2 ^ 31) (h0 : 0 < y) (hy : y < 2 ^ 31) (k : Go S d t (M, nx, la, .int (nI (x % y)) :: st) Q) : Go S d t (M, pc, la, .int (nI y) :: .int (nI x) :: st) Q := go_irem hl (nI_ne0 h0 hy) (by rw [pk_rem hx h0 hy]; exact k)
theorem gn_ic_lt {z : Int} (hl : At t pc (.if_icmp .lt z, nx, a, b, h)) (hx : x < 2 ^ 31) (hy : y < 2 ^ 31) (kt : x < y → Go S d t (M, a, la, st) Q) (kf : y ≤ x → Go S d t (M, nx, la, st) Q) : Go S d t (M, pc, la, .int (nI y) :: .int (nI x) :: st) Q := go_ic_lt hl (fun c => kt ((nI_ltI hx hy).mp c)) (fun c => kf (Nat.not_lt.mp fun q => c ((nI_ltI hx hy).mpr q)))
theorem gn_ic_ge {z : Int} (hl : At t pc (.if_icmp .ge z, nx, a, b, h)) (hx : x < 2 ^ 31) (hy : y < 2 ^ 31) (kt : y ≤ x → Go S d t (M, a, la, st) Q) (kf : x < y → Go S d t (M, nx, la, st) Q) : Go S d t (M, pc, la, .int (nI y) :: .int (nI x) :: st) Q := go_ic_ge hl (fun c => kt ((nI_leI hy hx).mp c)) (fun c => kf (Nat.not_le.mp fun q => c ((nI_leI hy hx).mpr q)))
theorem gn_ic_gt {z : Int} (hl : At t pc (.if_icmp .gt z, nx, a, b, h)) (hx : x < 2 ^ 31) (hy : y < 2 ^ 31) (kt : y < x → Go S d t (M, a, la, st) Q) (kf : x ≤ y → Go S d t (M, nx, la, st) Q) : Go S d t (M, pc, la, .int (nI y) :: .int (nI x) :: st) Q := go_ic_gt hl (fun c => kt ((nI_ltI hy hx).mp c)) (fun c => kf (Nat.not_lt.mp fun q => c ((nI_ltI hy hx).mpr q)))
theorem gn_ic_le {z : Int} (hl : At t pc (.if_icmp .le z, nx, a, b, h)) (hx : x < 2 ^ 31) (hy : y < 2 ^ 31) (kt : x ≤ y → Go S d t (M, a, la, st) Q) (kf : y < x → Go S d t (M, nx, la, st) Q) : Go S d t (M, pc, la, .int (nI y) :: .int (nI x) :: st) Q := go_ic_le hl (fun c => kt ((nI_leI hx hy).mp c)) (fun c => kf (Nat.not_le.mp fun q => c ((nI_leI hx hy).mpr q)))
theorem gn_ic_eq {z : Int} (hl : At t pc (.if_icmp .eq z, nx, a, b, h)) (hx : x < 2 ^ 31) (hy : y < 2 ^ 31) (kt : x = y → Go S d t (M, a, la, st) Q) (kf : x ≠ y → Go S d t (M, nx, la, st) Q) : Go S d t (M, pc, la, .int (nI y) :: .int (nI x) :: st) Q := go_ic_eq hl (fun c => kt ((nI_eq hx hy).mp c)) (fun c => kf (fun q => c ((nI_eq hx hy).mpr q)))
theorem gn_ic_ne {z : Int} (hl : At t pc (.if_icmp .ne z, nx, a, b, h)) (hx : x < 2 ^ 31) (hy : y < 2 ^ 31) (kt : x ≠ y → Go S d t (M, a, la, st) Q) (kf : x = y → Go S d t (M, nx, la, st) Q) : Go S d t (M, pc, la, .int (nI y) :: .int (nI x) :: st) Q := go_ic_ne hl (fun c => kt (fun q => c ((nI_eq hx hy).mpr q))) (fun c => kf ((nI_eq hx hy).mp (Classical.not_not.mp c)))
/-- calls with one outcome -/
theorem gc_S1 {t' : am_T} {ix hh : Nat} {as r : List Value} {v : Value} {M2 : am_M} (hl : At t pc (.invokestatic ix, nx, a, b, h)) (hb : b ≠ 300) (ha : am_mt[a]? = some t') (ht : am_take b st [] = some (as, r)) (hr : (r.map fun v => v.category).sum ≤ 8) (hy : (am_lay as).length ≤ t'.2.2.1) (hd : hh + 1 ≤ d) (hc : Sp S hh t' M as (fun q => q = (some v, M2))) (k : Go S d t (M2, nx, la, v :: r) Q) : Go S d t (M, pc, la, st) Q := go_invS hl hb ha ht hr hy hc hd (fun v' M' e => by cases e; exact k)
theorem gc_S0 {t' : am_T} {ix hh : Nat} {as r : List Value} {M2 : am_M} (hl : At t pc (.invokestatic ix, nx, a, b, h)) (hb : b ≠ 300) (ha : am_mt[a]? = some t') (ht : am_take b st [] = some (as, r)) (hr : (r.map fun v => v.category).sum ≤ 8) (hy : (am_lay as).length ≤ t'.2.2.1) (hd : hh + 1 ≤ d) (hc : Sp S hh t' M as (fun q => q = (none, M2))) (k : Go S d t (M2, nx, la, r) Q) : Go S d t (M, pc, la, st) Q := go_invS hl hb ha ht hr hy hc hd (fun v' M' e => by cases e; exact k)
theorem gc_V1 {t' : am_T} {ix hh i : Nat} {as r : List Value} {v : Value} {M2 : am_M} (hl : At t pc (.invokevirtual ix, nx, a, b, h)) (ha : am_mt[a]? = some t') (hk : 10 ≤ t'.2.2.2.2.1) (hs : (M.1[i]?).map (fun q => q.1) = some t'.2.2.2.2.1) (ht : am_take b st [] = some (as, .ref i :: r)) (hr : (r.map fun v => v.category).sum ≤ 8) (hy : (am_lay (.ref i :: as)).length ≤ t'.2.2.1) (hd : hh + 1 ≤ d) (hc : Sp S hh t' M (.ref i :: as) (fun q => q = (some v, M2))) (k : Go S d t (M2, nx, la, v :: r) Q) : Go S d t (M, pc, la, st) Q := go_invV hl ha hk hs ht hr hy hc hd (fun v' M' e => by cases e; exact k)
theorem gc_V0 {t' : am_T} {ix hh i : Nat} {as r : List Value} {M2 : am_M} (hl : At t pc (.invokevirtual ix, nx, a, b, h)) (ha : am_mt[a]? = some t') (hk : 10 ≤ t'.2.2.2.2.1) (hs : (M.1[i]?).map (fun q => q.1) = some t'.2.2.2.2.1) (ht : am_take b st [] = some (as, .ref i :: r)) (hr : (r.map fun v => v.category).sum ≤ 8) (hy : (am_lay (.ref i :: as)).length ≤ t'.2.2.1) (hd : hh + 1 ≤ d) (hc : Sp S hh t' M (.ref i :: as) (fun q => q = (none, M2))) (k : Go S d t (M2, nx, la, r) Q) : Go S d t (M, pc, la, st) Q := go_invV hl ha hk hs ht hr hy hc hd (fun v' M' e => by cases e; exact k)
theorem gc_I0 {t' : am_T} {ix hh i : Nat} {as r : List Value} {M2 : am_M} (hl : At t pc (.invokespecial ix, nx, a, b, h)) (hb : b ≠ 200) (ha : am_mt[a]? = some t') (hk : 10 ≤ t'.2.2.2.2.1) (hs : (M.1[i]?).map (fun q => q.1) = some t'.2.2.2.2.1) (ht : am_take (b % 100) st [] = some (as, .ref i :: r)) (hr : (r.map fun v => v.category).sum ≤ 8) (hy : (am_lay (.ref i :: as)).length ≤ t'.2.2.1) (hd : hh + 1 ≤ d) (hc : Sp S hh t' M (.ref i :: as) (fun q => q = (none, M2))) (k : Go S d t (M2, nx, la, r) Q) : Go S d t (M, pc, la, st) Q := go_invI hl hb ha hk hs ht hr hy hc hd (fun v' M' e => by cases e; exact k)
end GN
