/-! ===== what a round is, in integers ===== -/
def upR (m i : Nat) : Nat := if i + 1 < m then i + 1 else 0
def dnR (m i : Nat) : Nat := if 0 < i then i - 1 else m - 1
theorem upR_lt {m i : Nat} (hm : 1 ≤ m) : upR m i < m := by unfold upR; split <;> omega
theorem dnR_lt {m i : Nat} (hi : i < m) : dnR m i < m := by unfold dnR; split <;> omega
theorem upR_mod {m i : Nat} (hi : i < m) : (i + 1) % m = upR m i := by
  unfold upR
  split
  · exact Nat.mod_eq_of_lt (by omega)
  · rw [show i + 1 = m by omega, Nat.mod_self]
theorem dnR_mod {m i : Nat} (hi : i < m) : (i + m - 1) % m = dnR m i := by
  unfold dnR
  split
  · rw [show i + m - 1 = (i - 1) + m by omega, Nat.add_mod_right, Nat.mod_eq_of_lt (by omega)]
  · rw [Nat.mod_eq_of_lt (by omega)]; omega
def stP (m b : Nat) (w : Nat → Nat) (v : Nat → Int) : Nat → Nat → Int
  | 0, _ => 0
  | i + 1, x => stP m b w v i x + (if x = upR m i then v i * (w i : Int) else 0) + (if x = dnR m i then v i * ((b - w i : Nat) : Int) else 0)
def gP (b : Nat) (w : Nat → Nat) (v : Nat → Int) : Nat → Int
  | 0 => 0
  | i + 1 => gP b w v i + (v i * (w i : Int) - v i * ((b - w i : Nat) : Int))
def nowZ (m b : Nat) (w : Nat → Nat → Nat) (f : Nat) : Nat → Nat → Int
  | 0, x => if x = f then 1 else 0
  | t + 1, x => stP m b (w t) (nowZ m b w f t) m x
def gZ (m b : Nat) (w : Nat → Nat → Nat) (f : Nat) : Nat → Int
  | 0 => 0
  | t + 1 => gZ m b w f t * (b : Int) + gP b (w t) (nowZ m b w f t) m
def sm3 (m : Nat) (v : Nat → Int) : Int := if m = 1 then v 0 else if m = 2 then v 0 + v 1 else v 0 + v 1 + v 2
theorem stP_nn {m b : Nat} {w : Nat → Nat} {v : Nat → Int} (hv : ∀ i, 0 ≤ v i) : ∀ i x, 0 ≤ stP m b w v i x
  | 0, x => by unfold stP; omega
  | i + 1, x => by
    have ih := stP_nn (m := m) (b := b) (w := w) hv i x
    have h1 := Int.mul_nonneg (hv i) (Int.natCast_nonneg (w i))
    have h2 := Int.mul_nonneg (hv i) (Int.natCast_nonneg (b - w i))
    unfold stP
    split <;> split <;> omega
theorem now_nn {m b : Nat} {w : Nat → Nat → Nat} {f : Nat} : ∀ t x, 0 ≤ nowZ m b w f t x
  | 0, x => by unfold nowZ; split <;> omega
  | t + 1, x => stP_nn (fun i => now_nn t i) m x
theorem mul_split (v : Int) {b w : Nat} (h : w ≤ b) : v * (w : Int) + v * ((b - w : Nat) : Int) = v * (b : Int) := by
  rw [← Int.mul_add]
  congr 1
  omega
theorem sm_stP {m b : Nat} {w : Nat → Nat} {v : Nat → Int} (h1 : 1 ≤ m) (h3 : m ≤ 3) (hw : ∀ i, i < m → w i ≤ b) : sm3 m (stP m b w v m) = sm3 m v * (b : Int) := by
  have e : m = 1 ∨ m = 2 ∨ m = 3 := by omega
  rcases e with rfl | rfl | rfl
  · have a0 := mul_split (v 0) (hw 0 (by omega))
    simp [sm3, stP, upR, dnR]
    omega
  · have a0 := mul_split (v 0) (hw 0 (by omega))
    have a1 := mul_split (v 1) (hw 1 (by omega))
    simp [sm3, stP, upR, dnR, Int.add_mul]
    omega
  · have a0 := mul_split (v 0) (hw 0 (by omega))
    have a1 := mul_split (v 1) (hw 1 (by omega))
    have a2 := mul_split (v 2) (hw 2 (by omega))
    simp [sm3, stP, upR, dnR, Int.add_mul]
    omega
theorem sm_now {m b : Nat} {w : Nat → Nat → Nat} {f : Nat} (h1 : 1 ≤ m) (h3 : m ≤ 3) (hf : f < m) : ∀ t, (∀ s, s < t → ∀ i, i < m → w s i ≤ b) → sm3 m (nowZ m b w f t) = ((b ^ t : Nat) : Int)
  | 0, _ => by
    have e : m = 1 ∨ m = 2 ∨ m = 3 := by omega
    have e2 : f = 0 ∨ f = 1 ∨ f = 2 := by omega
    rcases e with rfl | rfl | rfl <;> rcases e2 with rfl | rfl | rfl <;> simp [sm3, nowZ] <;> omega
  | t + 1, hw => by
    have ih := sm_now (b := b) (w := w) h1 h3 hf t (fun s hs => hw s (by omega))
    have e := sm_stP (v := nowZ m b w f t) h1 h3 (hw t (by omega))
    rw [ih] at e
    rw [show nowZ m b w f (t + 1) = stP m b (w t) (nowZ m b w f t) m from rfl, e, Nat.pow_succ]
    simp
theorem sm_le {m : Nat} {v : Nat → Int} {x : Nat} (h3 : m ≤ 3) (hx : x < m) (hv : ∀ i, 0 ≤ v i) : v x ≤ sm3 m v := by
  have a0 := hv 0
  have a1 := hv 1
  have a2 := hv 2
  have e : m = 1 ∨ m = 2 ∨ m = 3 := by omega
  have e2 : x = 0 ∨ x = 1 ∨ x = 2 := by omega
  rcases e with rfl | rfl | rfl <;> rcases e2 with rfl | rfl | rfl <;> simp [sm3] <;> omega
theorem now_le {m b : Nat} {w : Nat → Nat → Nat} {f t x : Nat} (h1 : 1 ≤ m) (h3 : m ≤ 3) (hf : f < m) (hx : x < m) (hw : ∀ s, s < t → ∀ i, i < m → w s i ≤ b) : nowZ m b w f t x ≤ ((b ^ t : Nat) : Int) := by
  have := sm_le h3 hx (fun i => now_nn (m := m) (b := b) (w := w) (f := f) t i)
  rw [sm_now h1 h3 hf t hw] at this
  exact this
theorem gP1_le {v : Int} (hv : 0 ≤ v) {b w : Nat} (h : w ≤ b) : -(v * (b : Int)) ≤ v * (w : Int) - v * ((b - w : Nat) : Int) ∧ v * (w : Int) - v * ((b - w : Nat) : Int) ≤ v * (b : Int) := by
  have a := mul_split v h
  have h1 := Int.mul_nonneg hv (Int.natCast_nonneg w)
  have h2 := Int.mul_nonneg hv (Int.natCast_nonneg (b - w))
  omega
theorem gP_le {m b : Nat} {w : Nat → Nat} {v : Nat → Int} (h1 : 1 ≤ m) (h3 : m ≤ 3) (hv : ∀ i, 0 ≤ v i) (hw : ∀ i, i < m → w i ≤ b) : -(sm3 m v * (b : Int)) ≤ gP b w v m ∧ gP b w v m ≤ sm3 m v * (b : Int) := by
  have e : m = 1 ∨ m = 2 ∨ m = 3 := by omega
  rcases e with rfl | rfl | rfl
  · have a0 := gP1_le (hv 0) (hw 0 (by omega))
    simp [sm3, gP]
    omega
  · have a0 := gP1_le (hv 0) (hw 0 (by omega))
    have a1 := gP1_le (hv 1) (hw 1 (by omega))
    simp [sm3, gP, Int.add_mul]
    omega
  · have a0 := gP1_le (hv 0) (hw 0 (by omega))
    have a1 := gP1_le (hv 1) (hw 1 (by omega))
    have a2 := gP1_le (hv 2) (hw 2 (by omega))
    simp [sm3, gP, Int.add_mul]
    omega
theorem gZ_le {m b : Nat} {w : Nat → Nat → Nat} {f : Nat} (h1 : 1 ≤ m) (h3 : m ≤ 3) (hf : f < m) : ∀ t, (∀ s, s < t → ∀ i, i < m → w s i ≤ b) → -((t : Int) * ((b ^ t : Nat) : Int)) ≤ gZ m b w f t ∧ gZ m b w f t ≤ (t : Int) * ((b ^ t : Nat) : Int)
  | 0, _ => by simp [gZ]
  | t + 1, hw => by
    have ih := gZ_le (b := b) (w := w) h1 h3 hf t (fun s hs => hw s (by omega))
    have e := gP_le (v := nowZ m b w f t) h1 h3 (fun i => now_nn t i) (hw t (by omega))
    rw [sm_now h1 h3 hf t (fun s hs => hw s (by omega))] at e
    have i1 := Int.mul_le_mul_of_nonneg_right ih.1 (Int.natCast_nonneg b)
    have i2 := Int.mul_le_mul_of_nonneg_right ih.2 (Int.natCast_nonneg b)
    have p : ((t + 1 : Nat) : Int) * ((b ^ (t + 1) : Nat) : Int) = (t : Int) * ((b ^ t : Nat) : Int) * (b : Int) + ((b ^ t : Nat) : Int) * (b : Int) := by
      rw [Nat.pow_succ]
      push_cast
      grind
    rw [p]
    unfold gZ
    rw [Int.neg_mul] at i1
    omega
/-- how heavy a rest is -/
def wtZ (m : Nat) (q : Nat → Nat → Int) (r : Nat) : Int := if m = 1 then 1 else if m = 2 then q ((r + 1) % m) r else q ((r + 1) % m) r * q ((r + 2) % m) r + q ((r + 1) % m) ((r + 2) % m) * q ((r + 2) % m) r + q ((r + 2) % m) ((r + 1) % m) * q ((r + 1) % m) r
def wsZ (m : Nat) (q : Nat → Nat → Int) : Nat → Int
  | 0 => 0
  | r + 1 => wsZ m q r + wtZ m q r
def gsZ (m : Nat) (q : Nat → Nat → Int) (g : Nat → Int) : Nat → Int
  | 0 => 0
  | r + 1 => gsZ m q g r + wtZ m q r * g r
theorem wt_le {m r : Nat} {q : Nat → Nat → Int} {s : Int} (h1 : 1 ≤ m) (h3 : m ≤ 3) (hr : r < m) (hs : 1 ≤ s) (hq : ∀ f x, f < m → x < m → 0 ≤ q f x) (hq2 : ∀ f, f < m → sm3 m (q f) = s) : 0 ≤ wtZ m q r ∧ wtZ m q r ≤ s * s := by
  have ss : s * 1 ≤ s * s := Int.mul_le_mul_of_nonneg_left hs (by omega)
  have e : m = 1 ∨ m = 2 ∨ m = 3 := by omega
  rcases e with rfl | rfl | rfl
  · simp only [wtZ, if_true]; omega
  · have e2 : r = 0 ∨ r = 1 := by omega
    have a0 := hq2 0 (by omega)
    have a1 := hq2 1 (by omega)
    have b0 := hq 0 0 (by omega) (by omega)
    have b1 := hq 0 1 (by omega) (by omega)
    have b2 := hq 1 0 (by omega) (by omega)
    have b3 := hq 1 1 (by omega) (by omega)
    simp [sm3] at a0 a1
    rcases e2 with rfl | rfl <;> simp [wtZ] <;> omega
  · have main : ∀ a b c : Nat, a < 3 → b < 3 → c < 3 → q a c + q a b ≤ s → q b c + q b a ≤ s → 0 ≤ q a c * q b c + q a b * q b c + q b a * q a c ∧ q a c * q b c + q a b * q b c + q b a * q a c ≤ s * s := by
      intro a b c ha hb hc h1 h2
      have p1 := hq a c ha hc
      have p2 := hq a b ha hb
      have p3 := hq b c hb hc
      have p4 := hq b a hb ha
      have q1 := Int.mul_nonneg p1 p3
      have q2 := Int.mul_nonneg p2 p3
      have q3 := Int.mul_nonneg p4 p1
      have q4 := Int.mul_nonneg p2 p4
      have k : (q a c + q a b) * (q b c + q b a) ≤ s * s := Int.mul_le_mul h1 h2 (by omega) (by omega)
      have k2 : (q a c + q a b) * (q b c + q b a) = q a c * q b c + q a b * q b c + q b a * q a c + q a b * q b a := by grind
      omega
    have a0 := hq2 0 (by omega)
    have a1 := hq2 1 (by omega)
    have a2 := hq2 2 (by omega)
    have b00 := hq 0 0 (by omega) (by omega)
    have b01 := hq 0 1 (by omega) (by omega)
    have b02 := hq 0 2 (by omega) (by omega)
    have b10 := hq 1 0 (by omega) (by omega)
    have b11 := hq 1 1 (by omega) (by omega)
    have b12 := hq 1 2 (by omega) (by omega)
    have b20 := hq 2 0 (by omega) (by omega)
    have b21 := hq 2 1 (by omega) (by omega)
    have b22 := hq 2 2 (by omega) (by omega)
    simp [sm3] at a0 a1 a2
    have e2 : r = 0 ∨ r = 1 ∨ r = 2 := by omega
    rcases e2 with rfl | rfl | rfl
    · exact main 1 2 0 (by omega) (by omega) (by omega) (by omega) (by omega)
    · exact main 2 0 1 (by omega) (by omega) (by omega) (by omega) (by omega)
    · exact main 0 1 2 (by omega) (by omega) (by omega) (by omega) (by omega)
theorem ws_le {m : Nat} {q : Nat → Nat → Int} {s : Int} (h1 : 1 ≤ m) (h3 : m ≤ 3) (hs : 1 ≤ s) (hq : ∀ f x, f < m → x < m → 0 ≤ q f x) (hq2 : ∀ f, f < m → sm3 m (q f) = s) : ∀ r, r ≤ m → 0 ≤ wsZ m q r ∧ wsZ m q r ≤ (r : Int) * (s * s)
  | 0, _ => by simp [wsZ]
  | r + 1, hr => by
    have ih := ws_le h1 h3 hs hq hq2 r (by omega)
    have w := wt_le h1 h3 (show r < m by omega) hs hq hq2
    have p : ((r + 1 : Nat) : Int) * (s * s) = (r : Int) * (s * s) + s * s := by push_cast; grind
    rw [p]
    unfold wsZ
    omega
theorem gs_le {m : Nat} {q : Nat → Nat → Int} {g : Nat → Int} {s c : Int} (h1 : 1 ≤ m) (h3 : m ≤ 3) (hs : 1 ≤ s) (hq : ∀ f x, f < m → x < m → 0 ≤ q f x) (hq2 : ∀ f, f < m → sm3 m (q f) = s) (hc : 0 ≤ c) (hg : ∀ f, f < m → -c ≤ g f ∧ g f ≤ c) : ∀ r, r ≤ m → -((r : Int) * (s * s * c)) ≤ gsZ m q g r ∧ gsZ m q g r ≤ (r : Int) * (s * s * c)
  | 0, _ => by simp [gsZ]
  | r + 1, hr => by
    have ih := gs_le h1 h3 hs hq hq2 hc hg r (by omega)
    have w := wt_le h1 h3 (show r < m by omega) hs hq hq2
    have g1 := hg r (by omega)
    have p : ((r + 1 : Nat) : Int) * (s * s * c) = (r : Int) * (s * s * c) + s * s * c := by push_cast; grind
    have a1 := Int.mul_le_mul_of_nonneg_left g1.2 w.1
    have a2 := Int.mul_le_mul_of_nonneg_left g1.1 w.1
    have a3 := Int.mul_le_mul_of_nonneg_right w.2 hc
    rw [Int.mul_neg] at a2
    rw [p]
    unfold gsZ
    omega
