/-! ===== the reference's world: rows of numbers ===== -/
def fS (st : Nat → Iu) : Iu := fun q => st (q / 3) (q % 3)
def fB (bk : Nat → Iu) : Iu := fun q => bk (q / 8) (q % 8)
def fN (nu : Iu) : Iu := fun q => if q = 0 then nu 0 else nu (q + 1)
theorem fS_get {st : Nat → Iu} {i k : Nat} (hk : k < 3) : fS st (3 * i + k) = st i k := by
  unfold fS
  rw [show (3 * i + k) / 3 = i by omega, show (3 * i + k) % 3 = k by omega]
theorem fB_get {bk : Nat → Iu} {i k : Nat} (hk : k < 8) : fB bk (8 * i + k) = bk i k := by
  unfold fB
  rw [show (8 * i + k) / 8 = i by omega, show (8 * i + k) % 8 = k by omega]
theorem fS_put {st : Nat → Iu} {i k : Nat} {x : Int32} (hk : k < 3) : upd (fS st) (3 * i + k) x = fS (va_up st i (upd (st i) k x)) := by
  funext q
  rcases Decidable.em (q = 3 * i + k) with h | h
  · subst h
    rw [upd_at, fS_get hk, up_at, upd_at]
  · rw [upd_ne h]
    unfold fS
    rcases Decidable.em (q / 3 = i) with h1 | h1
    · rw [h1, up_at, upd_ne (by omega)]
    · rw [up_ne h1]
theorem fB_put {bk : Nat → Iu} {i k : Nat} {x : Int32} (hk : k < 8) : upd (fB bk) (8 * i + k) x = fB (va_up bk i (upd (bk i) k x)) := by
  funext q
  rcases Decidable.em (q = 8 * i + k) with h | h
  · subst h
    rw [upd_at, fB_get hk, up_at, upd_at]
  · rw [upd_ne h]
    unfold fB
    rcases Decidable.em (q / 8 = i) with h1 | h1
    · rw [h1, up_at, upd_ne (by omega)]
    · rw [up_ne h1]
theorem fN_put0 {nu : Iu} {x : Int32} : upd (fN nu) 0 x = fN (upd nu 0 x) := by
  funext q
  rcases Decidable.em (q = 0) with h | h
  · subst h; rfl
  · rw [upd_ne h]
    unfold fN
    rw [if_neg h, if_neg h, upd_ne (by omega)]
theorem fN_put {nu : Iu} {k : Nat} {x : Int32} : upd (fN nu) (k + 1) x = fN (upd nu (k + 2) x) := by
  funext q
  rcases Decidable.em (q = k + 1) with h | h
  · subst h
    rw [upd_at]
    unfold fN
    rw [if_neg (by omega), upd_at]
  · rw [upd_ne h]
    unfold fN
    rcases Decidable.em (q = 0) with h1 | h1
    · rw [if_pos h1, if_pos h1, upd_ne (by omega)]
    · rw [if_neg h1, if_neg h1, upd_ne (by omega)]
theorem nI_mul (a b : Nat) : nI a * nI b = nI (a * b) := (Int32.ofNat_mul a b).symm
theorem nI_at (a i k : Nat) : nI a * nI i + nI k = nI (a * i + k) := by rw [nI_mul, nI_add]
theorem up_upd {f : Nat → Iu} {i k : Nat} {F : Iu} {x : Int32} : va_up (va_up f i F) i (upd ((va_up f i F) i) k x) = va_up f i (upd F k x) := by
  funext q
  rcases Decidable.em (q = i) with h | h
  · subst h; rw [up_at, up_at, up_at]
  · rw [up_ne h, up_ne h, up_ne h]
theorem mn_comm (x y : Int32) : mn x y = mn y x := by
  unfold mn
  split <;> split
  · rename_i h1 h2; exact absurd h1 (Int32.lt_asymm h2)
  · rfl
  · rfl
  · rename_i h1 h2; exact Int32.le_antisymm (Int32.not_lt.mp h1) (Int32.not_lt.mp h2)
theorem mx_comm (x y : Int32) : mx x y = mx y x := by
  unfold mx
  split <;> split
  · rename_i h1 h2; exact absurd h1 (Int32.lt_asymm h2)
  · rfl
  · rfl
  · rename_i h1 h2; exact (Int32.le_antisymm (Int32.not_lt.mp h1) (Int32.not_lt.mp h2)).symm
/-- the reference's world -/
def mw (cy : Nat → ClassId) (b : Nat) (am : Nat → Nat) (thr : Int32) (nS nB : Nat) (st bk : Nat → Iu) (gate nu : Iu) : va_W := [(b, .inr (4, [.int thr, .int (nI nS), .int (nI nB), .int (nu 1), .ref (am 0), .ref (am 1), .ref (am 2), .ref (am 3)])), (am 0, .inl (cy 0, 24, .inl gate)), (am 1, .inl (cy 0, 12, .inl (fS st))), (am 2, .inl (cy 0, 48, .inl (fB bk))), (am 3, .inl (cy 0, 5, .inl (fN nu)))]
/-- whether a number is one of the n -/
def inN (x : Int32) (n : Nat) : Int32 := wi x 0 (nI n - 1)
theorem inN_ok {i n : Nat} (h : i < n) (hn : n ≤ 6) : ¬ inN (nI i) n = 0 := by
  unfold inN
  obtain ⟨m, rfl⟩ : ∃ m, n = m + 1 := ⟨n - 1, by omega⟩
  rw [nI_pred]
  exact wi_ok ⟨nI_pos' (n := i) (by omega), nI_le (a := i) (b := m) (by omega) (by omega)⟩
theorem inN_no {x : Int32} {n : Nat} (h : ¬ vp_in x n) (hn : n ≤ 6) : inN x n = 0 := by
  unfold inN
  refine wi_no (fun z => h (fun g => ?_))
  rcases g with g | g
  · exact absurd z.1 (Int32.not_le.mpr g)
  · obtain ⟨j, hj, rfl⟩ := nI_of (Int32.not_lt.mpr z.1)
    rw [nI_clamp hj] at g
    rcases Nat.eq_zero_or_pos n with h0 | h0
    · subst h0
      exact absurd (Int32.le_trans z.1 z.2) (by decide)
    · obtain ⟨m, rfl⟩ : ∃ m, n = m + 1 := ⟨n - 1, by omega⟩
      have z2 := z.2
      rw [nI_pred] at z2
      exact absurd z2 (nI_ge (a := m) (b := j) (by omega) hj)
