/-! ===== the law's hour by hand: its loops in numbers ===== -/
theorem upd_self (f : Iu) (k : Nat) : upd f k (f k) = f := by
  funext j
  rcases Decidable.em (j = k) with h | h
  · subst h; rw [upd_at]
  · rw [upd_ne h]
theorem upd_upd (f : Iu) (k : Nat) (x y : Int32) : upd (upd f k x) k y = upd f k y := by
  funext j
  rcases Decidable.em (j = k) with h | h
  · subst h; rw [upd_at, upd_at]
  · rw [upd_ne h, upd_ne h, upd_ne h]
/-- the store with the least flour, looked for from the last on: behind i of the n -/
def los (st : Nat → Iu) (n : Nat) : Nat → Nat
  | 0 => 0
  | i + 1 => if i = 0 then n - 1 else if st (n - 1 - i) 0 ≤ st (los st n i) 0 then n - 1 - i else los st n i
theorem los_1 (st : Nat → Iu) (n : Nat) : los st n 1 = n - 1 := if_pos rfl
theorem los_s {st : Nat → Iu} {n i : Nat} (h : 0 < i) : los st n (i + 1) = if st (n - 1 - i) 0 ≤ st (los st n i) 0 then n - 1 - i else los st n i := if_neg (by omega)
theorem los_min {st : Nat → Iu} {n : Nat} : ∀ i, 0 < i → i ≤ n → n - i ≤ los st n i ∧ los st n i < n ∧ (∀ j, n - i ≤ j → j < n → st (los st n i) 0 ≤ st j 0) ∧ (∀ j, n - i ≤ j → j < los st n i → st (los st n i) 0 < st j 0)
  | 0, h, _ => absurd h (Nat.lt_irrefl 0)
  | i + 1, _, hn => by
    rcases Nat.eq_zero_or_pos i with h | h
    · subst h
      rw [los_1]
      refine ⟨by omega, by omega, fun j h1 h2 => ?_, fun j h1 h2 => absurd h1 (by omega)⟩
      rw [show j = n - 1 by omega]
      exact Int32.le_refl _
    · obtain ⟨a1, a2, a3, a4⟩ := los_min (st := st) (n := n) i h (by omega)
      rw [los_s h]
      split
      · rename_i hc
        refine ⟨by omega, by omega, fun j h1 h2 => ?_, fun j h1 h2 => absurd h1 (by omega)⟩
        rcases Decidable.em (j = n - 1 - i) with z | z
        · rw [z]; exact Int32.le_refl _
        · exact Int32.le_trans hc (a3 j (by omega) h2)
      · rename_i hc
        have hc := Int32.not_le.mp hc
        refine ⟨by omega, a2, fun j h1 h2 => ?_, fun j h1 h2 => ?_⟩
        · rcases Decidable.em (j = n - 1 - i) with z | z
          · rw [z]; exact Int32.le_of_lt hc
          · exact a3 j (by omega) h2
        · rcases Decidable.em (j = n - 1 - i) with z | z
          · rw [z]; exact hc
          · exact a4 j (by omega) h2
theorem emp_min {st : Nat → Iu} : ∀ n, 0 < n → (∀ i, i < n → st (emp st n) 0 ≤ st i 0) ∧ (∀ i, i < emp st n → st (emp st n) 0 < st i 0)
  | 0, h => absurd h (Nat.lt_irrefl 0)
  | n + 1, _ => by
    rcases Nat.eq_zero_or_pos n with h | h
    · subst h
      have e : emp st 1 = 0 := if_pos rfl
      rw [e]
      refine ⟨fun i hi => ?_, fun i hi => absurd hi (Nat.not_lt_zero i)⟩
      rw [show i = 0 by omega]
      exact Int32.le_refl _
    · obtain ⟨a1, a2⟩ := emp_min (st := st) n h
      have hl := emp_lt (st := st) h
      have e : emp st (n + 1) = if st n 0 < st (emp st n) 0 then n else emp st n := if_neg (by omega)
      rw [e]
      split
      · rename_i hc
        refine ⟨fun i hi => ?_, fun i hi => ?_⟩
        · rcases Decidable.em (i = n) with z | z
          · rw [z]; exact Int32.le_refl _
          · exact Int32.le_trans (Int32.le_of_lt hc) (a1 i (by omega))
        · exact Int32.lt_of_lt_of_le hc (a1 i hi)
      · rename_i hc
        refine ⟨fun i hi => ?_, a2⟩
        rcases Decidable.em (i = n) with z | z
        · rw [z]; exact Int32.not_lt.mp hc
        · exact a1 i (by omega)
theorem los_emp {st : Nat → Iu} {n : Nat} (h : 0 < n) : los st n n = emp st n := by
  obtain ⟨-, a2, a3, a4⟩ := los_min (st := st) n h (Nat.le_refl n)
  obtain ⟨b1, b2⟩ := emp_min (st := st) n h
  have he := emp_lt (st := st) h
  rcases Nat.lt_trichotomy (los st n n) (emp st n) with z | z | z
  · exact absurd (b2 _ z) (Int32.not_lt.mpr (a3 _ (by omega) he))
  · exact z
  · exact absurd (a4 _ (by omega) z) (Int32.not_lt.mpr (b1 _ a2))
/-- the cart: all of it, or up to 900 -/
theorem cart_in {nS : Nat} {g : Int32} {st bk : Nat → Iu} {nu : Iu} (h0 : 0 < nS) (hf : rgI 0 900 (st (emp st nS) 0)) (hg : rgI 0 99 g) (hc : st (emp st nS) 0 + g ≤ 900) : hCart nS g (st, bk, nu) = (va_up st (emp st nS) (upd (st (emp st nS)) 0 (st (emp st nS) 0 + g)), bk, nu) := by
  obtain ⟨f1, f2⟩ := hf
  obtain ⟨g1, g2⟩ := hg
  have e1 : (st (emp st nS) 0 + g).toInt = (st (emp st nS) 0).toInt + g.toInt := i_add (by omega) (by omega)
  have e2 : (900 - st (emp st nS) 0).toInt = 900 - (st (emp st nS) 0).toInt := by rw [i_sub (by rw [i_900]; omega) (by rw [i_900]; omega), i_900]
  have hc := Int32.le_iff_toInt_le.mp hc
  rw [e1, i_900] at hc
  have em : mn g (900 - st (emp st nS) 0) = g := Int32.toInt_inj.mp (by rw [mn_int, e2]; omega)
  unfold hCart
  rw [if_neg (by omega)]
  show (va_up st (emp st nS) (upd (st (emp st nS)) 0 (st (emp st nS) 0 + mn g (900 - st (emp st nS) 0))), bk, upd nu 5 (nu 5 + (g - mn g (900 - st (emp st nS) 0)))) = _
  rw [em, Int32.sub_self, Int32.add_zero, upd_self]
theorem cart_over {nS : Nat} {g : Int32} {st bk : Nat → Iu} {nu : Iu} (h0 : 0 < nS) (hf : rgI 0 900 (st (emp st nS) 0)) (hg : rgI 0 99 g) (hc : ¬ st (emp st nS) 0 + g ≤ 900) : hCart nS g (st, bk, nu) = (va_up st (emp st nS) (upd (upd (st (emp st nS)) 0 (st (emp st nS) 0 + g)) 0 900), bk, upd nu 5 (nu 5 + (st (emp st nS) 0 + g - 900))) := by
  obtain ⟨f1, f2⟩ := hf
  obtain ⟨g1, g2⟩ := hg
  have e1 : (st (emp st nS) 0 + g).toInt = (st (emp st nS) 0).toInt + g.toInt := i_add (by omega) (by omega)
  have e2 : (900 - st (emp st nS) 0).toInt = 900 - (st (emp st nS) 0).toInt := by rw [i_sub (by rw [i_900]; omega) (by rw [i_900]; omega), i_900]
  have hc : 900 < (st (emp st nS) 0).toInt + g.toInt := by
    have := Int32.lt_iff_toInt_lt.mp (Int32.not_le.mp hc)
    rw [e1, i_900] at this
    exact this
  have em : mn g (900 - st (emp st nS) 0) = 900 - st (emp st nS) 0 := Int32.toInt_inj.mp (by rw [mn_int, e2]; omega)
  unfold hCart
  rw [if_neg (by omega)]
  show (va_up st (emp st nS) (upd (st (emp st nS)) 0 (st (emp st nS) 0 + mn g (900 - st (emp st nS) 0))), bk, upd nu 5 (nu 5 + (g - mn g (900 - st (emp st nS) 0)))) = _
  rw [em, upd_upd, show st (emp st nS) 0 + (900 - st (emp st nS) 0) = 900 by grind, show g - (900 - st (emp st nS) 0) = st (emp st nS) 0 + g - 900 by grind]
/-- a baker behind t loaves -/
def bkT (b : Iu) (t : Nat) : Iu := upd (upd b 3 (b 3 - nI t * b 4)) 5 (b 5 + nI t)
theorem bkT_0 (b : Iu) : bkT b 0 = b := by
  unfold bkT
  rw [show nI 0 = 0 from rfl, Int32.zero_mul, Int32.sub_zero, Int32.add_zero, upd_self, upd_self]
theorem bkT_4 (b : Iu) (t : Nat) : bkT b t 4 = b 4 := by unfold bkT; rw [upd_ne (by decide), upd_ne (by decide)]
theorem bkT_7 (b : Iu) (t : Nat) : bkT b t 7 = b 7 := by unfold bkT; rw [upd_ne (by decide), upd_ne (by decide)]
theorem bkT_3 (b : Iu) (t : Nat) : bkT b t 3 = b 3 - nI t * b 4 := by unfold bkT; rw [upd_ne (by decide), upd_at]
theorem bkT_5 (b : Iu) (t : Nat) : bkT b t 5 = b 5 + nI t := by unfold bkT; rw [upd_at]
theorem bkT_s (b : Iu) (t : Nat) : upd (upd (bkT b t) 3 (bkT b t 3 - bkT b t 4)) 5 (bkT b t 5 + 1) = bkT b (t + 1) := by
  rw [bkT_3, bkT_4, bkT_5]
  have e1 : b 3 - nI t * b 4 - b 4 = b 3 - nI (t + 1) * b 4 := by rw [nI_succ]; grind
  have e2 : b 5 + nI t + 1 = b 5 + nI (t + 1) := by rw [nI_succ]; grind
  rw [e1, e2]
  unfold bkT
  funext j
  rcases Decidable.em (j = 5) with h | h
  · subst h; rw [upd_at, upd_at]
  · rw [upd_ne h, upd_ne h]
    rcases Decidable.em (j = 3) with h3 | h3
    · subst h3; rw [upd_at, upd_at]
    · rw [upd_ne h3, upd_ne h3, upd_ne h, upd_ne h3]
/-- what the oven's loop keeps -/
def bkI (b : Iu) (t : Nat) : Prop := t ≤ 4 ∧ (t : Int) * (b 4).toInt ≤ (b 3).toInt ∧ (t = 0 ∨ b 7 = 0)
theorem bkI_0 {b : Iu} {nS : Nat} {H S : Int} (h : bOK nS H S b) : bkI b 0 := ⟨by omega, by have := h.2.2.2.2.1.1; simpa using this, Or.inl rfl⟩
theorem bkT_3i {b : Iu} {t : Nat} {nS : Nat} {H S : Int} (h : bOK nS H S b) (hH : H ≤ 100000000) (hi : bkI b t) : (b 3 - nI t * b 4).toInt = (b 3).toInt - (t : Int) * (b 4).toInt := by
  obtain ⟨i1, i2, -⟩ := hi
  have h4 := h.2.2.1
  have h3 := h.2.2.2.2.1
  have et : (nI t).toInt = (t : Int) := nI_toInt (by omega)
  have hp : 0 ≤ (t : Int) * (b 4).toInt := Int.mul_nonneg (by omega) (by have := h4.1; omega)
  have em : (nI t * b 4).toInt = (t : Int) * (b 4).toInt := by
    rw [i_mul (by rw [et]; omega) (by rw [et]; have := h3.2; omega), et]
  have := h3.1
  have := h3.2
  rw [i_sub (by rw [em]; omega) (by rw [em]; omega), em]
theorem bkI_s {b : Iu} {t : Nat} {nS : Nat} {H S : Int} (h : bOK nS H S b) (hH : H ≤ 100000000) (hi : bkI b t) (h7 : b 7 = 0) (ht : t < 4) (hc : ¬ bkT b t 3 < bkT b t 4) : bkI b (t + 1) := by
  have e := bkT_3i h hH hi
  rw [bkT_3, bkT_4] at hc
  have hc := Int32.le_iff_toInt_le.mp (Int32.not_lt.mp hc)
  rw [e] at hc
  refine ⟨by omega, ?_, Or.inr h7⟩
  have : ((t + 1 : Nat) : Int) * (b 4).toInt = (t : Int) * (b 4).toInt + (b 4).toInt := by rw [Int.natCast_add, Int.add_mul]; simp
  omega
theorem bk_done {b : Iu} {t : Nat} {nS : Nat} {H S : Int} (h : bOK nS H S b) (hH : H ≤ 100000000) (hi : bkI b t) (hx : t = 4 ∨ ¬ b 7 = 0 ∨ bkT b t 3 < bkT b t 4) : bkT b t = bBake b := by
  rcases Decidable.em (b 7 = 0) with h7 | h7
  · have h4 := h.2.2.1
    have h3 := h.2.2.2.2.1
    have c0 : (0 : Int32).toInt = 0 := rfl
    have c4 : (4 : Int32).toInt = 4 := by decide
    have et : (nI t).toInt = (t : Int) := nI_toInt (by have := hi.1; omega)
    have hpos : 0 < b 4 := Int32.lt_iff_toInt_lt.mpr (by rw [c0]; have := h4.1; omega)
    have ed : (b 3 / b 4).toInt = (b 3).toInt / (b 4).toInt := i_div h3.1 (by have := h4.1; omega)
    have hlow : (t : Int) ≤ (b 3).toInt / (b 4).toInt := (Int.le_ediv_iff_mul_le (by have := h4.1; omega)).mpr hi.2.1
    have el : bLoaves b = nI t := by
      refine Int32.toInt_inj.mp ?_
      unfold bLoaves
      rw [mn_int, ed, c4, et]
      rcases hx with hx | hx | hx
      · subst hx; omega
      · exact absurd h7 hx
      · have e := bkT_3i h hH hi
        rw [bkT_3, bkT_4] at hx
        have hx := Int32.lt_iff_toInt_lt.mp hx
        rw [e] at hx
        have hup : (b 3).toInt / (b 4).toInt < (t : Int) + 1 := (Int.ediv_lt_iff_lt_mul (by have := h4.1; omega)).mpr (by rw [Int.add_mul, Int.one_mul]; omega)
        have := hi.1
        omega
    unfold bBake
    rw [if_pos ⟨h7, hpos⟩, el]
    rfl
  · have ht : t = 0 := hi.2.2.elim id (fun z => absurd z h7)
    subst ht
    rw [bkT_0]
    unfold bBake
    rw [if_neg (fun z => h7 z.1)]
/-- a baker behind t loaves sold; the numbers behind them -/
def slT (b : Iu) (t : Nat) : Iu := upd (upd b 5 (b 5 - nI t)) 6 (b 6 + nI t)
def slU (b nu : Iu) (t : Nat) : Iu := upd (upd nu 2 (nu 2 + nI t)) 3 (nu 3 + if b 4 < 10 then nI t else 0)
theorem slT_0 (b : Iu) : slT b 0 = b := by
  unfold slT
  rw [show nI 0 = 0 from rfl, Int32.sub_zero, Int32.add_zero, upd_self, upd_self]
theorem slU_0 (b nu : Iu) : slU b nu 0 = nu := by
  unfold slU
  rw [show nI 0 = 0 from rfl, ite_self, Int32.add_zero, Int32.add_zero, upd_self, upd_self]
theorem slT_4 (b : Iu) (t : Nat) : slT b t 4 = b 4 := by unfold slT; rw [upd_ne (by decide), upd_ne (by decide)]
theorem slT_5 (b : Iu) (t : Nat) : slT b t 5 = b 5 - nI t := by unfold slT; rw [upd_ne (by decide), upd_at]
theorem slT_6 (b : Iu) (t : Nat) : slT b t 6 = b 6 + nI t := by unfold slT; rw [upd_at]
theorem slT_s (b : Iu) (t : Nat) : upd (upd (slT b t) 5 (slT b t 5 - 1)) 6 (slT b t 6 + 1) = slT b (t + 1) := by
  rw [slT_5, slT_6]
  have e1 : b 5 - nI t - 1 = b 5 - nI (t + 1) := by rw [nI_succ]; grind
  have e2 : b 6 + nI t + 1 = b 6 + nI (t + 1) := by rw [nI_succ]; grind
  rw [e1, e2]
  unfold slT
  funext j
  rcases Decidable.em (j = 6) with h | h
  · subst h; rw [upd_at, upd_at]
  · rw [upd_ne h, upd_ne h]
    rcases Decidable.em (j = 5) with h3 | h3
    · subst h3; rw [upd_at, upd_at]
    · rw [upd_ne h3, upd_ne h3, upd_ne h, upd_ne h3]
theorem slU_2 (b nu : Iu) (t : Nat) : slU b nu t 2 = nu 2 + nI t := by unfold slU; rw [upd_ne (by decide), upd_at]
theorem slU_3 (b nu : Iu) (t : Nat) : slU b nu t 3 = nu 3 + if b 4 < 10 then nI t else 0 := by unfold slU; rw [upd_at]
theorem slU_s (b nu : Iu) (t : Nat) (x : Int32) (hx : x = if b 4 < 10 then 1 else 0) : upd (upd (slU b nu t) 2 (slU b nu t 2 + 1)) 3 (slU b nu t 3 + x) = slU b nu (t + 1) := by
  rw [slU_2, slU_3, hx]
  have e2 : nu 2 + nI t + 1 = nu 2 + nI (t + 1) := by rw [nI_succ]; grind
  have e3 : ((nu 3 + if b 4 < 10 then nI t else 0) + if b 4 < 10 then 1 else 0) = nu 3 + if b 4 < 10 then nI (t + 1) else 0 := by
    split
    · rw [nI_succ]; grind
    · grind
  rw [e2, e3]
  unfold slU
  funext j
  rcases Decidable.em (j = 3) with h | h
  · subst h; rw [upd_at, upd_at]
  · rw [upd_ne h, upd_ne h]
    rcases Decidable.em (j = 2) with h3 | h3
    · subst h3; rw [upd_at, upd_at]
    · rw [upd_ne h3, upd_ne h3, upd_ne h, upd_ne h3]
theorem slU_step (u : TL) (j : Nat) (t : Nat) (ht : mn u.1 (u.2.1 j 5) = nI t) : slStep u j = (u.1 - nI t, va_up u.2.1 j (slT (u.2.1 j) t), slU (u.2.1 j) u.2.2 t) := by
  unfold slStep bSell
  rw [ht]
  refine congrArg (fun z => (u.1 - nI t, va_up u.2.1 j (slT (u.2.1 j) t), z)) ?_
  unfold slU
  split
  · rfl
  · rw [Int32.add_zero]
    funext q
    rcases Decidable.em (q = 3) with h | h
    · subst h; rw [upd_at, upd_ne (by decide)]
    · rw [upd_ne h]
/-- the loaves sold: as many as people are left, or all -/
theorem sl_done {x y : Int32} {t : Nat} (hx : (t : Int) ≤ x.toInt) (hy : (t : Int) ≤ y.toInt) (h : x.toInt = (t : Int) ∨ y.toInt = (t : Int)) : mn x y = nI t := by
  have hl := Int32.toInt_lt x
  refine Int32.toInt_inj.mp ?_
  rw [mn_int, nI_toInt (by omega)]
  omega
