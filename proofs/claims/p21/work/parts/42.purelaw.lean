/-! ===== what an hour does, in sums: the promises of the law ===== -/
theorem sm_congr {f g : Nat → Int32} : ∀ {n : Nat}, (∀ i, i < n → f i = g i) → sm f n = sm g n
  | 0, _ => rfl
  | n + 1, h => by
    show sm f n + f n = sm g n + g n
    rw [sm_congr (fun i hi => h i (by omega)), h n (by omega)]
theorem sm_add (f g : Nat → Int32) : ∀ n, sm f n + sm g n = sm (fun i => f i + g i) n
  | 0 => rfl
  | n + 1 => by
    have h := sm_add f g n
    show (sm f n + f n) + (sm g n + g n) = sm (fun i => f i + g i) n + (f n + g n)
    rw [← h]
    grind
theorem sm_zero {f : Nat → Int32} : ∀ {n : Nat}, (∀ i, i < n → f i = 0) → sm f n = 0
  | 0, _ => rfl
  | n + 1, h => by
    show sm f n + f n = 0
    rw [sm_zero (fun i hi => h i (by omega)), h n (by omega)]
    rfl
theorem sm_up {st : Nat → Iu} {s q : Nat} {f : Iu} : ∀ {n : Nat}, s < n → sm (fun i => va_up st s f i q) n = sm (fun i => st i q) n - st s q + f q
  | 0, h => absurd h (Nat.not_lt_zero s)
  | n + 1, h => by
    show sm (fun i => va_up st s f i q) n + va_up st s f n q = sm (fun i => st i q) n + st n q - st s q + f q
    rcases Decidable.em (s = n) with z | z
    · subst z
      rw [up_at, sm_congr (g := fun i => st i q) (fun i hi => by rw [up_ne (by omega)])]
      grind
    · rw [up_ne (by omega), sm_up (n := n) (by omega)]
      grind
-- rations
theorem dl_later (u : T2) (j : Nat) : ∀ n, n ≤ j → (dlN u n).2 j = u.2 j
  | 0, _ => rfl
  | n + 1, h => by
    show (dlStep (dlN u n) n _).2 j = _
    unfold dlStep
    split
    · show va_up (dlN u n).2 n _ j = _
      rw [up_ne (by omega)]
      exact dl_later u j n (by omega)
    · exact dl_later u j n (by omega)
theorem dl_done (u : T2) (j : Nat) : ∀ n, j < n → (dlN u n).2 j = (dlN u (j + 1)).2 j
  | 0, h => absurd h (Nat.not_lt_zero j)
  | n + 1, h => by
    rcases Decidable.em (j = n) with z | z
    · subst z; rfl
    · rw [← dl_done u j n (by omega)]
      show (dlStep (dlN u n) n _).2 j = _
      unfold dlStep
      split
      · show va_up (dlN u n).2 n _ j = _
        rw [up_ne (by omega)]
      · rfl
/-- what the baker j gets -/
def gJ (u : T2) (j : Nat) : Int32 := if u.2 j 7 = 0 then mn (u.2 j 2) ((dlN u j).1 ((u.2 j 0).toNatClampNeg) 0) else 0
theorem dl_3 (u : T2) {j n : Nat} (h : j < n) : (dlN u n).2 j 3 = u.2 j 3 + gJ u j := by
  rw [dl_done u j n h]
  show (dlStep (dlN u j) j _).2 j 3 = _
  have e := dl_later u j j (Nat.le_refl j)
  unfold dlStep gJ
  rw [e]
  split
  · show va_up (dlN u j).2 j _ j 3 = _
    rw [up_at, upd_at]
  · rw [e, Int32.add_zero]
theorem dl_st (u : T2) (i : Nat) {q : Nat} (hq : q ≠ 0) : ∀ n, (dlN u n).1 i q = u.1 i q
  | 0 => rfl
  | n + 1 => by
    show (dlStep (dlN u n) n _).1 i q = _
    unfold dlStep
    split
    · show va_up (dlN u n).1 _ _ i q = _
      rcases Decidable.em (i = ((dlN u n).2 n 0).toNatClampNeg) with z | z
      · rw [z, up_at]
        unfold sGive
        rw [upd_ne hq, ← z]
        exact dl_st u i hq n
      · rw [up_ne z]
        exact dl_st u i hq n
    · exact dl_st u i hq n
theorem dl_sum {nS : Nat} (u : T2) : ∀ n, (∀ j, j < n → (u.2 j 0).toNatClampNeg < nS) → sm (fun i => (dlN u n).1 i 0) nS + sm (gJ u) n = sm (fun i => u.1 i 0) nS
  | 0, _ => by show _ + (0 : Int32) = _; rw [Int32.add_zero]; rfl
  | n + 1, h => by
    have ih := dl_sum (nS := nS) u n (fun j hj => h j (by omega))
    have e := dl_later u n n (Nat.le_refl n)
    have hs := h n (by omega)
    show sm (fun i => (dlStep (dlN u n) n (((dlN u n).2 n 0).toNatClampNeg)).1 i 0) nS + (sm (gJ u) n + gJ u n) = _
    rw [← ih]
    unfold dlStep gJ
    rw [e]
    split
    · show sm (fun i => va_up (dlN u n).1 _ _ i 0) nS + _ = _
      rw [sm_up hs]
      unfold sGive
      rw [upd_at]
      grind
    · grind
theorem gJ_OK {nS nB hq : Nat} {u : T2} (hnS : nS ≤ 4) (hq1 : hq ≤ 200000) (hs : ∀ i, i < nS → sOK (u.1 i)) (hb : ∀ j, j < nB → bOK nS (90 * hq) (4 * hq) (u.2 j)) {j : Nat} (hj : j < nB) : 0 ≤ (gJ u j).toInt ∧ (gJ u j).toInt ≤ (u.2 j 2).toInt ∧ (u.2 j 7 = 1 → gJ u j = 0) := by
  have o : (0 : Int32).toInt = 0 := rfl
  obtain ⟨i, hi, ei⟩ := (hb j hj).1
  have hr := (hb j hj).2.2.2.1
  unfold gJ
  split
  · rename_i h7
    have hd := (dlN_OK (nB := nB) (H := 90 * hq) (S := 4 * hq) hnS (by omega) u hs hb j (by omega)).1 i hi
    rw [ei, nI_clamp (by omega), mn_int]
    have := hd.1.1
    have := hr.1
    refine ⟨by omega, by omega, fun z => ?_⟩
    rw [h7] at z
    exact absurd z (by decide)
  · rw [o]
    exact ⟨Int.le_refl 0, hr.1, fun _ => rfl⟩
-- weevils
theorem feed_sum {nS : Nat} (st : Nat → Iu) : sm (fun i => feedN st nS i 0) nS + sm (fun i => feedN st nS i 2) nS = sm (fun i => st i 0) nS + sm (fun i => st i 2) nS := by
  rw [sm_add, sm_add]
  refine sm_congr fun i hi => ?_
  show feedN st nS i 0 + feedN st nS i 2 = st i 0 + st i 2
  rw [feedN_at, if_pos hi]
  unfold sFeed sFed
  rw [upd_ne (by decide), upd_ne (by decide), upd_at, upd_ne (by decide), upd_at]
  grind
-- the cart
theorem cart_sum (nS : Nat) (x : Int32) (u : TS) : sm (fun i => (hCart nS x u).1 i 0) nS + (hCart nS x u).2.2 5 = sm (fun i => u.1 i 0) nS + u.2.2 5 + (if nS = 0 then 0 else x) := by
  unfold hCart
  split
  · rw [Int32.add_zero]
  · rename_i h0
    show sm (fun i => va_up u.1 (emp u.1 nS) (sTake (u.1 (emp u.1 nS)) x) i 0) nS + upd u.2.2 5 _ 5 = _
    rw [sm_up (emp_lt (by omega))]
    unfold sTake
    simp only [upd_at]
    grind
theorem cart_st (nS : Nat) (x : Int32) (u : TS) (i : Nat) {q : Nat} (hq : q ≠ 0) : (hCart nS x u).1 i q = u.1 i q := by
  unfold hCart
  split
  · rfl
  · show va_up u.1 (emp u.1 nS) (sTake (u.1 (emp u.1 nS)) x) i q = _
    rcases Decidable.em (i = emp u.1 nS) with z | z
    · rw [z, up_at]
      unfold sTake
      rw [upd_ne hq]
    · rw [up_ne z]
-- the sale
theorem sl_later (u : TL) (j : Nat) : ∀ n, n ≤ j → (slN u n).2.1 j = u.2.1 j
  | 0, _ => rfl
  | n + 1, h => by
    show va_up (slN u n).2.1 n _ j = _
    rw [up_ne (by omega)]
    exact sl_later u j n (by omega)
theorem sl_at (u : TL) (j : Nat) : ∀ n, j < n → (slN u n).2.1 j = bSell (u.2.1 j) (slN u j).1
  | 0, h => absurd h (Nat.not_lt_zero j)
  | n + 1, h => by
    show va_up (slN u n).2.1 n (bSell ((slN u n).2.1 n) (slN u n).1) j = _
    rcases Decidable.em (j = n) with z | z
    · subst z
      rw [up_at, sl_later u j j (Nat.le_refl j)]
    · rw [up_ne z]
      exact sl_at u j n (by omega)
/-- what the baker j sells -/
def sJ (u : TL) (j : Nat) : Int32 := mn (slN u j).1 (u.2.1 j 5)
theorem sl_left (u : TL) : ∀ n, (slN u n).1 + sm (sJ u) n = u.1
  | 0 => by show u.1 + (0 : Int32) = u.1; rw [Int32.add_zero]
  | n + 1 => by
    have ih := sl_left u n
    show (slN u n).1 - mn (slN u n).1 ((slN u n).2.1 n 5) + (sm (sJ u) n + sJ u n) = u.1
    rw [sl_later u n n (Nat.le_refl n)]
    have e : sJ u n = mn (slN u n).1 (u.2.1 n 5) := rfl
    rw [e]
    grind
theorem sl_all (u : TL) : ∀ n, (slN u n).2.2 2 = u.2.2 2 + sm (sJ u) n
  | 0 => by show u.2.2 2 = u.2.2 2 + (0 : Int32); rw [Int32.add_zero]
  | n + 1 => by
    have ih := sl_all u n
    have e : (slN u (n + 1)).2.2 2 = (slN u n).2.2 2 + mn (slN u n).1 ((slN u n).2.1 n 5) := by
      show (slStep (slN u n) n).2.2 2 = _
      unfold slStep
      show (if _ then _ else _ : Iu) 2 = _
      split
      · rw [upd_ne (by decide), upd_at]
      · rw [upd_at]
    rw [e, ih, sl_later u n n (Nat.le_refl n)]
    have e2 : sm (sJ u) (n + 1) = sm (sJ u) n + mn (slN u n).1 (u.2.1 n 5) := rfl
    rw [e2]
    grind
/-- behind one with loaves left, nobody is left to buy -/
theorem sl_none {nB nS : Nat} {H S M : Int} (u : TL) (h0 : rgI 0 M u.1) (hb : ∀ j, j < nB → bOK nS H S (u.2.1 j)) {j : Nat} (hj : j < nB) (hl : ¬ (slN u (j + 1)).2.1 j 5 = 0) : ∀ n, j < n → n ≤ nB → (slN u n).1 = 0
  | 0, h, _ => absurd h (Nat.not_lt_zero j)
  | n + 1, h, hn => by
    have hO := slN_OK (nS := nS) u h0 hb n (by omega)
    have h1 := hO.1.1
    have h5 := (hO.2 n (by omega)).2.2.2.2.2.1
    have o : (0 : Int32).toInt = 0 := rfl
    have em : (mn (slN u n).1 ((slN u n).2.1 n 5)).toInt = min (slN u n).1.toInt ((slN u n).2.1 n 5).toInt := mn_int _ _
    have hlt := Int32.toInt_lt (slN u n).1
    have hlt5 := Int32.toInt_lt ((slN u n).2.1 n 5)
    show (slN u n).1 - mn (slN u n).1 ((slN u n).2.1 n 5) = 0
    refine Int32.toInt_inj.mp ?_
    rw [i_sub (by rw [em]; omega) (by rw [em]; omega), em, o]
    rcases Decidable.em (j = n) with z | z
    · subst z
      have e5 : (slN u (j + 1)).2.1 j 5 = (slN u j).2.1 j 5 - mn (slN u j).1 ((slN u j).2.1 j 5) := by
        show va_up (slN u j).2.1 j (bSell ((slN u j).2.1 j) (slN u j).1) j 5 = _
        rw [up_at]
        unfold bSell
        rw [upd_ne (by decide), upd_at]
      rw [e5] at hl
      have hne : ((slN u j).2.1 j 5 - mn (slN u j).1 ((slN u j).2.1 j 5)).toInt ≠ 0 := fun z => hl (Int32.toInt_inj.mp (by rw [z, o]))
      rw [i_sub (by rw [em]; omega) (by rw [em]; omega), em] at hne
      omega
    · have ih := sl_none u h0 hb hj hl n (by omega) (by omega)
      rw [ih, o]
      omega
