/-! ===== what holds of a town at every hour ===== -/
theorem i_div {a b : Int32} (h : 0 ≤ a.toInt) (g : 0 < b.toInt) : (a / b).toInt = a.toInt / b.toInt := by
  rw [Int32.toInt_div, Int.tdiv_eq_ediv_of_nonneg h]
  have h1 : a.toInt / b.toInt ≤ a.toInt := Int.ediv_le_self _ h
  have h2 : 0 ≤ a.toInt / b.toInt := Int.ediv_nonneg h (by omega)
  have h3 := Int32.toInt_lt a
  exact Int.bmod_eq_of_le (by omega) (by omega)
theorem i_mul {a b : Int32} (h1 : -2147483648 ≤ a.toInt * b.toInt) (h2 : a.toInt * b.toInt < 2147483648) : (a * b).toInt = a.toInt * b.toInt := by
  rw [Int32.toInt_mul]
  exact Int.bmod_eq_of_le (by omega) (by omega)
def rgI (a b : Int) (x : Int32) : Prop := a ≤ x.toInt ∧ x.toInt ≤ b
def sOK (f : Iu) : Prop := rgI 0 900 (f 0) ∧ rgI 0 50 (f 1)
def bOK (nS : Nat) (H S : Int) (b : Iu) : Prop := (∃ i, i < nS ∧ b 0 = nI i) ∧ (b 7 = 0 ∨ b 7 = 1) ∧ rgI 5 12 (b 4) ∧ rgI 0 90 (b 2) ∧ rgI 0 H (b 3) ∧ rgI 0 S (b 5)
theorem i_c (n : Nat) (h : n < 2 ^ 31) : (Int32.ofNat n).toInt = n := Int32.toInt_ofNat_of_lt h
theorem sOK_take {f : Iu} {n : Int32} (h : sOK f) (g : rgI 0 99 n) : sOK (sTake f n) := by
  obtain ⟨⟨h1, h2⟩, h3⟩ := h
  obtain ⟨g1, g2⟩ := g
  have e2 : (900 - f 0).toInt = 900 - (f 0).toInt := by rw [i_sub (by rw [i_900]; omega) (by rw [i_900]; omega), i_900]
  have e3 : (mn n (900 - f 0)).toInt = min n.toInt (900 - (f 0).toInt) := by rw [mn_int, e2]
  refine ⟨?_, ?_⟩
  · unfold sTake
    rw [upd_at]
    unfold rgI
    rw [i_add (by rw [e3]; omega) (by rw [e3]; omega), e3]
    omega
  · unfold sTake
    rw [upd_ne (by decide)]
    exact h3
theorem sOK_give {f : Iu} {n : Int32} (h : sOK f) (g : 0 ≤ n.toInt) : sOK (sGive f n) := by
  obtain ⟨⟨h1, h2⟩, h3⟩ := h
  have e3 : (mn n (f 0)).toInt = min n.toInt (f 0).toInt := mn_int _ _
  refine ⟨?_, ?_⟩
  · unfold sGive
    rw [upd_at]
    unfold rgI
    rw [i_sub (by rw [e3]; omega) (by rw [e3]; omega), e3]
    omega
  · unfold sGive
    rw [upd_ne (by decide)]
    exact h3
theorem sOK_feed {f : Iu} (h : sOK f) : sOK (sFeed f) := by
  obtain ⟨⟨h1, h2⟩, h3, h4⟩ := h
  have e3 : (mn (f 1) (f 0)).toInt = min (f 1).toInt (f 0).toInt := mn_int _ _
  have d4 : (f 1 / 4).toInt = (f 1).toInt / 4 := i_div (b := 4) h3 (by decide)
  have d2 : (f 1 / 2).toInt = (f 1).toInt / 2 := i_div (b := 2) h3 (by decide)
  have a1 : (f 1 + f 1 / 4).toInt = (f 1).toInt + (f 1).toInt / 4 := by rw [i_add (by rw [d4]; omega) (by rw [d4]; omega), d4]
  have a2 : (f 1 + f 1 / 4 + 1).toInt = (f 1).toInt + (f 1).toInt / 4 + 1 := by
    have o : (1 : Int32).toInt = 1 := by decide
    rw [i_add (by rw [a1, o]; omega) (by rw [a1, o]; omega), a1, o]
  have c50 : (50 : Int32).toInt = 50 := by decide
  refine ⟨?_, ?_⟩
  · unfold sFeed sFed
    rw [upd_ne (by decide), upd_ne (by decide), upd_at]
    unfold rgI
    rw [i_sub (by rw [e3]; omega) (by rw [e3]; omega), e3]
    omega
  · unfold sFeed
    rw [upd_at]
    unfold rgI
    split
    · rw [mn_int, a2, c50]; omega
    · rw [d2]; omega
theorem bOK_mono {nS : Nat} {H S H' S' : Int} {b : Iu} (h : bOK nS H S b) (h1 : H ≤ H') (h2 : S ≤ S') : bOK nS H' S' b :=
  ⟨h.1, h.2.1, h.2.2.1, h.2.2.2.1, ⟨h.2.2.2.2.1.1, Int.le_trans h.2.2.2.2.1.2 h1⟩, ⟨h.2.2.2.2.2.1, Int.le_trans h.2.2.2.2.2.2 h2⟩⟩
theorem bOK_deal {nS : Nat} {H S : Int} {b : Iu} {x : Int32} (h : bOK nS H S b) (hH : H ≤ 100000000) (g : rgI 0 90 x) : bOK nS (H + 90) S (upd b 3 (b 3 + x)) := by
  obtain ⟨h0, h7, h4, h2, ⟨h3, h3'⟩, h5⟩ := h
  obtain ⟨g1, g2⟩ := g
  unfold bOK
  rw [upd_ne (by decide), upd_ne (by decide), upd_ne (by decide), upd_ne (by decide), upd_at, upd_ne (by decide)]
  refine ⟨h0, h7, h4, h2, ?_, h5⟩
  unfold rgI
  rw [i_add (by omega) (by omega)]
  omega
theorem bOK_bake {nS : Nat} {H S : Int} {b : Iu} (h : bOK nS H S b) (hS : S ≤ 100000000) : bOK nS H (S + 4) (bBake b) := by
  unfold bBake
  split
  · obtain ⟨h0, h7, ⟨h4, h4'⟩, h2, ⟨h3, h3'⟩, ⟨h5, h5'⟩⟩ := h
    have c4 : (4 : Int32).toInt = 4 := by decide
    have ed : (b 3 / b 4).toInt = (b 3).toInt / (b 4).toInt := i_div h3 (by omega)
    have hd0 : 0 ≤ (b 3).toInt / (b 4).toInt := Int.ediv_nonneg h3 (by omega)
    have el : (bLoaves b).toInt = min ((b 3).toInt / (b 4).toInt) 4 := by unfold bLoaves; rw [mn_int, ed, c4]
    have hq : (b 3).toInt / (b 4).toInt * (b 4).toInt ≤ (b 3).toInt := Int.ediv_mul_le _ (by omega)
    have hm : (bLoaves b).toInt * (b 4).toInt ≤ (b 3).toInt / (b 4).toInt * (b 4).toInt := Int.mul_le_mul_of_nonneg_right (by rw [el]; omega) (by omega)
    have hm0 : 0 ≤ (bLoaves b).toInt * (b 4).toInt := Int.mul_nonneg (by rw [el]; omega) (by omega)
    have h3l := Int32.toInt_lt (b 3)
    have em : (bLoaves b * b 4).toInt = (bLoaves b).toInt * (b 4).toInt := i_mul (by omega) (by omega)
    unfold bOK
    rw [upd_ne (by decide), upd_ne (by decide), upd_ne (by decide), upd_ne (by decide), upd_ne (by decide), upd_ne (by decide), upd_ne (by decide), upd_ne (by decide), upd_ne (by decide), upd_at, upd_at]
    refine ⟨h0, h7, ⟨h4, h4'⟩, h2, ?_, ?_⟩
    · unfold rgI
      rw [i_sub (by rw [em]; omega) (by rw [em]; omega), em]
      omega
    · unfold rgI
      rw [i_add (by rw [el]; omega) (by rw [el]; omega), el]
      omega
  · exact bOK_mono h (Int.le_refl _) (by omega)
theorem bOK_sell {nS : Nat} {H S : Int} {b : Iu} {n : Int32} (h : bOK nS H S b) (g : 0 ≤ n.toInt) : bOK nS H S (bSell b n) := by
  obtain ⟨h0, h7, h4, h2, h3, ⟨h5, h5'⟩⟩ := h
  have el : (mn n (b 5)).toInt = min n.toInt (b 5).toInt := mn_int _ _
  unfold bSell bOK
  rw [upd_ne (by decide), upd_ne (by decide), upd_ne (by decide), upd_ne (by decide), upd_ne (by decide), upd_ne (by decide), upd_ne (by decide), upd_ne (by decide), upd_ne (by decide), upd_ne (by decide), upd_ne (by decide), upd_at]
  refine ⟨h0, h7, h4, h2, h3, ?_⟩
  unfold rgI
  have hn := Int32.toInt_lt (b 5)
  rw [i_sub (by rw [el]; omega) (by rw [el]; omega), el]
  omega
theorem bakeN_at (bk : Nat → Iu) (j : Nat) : ∀ n, bakeN bk n j = if j < n then bBake (bk j) else bk j
  | 0 => by rw [if_neg (by omega)]; rfl
  | n + 1 => by
    show va_up (bakeN bk n) n (bBake (bakeN bk n n)) j = _
    rcases Nat.lt_trichotomy j n with h | h | h
    · rw [up_ne (by omega), bakeN_at bk j n, if_pos h, if_pos (by omega)]
    · subst h
      rw [up_at, bakeN_at bk j j, if_neg (by omega), if_pos (by omega)]
    · rw [up_ne (by omega), bakeN_at bk j n, if_neg (by omega), if_neg (by omega)]
theorem feedN_at (st : Nat → Iu) (j : Nat) : ∀ n, feedN st n j = if j < n then sFeed (st j) else st j
  | 0 => by rw [if_neg (by omega)]; rfl
  | n + 1 => by
    show va_up (feedN st n) n (sFeed (feedN st n n)) j = _
    rcases Nat.lt_trichotomy j n with h | h | h
    · rw [up_ne (by omega), feedN_at st j n, if_pos h, if_pos (by omega)]
    · subst h
      rw [up_at, feedN_at st j j, if_neg (by omega), if_pos (by omega)]
    · rw [up_ne (by omega), feedN_at st j n, if_neg (by omega), if_neg (by omega)]
theorem dlN_OK {nS nB : Nat} {H S : Int} (hnS : nS ≤ 4) (hH : H ≤ 100000000) (u : T2) (hs : ∀ i, i < nS → sOK (u.1 i)) (hb : ∀ j, j < nB → bOK nS H S (u.2 j)) : ∀ n, n ≤ nB → (∀ i, i < nS → sOK ((dlN u n).1 i)) ∧ (∀ j, j < nB → (j < n → bOK nS (H + 90) S ((dlN u n).2 j)) ∧ (n ≤ j → bOK nS H S ((dlN u n).2 j)))
  | 0, _ => ⟨hs, fun j hj => ⟨fun h => absurd h (by omega), fun _ => hb j hj⟩⟩
  | n + 1, hn => by
    obtain ⟨i1, i2⟩ := dlN_OK hnS hH u hs hb n (by omega)
    have hbn := (i2 n (by omega)).2 (Nat.le_refl _)
    obtain ⟨i, hi, ei⟩ := hbn.1
    show (∀ i, i < nS → sOK ((dlStep (dlN u n) n (((dlN u n).2 n 0).toNatClampNeg)).1 i)) ∧ (∀ j, j < nB → (j < n + 1 → bOK nS (H + 90) S ((dlStep (dlN u n) n (((dlN u n).2 n 0).toNatClampNeg)).2 j)) ∧ (n + 1 ≤ j → bOK nS H S ((dlStep (dlN u n) n (((dlN u n).2 n 0).toNatClampNeg)).2 j)))
    rw [ei, nI_clamp (by omega)]
    unfold dlStep
    split
    · have hr := hbn.2.2.2.1
      have hsi := i1 i hi
      have em : (mn ((dlN u n).2 n 2) ((dlN u n).1 i 0)).toInt = min ((dlN u n).2 n 2).toInt ((dlN u n).1 i 0).toInt := mn_int _ _
      have hx : rgI 0 90 (mn ((dlN u n).2 n 2) ((dlN u n).1 i 0)) := by
        unfold rgI
        rw [em]
        have := hr.1; have := hr.2; have := hsi.1.1
        omega
      refine ⟨fun q hq => ?_, fun j hj => ⟨fun h => ?_, fun h => ?_⟩⟩
      · show sOK (va_up (dlN u n).1 i _ q)
        rcases Decidable.em (q = i) with e | e
        · subst e; rw [up_at]; exact sOK_give hsi hr.1
        · rw [up_ne e]; exact i1 q hq
      · show bOK _ _ _ (va_up (dlN u n).2 n _ j)
        rcases Decidable.em (j = n) with e | e
        · subst e; rw [up_at]; exact bOK_deal hbn hH hx
        · rw [up_ne e]; exact (i2 j hj).1 (by omega)
      · show bOK _ _ _ (va_up (dlN u n).2 n _ j)
        rw [up_ne (by omega)]; exact (i2 j hj).2 (by omega)
    · refine ⟨i1, fun j hj => ⟨fun h => ?_, fun h => (i2 j hj).2 (by omega)⟩⟩
      rcases Decidable.em (j = n) with e | e
      · subst e; exact bOK_mono hbn (by omega) (Int.le_refl _)
      · exact (i2 j hj).1 (by omega)
theorem slN_OK {nS nB : Nat} {H S M : Int} (u : TL) (h0 : rgI 0 M u.1) (hb : ∀ j, j < nB → bOK nS H S (u.2.1 j)) : ∀ n, n ≤ nB → rgI 0 M (slN u n).1 ∧ (∀ j, j < nB → bOK nS H S ((slN u n).2.1 j))
  | 0, _ => ⟨h0, hb⟩
  | n + 1, hn => by
    obtain ⟨i1, i2⟩ := slN_OK u h0 hb n (by omega)
    have h5 := (i2 n (by omega)).2.2.2.2.2
    have em : (mn (slN u n).1 ((slN u n).2.1 n 5)).toInt = min (slN u n).1.toInt ((slN u n).2.1 n 5).toInt := mn_int _ _
    have hl := Int32.toInt_lt (slN u n).1
    refine ⟨?_, fun j hj => ?_⟩
    · show rgI 0 M ((slN u n).1 - mn (slN u n).1 ((slN u n).2.1 n 5))
      unfold rgI
      have := i1.1; have := i1.2; have := h5.1
      rw [i_sub (by rw [em]; omega) (by rw [em]; omega), em]
      omega
    · show bOK _ _ _ (va_up (slN u n).2.1 n _ j)
      rcases Decidable.em (j = n) with e | e
      · subst e; rw [up_at]; exact bOK_sell (i2 j hj) i1.1
      · rw [up_ne e]; exact i2 j hj
/-- a town at the hour hq -/
def tInv (nS nB : Nat) (gate : Iu) (hq : Nat) (u : TS) : Prop := (∀ i, i < nS → sOK (u.1 i)) ∧ (∀ j, j < nB → bOK nS (90 * hq) (4 * hq) (u.2.1 j)) ∧ rgI 0 500 (u.2.2 1) ∧ rgI 0 (500 * hq) (u.2.2 4) ∧ u.2.2 0 = nI hq ∧ (∀ k, k < 24 → rgI 0 99 (gate k))
theorem cart_OK {nS nB : Nat} {x : Int32} {u : TS} (hs : ∀ i, i < nS → sOK (u.1 i)) (g : rgI 0 99 x) : ∀ i, i < nS → sOK ((hCart nS x u).1 i) := by
  intro i hi
  unfold hCart
  rw [if_neg (by omega)]
  show sOK (va_up u.1 _ _ i)
  rcases Decidable.em (i = emp u.1 nS) with e | e
  · rw [← e, up_at]; exact sOK_take (hs i hi) g
  · rw [up_ne e]; exact hs i hi
theorem hPre_OK {nS nB hq : Nat} {gate : Iu} {u : TS} (hnS : nS ≤ 4) (hq1 : hq ≤ 200000) (h : tInv nS nB gate hq u) : (∀ i, i < nS → sOK ((hPre nS nB (hq % 24) gate u).1 i)) ∧ (∀ j, j < nB → bOK nS (90 * hq + 90) (4 * hq) ((hPre nS nB (hq % 24) gate u).2.1 j)) := by
  have hc := cart_OK (nB := nB) h.1 (h.2.2.2.2.2 (hq % 24) (by omega))
  unfold hPre
  split
  · obtain ⟨d1, d2⟩ := dlN_OK (nB := nB) (H := 90 * hq) (S := 4 * hq) hnS (by omega) ((hCart nS (gate (hq % 24)) u).1, (hCart nS (gate (hq % 24)) u).2.1) hc (by rw [hCart_bk]; exact h.2.1) nB (Nat.le_refl _)
    refine ⟨fun i hi => ?_, fun j hj => (d2 j hj).1 hj⟩
    show sOK (feedN _ nS i)
    rw [feedN_at, if_pos hi]
    exact sOK_feed (d1 i hi)
  · refine ⟨hc, fun j hj => ?_⟩
    rw [hCart_bk]
    exact bOK_mono (h.2.1 j hj) (by omega) (Int.le_refl _)
theorem hPre_nu (nS nB k : Nat) (gate : Iu) (u : TS) {q : Nat} (h : q ≠ 5) : (hPre nS nB k gate u).2.2 q = u.2.2 q := by
  unfold hPre
  split
  · exact hCart_nu nS _ u h
  · exact hCart_nu nS _ u h
theorem hMorn_OK {nS nB hq : Nat} {gate : Iu} {u : TS} (hnS : nS ≤ 4) (hq1 : hq ≤ 200000) (h : tInv nS nB gate hq u) : (∀ i, i < nS → sOK ((hMorn nS nB (hq % 24) gate u).1 i)) ∧ (∀ j, j < nB → bOK nS (90 * hq + 90) (4 * hq + 4) ((hMorn nS nB (hq % 24) gate u).2.1 j)) := by
  obtain ⟨p1, p2⟩ := hPre_OK hnS hq1 h
  refine ⟨p1, fun j hj => ?_⟩
  show bOK _ _ _ (bakeN (hPre nS nB (hq % 24) gate u).2.1 nB j)
  rw [bakeN_at, if_pos hj]
  exact bOK_bake (p2 j hj) (by omega)
theorem unfed_OK {nS nB hq : Nat} {gate : Iu} {u : TS} (hnS : nS ≤ 4) (hq1 : hq ≤ 200000) (h : tInv nS nB gate hq u) : rgI 0 500 (hUnfed nS nB (hq % 24) gate u) := by
  unfold hUnfed
  split
  · refine (slN_OK (nS := nS) (nB := nB) (H := 90 * hq + 90) (S := 4 * hq + 4) _ ?_ (hMorn_OK hnS hq1 h).2 nB (Nat.le_refl _)).1
    show rgI 0 500 ((hMorn nS nB (hq % 24) gate u).2.2 1)
    rw [hMorn_nu _ _ _ _ _ (by decide)]
    exact h.2.2.1
  · exact ⟨by decide, by decide⟩
theorem inv_hour {nS nB hq : Nat} {gate : Iu} {u : TS} (hnS : nS ≤ 4) (hq1 : hq ≤ 200000) (h : tInv nS nB gate hq u) : tInv nS nB gate (hq + 1) (hour1 nS nB (hq % 24) gate u) := by
  obtain ⟨m1, m2⟩ := hMorn_OK hnS hq1 h
  have hu := unfed_OK hnS hq1 h
  have e4 : (hour1 nS nB (hq % 24) gate u).2.2 4 = u.2.2 4 + hUnfed nS nB (hq % 24) gate u := hour1_4 _ _ _ _ _
  have e1 : (hour1 nS nB (hq % 24) gate u).2.2 1 = u.2.2 1 := hour1_1 _ _ _ _ _
  have e0 : (hour1 nS nB (hq % 24) gate u).2.2 0 = u.2.2 0 + 1 := hr_hour _ _ _ _ _
  have hst : (hour1 nS nB (hq % 24) gate u).1 = (hMorn nS nB (hq % 24) gate u).1 := by
    show (hSale nS nB (hq % 24) gate u).1 = _
    unfold hSale
    split <;> rfl
  have hbk : ∀ j, j < nB → bOK nS (90 * hq + 90) (4 * hq + 4) ((hour1 nS nB (hq % 24) gate u).2.1 j) := by
    intro j hj
    show bOK _ _ _ ((hSale nS nB (hq % 24) gate u).2.1 j)
    unfold hSale
    split
    · refine (slN_OK (nS := nS) (nB := nB) (M := 500) (H := 90 * hq + 90) (S := 4 * hq + 4) ((hMorn nS nB (hq % 24) gate u).2.2 1, (hMorn nS nB (hq % 24) gate u).2.1, (hMorn nS nB (hq % 24) gate u).2.2) ?_ m2 nB (Nat.le_refl _)).2 j hj
      show rgI 0 500 ((hMorn nS nB (hq % 24) gate u).2.2 1)
      rw [hMorn_nu _ _ _ _ _ (by decide)]
      exact h.2.2.1
    · exact m2 j hj
  refine ⟨fun i hi => by rw [hst]; exact m1 i hi, fun j hj => bOK_mono (hbk j hj) (by omega) (by omega), by rw [e1]; exact h.2.2.1, ?_, by rw [e0, h.2.2.2.2.1, nI_1], h.2.2.2.2.2⟩
  rw [e4]
  unfold rgI
  have h4 := h.2.2.2.1
  have := h4.1; have := h4.2; have := hu.1; have := hu.2
  rw [i_add (by omega) (by omega)]
  omega
theorem inv_hrs {nS nB hq : Nat} {gate : Iu} {u : TS} (hnS : nS ≤ 4) (h : tInv nS nB gate hq u) : ∀ n, hq + n ≤ 200000 → tInv nS nB gate (hq + n) (hrs nS nB hq gate u n)
  | 0, _ => h
  | n + 1, hn => inv_hour (hq := hq + n) hnS (by omega) (inv_hrs hnS h n (by omega))
theorem unf_OK {nS nB hq : Nat} {gate : Iu} {u : TS} (hnS : nS ≤ 4) (h : tInv nS nB gate hq u) : ∀ n, hq + n ≤ 200000 → rgI 0 (500 * n) (unf nS nB hq gate u n)
  | 0, _ => ⟨by show (0 : Int) ≤ (0 : Int32).toInt; decide, by show (0 : Int32).toInt ≤ _; decide⟩
  | n + 1, hn => by
    have i1 := unf_OK hnS h n (by omega)
    have i2 := unfed_OK hnS (by omega) (inv_hrs hnS h n (by omega))
    show rgI _ _ (unf nS nB hq gate u n + hUnfed nS nB ((hq + n) % 24) gate (hrs nS nB hq gate u n))
    unfold rgI
    have := i1.1; have := i1.2; have := i2.1; have := i2.2
    rw [i_add (by omega) (by omega)]
    omega
theorem inv_ok {nS nB hq : Nat} {gate : Iu} {u : TS} (h : tInv nS nB gate hq u) : okH nS nB gate u := by
  refine ⟨fun i hi => (h.1 i hi).1, fun j hj => ⟨(h.2.1 j hj).1, (h.2.1 j hj).2.1, ?_⟩, h.2.2.2.2.2⟩
  have h4 := (h.2.1 j hj).2.2.1.1
  exact Int32.lt_iff_toInt_lt.mpr (by show (0 : Int32).toInt < _; have : (0 : Int32).toInt = 0 := rfl; omega)
/-- one baker's ration changed -/
theorem inv_rat {nS nB hq : Nat} {gate : Iu} {u : TS} {j : Nat} {x : Int32} (h : tInv nS nB gate hq u) (g : rgI 0 90 x) : tInv nS nB gate hq (u.1, va_up u.2.1 j (upd (u.2.1 j) 2 x), u.2.2) := by
  refine ⟨h.1, fun q hq1 => ?_, h.2.2⟩
  show bOK _ _ _ (va_up u.2.1 j _ q)
  rcases Decidable.em (q = j) with e | e
  · subst e
    obtain ⟨h0, h7, h4, h2, h3, h5⟩ := h.2.1 q hq1
    rw [up_at]
    unfold bOK
    rw [upd_ne (by decide), upd_ne (by decide), upd_ne (by decide), upd_at, upd_ne (by decide), upd_ne (by decide)]
    exact ⟨h0, h7, h4, g, h3, h5⟩
  · rw [up_ne e]; exact h.2.1 q hq1
theorem lt_add {x y z : Int32} {M : Int} (hx : rgI 0 M x) (hM : M ≤ 1000000000) (hy : rgI 0 1000000000 y) (hz : rgI 0 1000000000 z) : (x + y < x + z ↔ y < z) := by
  rw [Int32.lt_iff_toInt_lt, Int32.lt_iff_toInt_lt]
  have := hx.1; have := hx.2; have := hy.1; have := hy.2; have := hz.1; have := hz.2
  rw [i_add (by omega) (by omega), i_add (by omega) (by omega)]
  omega
theorem rgI_mono {a b b' : Int} {x : Int32} (h : rgI a b x) (g : b ≤ b') : rgI a b' x := ⟨h.1, Int.le_trans h.2 g⟩
/-- what the calls that change something keep -/
theorem inv_people {nS nB hq : Nat} {gate : Iu} {u : TS} {x : Int32} (h : tInv nS nB gate hq u) (g : rgI 0 500 x) : tInv nS nB gate hq (u.1, u.2.1, upd u.2.2 1 x) := by
  refine ⟨h.1, h.2.1, ?_, ?_, ?_, h.2.2.2.2.2⟩
  · show rgI 0 500 (upd u.2.2 1 x 1); rw [upd_at]; exact g
  · show rgI 0 _ (upd u.2.2 1 x 4); rw [upd_ne (by decide)]; exact h.2.2.2.1
  · show upd u.2.2 1 x 0 = _; rw [upd_ne (by decide)]; exact h.2.2.2.2.1
theorem inv_gate {nS nB hq : Nat} {gate : Iu} {u : TS} {k : Nat} {x : Int32} (h : tInv nS nB gate hq u) (g : rgI 0 99 x) : tInv nS nB (upd gate k x) hq u := by
  refine ⟨h.1, h.2.1, h.2.2.1, h.2.2.2.1, h.2.2.2.2.1, fun q hq1 => ?_⟩
  rcases Decidable.em (q = k) with e | e
  · subst e; rw [upd_at]; exact g
  · rw [upd_ne e]; exact h.2.2.2.2.2 q hq1
theorem inv_st {nS nB hq : Nat} {gate : Iu} {u : TS} {i : Nat} {f : Iu} (h : tInv nS nB gate hq u) (g : sOK f) : tInv nS nB gate hq (va_up u.1 i f, u.2.1, u.2.2) := by
  refine ⟨fun q hq1 => ?_, h.2⟩
  show sOK (va_up u.1 i f q)
  rcases Decidable.em (q = i) with e | e
  · subst e; rw [up_at]; exact g
  · rw [up_ne e]; exact h.1 q hq1
theorem inv_bk {nS nB hq : Nat} {gate : Iu} {u : TS} {j : Nat} {f : Iu} (h : tInv nS nB gate hq u) (g : bOK nS (90 * hq) (4 * hq) f) : tInv nS nB gate hq (u.1, va_up u.2.1 j f, u.2.2) := by
  refine ⟨h.1, fun q hq1 => ?_, h.2.2⟩
  show bOK _ _ _ (va_up u.2.1 j f q)
  rcases Decidable.em (q = j) with e | e
  · subst e; rw [up_at]; exact g
  · rw [up_ne e]; exact h.2.1 q hq1
theorem inv_open {nS nB hq : Nat} {gate : Iu} {u : TS} {p0 p1 : Int32} (h : tInv nS nB gate hq u) (g0 : rgI 0 900 p0) (g1 : rgI 0 50 p1) : tInv (nS + 1) nB gate hq (va_up u.1 nS (newS p0 p1), u.2.1, u.2.2) := by
  refine ⟨fun q hq1 => ?_, fun j hj => ?_, h.2.2⟩
  · show sOK (va_up u.1 nS _ q)
    rcases Decidable.em (q = nS) with e | e
    · subst e; rw [up_at]; unfold newS sOK; rw [upd_ne (by decide), upd_at, upd_at]; exact ⟨g0, g1⟩
    · rw [up_ne e]; exact h.1 q (by omega)
  · obtain ⟨⟨i, hi, e⟩, h2⟩ := h.2.1 j hj
    exact ⟨⟨i, by omega, e⟩, h2⟩
theorem inv_swear {nS nB hq i : Nat} {gate : Iu} {u : TS} {p1 p2 p3 : Int32} (h : tInv nS nB gate hq u) (hi : i < nS) (g2 : rgI 5 12 p2) (g3 : rgI 0 90 p3) : tInv nS (nB + 1) gate hq (u.1, va_up u.2.1 nB (newB (nI i) p1 p2 p3), u.2.2) := by
  refine ⟨h.1, fun q hq1 => ?_, h.2.2⟩
  show bOK _ _ _ (va_up u.2.1 nB _ q)
  rcases Decidable.em (q = nB) with e | e
  · subst e
    rw [up_at]
    exact ⟨⟨i, hi, rfl⟩, Or.inl rfl, g2, g3, ⟨by show (0 : Int) ≤ (0 : Int32).toInt; decide, by show (0 : Int32).toInt ≤ _; have : (0 : Int32).toInt = 0 := rfl; omega⟩, ⟨by show (0 : Int) ≤ (0 : Int32).toInt; decide, by show (0 : Int32).toInt ≤ _; have : (0 : Int32).toInt = 0 := rfl; omega⟩⟩
  · rw [up_ne e]; exact h.2.1 q (by omega)
theorem sOK_smoke {f : Iu} (h : sOK f) : sOK (sSmoke f) := by
  obtain ⟨⟨h1, h2⟩, -⟩ := h
  have d10 : (f 0 / 10).toInt = (f 0).toInt / 10 := i_div (b := 10) h1 (by decide)
  unfold sSmoke sOK
  rw [upd_at, upd_ne (by decide), upd_at]
  refine ⟨?_, by decide, by decide⟩
  unfold rgI
  rw [i_sub (by rw [d10]; omega) (by rw [d10]; omega), d10]
  omega
theorem bOK_ration {nS : Nat} {H S : Int} {b : Iu} {x : Int32} (h : bOK nS H S b) (g : rgI 0 90 x) : bOK nS H S (upd b 2 x) := by
  obtain ⟨h0, h7, h4, h2, h3, h5⟩ := h
  unfold bOK
  rw [upd_ne (by decide), upd_ne (by decide), upd_ne (by decide), upd_at, upd_ne (by decide), upd_ne (by decide)]
  exact ⟨h0, h7, h4, g, h3, h5⟩
theorem bOK_inspect {nS : Nat} {H S : Int} {b : Iu} (h : bOK nS H S b) (g : 0 < (b 5).toInt) : bOK nS H S (bInspect b) := by
  obtain ⟨h0, h7, h4, h2, h3, ⟨h5, h5'⟩⟩ := h
  have o : (1 : Int32).toInt = 1 := by decide
  have hl := Int32.toInt_lt (b 5)
  have e5 : rgI 0 S (b 5 - 1) := by
    unfold rgI
    rw [i_sub (by rw [o]; omega) (by rw [o]; omega), o]
    omega
  unfold bInspect
  split
  · unfold bOK
    rw [upd_ne (by decide), upd_ne (by decide), upd_at, upd_ne (by decide), upd_ne (by decide), upd_ne (by decide), upd_ne (by decide), upd_ne (by decide), upd_ne (by decide), upd_ne (by decide), upd_at]
    exact ⟨h0, Or.inr rfl, h4, h2, h3, e5⟩
  · unfold bOK
    rw [upd_ne (by decide), upd_ne (by decide), upd_ne (by decide), upd_ne (by decide), upd_ne (by decide), upd_at]
    exact ⟨h0, h7, h4, h2, h3, e5⟩
theorem bOK_forgive {nS : Nat} {H S : Int} {b : Iu} (h : bOK nS H S b) : bOK nS H S (bForgive b) := by
  obtain ⟨h0, h7, h4, h2, h3, h5⟩ := h
  have c10 : (10 : Int32).toInt = 10 := by decide
  unfold bForgive bOK
  rw [upd_ne (by decide), upd_ne (by decide), upd_ne (by decide), upd_at, upd_at, upd_ne (by decide), upd_ne (by decide), upd_ne (by decide), upd_ne (by decide), upd_ne (by decide), upd_ne (by decide)]
  refine ⟨h0, Or.inl rfl, ?_, h2, h3, h5⟩
  unfold rgI
  have := h4.1; have := h4.2
  rw [mx_int, c10]
  omega
theorem inv_zero : tInv 0 0 (fun _ => 0) 0 ((fun _ _ => 0), (fun _ _ => 0), nu0) := by
  refine ⟨fun i hi => absurd hi (by omega), fun j hj => absurd hj (by omega), ⟨by decide, by decide⟩, ⟨by decide, by decide⟩, rfl, fun k _ => ⟨by show (0 : Int) ≤ (0 : Int32).toInt; decide, by show (0 : Int32).toInt ≤ 99; decide⟩⟩
theorem rg_of {x : Int32} {a b : Nat} (ha : a < 2 ^ 31) (hb : b < 2 ^ 31) (h : Int32.ofNat a ≤ x ∧ x ≤ Int32.ofNat b) : rgI a b x := by
  have h1 := Int32.le_iff_toInt_le.mp h.1
  have h2 := Int32.le_iff_toInt_le.mp h.2
  rw [i_c a ha] at h1
  rw [i_c b hb] at h2
  exact ⟨h1, h2⟩
theorem ownF_ge (bk : Nat → Iu) (mk : Int32) : ∀ n i, n + i < 2 ^ 31 → (ownF bk mk n i < 0 ↔ ownF bk mk n i = -1)
  | 0, _, _ => ⟨fun _ => rfl, fun _ => by show (-1 : Int32) < 0; decide⟩
  | n + 1, i, h => by
    show ((if bk i 1 = mk then nI i else ownF bk mk n (i + 1)) < 0 ↔ (if bk i 1 = mk then nI i else ownF bk mk n (i + 1)) = -1)
    split
    · have hi : (nI i).toInt = i := i_c i (by omega)
      constructor
      · intro z
        have := Int32.lt_iff_toInt_lt.mp z
        have o : (0 : Int32).toInt = 0 := rfl
        omega
      · intro z
        rw [z] at hi
        have o : (-1 : Int32).toInt = -1 := by decide
        omega
    · exact ownF_ge bk mk n (i + 1) (by omega)
