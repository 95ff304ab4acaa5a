/-! ===== an hour of the whole town: what the law asks ===== -/
section HOUR
variable {nS nB k hq : Nat} {gate : Iu} {u : TS}
theorem hM_bk : (hMorn nS nB k gate u).2.1 = bakeN (hPre nS nB k gate u).2.1 nB := rfl
theorem hM_st : (hMorn nS nB k gate u).1 = (hPre nS nB k gate u).1 := rfl
theorem hM_nu : (hMorn nS nB k gate u).2.2 = (hPre nS nB k gate u).2.2 := rfl
theorem hM_at {j : Nat} (hj : j < nB) : (hMorn nS nB k gate u).2.1 j = bBake ((hPre nS nB k gate u).2.1 j) := by rw [hM_bk, bakeN_at, if_pos hj]
theorem hM_ne (j : Nat) {q : Nat} (h3 : q ≠ 3) (h5 : q ≠ 5) : (hMorn nS nB k gate u).2.1 j q = u.2.1 j q := by
  rw [hM_bk, bakeN_ne _ _ h3 h5, hPre_ne _ _ _ _ _ _ h3]
/-- the sale's start -/
def sU (nS nB k : Nat) (gate : Iu) (u : TS) : TL := ((hMorn nS nB k gate u).2.2 1, (hMorn nS nB k gate u).2.1, (hMorn nS nB k gate u).2.2)
def soJ (nS nB k : Nat) (gate : Iu) (u : TS) (j : Nat) : Int32 := if k = 12 then sJ (sU nS nB k gate u) j else 0
def mJ (nS nB k : Nat) (gate : Iu) (u : TS) (j : Nat) : Int32 := (hMorn nS nB k gate u).2.1 j 5 - u.2.1 j 5
def gtJ (nS nB k : Nat) (gate : Iu) (u : TS) (j : Nat) : Int32 := (hPre nS nB k gate u).2.1 j 3 - u.2.1 j 3
theorem hour_12 (hk : k = 12) : hour1 nS nB k gate u = ((hMorn nS nB k gate u).1, (slN (sU nS nB k gate u) nB).2.1, upd (upd (slN (sU nS nB k gate u) nB).2.2 4 ((slN (sU nS nB k gate u) nB).2.2 4 + (slN (sU nS nB k gate u) nB).1)) 0 ((slN (sU nS nB k gate u) nB).2.2 0 + 1)) := by
  unfold hour1 hTick hSale
  rw [if_pos hk]
  rfl
theorem hour_ne (hk : ¬ k = 12) : hour1 nS nB k gate u = ((hMorn nS nB k gate u).1, (hMorn nS nB k gate u).2.1, upd (hMorn nS nB k gate u).2.2 0 ((hMorn nS nB k gate u).2.2 0 + 1)) := by
  unfold hour1 hTick hSale
  rw [if_neg hk]
theorem unf_12 (hk : k = 12) : hUnfed nS nB k gate u = (slN (sU nS nB k gate u) nB).1 := by
  unfold hUnfed
  rw [if_pos hk]
  rfl
theorem unf_ne (hk : ¬ k = 12) : hUnfed nS nB k gate u = 0 := if_neg hk
theorem hour_st : (hour1 nS nB k gate u).1 = (hPre nS nB k gate u).1 := by
  rcases Decidable.em (k = 12) with hk | hk
  · rw [hour_12 hk]; rfl
  · rw [hour_ne hk]; rfl
theorem hour_5 {j : Nat} (hj : j < nB) : (hour1 nS nB k gate u).2.1 j 5 = (hMorn nS nB k gate u).2.1 j 5 - soJ nS nB k gate u j := by
  unfold soJ
  rcases Decidable.em (k = 12) with hk | hk
  · rw [hour_12 hk, if_pos hk]
    show (slN (sU nS nB k gate u) nB).2.1 j 5 = _
    rw [sl_at _ _ _ hj]
    unfold bSell
    rw [upd_ne (by decide), upd_at]
    rfl
  · rw [hour_ne hk, if_neg hk, Int32.sub_zero]
theorem hour_6 {j : Nat} (hj : j < nB) : (hour1 nS nB k gate u).2.1 j 6 = u.2.1 j 6 + soJ nS nB k gate u j := by
  unfold soJ
  rcases Decidable.em (k = 12) with hk | hk
  · rw [hour_12 hk, if_pos hk]
    show (slN (sU nS nB k gate u) nB).2.1 j 6 = _
    rw [sl_at _ _ _ hj]
    unfold bSell
    rw [upd_at]
    show (hMorn nS nB k gate u).2.1 j 6 + _ = _
    rw [hM_ne j (by decide) (by decide)]
    rfl
  · rw [hour_ne hk, if_neg hk, Int32.add_zero]
    exact hM_ne j (by decide) (by decide)
theorem hour_o {j q : Nat} (hj : j < nB) (h5 : q ≠ 5) (h6 : q ≠ 6) : (hour1 nS nB k gate u).2.1 j q = (hMorn nS nB k gate u).2.1 j q := by
  rcases Decidable.em (k = 12) with hk | hk
  · rw [hour_12 hk]
    show (slN (sU nS nB k gate u) nB).2.1 j q = _
    rw [sl_at _ _ _ hj]
    unfold bSell
    rw [upd_ne h6, upd_ne h5]
    rfl
  · rw [hour_ne hk]
theorem hour_q {j q : Nat} (hj : j < nB) (h3 : q ≠ 3) (h5 : q ≠ 5) (h6 : q ≠ 6) : (hour1 nS nB k gate u).2.1 j q = u.2.1 j q := by
  rw [hour_o hj h5 h6, hM_ne j h3 h5]
/-- sold -/
theorem e_sold {j : Nat} (hj : j < nB) : (hour1 nS nB k gate u).2.1 j 6 - u.2.1 j 6 = soJ nS nB k gate u j := by
  rw [hour_6 hj]; grind
/-- made -/
theorem e_made {j : Nat} (hj : j < nB) : (hour1 nS nB k gate u).2.1 j 5 + soJ nS nB k gate u j - u.2.1 j 5 = mJ nS nB k gate u j := by
  rw [hour_5 hj]; unfold mJ; grind
theorem bake_3 (b : Iu) : bBake b 3 + (bBake b 5 - b 5) * b 4 = b 3 := by
  unfold bBake
  split
  · rw [upd_ne (by decide), upd_at, upd_at]; grind
  · grind
/-- got -/
theorem e_gets {j : Nat} (hj : j < nB) : (hour1 nS nB k gate u).2.1 j 3 + mJ nS nB k gate u j * u.2.1 j 4 - u.2.1 j 3 = gtJ nS nB k gate u j := by
  have h := bake_3 ((hPre nS nB k gate u).2.1 j)
  rw [← hM_at hj, hPre_ne _ _ _ _ _ _ (show 5 ≠ 3 by decide), hPre_ne _ _ _ _ _ _ (show 4 ≠ 3 by decide)] at h
  rw [hour_o hj (by decide) (by decide)]
  unfold mJ gtJ
  rw [← h]
theorem gtJ_ne (hk : ¬ k = 0) (j : Nat) : gtJ nS nB k gate u j = 0 := by
  unfold gtJ hPre
  rw [if_neg hk, hCart_bk, Int32.sub_self]
theorem gtJ_0 (hk : k = 0) {j : Nat} (hj : j < nB) : gtJ nS nB k gate u j = gJ ((hCart nS (gate k) u).1, u.2.1) j := by
  unfold gtJ hPre
  rw [if_pos hk]
  show (dlN ((hCart nS (gate k) u).1, (hCart nS (gate k) u).2.1) nB).2 j 3 - u.2.1 j 3 = _
  rw [hCart_bk, dl_3 _ hj]
  show u.2.1 j 3 + _ - u.2.1 j 3 = _
  grind
theorem gtJ_OK (hnS : nS ≤ 4) (hq1 : hq ≤ 200000) (h : tInv nS nB gate hq u) {j : Nat} (hj : j < nB) : 0 ≤ (gtJ nS nB (hq % 24) gate u j).toInt ∧ (gtJ nS nB (hq % 24) gate u j).toInt ≤ (u.2.1 j 2).toInt ∧ (u.2.1 j 7 = 1 → gtJ nS nB (hq % 24) gate u j = 0) := by
  rcases Decidable.em (hq % 24 = 0) with hk | hk
  · rw [gtJ_0 hk hj]
    exact gJ_OK hnS hq1 (cart_OK (nB := nB) h.1 (h.2.2.2.2.2 (hq % 24) (by omega))) h.2.1 hj
  · rw [gtJ_ne hk]
    have o : (0 : Int32).toInt = 0 := rfl
    rw [o]
    exact ⟨Int.le_refl 0, (h.2.1 j hj).2.2.2.1.1, fun _ => rfl⟩
theorem mJ_OK (hnS : nS ≤ 4) (hq1 : hq ≤ 200000) (h : tInv nS nB gate hq u) {j : Nat} (hj : j < nB) : 0 ≤ (mJ nS nB (hq % 24) gate u j).toInt ∧ (mJ nS nB (hq % 24) gate u j).toInt ≤ 4 ∧ (u.2.1 j 7 = 1 → mJ nS nB (hq % 24) gate u j = 0) ∧ (u.2.1 j 7 = 0 → (mJ nS nB (hq % 24) gate u j).toInt < 4 → (hMorn nS nB (hq % 24) gate u).2.1 j 3 < u.2.1 j 4) := by
  have hb := (hPre_OK hnS hq1 h).2 j hj
  have e5 : (hPre nS nB (hq % 24) gate u).2.1 j 5 = u.2.1 j 5 := hPre_ne _ _ _ _ _ _ (by decide)
  have e4 : (hPre nS nB (hq % 24) gate u).2.1 j 4 = u.2.1 j 4 := hPre_ne _ _ _ _ _ _ (by decide)
  have e7 : (hPre nS nB (hq % 24) gate u).2.1 j 7 = u.2.1 j 7 := hPre_ne _ _ _ _ _ _ (by decide)
  unfold mJ
  rw [hM_at hj, ← e5, ← e4, ← e7]
  generalize (hPre nS nB (hq % 24) gate u).2.1 j = b at hb
  obtain ⟨-, h7, ⟨h4, h4'⟩, -, ⟨h3, h3'⟩, -⟩ := hb
  have o : (0 : Int32).toInt = 0 := rfl
  have c4 : (4 : Int32).toInt = 4 := by decide
  have hpos : 0 < b 4 := Int32.lt_iff_toInt_lt.mpr (by rw [o]; omega)
  unfold bBake
  split
  · rename_i hc
    have ed : (b 3 / b 4).toInt = (b 3).toInt / (b 4).toInt := i_div h3 (by omega)
    have hd0 : 0 ≤ (b 3).toInt / (b 4).toInt := Int.ediv_nonneg h3 (by omega)
    have el : (bLoaves b).toInt = min ((b 3).toInt / (b 4).toInt) 4 := by unfold bLoaves; rw [mn_int, ed, c4]
    have e1 : (upd (upd b 3 (b 3 - bLoaves b * b 4)) 5 (b 5 + bLoaves b)) 5 - b 5 = bLoaves b := by rw [upd_at]; grind
    have hml : (bLoaves b).toInt * (b 4).toInt ≤ (b 3).toInt / (b 4).toInt * (b 4).toInt := Int.mul_le_mul_of_nonneg_right (by rw [el]; omega) (by omega)
    have hqm : (b 3).toInt / (b 4).toInt * (b 4).toInt ≤ (b 3).toInt := Int.ediv_mul_le _ (by omega)
    have hm0 : 0 ≤ (bLoaves b).toInt * (b 4).toInt := Int.mul_nonneg (by rw [el]; omega) (by omega)
    have h3l := Int32.toInt_lt (b 3)
    have em : (bLoaves b * b 4).toInt = (bLoaves b).toInt * (b 4).toInt := i_mul (by omega) (by omega)
    rw [e1]
    refine ⟨by rw [el]; omega, by rw [el]; omega, fun z => ?_, fun _ z => ?_⟩
    · rw [hc.1] at z; exact absurd z (by decide)
    · rw [upd_ne (by decide), upd_at]
      refine Int32.lt_iff_toInt_lt.mpr ?_
      have eL : (bLoaves b).toInt = (b 3).toInt / (b 4).toInt := by rw [el] at z ⊢; omega
      rw [i_sub (by rw [em]; omega) (by rw [em]; omega), em, eL]
      have h1 : (b 3).toInt < ((b 3).toInt / (b 4).toInt + 1) * (b 4).toInt := Int.lt_ediv_add_one_mul_self _ (by omega)
      rw [Int.add_mul, Int.one_mul] at h1
      omega
  · rename_i hc
    rw [Int32.sub_self, o]
    exact ⟨Int.le_refl 0, by decide, fun _ => rfl, fun z => absurd ⟨z, hpos⟩ hc⟩
theorem sU_OK (hnS : nS ≤ 4) (hq1 : hq ≤ 200000) (h : tInv nS nB gate hq u) : rgI 0 500 (sU nS nB (hq % 24) gate u).1 ∧ (∀ j, j < nB → bOK nS (90 * hq + 90) (4 * hq + 4) ((sU nS nB (hq % 24) gate u).2.1 j)) := by
  refine ⟨?_, (hMorn_OK hnS hq1 h).2⟩
  show rgI 0 500 ((hMorn nS nB (hq % 24) gate u).2.2 1)
  rw [hMorn_nu _ _ _ _ _ (by decide)]
  exact h.2.2.1
theorem soJ_ne (hk : ¬ k = 12) (j : Nat) : soJ nS nB k gate u j = 0 := if_neg hk
theorem soJ_OK (hnS : nS ≤ 4) (hq1 : hq ≤ 200000) (h : tInv nS nB gate hq u) {j : Nat} (hj : j < nB) : 0 ≤ (soJ nS nB (hq % 24) gate u j).toInt := by
  obtain ⟨h0, hb⟩ := sU_OK hnS hq1 h
  have o : (0 : Int32).toInt = 0 := rfl
  unfold soJ
  split
  · unfold sJ
    rw [mn_int]
    have := (slN_OK (nS := nS) _ h0 hb j (by omega)).1.1
    have := (hb j hj).2.2.2.2.2.1
    omega
  · rw [o]; exact Int.le_refl 0
/-- behind a baker with loaves left nobody sells -/
theorem so_first (hnS : nS ≤ 4) (hq1 : hq ≤ 200000) (h : tInv nS nB gate hq u) {i j : Nat} (hij : i < j) (hj : j < nB) (hi : ¬ (hour1 nS nB (hq % 24) gate u).2.1 i 5 = 0) : soJ nS nB (hq % 24) gate u j = 0 := by
  obtain ⟨h0, hb⟩ := sU_OK hnS hq1 h
  unfold soJ
  split
  · rename_i hk
    rw [hour_12 hk] at hi
    have hi : ¬ (slN (sU nS nB (hq % 24) gate u) nB).2.1 i 5 = 0 := hi
    rw [sl_at _ _ _ (show i < nB by omega), ← sl_at _ i (i + 1) (Nat.lt_succ_self i)] at hi
    have hz := sl_none (nS := nS) _ h0 hb (show i < nB by omega) hi j hij (by omega)
    unfold sJ
    have o : (0 : Int32).toInt = 0 := rfl
    refine Int32.toInt_inj.mp ?_
    rw [mn_int, hz, o]
    have := (hb j hj).2.2.2.2.2.1
    omega
  · rfl
theorem soJ_12 (hk : k = 12) : soJ nS nB k gate u = sJ (sU nS nB k gate u) := funext fun _ => if_pos hk
theorem hour_12n (hk : k = 12) {q : Nat} (h0 : q ≠ 0) (h4 : q ≠ 4) : (hour1 nS nB k gate u).2.2 q = (slN (sU nS nB k gate u) nB).2.2 q := by
  rw [hour_12 hk]
  exact (upd_ne h0).trans (upd_ne h4)
theorem so_people (hk : k = 12) : sm (soJ nS nB k gate u) nB + hUnfed nS nB k gate u = u.2.2 1 := by
  rw [unf_12 hk, soJ_12 hk, Int32.add_comm, sl_left]
  exact hMorn_nu _ _ _ _ _ (by decide)
theorem so_none (hk : ¬ k = 12) : sm (soJ nS nB k gate u) nB = 0 := sm_zero fun i _ => soJ_ne hk i
theorem so_le (hnS : nS ≤ 4) (hq1 : hq ≤ 200000) (h : tInv nS nB gate hq u) : sm (soJ nS nB (hq % 24) gate u) nB ≤ u.2.2 1 := by
  have h1 := h.2.2.1
  have o : (0 : Int32).toInt = 0 := rfl
  refine Int32.le_iff_toInt_le.mpr ?_
  rcases Decidable.em (hq % 24 = 12) with hk | hk
  · have e := so_people (nS := nS) (nB := nB) (gate := gate) (u := u) hk
    have hu := unfed_OK hnS hq1 h
    have e2 : sm (soJ nS nB (hq % 24) gate u) nB = u.2.2 1 - hUnfed nS nB (hq % 24) gate u := by rw [← e]; grind
    rw [e2, i_sub (by have := h1.1; have := h1.2; have := hu.1; have := hu.2; omega) (by have := h1.1; have := h1.2; have := hu.1; have := hu.2; omega)]
    have := hu.1
    omega
  · rw [so_none hk, o]; exact h1.1
theorem left_none (hnS : nS ≤ 4) (hq1 : hq ≤ 200000) (h : tInv nS nB gate hq u) (hl : 0 < hUnfed nS nB (hq % 24) gate u) : sm (fun j => (hour1 nS nB (hq % 24) gate u).2.1 j 5) nB = 0 := by
  obtain ⟨h0, hb⟩ := sU_OK hnS hq1 h
  rcases Decidable.em (hq % 24 = 12) with hk | hk
  · refine sm_zero fun j hj => Decidable.byContradiction fun hi => ?_
    rw [hour_12 hk] at hi
    have hi : ¬ (slN (sU nS nB (hq % 24) gate u) nB).2.1 j 5 = 0 := hi
    rw [sl_at _ _ _ hj, ← sl_at _ j (j + 1) (Nat.lt_succ_self j)] at hi
    have hz := sl_none (nS := nS) _ h0 hb hj hi nB hj (Nat.le_refl nB)
    rw [unf_12 hk, hz] at hl
    exact absurd hl (by decide)
  · rw [unf_ne hk] at hl
    exact absurd hl (by decide)
theorem e_all : (hour1 nS nB k gate u).2.2 2 = u.2.2 2 + sm (soJ nS nB k gate u) nB := by
  rcases Decidable.em (k = 12) with hk | hk
  · rw [hour_12n hk (by decide) (by decide), soJ_12 hk, sl_all]
    show (hMorn nS nB k gate u).2.2 2 + _ = _
    rw [hMorn_nu _ _ _ _ _ (by decide)]
  · rw [hour_ne hk, so_none hk, Int32.add_zero]
    exact hMorn_nu nS nB k gate u (q := 2) (by decide)
theorem e_loaves : sm (fun j => (hour1 nS nB k gate u).2.1 j 5) nB = sm (fun j => u.2.1 j 5) nB + sm (mJ nS nB k gate u) nB - sm (soJ nS nB k gate u) nB := by
  have h : sm (fun j => (hour1 nS nB k gate u).2.1 j 5) nB + sm (soJ nS nB k gate u) nB = sm (fun j => u.2.1 j 5) nB + sm (mJ nS nB k gate u) nB := by
    rw [sm_add, sm_add]
    refine sm_congr fun j hj => ?_
    show (hour1 nS nB k gate u).2.1 j 5 + _ = u.2.1 j 5 + _
    rw [hour_5 hj]
    unfold mJ
    grind
  grind
theorem e_lost : (hour1 nS nB k gate u).2.2 5 = (hCart nS (gate k) u).2.2 5 := by
  have e : (hMorn nS nB k gate u).2.2 5 = (hCart nS (gate k) u).2.2 5 := by
    rw [hM_nu]
    unfold hPre
    split <;> rfl
  rcases Decidable.em (k = 12) with hk | hk
  · rw [hour_12n hk (by decide) (by decide), slN_nu _ (by decide) (by decide)]
    exact e
  · rw [hour_ne hk]
    exact e
theorem e_eaten (hk : ¬ k = 0) : sm (fun i => (hour1 nS nB k gate u).1 i 2) nS = sm (fun i => u.1 i 2) nS := by
  refine sm_congr fun i _ => ?_
  rw [hour_st]
  unfold hPre
  rw [if_neg hk]
  exact cart_st _ _ _ _ (by decide)
theorem e_flour (hof : ∀ j, j < nB → ∃ i, i < nS ∧ u.2.1 j 0 = nI i) (hnS : nS ≤ 4) : sm (fun i => u.1 i 0) nS + (if nS = 0 then 0 else gate k) = sm (fun i => (hour1 nS nB k gate u).1 i 0) nS + sm (gtJ nS nB k gate u) nB + sm (fun i => (hour1 nS nB k gate u).1 i 2) nS - sm (fun i => u.1 i 2) nS + (hour1 nS nB k gate u).2.2 5 - u.2.2 5 := by
  have hc := cart_sum nS (gate k) u
  have h2 : sm (fun i => (hCart nS (gate k) u).1 i 2) nS = sm (fun i => u.1 i 2) nS := sm_congr fun i _ => cart_st _ _ _ _ (by decide)
  rw [e_lost]
  rcases Decidable.em (k = 0) with hk | hk
  · have hd := dl_sum (nS := nS) ((hCart nS (gate k) u).1, u.2.1) nB (fun j hj => by
      obtain ⟨i, hi, e⟩ := hof j hj
      show (u.2.1 j 0).toNatClampNeg < nS
      rw [e, nI_clamp (by omega)]
      exact hi)
    have hd2 : sm (fun i => (dlN ((hCart nS (gate k) u).1, u.2.1) nB).1 i 2) nS = sm (fun i => (hCart nS (gate k) u).1 i 2) nS := sm_congr fun i _ => dl_st _ _ (by decide) nB
    have hf := feed_sum (nS := nS) (dlN ((hCart nS (gate k) u).1, u.2.1) nB).1
    have eP : (hPre nS nB k gate u).1 = feedN (dlN ((hCart nS (gate k) u).1, u.2.1) nB).1 nS := by
      unfold hPre
      rw [if_pos hk]
      show feedN (dlN ((hCart nS (gate k) u).1, (hCart nS (gate k) u).2.1) nB).1 nS = _
      rw [hCart_bk]
    rw [hour_st, eP, sm_congr (g := gJ ((hCart nS (gate k) u).1, u.2.1)) (fun j hj => gtJ_0 (nS := nS) (gate := gate) (u := u) hk hj)]
    have hd : sm (fun i => (dlN ((hCart nS (gate k) u).1, u.2.1) nB).1 i 0) nS + sm (gJ ((hCart nS (gate k) u).1, u.2.1)) nB = sm (fun i => (hCart nS (gate k) u).1 i 0) nS := hd
    grind
  · rw [e_eaten hk, sm_zero (f := gtJ nS nB k gate u) (fun j _ => gtJ_ne hk j)]
    have e1 : (hour1 nS nB k gate u).1 = (hCart nS (gate k) u).1 := by
      rw [hour_st]
      exact congrArg Prod.fst (if_neg hk)
    rw [e1]
    grind
end HOUR
-- the hours until somebody goes hungry
theorem hrs_shift (nS nB h : Nat) (gate : Iu) (u : TS) : ∀ i, hrs nS nB h gate u (i + 1) = hrs nS nB (h + 1) gate (hour1 nS nB (h % 24) gate u) i
  | 0 => rfl
  | i + 1 => by
    show hour1 nS nB ((h + (i + 1)) % 24) gate (hrs nS nB h gate u (i + 1)) = hour1 nS nB ((h + 1 + i) % 24) gate (hrs nS nB (h + 1) gate (hour1 nS nB (h % 24) gate u) i)
    rw [hrs_shift nS nB h gate u i, show h + (i + 1) = h + 1 + i by omega]
theorem lastN_next (nS nB h : Nat) (gate : Iu) (u : TS) (d : Nat) : ∀ n i, i + n ≤ 1000 → lastN nS nB h gate u n (i + 1) = -1 ∨ ∃ q, q ≤ 1000 ∧ lastN nS nB h gate u n (i + 1) = nI (q + 2) ∧ lastN nS nB (h + 1) gate (hour1 nS nB (h % 24) gate u) (n + d) i = nI (q + 1)
  | 0, i, _ => Or.inl rfl
  | n + 1, i, hn => by
    have e1 : lastN nS nB h gate u (n + 1) (i + 1) = if 0 < hUnfed nS nB ((h + (i + 1)) % 24) gate (hrs nS nB h gate u (i + 1)) then nI (i + 1 + 1) else lastN nS nB h gate u n (i + 1 + 1) := rfl
    have e2 : lastN nS nB (h + 1) gate (hour1 nS nB (h % 24) gate u) (n + 1 + d) i = if 0 < hUnfed nS nB ((h + 1 + i) % 24) gate (hrs nS nB (h + 1) gate (hour1 nS nB (h % 24) gate u) i) then nI (i + 1) else lastN nS nB (h + 1) gate (hour1 nS nB (h % 24) gate u) (n + d) (i + 1) := by
      rw [show n + 1 + d = (n + d) + 1 by omega]
      rfl
    rw [hrs_shift, show h + (i + 1) = h + 1 + i by omega] at e1
    rw [e1, e2]
    split
    · exact Or.inr ⟨i, by omega, rfl, rfl⟩
    · exact lastN_next nS nB h gate u d n (i + 1) (by omega)
theorem lasts_next {nS nB h : Nat} {gate : Iu} {u : TS} (hx : 1 < lastN nS nB h gate u 480 0) : lastN nS nB (h + 1) gate (hour1 nS nB (h % 24) gate u) 480 0 = lastN nS nB h gate u 480 0 - 1 := by
  have e : lastN nS nB h gate u 480 0 = if 0 < hUnfed nS nB ((h + 0) % 24) gate (hrs nS nB h gate u 0) then nI (0 + 1) else lastN nS nB h gate u 479 (0 + 1) := rfl
  rw [e] at hx ⊢
  split at hx
  · exact absurd hx (by decide)
  · rename_i hc
    rw [if_neg hc]
    rcases lastN_next nS nB h gate u 1 479 0 (by omega) with z | ⟨q, -, z1, z2⟩
    · rw [z] at hx
      exact absurd hx (by decide)
    · rw [z1, nI_pred]
      exact z2
theorem lasts_one {nS nB h : Nat} {gate : Iu} {u : TS} : lastN nS nB h gate u 480 0 = 1 ↔ 0 < hUnfed nS nB (h % 24) gate u := by
  have e : lastN nS nB h gate u 480 0 = if 0 < hUnfed nS nB ((h + 0) % 24) gate (hrs nS nB h gate u 0) then nI (0 + 1) else lastN nS nB h gate u 479 (0 + 1) := rfl
  have e0 : hUnfed nS nB ((h + 0) % 24) gate (hrs nS nB h gate u 0) = hUnfed nS nB (h % 24) gate u := rfl
  rw [e0] at e
  rw [e]
  constructor
  · intro z
    refine Decidable.byContradiction fun hc => ?_
    rw [if_neg hc] at z
    rcases lastN_next nS nB h gate u 1 479 0 (by omega) with y | ⟨q, hq, y, -⟩
    · rw [y] at z; exact absurd z (by decide)
    · rw [y] at z
      have := (nI_eq (a := q + 2) (b := 1) (by omega) (by decide)).mp z
      omega
  · intro z
    rw [if_pos z]
    rfl
