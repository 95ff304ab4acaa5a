/-! ===== the reference: what it counts, share, digest, its start (laid by gen35.py) ===== -/
theorem sm_bar {bk : Nat → Iu} : ∀ {n : Nat}, (∀ j, j < n → bk j 7 = 0 ∨ bk j 7 = 1) → sm (fun i => bk i 7) n = sm (fun i => if bk i 7 = 0 then 0 else 1) n
  | 0, _ => rfl
  | n + 1, h => by
    show sm (fun i => bk i 7) n + bk n 7 = sm (fun i => if bk i 7 = 0 then 0 else 1) n + (if bk n 7 = 0 then 0 else 1)
    rw [sm_bar (fun j hj => h j (by omega))]
    rcases h n (by omega) with h1 | h1 <;> rw [h1] <;> rfl
theorem hour1_4 (nS nB k : Nat) (gate : Iu) (u : TS) : (hour1 nS nB k gate u).2.2 4 = u.2.2 4 + hUnfed nS nB k gate u := by
  refine (upd_ne (f := (hSale nS nB k gate u).2.2) (k := 0) (j := 4) (x := (hSale nS nB k gate u).2.2 0 + 1) (by decide)).trans ?_
  unfold hSale hUnfed
  split
  · unfold hNoon
    dsimp only
    rw [upd_at, slN_nu _ (by decide) (by decide)]
    show (hMorn nS nB k gate u).2.2 4 + _ = _
    rw [hMorn_nu _ _ _ _ _ (by decide)]
  · rw [hMorn_nu _ _ _ _ _ (by decide), Int32.add_zero]
theorem hrs_4 (nS nB h : Nat) (gate : Iu) (u : TS) : ∀ n, (hrs nS nB h gate u n).2.2 4 = u.2.2 4 + unf nS nB h gate u n
  | 0 => by show u.2.2 4 = u.2.2 4 + 0; rw [Int32.add_zero]
  | n + 1 => by
    show (hour1 nS nB ((h + n) % 24) gate (hrs nS nB h gate u n)).2.2 4 = u.2.2 4 + (unf nS nB h gate u n + hUnfed nS nB ((h + n) % 24) gate (hrs nS nB h gate u n))
    rw [hour1_4, hrs_4 nS nB h gate u n, Int32.add_assoc]
theorem add_sub_l (a b : Int32) : a + b - a = b := by rw [Int32.add_comm, Int32.add_sub_cancel]
theorem fN_nu0 : fN nu0 = fun _ => 0 := by
  funext q
  unfold fN nu0
  split
  · rw [upd_ne (by decide)]
  · rw [upd_ne (by omega)]
set_option maxHeartbeats 4000000 in
set_option maxRecDepth 100000 in
/-- counted -/
theorem c_X4_counted (l : Launch) (D : va_G) (cy : Nat → ClassId) (b : Nat) (am : Nat → Nat) (thr : Int32) (nS nB : Nat) (st bk : Nat → Iu) (gate nu : Iu) (hq k : Nat) (eh : nu 0 = nI hq) (hh : hq < 2 ^ 31) (hk : k < 10) (hcS : nS ≤ 4) (hcB : nB ≤ 6) (hb7 : ∀ j, j < nB → bk j 7 = 0 ∨ bk j 7 = 1) : xM l D cy yX4_counted wsX4_counted ({ frames := 2, cells := 1, slots := 10, locals := 60 } : Room) [.ref b, .int (nI k)] (mw cy b am thr nS nB st bk gate nu) (fun _ : Unit => some (.int (tFact nS nB st bk nu hq k))) (fun _ => True) (fun _ => mw cy b am thr nS nB st bk gate nu) := by
  refine xM.of cX4_counted 3 (some .int) RX4 (by decide +kernel) rfl rfl (Nat.le_of_ble_eq_true rfl) ?_
  intro p e s m below meth c A ls hx hb hr hts hown hlocks hml hin hK hA hP hD hS hl
  have hl : lv_has ls 3 [(0, .ref b), (1, .int (nI k))] := hl
  have hinX4 : ∀ w ∈ wsX40, w ∈ wsX4_counted := fun _ h => List.mem_cons_of_mem _ (List.mem_append_right _ h)
  refine lv_bipush (v := 10) hx hb dX4_counted_0 (by decide) ?_
  refine va_newa (atype := .int) (N' := 10) (a0 := (10, .inl (fun _ => 0))) hx hb (hts (.arrayClass .int) (List.mem_of_getElem? (i := 1) rfl)) rfl hK.1 hP hD hS hA (fun _ => rfl) (by decide) (by decide) (by decide) (Nat.le_of_ble_eq_true rfl) (Nat.le_of_ble_eq_true rfl) dX4_counted_2 (fun q2 cA H hK1 hP hD hS => ?_)
  obtain rfl : cA = cy 0 := x_cA hK.1 hK1 (i := 0) rfl rfl
  have hP : va_P D vwCl ((mw cy b am thr nS nB st bk gate nu) ++ [(q2, .inl (cy 0, 10, .inl ((fun _ => 0))))]) H := hP
  have hD : va_D A ((mw cy b am thr nS nB st bk gate nu) ++ [(q2, .inl (cy 0, 10, .inl ((fun _ => 0))))]) := hD
  refine lv_dup hx hb dX4_counted_4 rfl ?_
  refine lv_iconst (v := 0) hx hb dX4_counted_5 (by decide) ?_
  refine lv_aload_n hx hb dX4_counted_6 rfl (lv_at hl 0 rfl) ?_
  refine va_get (D := D) (ci := 4) (v := .ref (am 3)) (C := RX4) (T := TX4) (N := 8) hx hb hts hinX4 hown hK.1 hP 0 rfl rfl 7 (by decide) (hts (.fieldLink RX4 23 "LoafMarksModel" "numbers" "[I") (List.mem_of_getElem? (i := 2) rfl)) (fun _ h9 => h9) rfl dX4_counted_7 ?_
  refine lv_iconst (v := 0) hx hb dX4_counted_10 (by decide) ?_
  refine xiald hx hb hK hP 4 rfl 0 (by decide) (by decide) (by decide) dX4_counted_11 ?_
  refine W.eq (g2 := F0 m 12 ls [.int (nu 0), .int 0, .ref q2, .ref q2]) rfl ?_
  refine xiast hx hb hK hP hD hS 5 rfl 0 (by decide) (by decide) (by decide) dX4_counted_12 (fun H locs hP hD hS => ?_)
  have hP : va_P D vwCl ((mw cy b am thr nS nB st bk gate nu) ++ [(q2, .inl (cy 0, 10, .inl (upd (fun _ => 0) 0 (nu 0))))]) H := hP
  have hD : va_D A ((mw cy b am thr nS nB st bk gate nu) ++ [(q2, .inl (cy 0, 10, .inl (upd (fun _ => 0) 0 (nu 0))))]) := hD
  refine lv_dup hx hb dX4_counted_13 rfl ?_
  refine lv_iconst (v := 1) hx hb dX4_counted_14 (by decide) ?_
  refine lv_aload_n hx hb dX4_counted_15 rfl (lv_at hl 0 rfl) ?_
  refine va_get (D := D) (ci := 4) (v := .ref (am 3)) (C := RX4) (T := TX4) (N := 8) hx hb hts hinX4 hown hK.1 hP 0 rfl rfl 7 (by decide) (hts (.fieldLink RX4 23 "LoafMarksModel" "numbers" "[I") (List.mem_of_getElem? (i := 2) rfl)) (fun _ h9 => h9) rfl dX4_counted_16 ?_
  refine lv_iconst (v := 0) hx hb dX4_counted_19 (by decide) ?_
  refine xiald hx hb hK hP 4 rfl 0 (by decide) (by decide) (by decide) dX4_counted_20 ?_
  refine W.eq (g2 := F0 m 21 ls [.int (nu 0), .int 1, .ref q2, .ref q2]) rfl ?_
  refine lv_bipush (v := 24) hx hb dX4_counted_21 (by decide) ?_
  refine lv_irem hx hb dX4_counted_23 (by decide) ?_
  have er : nI hq - nI hq / 24 * 24 = nI (hq % 24) := pk_rem (d := 24) hh (by decide) (by decide)
  refine W.eq (g2 := F0 m 24 ls [.int (nI (hq % 24)), .int 1, .ref q2, .ref q2]) (by first | (rw [eh, er]; done) | (rw [eh, er]; rfl)) ?_
  refine xiast hx hb hK hP hD hS 5 rfl 1 (by decide) (by decide) (by decide) dX4_counted_24 (fun H locs hP hD hS => ?_)
  have hP : va_P D vwCl ((mw cy b am thr nS nB st bk gate nu) ++ [(q2, .inl (cy 0, 10, .inl (upd (upd (fun _ => 0) 0 (nu 0)) 1 (nI (hq % 24)))))]) H := hP
  have hD : va_D A ((mw cy b am thr nS nB st bk gate nu) ++ [(q2, .inl (cy 0, 10, .inl (upd (upd (fun _ => 0) 0 (nu 0)) 1 (nI (hq % 24)))))]) := hD
  refine lv_dup hx hb dX4_counted_25 rfl ?_
  refine lv_iconst (v := 2) hx hb dX4_counted_26 (by decide) ?_
  refine lv_aload_n hx hb dX4_counted_27 rfl (lv_at hl 0 rfl) ?_
  refine va_get (D := D) (ci := 4) (v := .int (nu 1)) (C := RX4) (T := TX4) (N := 8) hx hb hts hinX4 hown hK.1 hP 0 rfl rfl 3 (by decide) (hts (.fieldLink RX4 7 "LoafMarksModel" "people" "I") (List.mem_of_getElem? (i := 3) rfl)) (fun _ h9 => h9) rfl dX4_counted_28 ?_
  refine xiast hx hb hK hP hD hS 5 rfl 2 (by decide) (by decide) (by decide) dX4_counted_31 (fun H locs hP hD hS => ?_)
  have hP : va_P D vwCl ((mw cy b am thr nS nB st bk gate nu) ++ [(q2, .inl (cy 0, 10, .inl (upd (upd (upd (fun _ => 0) 0 (nu 0)) 1 (nI (hq % 24))) 2 (nu 1))))]) H := hP
  have hD : va_D A ((mw cy b am thr nS nB st bk gate nu) ++ [(q2, .inl (cy 0, 10, .inl (upd (upd (upd (fun _ => 0) 0 (nu 0)) 1 (nI (hq % 24))) 2 (nu 1))))]) := hD
  refine lv_dup hx hb dX4_counted_32 rfl ?_
  refine lv_iconst (v := 3) hx hb dX4_counted_33 (by decide) ?_
  refine lv_aload_n hx hb dX4_counted_34 rfl (lv_at hl 0 rfl) ?_
  refine lv_iconst (v := 0) hx hb dX4_counted_35 (by decide) ?_
  refine xcV (As := [.int 0]) (rest := [.int 3, .ref q2, .ref q2]) ⟨hx, hb, hml, hown, hts⟩ (c_X4_allStores l D cy b am thr nS nB st bk gate nu 0 (by decide) hcS) (cwV 1 hts gX4_counted_X4_allStores rfl rfl rfl (by decide +kernel) ⟨Nat.le_of_ble_eq_true rfl, Nat.le_of_ble_eq_true rfl⟩) hK hP hD hS hA rfl rfl rfl (xE_l) rfl hl.1 rfl (Nat.le_of_ble_eq_true rfl) dX4_counted_36 ⟨Nat.le_of_ble_eq_true rfl, Nat.le_of_ble_eq_true rfl⟩ (fun _ H locs _ hP hD hS => ?_)
  have hP : va_P D vwCl ((mw cy b am thr nS nB st bk gate nu) ++ [(q2, .inl (cy 0, 10, .inl (upd (upd (upd (fun _ => 0) 0 (nu 0)) 1 (nI (hq % 24))) 2 (nu 1))))]) H := hP
  have hD : va_D A ((mw cy b am thr nS nB st bk gate nu) ++ [(q2, .inl (cy 0, 10, .inl (upd (upd (upd (fun _ => 0) 0 (nu 0)) 1 (nI (hq % 24))) 2 (nu 1))))]) := hD
  refine W.eq (g2 := F0 m 39 ls [.int (sm (fun i => st i 0) nS), .int 3, .ref q2, .ref q2]) rfl ?_
  refine xiast hx hb hK hP hD hS 5 rfl 3 (by decide) (by decide) (by decide) dX4_counted_39 (fun H locs hP hD hS => ?_)
  have hP : va_P D vwCl ((mw cy b am thr nS nB st bk gate nu) ++ [(q2, .inl (cy 0, 10, .inl (upd (upd (upd (upd (fun _ => 0) 0 (nu 0)) 1 (nI (hq % 24))) 2 (nu 1)) 3 (sm (fun i => st i 0) nS))))]) H := hP
  have hD : va_D A ((mw cy b am thr nS nB st bk gate nu) ++ [(q2, .inl (cy 0, 10, .inl (upd (upd (upd (upd (fun _ => 0) 0 (nu 0)) 1 (nI (hq % 24))) 2 (nu 1)) 3 (sm (fun i => st i 0) nS))))]) := hD
  refine lv_dup hx hb dX4_counted_40 rfl ?_
  refine lv_iconst (v := 4) hx hb dX4_counted_41 (by decide) ?_
  refine lv_aload_n hx hb dX4_counted_42 rfl (lv_at hl 0 rfl) ?_
  refine lv_iconst (v := 5) hx hb dX4_counted_43 (by decide) ?_
  refine xcV (As := [.int 5]) (rest := [.int 4, .ref q2, .ref q2]) ⟨hx, hb, hml, hown, hts⟩ (c_X4_allBakers l D cy b am thr nS nB st bk gate nu 5 (by decide) hcB) (cwV 1 hts gX4_counted_X4_allBakers rfl rfl rfl (by decide +kernel) ⟨Nat.le_of_ble_eq_true rfl, Nat.le_of_ble_eq_true rfl⟩) hK hP hD hS hA rfl rfl rfl (xE_l) rfl hl.1 rfl (Nat.le_of_ble_eq_true rfl) dX4_counted_44 ⟨Nat.le_of_ble_eq_true rfl, Nat.le_of_ble_eq_true rfl⟩ (fun _ H locs _ hP hD hS => ?_)
  have hP : va_P D vwCl ((mw cy b am thr nS nB st bk gate nu) ++ [(q2, .inl (cy 0, 10, .inl (upd (upd (upd (upd (fun _ => 0) 0 (nu 0)) 1 (nI (hq % 24))) 2 (nu 1)) 3 (sm (fun i => st i 0) nS))))]) H := hP
  have hD : va_D A ((mw cy b am thr nS nB st bk gate nu) ++ [(q2, .inl (cy 0, 10, .inl (upd (upd (upd (upd (fun _ => 0) 0 (nu 0)) 1 (nI (hq % 24))) 2 (nu 1)) 3 (sm (fun i => st i 0) nS))))]) := hD
  refine W.eq (g2 := F0 m 47 ls [.int (sm (fun i => bk i 5) nB), .int 4, .ref q2, .ref q2]) rfl ?_
  refine xiast hx hb hK hP hD hS 5 rfl 4 (by decide) (by decide) (by decide) dX4_counted_47 (fun H locs hP hD hS => ?_)
  have hP : va_P D vwCl ((mw cy b am thr nS nB st bk gate nu) ++ [(q2, .inl (cy 0, 10, .inl (upd (upd (upd (upd (upd (fun _ => 0) 0 (nu 0)) 1 (nI (hq % 24))) 2 (nu 1)) 3 (sm (fun i => st i 0) nS)) 4 (sm (fun i => bk i 5) nB))))]) H := hP
  have hD : va_D A ((mw cy b am thr nS nB st bk gate nu) ++ [(q2, .inl (cy 0, 10, .inl (upd (upd (upd (upd (upd (fun _ => 0) 0 (nu 0)) 1 (nI (hq % 24))) 2 (nu 1)) 3 (sm (fun i => st i 0) nS)) 4 (sm (fun i => bk i 5) nB))))]) := hD
  refine lv_dup hx hb dX4_counted_48 rfl ?_
  refine lv_iconst (v := 5) hx hb dX4_counted_49 (by decide) ?_
  refine lv_aload_n hx hb dX4_counted_50 rfl (lv_at hl 0 rfl) ?_
  refine va_get (D := D) (ci := 4) (v := .ref (am 3)) (C := RX4) (T := TX4) (N := 8) hx hb hts hinX4 hown hK.1 hP 0 rfl rfl 7 (by decide) (hts (.fieldLink RX4 23 "LoafMarksModel" "numbers" "[I") (List.mem_of_getElem? (i := 2) rfl)) (fun _ h9 => h9) rfl dX4_counted_51 ?_
  refine lv_iconst (v := 1) hx hb dX4_counted_54 (by decide) ?_
  refine xiald hx hb hK hP 4 rfl 1 (by decide) (by decide) (by decide) dX4_counted_55 ?_
  refine W.eq (g2 := F0 m 56 ls [.int (nu 2), .int 5, .ref q2, .ref q2]) rfl ?_
  refine xiast hx hb hK hP hD hS 5 rfl 5 (by decide) (by decide) (by decide) dX4_counted_56 (fun H locs hP hD hS => ?_)
  have hP : va_P D vwCl ((mw cy b am thr nS nB st bk gate nu) ++ [(q2, .inl (cy 0, 10, .inl (upd (upd (upd (upd (upd (upd (fun _ => 0) 0 (nu 0)) 1 (nI (hq % 24))) 2 (nu 1)) 3 (sm (fun i => st i 0) nS)) 4 (sm (fun i => bk i 5) nB)) 5 (nu 2))))]) H := hP
  have hD : va_D A ((mw cy b am thr nS nB st bk gate nu) ++ [(q2, .inl (cy 0, 10, .inl (upd (upd (upd (upd (upd (upd (fun _ => 0) 0 (nu 0)) 1 (nI (hq % 24))) 2 (nu 1)) 3 (sm (fun i => st i 0) nS)) 4 (sm (fun i => bk i 5) nB)) 5 (nu 2))))]) := hD
  refine lv_dup hx hb dX4_counted_57 rfl ?_
  refine lv_bipush (v := 6) hx hb dX4_counted_58 (by decide) ?_
  refine lv_aload_n hx hb dX4_counted_60 rfl (lv_at hl 0 rfl) ?_
  refine va_get (D := D) (ci := 4) (v := .ref (am 3)) (C := RX4) (T := TX4) (N := 8) hx hb hts hinX4 hown hK.1 hP 0 rfl rfl 7 (by decide) (hts (.fieldLink RX4 23 "LoafMarksModel" "numbers" "[I") (List.mem_of_getElem? (i := 2) rfl)) (fun _ h9 => h9) rfl dX4_counted_61 ?_
  refine lv_iconst (v := 2) hx hb dX4_counted_64 (by decide) ?_
  refine xiald hx hb hK hP 4 rfl 2 (by decide) (by decide) (by decide) dX4_counted_65 ?_
  refine W.eq (g2 := F0 m 66 ls [.int (nu 3), .int 6, .ref q2, .ref q2]) rfl ?_
  refine xiast hx hb hK hP hD hS 5 rfl 6 (by decide) (by decide) (by decide) dX4_counted_66 (fun H locs hP hD hS => ?_)
  have hP : va_P D vwCl ((mw cy b am thr nS nB st bk gate nu) ++ [(q2, .inl (cy 0, 10, .inl (upd (upd (upd (upd (upd (upd (upd (fun _ => 0) 0 (nu 0)) 1 (nI (hq % 24))) 2 (nu 1)) 3 (sm (fun i => st i 0) nS)) 4 (sm (fun i => bk i 5) nB)) 5 (nu 2)) 6 (nu 3))))]) H := hP
  have hD : va_D A ((mw cy b am thr nS nB st bk gate nu) ++ [(q2, .inl (cy 0, 10, .inl (upd (upd (upd (upd (upd (upd (upd (fun _ => 0) 0 (nu 0)) 1 (nI (hq % 24))) 2 (nu 1)) 3 (sm (fun i => st i 0) nS)) 4 (sm (fun i => bk i 5) nB)) 5 (nu 2)) 6 (nu 3))))]) := hD
  refine lv_dup hx hb dX4_counted_67 rfl ?_
  refine lv_bipush (v := 7) hx hb dX4_counted_68 (by decide) ?_
  refine lv_aload_n hx hb dX4_counted_70 rfl (lv_at hl 0 rfl) ?_
  refine va_get (D := D) (ci := 4) (v := .ref (am 3)) (C := RX4) (T := TX4) (N := 8) hx hb hts hinX4 hown hK.1 hP 0 rfl rfl 7 (by decide) (hts (.fieldLink RX4 23 "LoafMarksModel" "numbers" "[I") (List.mem_of_getElem? (i := 2) rfl)) (fun _ h9 => h9) rfl dX4_counted_71 ?_
  refine lv_iconst (v := 3) hx hb dX4_counted_74 (by decide) ?_
  refine xiald hx hb hK hP 4 rfl 3 (by decide) (by decide) (by decide) dX4_counted_75 ?_
  refine W.eq (g2 := F0 m 76 ls [.int (nu 4), .int 7, .ref q2, .ref q2]) rfl ?_
  refine xiast hx hb hK hP hD hS 5 rfl 7 (by decide) (by decide) (by decide) dX4_counted_76 (fun H locs hP hD hS => ?_)
  have hP : va_P D vwCl ((mw cy b am thr nS nB st bk gate nu) ++ [(q2, .inl (cy 0, 10, .inl (upd (upd (upd (upd (upd (upd (upd (upd (fun _ => 0) 0 (nu 0)) 1 (nI (hq % 24))) 2 (nu 1)) 3 (sm (fun i => st i 0) nS)) 4 (sm (fun i => bk i 5) nB)) 5 (nu 2)) 6 (nu 3)) 7 (nu 4))))]) H := hP
  have hD : va_D A ((mw cy b am thr nS nB st bk gate nu) ++ [(q2, .inl (cy 0, 10, .inl (upd (upd (upd (upd (upd (upd (upd (upd (fun _ => 0) 0 (nu 0)) 1 (nI (hq % 24))) 2 (nu 1)) 3 (sm (fun i => st i 0) nS)) 4 (sm (fun i => bk i 5) nB)) 5 (nu 2)) 6 (nu 3)) 7 (nu 4))))]) := hD
  refine lv_dup hx hb dX4_counted_77 rfl ?_
  refine lv_bipush (v := 8) hx hb dX4_counted_78 (by decide) ?_
  refine lv_aload_n hx hb dX4_counted_80 rfl (lv_at hl 0 rfl) ?_
  refine lv_bipush (v := 7) hx hb dX4_counted_81 (by decide) ?_
  refine xcV (As := [.int 7]) (rest := [.int 8, .ref q2, .ref q2]) ⟨hx, hb, hml, hown, hts⟩ (c_X4_allBakers l D cy b am thr nS nB st bk gate nu 7 (by decide) hcB) (cwV 1 hts gX4_counted_X4_allBakers rfl rfl rfl (by decide +kernel) ⟨Nat.le_of_ble_eq_true rfl, Nat.le_of_ble_eq_true rfl⟩) hK hP hD hS hA rfl rfl rfl (xE_l) rfl hl.1 rfl (Nat.le_of_ble_eq_true rfl) dX4_counted_83 ⟨Nat.le_of_ble_eq_true rfl, Nat.le_of_ble_eq_true rfl⟩ (fun _ H locs _ hP hD hS => ?_)
  have hP : va_P D vwCl ((mw cy b am thr nS nB st bk gate nu) ++ [(q2, .inl (cy 0, 10, .inl (upd (upd (upd (upd (upd (upd (upd (upd (fun _ => 0) 0 (nu 0)) 1 (nI (hq % 24))) 2 (nu 1)) 3 (sm (fun i => st i 0) nS)) 4 (sm (fun i => bk i 5) nB)) 5 (nu 2)) 6 (nu 3)) 7 (nu 4))))]) H := hP
  have hD : va_D A ((mw cy b am thr nS nB st bk gate nu) ++ [(q2, .inl (cy 0, 10, .inl (upd (upd (upd (upd (upd (upd (upd (upd (fun _ => 0) 0 (nu 0)) 1 (nI (hq % 24))) 2 (nu 1)) 3 (sm (fun i => st i 0) nS)) 4 (sm (fun i => bk i 5) nB)) 5 (nu 2)) 6 (nu 3)) 7 (nu 4))))]) := hD
  refine W.eq (g2 := F0 m 86 ls [.int (sm (fun i => bk i 7) nB), .int 8, .ref q2, .ref q2]) rfl ?_
  refine xiast hx hb hK hP hD hS 5 rfl 8 (by decide) (by decide) (by decide) dX4_counted_86 (fun H locs hP hD hS => ?_)
  have hP : va_P D vwCl ((mw cy b am thr nS nB st bk gate nu) ++ [(q2, .inl (cy 0, 10, .inl (upd (upd (upd (upd (upd (upd (upd (upd (upd (fun _ => 0) 0 (nu 0)) 1 (nI (hq % 24))) 2 (nu 1)) 3 (sm (fun i => st i 0) nS)) 4 (sm (fun i => bk i 5) nB)) 5 (nu 2)) 6 (nu 3)) 7 (nu 4)) 8 (sm (fun i => bk i 7) nB))))]) H := hP
  have hD : va_D A ((mw cy b am thr nS nB st bk gate nu) ++ [(q2, .inl (cy 0, 10, .inl (upd (upd (upd (upd (upd (upd (upd (upd (upd (fun _ => 0) 0 (nu 0)) 1 (nI (hq % 24))) 2 (nu 1)) 3 (sm (fun i => st i 0) nS)) 4 (sm (fun i => bk i 5) nB)) 5 (nu 2)) 6 (nu 3)) 7 (nu 4)) 8 (sm (fun i => bk i 7) nB))))]) := hD
  refine lv_dup hx hb dX4_counted_87 rfl ?_
  refine lv_bipush (v := 9) hx hb dX4_counted_88 (by decide) ?_
  refine lv_aload_n hx hb dX4_counted_90 rfl (lv_at hl 0 rfl) ?_
  refine va_get (D := D) (ci := 4) (v := .ref (am 3)) (C := RX4) (T := TX4) (N := 8) hx hb hts hinX4 hown hK.1 hP 0 rfl rfl 7 (by decide) (hts (.fieldLink RX4 23 "LoafMarksModel" "numbers" "[I") (List.mem_of_getElem? (i := 2) rfl)) (fun _ h9 => h9) rfl dX4_counted_91 ?_
  refine lv_iconst (v := 4) hx hb dX4_counted_94 (by decide) ?_
  refine xiald hx hb hK hP 4 rfl 4 (by decide) (by decide) (by decide) dX4_counted_95 ?_
  refine W.eq (g2 := F0 m 96 ls [.int (nu 5), .int 9, .ref q2, .ref q2]) rfl ?_
  refine xiast hx hb hK hP hD hS 5 rfl 9 (by decide) (by decide) (by decide) dX4_counted_96 (fun H locs hP hD hS => ?_)
  have hP : va_P D vwCl ((mw cy b am thr nS nB st bk gate nu) ++ [(q2, .inl (cy 0, 10, .inl (upd (upd (upd (upd (upd (upd (upd (upd (upd (upd (fun _ => 0) 0 (nu 0)) 1 (nI (hq % 24))) 2 (nu 1)) 3 (sm (fun i => st i 0) nS)) 4 (sm (fun i => bk i 5) nB)) 5 (nu 2)) 6 (nu 3)) 7 (nu 4)) 8 (sm (fun i => bk i 7) nB)) 9 (nu 5))))]) H := hP
  have hD : va_D A ((mw cy b am thr nS nB st bk gate nu) ++ [(q2, .inl (cy 0, 10, .inl (upd (upd (upd (upd (upd (upd (upd (upd (upd (upd (fun _ => 0) 0 (nu 0)) 1 (nI (hq % 24))) 2 (nu 1)) 3 (sm (fun i => st i 0) nS)) 4 (sm (fun i => bk i 5) nB)) 5 (nu 2)) 6 (nu 3)) 7 (nu 4)) 8 (sm (fun i => bk i 7) nB)) 9 (nu 5))))]) := hD
  refine lv_astore_n (lv' := [(2, .ref q2), (0, .ref b), (1, .int (nI k))]) hx hb dX4_counted_97 rfl hl (by decide) rfl (fun ls hl => ?_)
  refine lv_aload_n hx hb dX4_counted_98 rfl (lv_at hl 0 rfl) ?_
  refine lv_iload_n hx hb dX4_counted_99 rfl (lv_at hl 2 rfl) ?_
  refine xiald hx hb hK hP 5 rfl k rfl (by omega) (by decide) dX4_counted_100 ?_
  exact xri () hx hb hr hlocks hS (Nat.le_of_ble_eq_true rfl) (Nat.le_of_ble_eq_true rfl) dX4_counted_101 ((xP_app (w1 := mw cy b am thr nS nB st bk gate nu)).mp hP).1 (mD_app (w1 := mw cy b am thr nS nB st bk gate nu) hD) (by rcases (show k = 0 ∨ k = 1 ∨ k = 2 ∨ k = 3 ∨ k = 4 ∨ k = 5 ∨ k = 6 ∨ k = 7 ∨ k = 8 ∨ k = 9 by omega) with rfl | rfl | rfl | rfl | rfl | rfl | rfl | rfl | rfl | rfl <;> first | rfl | exact congrArg (fun z => some (Value.int z)) (sm_bar hb7).symm) trivial

set_option maxHeartbeats 4000000 in
set_option maxRecDepth 100000 in
/-- count -/
theorem c_X4_count (l : Launch) (D : va_G) (cy : Nat → ClassId) (b : Nat) (am : Nat → Nat) (thr : Int32) (nS nB : Nat) (st bk : Nat → Iu) (gate nu : Iu) (hq k : Nat) (eh : nu 0 = nI hq) (hh : hq < 2 ^ 31) (hk : k < 10) (hcS : nS ≤ 4) (hcB : nB ≤ 6) (hb7 : ∀ j, j < nB → bk j 7 = 0 ∨ bk j 7 = 1) : xM l D cy yX4_count wsX4_count ({ frames := 3, cells := 1, slots := 10, locals := 90 } : Room) [.ref b, .int (nI k)] (mw cy b am thr nS nB st bk gate nu) (fun _ : Unit => some (.int (tFact nS nB st bk nu hq k))) (fun _ => True) (fun _ => mw cy b am 0 nS nB st bk gate nu) := by
  refine xM.of cX4_count 2 (some .int) RX4 (by decide +kernel) rfl rfl (Nat.le_of_ble_eq_true rfl) ?_
  intro p e s m below meth c A ls hx hb hr hts hown hlocks hml hin hK hA hP hD hS hl
  have hl : lv_has ls 2 [(0, .ref b), (1, .int (nI k))] := hl
  have hinX4 : ∀ w ∈ wsX40, w ∈ wsX4_count := fun _ h => List.mem_cons_of_mem _ (List.mem_append_right _ h)
  refine lv_aload_n hx hb dX4_count_0 rfl (lv_at hl 0 rfl) ?_
  refine lv_iconst (v := 0) hx hb dX4_count_1 (by decide) ?_
  refine va_put (D := D) (ci := 4) (v := .int 0) (ty := .int) (C := RX4) (T := TX4) (N := 8) hx hb hts hinX4 tyX4 tyX4_ok nmX4 hown hK.1 hP hD hS 0 rfl rfl 0 (by decide) (hts (.fieldLink RX4 26 "LoafMarksModel" "thrown" "I") (List.mem_of_getElem? (i := 1) rfl)) (fun _ h9 => h9) rfl (by decide +kernel) rfl rfl (Nat.le_of_ble_eq_true rfl) dX4_count_2 (fun H locs hP hD hS => ?_)
  have hP : va_P D vwCl (mw cy b am 0 nS nB st bk gate nu) H := hP
  have hD : va_D A (mw cy b am 0 nS nB st bk gate nu) := hD
  refine lv_iload_n hx hb dX4_count_5 rfl (lv_at hl 1 rfl) ?_
  refine lv_iconst (v := 0) hx hb dX4_count_6 (by decide) ?_
  refine lv_bipush (v := 9) hx hb dX4_count_7 (by decide) ?_
  refine xcS (As := [.int (nI k), .int 0, .int 9]) (rest := []) ⟨hx, hb, hml, hown, hts⟩ (c_X4_isIn l D cy (nI k) 0 9) (va_cwS 3 hts gX4_count_X4_isIn rfl rfl rfl (by decide +kernel) ⟨Nat.le_of_ble_eq_true rfl, Nat.le_of_ble_eq_true rfl⟩) hK hP hD hS hA (xE_nil) rfl hl.1 rfl (Nat.le_of_ble_eq_true rfl) dX4_count_9 ⟨Nat.le_of_ble_eq_true rfl, Nat.le_of_ble_eq_true rfl⟩ (fun _ H locs _ hP hD hS => ?_)
  have hP : va_P D vwCl (mw cy b am 0 nS nB st bk gate nu) H := hP
  have hD : va_D A (mw cy b am 0 nS nB st bk gate nu) := hD
  refine W.eq (g2 := F0 m 12 ls [.int (wi (nI k) 0 9)]) rfl ?_
  refine lv_if_eq (tgt := 23) hx hb dX4_count_12 (by decide) (fun z => absurd z (wi_ok ⟨nI_pos' (n := k) (by omega), nI_le (a := k) (b := 9) (by omega) (by decide)⟩)) (fun _ => ?_)
  refine lv_aload_n hx hb dX4_count_15 rfl (lv_at hl 0 rfl) ?_
  refine lv_iload_n hx hb dX4_count_16 rfl (lv_at hl 1 rfl) ?_
  refine xcV (As := [.int (nI k)]) (rest := []) ⟨hx, hb, hml, hown, hts⟩ (c_X4_counted l D cy b am 0 nS nB st bk gate nu hq k eh hh (by omega) hcS hcB hb7) (cwV 1 hts gX4_count_X4_counted rfl rfl rfl (by decide +kernel) ⟨Nat.le_of_ble_eq_true rfl, Nat.le_of_ble_eq_true rfl⟩) hK hP hD hS hA rfl rfl rfl (xE_all) rfl hl.1 rfl (Nat.le_of_ble_eq_true rfl) dX4_count_17 ⟨Nat.le_of_ble_eq_true rfl, Nat.le_of_ble_eq_true rfl⟩ (fun _ H locs _ hP hD hS => ?_)
  have hP : va_P D vwCl (mw cy b am 0 nS nB st bk gate nu) H := hP
  have hD : va_D A (mw cy b am 0 nS nB st bk gate nu) := hD
  refine W.eq (g2 := F0 m 20 ls [.int (tFact nS nB st bk nu hq k)]) rfl ?_
  refine lv_goto (tgt := 28) hx hb dX4_count_20 (by decide) ?_
  exact xri () hx hb hr hlocks hS (Nat.le_of_ble_eq_true rfl) (Nat.le_of_ble_eq_true rfl) dX4_count_28 hP hD rfl trivial

set_option maxHeartbeats 4000000 in
set_option maxRecDepth 100000 in
/-- count, refused -/
theorem c_X4_count_1 (l : Launch) (D : va_G) (cy : Nat → ClassId) (b : Nat) (am : Nat → Nat) (thr : Int32) (nS nB : Nat) (st bk : Nat → Iu) (gate nu : Iu) (p0 : Int32) (h1 : ¬ ((0 : Int32) ≤ p0 ∧ p0 ≤ 9)) : xM l D cy yX4_count wsX4_count ({ frames := 3, cells := 1, slots := 10, locals := 90 } : Room) [.ref b, .int p0] (mw cy b am thr nS nB st bk gate nu) (fun _ : Unit => some (.int 0)) (fun _ => True) (fun _ => mw cy b am 1 nS nB st bk gate nu) := by
  refine xM.of cX4_count 2 (some .int) RX4 (by decide +kernel) rfl rfl (Nat.le_of_ble_eq_true rfl) ?_
  intro p e s m below meth c A ls hx hb hr hts hown hlocks hml hin hK hA hP hD hS hl
  have hl : lv_has ls 2 [(0, .ref b), (1, .int p0)] := hl
  have hinX4 : ∀ w ∈ wsX40, w ∈ wsX4_count := fun _ h => List.mem_cons_of_mem _ (List.mem_append_right _ h)
  refine lv_aload_n hx hb dX4_count_0 rfl (lv_at hl 0 rfl) ?_
  refine lv_iconst (v := 0) hx hb dX4_count_1 (by decide) ?_
  refine va_put (D := D) (ci := 4) (v := .int 0) (ty := .int) (C := RX4) (T := TX4) (N := 8) hx hb hts hinX4 tyX4 tyX4_ok nmX4 hown hK.1 hP hD hS 0 rfl rfl 0 (by decide) (hts (.fieldLink RX4 26 "LoafMarksModel" "thrown" "I") (List.mem_of_getElem? (i := 1) rfl)) (fun _ h9 => h9) rfl (by decide +kernel) rfl rfl (Nat.le_of_ble_eq_true rfl) dX4_count_2 (fun H locs hP hD hS => ?_)
  have hP : va_P D vwCl (mw cy b am 0 nS nB st bk gate nu) H := hP
  have hD : va_D A (mw cy b am 0 nS nB st bk gate nu) := hD
  refine lv_iload_n hx hb dX4_count_5 rfl (lv_at hl 1 rfl) ?_
  refine lv_iconst (v := 0) hx hb dX4_count_6 (by decide) ?_
  refine lv_bipush (v := 9) hx hb dX4_count_7 (by decide) ?_
  refine xcS (As := [.int p0, .int 0, .int 9]) (rest := []) ⟨hx, hb, hml, hown, hts⟩ (c_X4_isIn l D cy p0 0 9) (va_cwS 3 hts gX4_count_X4_isIn rfl rfl rfl (by decide +kernel) ⟨Nat.le_of_ble_eq_true rfl, Nat.le_of_ble_eq_true rfl⟩) hK hP hD hS hA (xE_nil) rfl hl.1 rfl (Nat.le_of_ble_eq_true rfl) dX4_count_9 ⟨Nat.le_of_ble_eq_true rfl, Nat.le_of_ble_eq_true rfl⟩ (fun _ H locs _ hP hD hS => ?_)
  have hP : va_P D vwCl (mw cy b am 0 nS nB st bk gate nu) H := hP
  have hD : va_D A (mw cy b am 0 nS nB st bk gate nu) := hD
  refine W.eq (g2 := F0 m 12 ls [.int (wi p0 0 9)]) rfl ?_
  refine lv_if_eq (tgt := 23) hx hb dX4_count_12 (by decide) (fun _ => ?_) (fun z => absurd (wi_no h1) z)
  refine lv_aload_n hx hb dX4_count_23 rfl (lv_at hl 0 rfl) ?_
  refine lv_iconst (v := 1) hx hb dX4_count_24 (by decide) ?_
  refine xcV (As := [.int 1]) (rest := []) ⟨hx, hb, hml, hown, hts⟩ (c_X4_fail l D cy b am 0 nS nB st bk gate nu 1) (cwV 1 hts gX4_count_X4_fail rfl rfl rfl (by decide +kernel) ⟨Nat.le_of_ble_eq_true rfl, Nat.le_of_ble_eq_true rfl⟩) hK hP hD hS hA rfl rfl rfl (xE_all) rfl hl.1 rfl (Nat.le_of_ble_eq_true rfl) dX4_count_25 ⟨Nat.le_of_ble_eq_true rfl, Nat.le_of_ble_eq_true rfl⟩ (fun _ H locs _ hP hD hS => ?_)
  have hP : va_P D vwCl (mw cy b am 1 nS nB st bk gate nu) H := hP
  have hD : va_D A (mw cy b am 1 nS nB st bk gate nu) := hD
  refine W.eq (g2 := F0 m 28 ls [.int 0]) rfl ?_
  exact xri () hx hb hr hlocks hS (Nat.le_of_ble_eq_true rfl) (Nat.le_of_ble_eq_true rfl) dX4_count_28 hP hD rfl trivial

set_option maxHeartbeats 4000000 in
set_option maxRecDepth 100000 in
/-- pass -/
theorem c_X4_pass (l : Launch) (D : va_G) (cy : Nat → ClassId) (b : Nat) (am : Nat → Nat) (thr : Int32) (nS nB : Nat) (st bk : Nat → Iu) (gate nu : Iu) (hq n : Nat) (eh : nu 0 = nI hq) (hn1 : 1 ≤ n) (hn2 : n ≤ 240) (hh : hq + n < 2 ^ 31) (hcS : nS ≤ 4) (hcB : nB ≤ 6) (ok : ∀ i, i < n → okH nS nB gate (hrs nS nB hq gate (st, bk, nu) i)) : xM l D cy yX4_pass wsX4_pass ({ frames := 4, cells := 0, slots := 0, locals := 120 } : Room) [.ref b, .int (nI n)] (mw cy b am thr nS nB st bk gate nu) (fun _ : Unit => some (.int (unf nS nB hq gate (st, bk, nu) n))) (fun _ => True) (fun _ => mw cy b am 0 nS nB ((hrs nS nB hq gate (st, bk, nu) n).1) ((hrs nS nB hq gate (st, bk, nu) n).2.1) gate ((hrs nS nB hq gate (st, bk, nu) n).2.2)) := by
  refine xM.of cX4_pass 3 (some .int) RX4 (by decide +kernel) rfl rfl (Nat.le_of_ble_eq_true rfl) ?_
  intro p e s m below meth c A ls hx hb hr hts hown hlocks hml hin hK hA hP hD hS hl
  have hl : lv_has ls 3 [(0, .ref b), (1, .int (nI n))] := hl
  have hinX4 : ∀ w ∈ wsX40, w ∈ wsX4_pass := fun _ h => List.mem_cons_of_mem _ (List.mem_append_right _ h)
  refine lv_aload_n hx hb dX4_pass_0 rfl (lv_at hl 0 rfl) ?_
  refine lv_iconst (v := 0) hx hb dX4_pass_1 (by decide) ?_
  refine va_put (D := D) (ci := 4) (v := .int 0) (ty := .int) (C := RX4) (T := TX4) (N := 8) hx hb hts hinX4 tyX4 tyX4_ok nmX4 hown hK.1 hP hD hS 0 rfl rfl 0 (by decide) (hts (.fieldLink RX4 26 "LoafMarksModel" "thrown" "I") (List.mem_of_getElem? (i := 1) rfl)) (fun _ h9 => h9) rfl (by decide +kernel) rfl rfl (Nat.le_of_ble_eq_true rfl) dX4_pass_2 (fun H locs hP hD hS => ?_)
  have hP : va_P D vwCl (mw cy b am 0 nS nB st bk gate nu) H := hP
  have hD : va_D A (mw cy b am 0 nS nB st bk gate nu) := hD
  refine lv_iload_n hx hb dX4_pass_5 rfl (lv_at hl 1 rfl) ?_
  refine lv_iconst (v := 1) hx hb dX4_pass_6 (by decide) ?_
  refine lv_sipush (v := 240) hx hb dX4_pass_7 (by decide) ?_
  refine xcS (As := [.int (nI n), .int 1, .int 240]) (rest := []) ⟨hx, hb, hml, hown, hts⟩ (c_X4_isIn l D cy (nI n) 1 240) (va_cwS 3 hts gX4_pass_X4_isIn rfl rfl rfl (by decide +kernel) ⟨Nat.le_of_ble_eq_true rfl, Nat.le_of_ble_eq_true rfl⟩) hK hP hD hS hA (xE_nil) rfl hl.1 rfl (Nat.le_of_ble_eq_true rfl) dX4_pass_10 ⟨Nat.le_of_ble_eq_true rfl, Nat.le_of_ble_eq_true rfl⟩ (fun _ H locs _ hP hD hS => ?_)
  have hP : va_P D vwCl (mw cy b am 0 nS nB st bk gate nu) H := hP
  have hD : va_D A (mw cy b am 0 nS nB st bk gate nu) := hD
  refine W.eq (g2 := F0 m 13 ls [.int (wi (nI n) 1 240)]) rfl ?_
  refine lv_if_ne (tgt := 22) hx hb dX4_pass_13 (by decide) (fun _ => ?_) (fun z => absurd z (wi_ok ⟨nI_le (a := 1) (b := n) (by omega) (by omega), nI_le (a := n) (b := 240) (by omega) (by decide)⟩))
  refine lv_aload_n hx hb dX4_pass_22 rfl (lv_at hl 0 rfl) ?_
  refine va_get (D := D) (ci := 4) (v := .ref (am 3)) (C := RX4) (T := TX4) (N := 8) hx hb hts hinX4 hown hK.1 hP 0 rfl rfl 7 (by decide) (hts (.fieldLink RX4 23 "LoafMarksModel" "numbers" "[I") (List.mem_of_getElem? (i := 2) rfl)) (fun _ h9 => h9) rfl dX4_pass_23 ?_
  refine lv_iconst (v := 3) hx hb dX4_pass_26 (by decide) ?_
  refine xiald hx hb hK hP 4 rfl 3 (by decide) (by decide) (by decide) dX4_pass_27 ?_
  refine W.eq (g2 := F0 m 28 ls [.int (nu 4)]) rfl ?_
  refine lv_istore_n (lv' := [(2, .int (nu 4)), (0, .ref b), (1, .int (nI n))]) hx hb dX4_pass_28 rfl hl (by decide) rfl (fun ls hl => ?_)
  refine lv_aload_n hx hb dX4_pass_29 rfl (lv_at hl 1 rfl) ?_
  refine lv_iload_n hx hb dX4_pass_30 rfl (lv_at hl 2 rfl) ?_
  refine xcV (As := [.int (nI n)]) (rest := []) ⟨hx, hb, hml, hown, hts⟩ (c_X4_hoursOn l D cy b am 0 nS nB (st, bk, nu) gate hq n eh hh hcS hcB ok) (cwV 1 hts gX4_pass_X4_hoursOn rfl rfl rfl (by decide +kernel) ⟨Nat.le_of_ble_eq_true rfl, Nat.le_of_ble_eq_true rfl⟩) hK hP hD hS hA rfl rfl rfl (xE_all) rfl hl.1 rfl (Nat.le_of_ble_eq_true rfl) dX4_pass_31 ⟨Nat.le_of_ble_eq_true rfl, Nat.le_of_ble_eq_true rfl⟩ (fun _ H locs _ hP hD hS => ?_)
  have hP : va_P D vwCl (mw cy b am 0 nS nB ((hrs nS nB hq gate (st, bk, nu) n).1) ((hrs nS nB hq gate (st, bk, nu) n).2.1) gate ((hrs nS nB hq gate (st, bk, nu) n).2.2)) H := hP
  have hD : va_D A (mw cy b am 0 nS nB ((hrs nS nB hq gate (st, bk, nu) n).1) ((hrs nS nB hq gate (st, bk, nu) n).2.1) gate ((hrs nS nB hq gate (st, bk, nu) n).2.2)) := hD
  refine W.eq (g2 := F0 m 34 ls []) rfl ?_
  refine lv_aload_n hx hb dX4_pass_34 rfl (lv_at hl 1 rfl) ?_
  refine va_get (D := D) (ci := 4) (v := .ref (am 3)) (C := RX4) (T := TX4) (N := 8) hx hb hts hinX4 hown hK.1 hP 0 rfl rfl 7 (by decide) (hts (.fieldLink RX4 23 "LoafMarksModel" "numbers" "[I") (List.mem_of_getElem? (i := 2) rfl)) (fun _ h9 => h9) rfl dX4_pass_35 ?_
  refine lv_iconst (v := 3) hx hb dX4_pass_38 (by decide) ?_
  refine xiald hx hb hK hP 4 rfl 3 (by decide) (by decide) (by decide) dX4_pass_39 ?_
  refine W.eq (g2 := F0 m 40 ls [.int (((hrs nS nB hq gate (st, bk, nu) n).2.2) 4)]) rfl ?_
  refine lv_iload_n hx hb dX4_pass_40 rfl (lv_at hl 0 rfl) ?_
  refine lv_isub hx hb dX4_pass_41 ?_
  exact xri () hx hb hr hlocks hS (Nat.le_of_ble_eq_true rfl) (Nat.le_of_ble_eq_true rfl) dX4_pass_42 hP hD (by show some (Value.int (unf nS nB hq gate (st, bk, nu) n)) = some (Value.int ((hrs nS nB hq gate (st, bk, nu) n).2.2 4 - nu 4)); rw [hrs_4]; exact congrArg (fun z => some (Value.int z)) (add_sub_l _ _).symm) trivial

set_option maxHeartbeats 4000000 in
set_option maxRecDepth 100000 in
/-- pass, refused -/
theorem c_X4_pass_1 (l : Launch) (D : va_G) (cy : Nat → ClassId) (b : Nat) (am : Nat → Nat) (thr : Int32) (nS nB : Nat) (st bk : Nat → Iu) (gate nu : Iu) (p0 : Int32) (h1 : ¬ ((1 : Int32) ≤ p0 ∧ p0 ≤ 240)) : xM l D cy yX4_pass wsX4_pass ({ frames := 4, cells := 0, slots := 0, locals := 120 } : Room) [.ref b, .int p0] (mw cy b am thr nS nB st bk gate nu) (fun _ : Unit => some (.int 0)) (fun _ => True) (fun _ => mw cy b am 1 nS nB st bk gate nu) := by
  refine xM.of cX4_pass 3 (some .int) RX4 (by decide +kernel) rfl rfl (Nat.le_of_ble_eq_true rfl) ?_
  intro p e s m below meth c A ls hx hb hr hts hown hlocks hml hin hK hA hP hD hS hl
  have hl : lv_has ls 3 [(0, .ref b), (1, .int p0)] := hl
  have hinX4 : ∀ w ∈ wsX40, w ∈ wsX4_pass := fun _ h => List.mem_cons_of_mem _ (List.mem_append_right _ h)
  refine lv_aload_n hx hb dX4_pass_0 rfl (lv_at hl 0 rfl) ?_
  refine lv_iconst (v := 0) hx hb dX4_pass_1 (by decide) ?_
  refine va_put (D := D) (ci := 4) (v := .int 0) (ty := .int) (C := RX4) (T := TX4) (N := 8) hx hb hts hinX4 tyX4 tyX4_ok nmX4 hown hK.1 hP hD hS 0 rfl rfl 0 (by decide) (hts (.fieldLink RX4 26 "LoafMarksModel" "thrown" "I") (List.mem_of_getElem? (i := 1) rfl)) (fun _ h9 => h9) rfl (by decide +kernel) rfl rfl (Nat.le_of_ble_eq_true rfl) dX4_pass_2 (fun H locs hP hD hS => ?_)
  have hP : va_P D vwCl (mw cy b am 0 nS nB st bk gate nu) H := hP
  have hD : va_D A (mw cy b am 0 nS nB st bk gate nu) := hD
  refine lv_iload_n hx hb dX4_pass_5 rfl (lv_at hl 1 rfl) ?_
  refine lv_iconst (v := 1) hx hb dX4_pass_6 (by decide) ?_
  refine lv_sipush (v := 240) hx hb dX4_pass_7 (by decide) ?_
  refine xcS (As := [.int p0, .int 1, .int 240]) (rest := []) ⟨hx, hb, hml, hown, hts⟩ (c_X4_isIn l D cy p0 1 240) (va_cwS 3 hts gX4_pass_X4_isIn rfl rfl rfl (by decide +kernel) ⟨Nat.le_of_ble_eq_true rfl, Nat.le_of_ble_eq_true rfl⟩) hK hP hD hS hA (xE_nil) rfl hl.1 rfl (Nat.le_of_ble_eq_true rfl) dX4_pass_10 ⟨Nat.le_of_ble_eq_true rfl, Nat.le_of_ble_eq_true rfl⟩ (fun _ H locs _ hP hD hS => ?_)
  have hP : va_P D vwCl (mw cy b am 0 nS nB st bk gate nu) H := hP
  have hD : va_D A (mw cy b am 0 nS nB st bk gate nu) := hD
  refine W.eq (g2 := F0 m 13 ls [.int (wi p0 1 240)]) rfl ?_
  refine lv_if_ne (tgt := 22) hx hb dX4_pass_13 (by decide) (fun z => absurd (wi_no h1) z) (fun _ => ?_)
  refine lv_aload_n hx hb dX4_pass_16 rfl (lv_at hl 0 rfl) ?_
  refine lv_iconst (v := 1) hx hb dX4_pass_17 (by decide) ?_
  refine xcV (As := [.int 1]) (rest := []) ⟨hx, hb, hml, hown, hts⟩ (c_X4_fail l D cy b am 0 nS nB st bk gate nu 1) (cwV 1 hts gX4_pass_X4_fail rfl rfl rfl (by decide +kernel) ⟨Nat.le_of_ble_eq_true rfl, Nat.le_of_ble_eq_true rfl⟩) hK hP hD hS hA rfl rfl rfl (xE_all) rfl hl.1 rfl (Nat.le_of_ble_eq_true rfl) dX4_pass_18 ⟨Nat.le_of_ble_eq_true rfl, Nat.le_of_ble_eq_true rfl⟩ (fun _ H locs _ hP hD hS => ?_)
  have hP : va_P D vwCl (mw cy b am 1 nS nB st bk gate nu) H := hP
  have hD : va_D A (mw cy b am 1 nS nB st bk gate nu) := hD
  refine W.eq (g2 := F0 m 21 ls [.int 0]) rfl ?_
  exact xri () hx hb hr hlocks hS (Nat.le_of_ble_eq_true rfl) (Nat.le_of_ble_eq_true rfl) dX4_pass_21 hP hD rfl trivial

set_option maxHeartbeats 4000000 in
set_option maxRecDepth 100000 in
/-- share -/
theorem c_X4_share (l : Launch) (D : va_G) (cy : Nat → ClassId) (b : Nat) (am : Nat → Nat) (thr : Int32) (nS nB : Nat) (st bk : Nat → Iu) (gate nu : Iu) : xMD l D cy yX4_share wsX4_share ({ frames := 0, cells := 0, slots := 0, locals := 0 } : Room) [.ref b] (mw cy b am thr nS nB st bk gate nu) (fun r : UInt64 => some (.double r)) (fun r => alike64 r (shV nu) = true) (fun _ => mw cy b am 0 nS nB st bk gate nu) := by
  refine xMD.of cX4_share 1 (some .double) RX4 (by decide +kernel) rfl rfl (Nat.le_of_ble_eq_true rfl) ?_
  intro p e s m below meth c A ls hx hb hr hts0 hown hlocks hml hin hK hA hP hD hS hd0 hl
  have hts := dr_words hts0 s.drawn
  have hl : lv_has ls 1 [(0, .ref b)] := hl
  have hinX4 : ∀ w ∈ wsX40, w ∈ wsX4_share := fun _ h => List.mem_cons_of_mem _ (List.mem_append_right _ h)
  refine lv_aload_n hx hb dX4_share_0 rfl (lv_at hl 0 rfl) ?_
  refine lv_iconst (v := 0) hx hb dX4_share_1 (by decide) ?_
  refine va_put (D := D) (ci := 4) (v := .int 0) (ty := .int) (C := RX4) (T := TX4) (N := 8) hx hb hts hinX4 tyX4 tyX4_ok nmX4 hown hK.1 hP hD hS 0 rfl rfl 0 (by decide) (hts (.fieldLink RX4 26 "LoafMarksModel" "thrown" "I") (List.mem_of_getElem? (i := 1) rfl)) (fun _ h9 => h9) rfl (by decide +kernel) rfl rfl (Nat.le_of_ble_eq_true rfl) dX4_share_2 (fun H locs hP hD hS => ?_)
  have hP : va_P D vwCl (mw cy b am 0 nS nB st bk gate nu) H := hP
  have hD : va_D A (mw cy b am 0 nS nB st bk gate nu) := hD
  refine lv_aload_n hx hb dX4_share_5 rfl (lv_at hl 0 rfl) ?_
  refine va_get (D := D) (ci := 4) (v := .ref (am 3)) (C := RX4) (T := TX4) (N := 8) hx hb hts hinX4 hown hK.1 hP 0 rfl rfl 7 (by decide) (hts (.fieldLink RX4 23 "LoafMarksModel" "numbers" "[I") (List.mem_of_getElem? (i := 2) rfl)) (fun _ h9 => h9) rfl dX4_share_6 ?_
  refine lv_iconst (v := 1) hx hb dX4_share_9 (by decide) ?_
  refine xiald hx hb hK hP 4 rfl 1 (by decide) (by decide) (by decide) dX4_share_10 ?_
  refine W.eq (g2 := F0 m 11 ls [.int (nu 2)]) rfl ?_
  refine lv_if_ne (tgt := 18) hx hb dX4_share_11 (by decide) (fun c11 => ?_) (fun c11 => ?_)
  · refine lv_aload_n hx hb dX4_share_18 rfl (lv_at hl 0 rfl) ?_
    refine va_get (D := D) (ci := 4) (v := .ref (am 3)) (C := RX4) (T := TX4) (N := 8) hx hb hts hinX4 hown hK.1 hP 0 rfl rfl 7 (by decide) (hts (.fieldLink RX4 23 "LoafMarksModel" "numbers" "[I") (List.mem_of_getElem? (i := 2) rfl)) (fun _ h9 => h9) rfl dX4_share_19 ?_
    refine lv_iconst (v := 2) hx hb dX4_share_22 (by decide) ?_
    refine xiald hx hb hK hP 4 rfl 2 (by decide) (by decide) (by decide) dX4_share_23 ?_
    refine W.eq (g2 := F0 m 24 ls [.int (nu 3)]) rfl ?_
    refine lv_i2d hx hb dX4_share_24 ?_
    refine lv_aload_n hx hb dX4_share_25 rfl (lv_at hl 0 rfl) ?_
    refine va_get (D := D) (ci := 4) (v := .ref (am 3)) (C := RX4) (T := TX4) (N := 8) hx hb hts hinX4 hown hK.1 hP 0 rfl rfl 7 (by decide) (hts (.fieldLink RX4 23 "LoafMarksModel" "numbers" "[I") (List.mem_of_getElem? (i := 2) rfl)) (fun _ h9 => h9) rfl dX4_share_26 ?_
    refine lv_iconst (v := 1) hx hb dX4_share_29 (by decide) ?_
    refine xiald hx hb hK hP 4 rfl 1 (by decide) (by decide) (by decide) dX4_share_30 ?_
    refine W.eq (g2 := F0 m 31 ls [.int (nu 2), .double (FP.i2d (nu 3))]) rfl ?_
    refine lv_i2d hx hb dX4_share_31 ?_
    refine lv_ddiv_any hd0 lw_bits hx hb dX4_share_32 (fun r d1 hal hd1 => ?_)
    refine W.endD hd1 ?_
    exact xrd r hx hb hr hlocks hS (Nat.le_of_ble_eq_true rfl) (Nat.le_of_ble_eq_true rfl) dX4_share_33 hP hD rfl (by show alike64 r (shV nu) = true; unfold shV; rw [if_neg c11]; exact hal)
  · refine lv_dconst0 hx hb dX4_share_14 ?_
    refine lv_goto (tgt := 33) hx hb dX4_share_15 (by decide) ?_
    refine W.endD hd0 ?_
    exact xrd FP.dconst0 hx hb hr hlocks hS (Nat.le_of_ble_eq_true rfl) (Nat.le_of_ble_eq_true rfl) dX4_share_33 hP hD rfl (by show alike64 FP.dconst0 (shV nu) = true; unfold shV; rw [if_pos c11]; decide)

set_option maxHeartbeats 4000000 in
set_option maxRecDepth 100000 in
/-- digest -/
theorem c_X4_digest (l : Launch) (D : va_G) (cy : Nat → ClassId) (b : Nat) (am : Nat → Nat) (thr : Int32) (nS nB : Nat) (st bk : Nat → Iu) (gate nu : Iu) (hq : Nat) (eh : nu 0 = nI hq) (hh : hq < 2 ^ 31) (hcS : nS ≤ 4) (hcB : nB ≤ 6) (hb7 : ∀ j, j < nB → bk j 7 = 0 ∨ bk j 7 = 1) : xM l D cy yX4_digest wsX4_digest ({ frames := 3, cells := 10, slots := 100, locals := 110 } : Room) [.ref b] (mw cy b am thr nS nB st bk gate nu) (fun _ : Unit => some (.long (dgB bk nB (dgS st bk nB nS (dgN gate 24 (dgN (tFact nS nB st bk nu hq) 10 1051)))))) (fun _ => True) (fun _ => mw cy b am 0 nS nB st bk gate nu) := by
  refine xM.of cX4_digest 7 (some .long) RX4 (by decide +kernel) rfl rfl (Nat.le_of_ble_eq_true rfl) ?_
  intro p e s m below meth c A ls hx hb hr hts hown hlocks hml hin hK hA hP hD hS hl
  have hl : lv_has ls 7 [(0, .ref b)] := hl
  have hinX4 : ∀ w ∈ wsX40, w ∈ wsX4_digest := fun _ h => List.mem_cons_of_mem _ (List.mem_append_right _ h)
  refine lv_aload_n hx hb dX4_digest_0 rfl (lv_at hl 0 rfl) ?_
  refine lv_iconst (v := 0) hx hb dX4_digest_1 (by decide) ?_
  refine va_put (D := D) (ci := 4) (v := .int 0) (ty := .int) (C := RX4) (T := TX4) (N := 8) hx hb hts hinX4 tyX4 tyX4_ok nmX4 hown hK.1 hP hD hS 0 rfl rfl 0 (by decide) (hts (.fieldLink RX4 26 "LoafMarksModel" "thrown" "I") (List.mem_of_getElem? (i := 1) rfl)) (fun _ h9 => h9) rfl (by decide +kernel) rfl rfl (Nat.le_of_ble_eq_true rfl) dX4_digest_2 (fun H locs hP hD hS => ?_)
  have hP : va_P D vwCl (mw cy b am 0 nS nB st bk gate nu) H := hP
  have hD : va_D A (mw cy b am 0 nS nB st bk gate nu) := hD
  refine lv_ldc2 hx hb hown (hts (.constantLong RX4 122 (1051)) (List.mem_of_getElem? (i := 2) rfl)) dX4_digest_5 ?_
  refine lv_lstore_n (lv' := [(1, .long 1051), (0, .ref b)]) hx hb dX4_digest_8 rfl hl (by decide) rfl (fun ls hl => ?_)
  refine lv_iconst (v := 0) hx hb dX4_digest_9 (by decide) ?_
  refine lv_istore_n (lv' := [(3, .int 0), (1, .long 1051), (0, .ref b)]) hx hb dX4_digest_10 rfl hl (by decide) rfl (fun ls hl => ?_)
  have loop : ∀ (n i : Nat)  (H : Heap) (locs : List Loc) (ls : Array Slot), i + n = 10 → va_P D vwCl (mw cy b am 0 nS nB st bk gate nu) H → va_D A (mw cy b am 0 nS nB st bk gate nu) → va_S A s.heap H locs → lv_has ls 7 [(0, .ref b), (1, .long (dgN (tFact nS nB st bk nu hq) i 1051)), (3, .int (nI i))] → W p l e ({ frames := 3, cells := 10, slots := 100, locals := 110 } : Room) s m ([.ref b] : List Value).toArray below meth c H locs i (10 * i) (MQ below (xQ D A (fun _ : Unit => some (.long (dgB bk nB (dgS st bk nB nS (dgN gate 24 (dgN (tFact nS nB st bk nu hq) 10 1051)))))) (fun _ => True) (fun _ => mw cy b am 0 nS nB st bk gate nu)) ([.ref b] : List Value).toArray s 10 100 A) (F0 m 11 ls []) := by
    intro n
    induction n with
    | zero =>
      intro i  H locs ls hns hP hD hS hl
      have hii : i = 10 := by omega
      refine lv_iload_n hx hb dX4_digest_11 rfl (lv_at hl 2 rfl) ?_
      refine lv_bipush (v := 10) hx hb dX4_digest_12 (by decide) ?_
      refine lv_icmp_ge (tgt := 36) hx hb dX4_digest_14 (by decide) (fun _ => ?_) (fun h => absurd (by rw [hii]; exact Int32.le_refl _) h)
      subst hii
      refine W.cs (cells' := 10) (slots' := 100) rfl rfl ?_
      refine lv_aload_n hx hb dX4_digest_36 rfl (lv_at hl 0 rfl) ?_
      refine va_get (D := D) (ci := 4) (v := .ref (am 0)) (C := RX4) (T := TX4) (N := 8) hx hb hts hinX4 hown hK.1 hP 0 rfl rfl 4 (by decide) (hts (.fieldLink RX4 13 "LoafMarksModel" "gate" "[I") (List.mem_of_getElem? (i := 4) rfl)) (fun _ h9 => h9) rfl dX4_digest_37 ?_
      refine lv_astore_n (lv' := [(3, .ref (am 0)), (0, .ref b), (1, .long (dgN (tFact nS nB st bk nu hq) 10 1051))]) hx hb dX4_digest_40 rfl hl (by decide) rfl (fun ls hl => ?_)
      refine lv_aload_n hx hb dX4_digest_41 rfl (lv_at hl 0 rfl) ?_
      refine va_alen hx hb hK.1 hP 1 0 rfl rfl (v := 24) rfl dX4_digest_42 ?_
      refine lv_istore (lv' := [(4, .int 24), (3, .ref (am 0)), (0, .ref b), (1, .long (dgN (tFact nS nB st bk nu hq) 10 1051))]) hx hb dX4_digest_43 hl (by decide) rfl (fun ls hl => ?_)
      refine lv_iconst (v := 0) hx hb dX4_digest_45 (by decide) ?_
      refine lv_istore (lv' := [(5, .int 0), (4, .int 24), (3, .ref (am 0)), (0, .ref b), (1, .long (dgN (tFact nS nB st bk nu hq) 10 1051))]) hx hb dX4_digest_46 hl (by decide) rfl (fun ls hl => ?_)
      have loop2 : ∀ (n k : Nat)  (H : Heap) (locs : List Loc) (ls : Array Slot), k + n = 24 → va_P D vwCl (mw cy b am 0 nS nB st bk gate nu) H → va_D A (mw cy b am 0 nS nB st bk gate nu) → va_S A s.heap H locs → lv_has ls 7 [(0, .ref b), (1, .long (dgN gate k (dgN (tFact nS nB st bk nu hq) 10 1051))), (3, .ref (am 0)), (4, .int 24), (5, .int (nI k))] → W p l e ({ frames := 3, cells := 10, slots := 100, locals := 110 } : Room) s m ([.ref b] : List Value).toArray below meth c H locs 10 100 (MQ below (xQ D A (fun _ : Unit => some (.long (dgB bk nB (dgS st bk nB nS (dgN gate 24 (dgN (tFact nS nB st bk nu hq) 10 1051)))))) (fun _ => True) (fun _ => mw cy b am 0 nS nB st bk gate nu)) ([.ref b] : List Value).toArray s 10 100 A) (F0 m 48 ls []) := by
        intro n
        induction n with
        | zero =>
          intro k  H locs ls hns hP hD hS hl
          have hik : k = 24 := by omega
          refine lv_iload hx hb dX4_digest_48 (lv_at hl 4 rfl) ?_
          refine lv_iload hx hb dX4_digest_50 (lv_at hl 3 rfl) ?_
          refine lv_icmp_ge (tgt := 77) hx hb dX4_digest_52 (by decide) (fun _ => ?_) (fun h => absurd (by rw [hik]; exact Int32.le_refl _) h)
          subst hik
          refine lv_iconst (v := 0) hx hb dX4_digest_77 (by decide) ?_
          refine lv_istore_n (lv' := [(3, .int 0), (0, .ref b), (1, .long (dgN gate 24 (dgN (tFact nS nB st bk nu hq) 10 1051))), (4, .int 24), (5, .int (nI 24))]) hx hb dX4_digest_78 rfl hl (by decide) rfl (fun ls hl => ?_)
          have loop3 : ∀ (n i : Nat)  (H : Heap) (locs : List Loc) (ls : Array Slot), i + n = nS → va_P D vwCl (mw cy b am 0 nS nB st bk gate nu) H → va_D A (mw cy b am 0 nS nB st bk gate nu) → va_S A s.heap H locs → lv_has ls 7 [(0, .ref b), (1, .long (dgS st bk nB i (dgN gate 24 (dgN (tFact nS nB st bk nu hq) 10 1051)))), (3, .int (nI i))] → W p l e ({ frames := 3, cells := 10, slots := 100, locals := 110 } : Room) s m ([.ref b] : List Value).toArray below meth c H locs 10 100 (MQ below (xQ D A (fun _ : Unit => some (.long (dgB bk nB (dgS st bk nB nS (dgN gate 24 (dgN (tFact nS nB st bk nu hq) 10 1051)))))) (fun _ => True) (fun _ => mw cy b am 0 nS nB st bk gate nu)) ([.ref b] : List Value).toArray s 10 100 A) (F0 m 79 ls []) := by
            intro n
            induction n with
            | zero =>
              intro i  H locs ls hns hP hD hS hl
              have hii : i = nS := by omega
              refine lv_iload_n hx hb dX4_digest_79 rfl (lv_at hl 2 rfl) ?_
              refine lv_aload_n hx hb dX4_digest_80 rfl (lv_at hl 0 rfl) ?_
              refine va_get (D := D) (ci := 4) (v := .int (nI nS)) (C := RX4) (T := TX4) (N := 8) hx hb hts hinX4 hown hK.1 hP 0 rfl rfl 1 (by decide) (hts (.fieldLink RX4 29 "LoafMarksModel" "stores" "I") (List.mem_of_getElem? (i := 5) rfl)) (fun _ h9 => h9) rfl dX4_digest_81 ?_
              refine lv_icmp_ge (tgt := 123) hx hb dX4_digest_84 (by decide) (fun _ => ?_) (fun h => absurd (by rw [hii]; exact Int32.le_refl _) h)
              rw [hii] at hl
              refine lv_iconst (v := 0) hx hb dX4_digest_123 (by decide) ?_
              refine lv_istore_n (lv' := [(3, .int 0), (0, .ref b), (1, .long (dgS st bk nB nS (dgN gate 24 (dgN (tFact nS nB st bk nu hq) 10 1051))))]) hx hb dX4_digest_124 rfl hl (by decide) rfl (fun ls hl => ?_)
              have loop5 : ∀ (n i : Nat)  (H : Heap) (locs : List Loc) (ls : Array Slot), i + n = nB → va_P D vwCl (mw cy b am 0 nS nB st bk gate nu) H → va_D A (mw cy b am 0 nS nB st bk gate nu) → va_S A s.heap H locs → lv_has ls 7 [(0, .ref b), (1, .long (dgB bk i (dgS st bk nB nS (dgN gate 24 (dgN (tFact nS nB st bk nu hq) 10 1051))))), (3, .int (nI i))] → W p l e ({ frames := 3, cells := 10, slots := 100, locals := 110 } : Room) s m ([.ref b] : List Value).toArray below meth c H locs 10 100 (MQ below (xQ D A (fun _ : Unit => some (.long (dgB bk nB (dgS st bk nB nS (dgN gate 24 (dgN (tFact nS nB st bk nu hq) 10 1051)))))) (fun _ => True) (fun _ => mw cy b am 0 nS nB st bk gate nu)) ([.ref b] : List Value).toArray s 10 100 A) (F0 m 125 ls []) := by
                intro n
                induction n with
                | zero =>
                  intro i  H locs ls hns hP hD hS hl
                  have hii : i = nB := by omega
                  refine lv_iload_n hx hb dX4_digest_125 rfl (lv_at hl 2 rfl) ?_
                  refine lv_aload_n hx hb dX4_digest_126 rfl (lv_at hl 0 rfl) ?_
                  refine va_get (D := D) (ci := 4) (v := .int (nI nB)) (C := RX4) (T := TX4) (N := 8) hx hb hts hinX4 hown hK.1 hP 0 rfl rfl 2 (by decide) (hts (.fieldLink RX4 36 "LoafMarksModel" "bakers" "I") (List.mem_of_getElem? (i := 6) rfl)) (fun _ h9 => h9) rfl dX4_digest_127 ?_
                  refine lv_icmp_ge (tgt := 170) hx hb dX4_digest_130 (by decide) (fun _ => ?_) (fun h => absurd (by rw [hii]; exact Int32.le_refl _) h)
                  refine lv_lload_n hx hb dX4_digest_170 rfl (lv_at hl 1 rfl) ?_
                  exact xrl () hx hb hr hlocks hS (Nat.le_of_ble_eq_true rfl) (Nat.le_of_ble_eq_true rfl) dX4_digest_171 hP hD (by rw [hii]) trivial
                | succ n ih =>
                  intro i  H locs ls hns hP hD hS hl
                  have hlt : i < nB := by omega
                  have hiB := hlt
                  refine lv_iload_n hx hb dX4_digest_125 rfl (lv_at hl 2 rfl) ?_
                  refine lv_aload_n hx hb dX4_digest_126 rfl (lv_at hl 0 rfl) ?_
                  refine va_get (D := D) (ci := 4) (v := .int (nI nB)) (C := RX4) (T := TX4) (N := 8) hx hb hts hinX4 hown hK.1 hP 0 rfl rfl 2 (by decide) (hts (.fieldLink RX4 36 "LoafMarksModel" "bakers" "I") (List.mem_of_getElem? (i := 6) rfl)) (fun _ h9 => h9) rfl dX4_digest_127 ?_
                  refine lv_icmp_ge (tgt := 170) hx hb dX4_digest_130 (by decide) (fun h => absurd h (nI_ge (a := i) (b := nB) (by omega) (by omega))) (fun _ => ?_)
                  refine lv_iconst (v := 0) hx hb dX4_digest_133 (by decide) ?_
                  refine lv_istore (lv' := [(4, .int 0), (0, .ref b), (1, .long (dgB bk i (dgS st bk nB nS (dgN gate 24 (dgN (tFact nS nB st bk nu hq) 10 1051))))), (3, .int (nI i))]) hx hb dX4_digest_134 hl (by decide) rfl (fun ls hl => ?_)
                  have loop6 : ∀ (n k : Nat)  (H : Heap) (locs : List Loc) (ls : Array Slot), k + n = 8 → va_P D vwCl (mw cy b am 0 nS nB st bk gate nu) H → va_D A (mw cy b am 0 nS nB st bk gate nu) → va_S A s.heap H locs → lv_has ls 7 [(0, .ref b), (1, .long (dgN (bFact (bk i)) k (dgB bk i (dgS st bk nB nS (dgN gate 24 (dgN (tFact nS nB st bk nu hq) 10 1051)))))), (3, .int (nI i)), (4, .int (nI k))] → W p l e ({ frames := 3, cells := 10, slots := 100, locals := 110 } : Room) s m ([.ref b] : List Value).toArray below meth c H locs 10 100 (MQ below (xQ D A (fun _ : Unit => some (.long (dgB bk nB (dgS st bk nB nS (dgN gate 24 (dgN (tFact nS nB st bk nu hq) 10 1051)))))) (fun _ => True) (fun _ => mw cy b am 0 nS nB st bk gate nu)) ([.ref b] : List Value).toArray s 10 100 A) (F0 m 136 ls []) := by
                    intro n
                    induction n with
                    | zero =>
                      intro k  H locs ls hns hP hD hS hl
                      have hik : k = 8 := by omega
                      have hkz := hik
                      refine lv_iload hx hb dX4_digest_136 (lv_at hl 3 rfl) ?_
                      refine lv_bipush (v := 8) hx hb dX4_digest_138 (by decide) ?_
                      refine lv_icmp_ge (tgt := 164) hx hb dX4_digest_140 (by decide) (fun _ => ?_) (fun h => absurd (by rw [hik]; exact Int32.le_refl _) h)
                      refine lv_iinc (v := (nI (i + 1))) (lv' := [(3, .int (nI (i + 1))), (0, .ref b), (1, .long (dgN (bFact (bk i)) k (dgB bk i (dgS st bk nB nS (dgN gate 24 (dgN (tFact nS nB st bk nu hq) 10 1051)))))), (4, .int (nI k))]) hx hb dX4_digest_164 hl (k := 2) rfl ((nI_1 i)) (by decide) rfl (fun ls hl => ?_)
                      refine lv_goto (tgt := 125) hx hb dX4_digest_167 (by decide) ?_
                      exact ih (i + 1)  _ _ _ (by omega) hP hD hS (lv_sub hl [1, 2, 0] (by rw [hkz]; rfl))
                    | succ n ih =>
                      intro k  H locs ls hns hP hD hS hl
                      have hlt : k < 8 := by omega
                      refine lv_iload hx hb dX4_digest_136 (lv_at hl 3 rfl) ?_
                      refine lv_bipush (v := 8) hx hb dX4_digest_138 (by decide) ?_
                      refine lv_icmp_ge (tgt := 164) hx hb dX4_digest_140 (by decide) (fun h => absurd h (nI_ge (a := k) (b := 8) (by omega) (by omega))) (fun _ => ?_)
                      refine lv_lload_n hx hb dX4_digest_143 rfl (lv_at hl 1 rfl) ?_
                      refine lv_ldc2 hx hb hown (hts (.constantLong RX4 124 (31)) (List.mem_of_getElem? (i := 3) rfl)) dX4_digest_144 ?_
                      refine lv_lmul hx hb dX4_digest_147 ?_
                      refine lv_aload_n hx hb dX4_digest_148 rfl (lv_at hl 0 rfl) ?_
                      refine lv_iload_n hx hb dX4_digest_149 rfl (lv_at hl 2 rfl) ?_
                      refine lv_iload hx hb dX4_digest_150 (lv_at hl 3 rfl) ?_
                      refine xcV (As := [.int (nI i), .int (nI k)]) (rest := [.long ((dgN (bFact (bk i)) k (dgB bk i (dgS st bk nB nS (dgN gate 24 (dgN (tFact nS nB st bk nu hq) 10 1051))))) * 31)]) ⟨hx, hb, hml, hown, hts⟩ (c_X4_sh l D cy b am 0 nS nB st bk gate nu i k (by omega) (by omega)) (cwV 2 hts gX4_digest_X4_sh rfl rfl rfl (by decide +kernel) ⟨Nat.le_of_ble_eq_true rfl, Nat.le_of_ble_eq_true rfl⟩) hK hP hD hS hA rfl rfl rfl (xE_all) rfl hl.1 rfl (Nat.le_of_ble_eq_true rfl) dX4_digest_152 ⟨Nat.le_of_ble_eq_true rfl, Nat.le_of_ble_eq_true rfl⟩ (fun _ H locs _ hP hD hS => ?_)
                      have hP : va_P D vwCl (mw cy b am 0 nS nB st bk gate nu) H := hP
                      have hD : va_D A (mw cy b am 0 nS nB st bk gate nu) := hD
                      refine W.eq (g2 := F0 m 155 ls [.int (bFact (bk i) k), .long ((dgN (bFact (bk i)) k (dgB bk i (dgS st bk nB nS (dgN gate 24 (dgN (tFact nS nB st bk nu hq) 10 1051))))) * 31)]) (by rw [bFact_eq (hb7 i hiB)]; rfl) ?_
                      refine lv_i2l (v := (bFact (bk i) k).toInt64) hx hb dX4_digest_155 rfl ?_
                      refine lv_ladd hx hb dX4_digest_156 ?_
                      refine lv_lstore_n (lv' := [(1, .long (((dgN (bFact (bk i)) k (dgB bk i (dgS st bk nB nS (dgN gate 24 (dgN (tFact nS nB st bk nu hq) 10 1051))))) * 31) + ((bFact (bk i) k).toInt64))), (0, .ref b), (3, .int (nI i)), (4, .int (nI k))]) hx hb dX4_digest_157 rfl hl (by decide) rfl (fun ls hl => ?_)
                      refine lv_iinc (v := (nI (k + 1))) (lv' := [(4, .int (nI (k + 1))), (1, .long (((dgN (bFact (bk i)) k (dgB bk i (dgS st bk nB nS (dgN gate 24 (dgN (tFact nS nB st bk nu hq) 10 1051))))) * 31) + ((bFact (bk i) k).toInt64))), (0, .ref b), (3, .int (nI i))]) hx hb dX4_digest_158 hl (k := 3) rfl ((nI_1 k)) (by decide) rfl (fun ls hl => ?_)
                      refine lv_goto (tgt := 136) hx hb dX4_digest_161 (by decide) ?_
                      exact ih (k + 1)  _ _ _ (by omega) hP hD hS (lv_sub hl [2, 1, 3, 0] rfl)
                  exact loop6 8 0  _ _ _ (by omega) hP hD hS (lv_sub hl [1, 2, 3, 0] rfl)
              exact loop5 nB 0  _ _ _ (by omega) hP hD hS (lv_sub hl [1, 2, 0] rfl)
            | succ n ih =>
              intro i  H locs ls hns hP hD hS hl
              have hlt : i < nS := by omega
              refine lv_iload_n hx hb dX4_digest_79 rfl (lv_at hl 2 rfl) ?_
              refine lv_aload_n hx hb dX4_digest_80 rfl (lv_at hl 0 rfl) ?_
              refine va_get (D := D) (ci := 4) (v := .int (nI nS)) (C := RX4) (T := TX4) (N := 8) hx hb hts hinX4 hown hK.1 hP 0 rfl rfl 1 (by decide) (hts (.fieldLink RX4 29 "LoafMarksModel" "stores" "I") (List.mem_of_getElem? (i := 5) rfl)) (fun _ h9 => h9) rfl dX4_digest_81 ?_
              refine lv_icmp_ge (tgt := 123) hx hb dX4_digest_84 (by decide) (fun h => absurd h (nI_ge (a := i) (b := nS) (by omega) (by omega))) (fun _ => ?_)
              refine lv_iconst (v := 0) hx hb dX4_digest_87 (by decide) ?_
              refine lv_istore (lv' := [(4, .int 0), (0, .ref b), (1, .long (dgS st bk nB i (dgN gate 24 (dgN (tFact nS nB st bk nu hq) 10 1051)))), (3, .int (nI i))]) hx hb dX4_digest_88 hl (by decide) rfl (fun ls hl => ?_)
              have loop4 : ∀ (n k : Nat)  (H : Heap) (locs : List Loc) (ls : Array Slot), k + n = 4 → va_P D vwCl (mw cy b am 0 nS nB st bk gate nu) H → va_D A (mw cy b am 0 nS nB st bk gate nu) → va_S A s.heap H locs → lv_has ls 7 [(0, .ref b), (1, .long (dgN (stFact st bk nB i) k (dgS st bk nB i (dgN gate 24 (dgN (tFact nS nB st bk nu hq) 10 1051))))), (3, .int (nI i)), (4, .int (nI k))] → W p l e ({ frames := 3, cells := 10, slots := 100, locals := 110 } : Room) s m ([.ref b] : List Value).toArray below meth c H locs 10 100 (MQ below (xQ D A (fun _ : Unit => some (.long (dgB bk nB (dgS st bk nB nS (dgN gate 24 (dgN (tFact nS nB st bk nu hq) 10 1051)))))) (fun _ => True) (fun _ => mw cy b am 0 nS nB st bk gate nu)) ([.ref b] : List Value).toArray s 10 100 A) (F0 m 90 ls []) := by
                intro n
                induction n with
                | zero =>
                  intro k  H locs ls hns hP hD hS hl
                  have hik : k = 4 := by omega
                  have hkz := hik
                  refine lv_iload hx hb dX4_digest_90 (lv_at hl 3 rfl) ?_
                  refine lv_iconst (v := 4) hx hb dX4_digest_92 (by decide) ?_
                  refine lv_icmp_ge (tgt := 117) hx hb dX4_digest_93 (by decide) (fun _ => ?_) (fun h => absurd (by rw [hik]; exact Int32.le_refl _) h)
                  refine lv_iinc (v := (nI (i + 1))) (lv' := [(3, .int (nI (i + 1))), (0, .ref b), (1, .long (dgN (stFact st bk nB i) k (dgS st bk nB i (dgN gate 24 (dgN (tFact nS nB st bk nu hq) 10 1051))))), (4, .int (nI k))]) hx hb dX4_digest_117 hl (k := 2) rfl ((nI_1 i)) (by decide) rfl (fun ls hl => ?_)
                  refine lv_goto (tgt := 79) hx hb dX4_digest_120 (by decide) ?_
                  exact ih (i + 1)  _ _ _ (by omega) hP hD hS (lv_sub hl [1, 2, 0] (by rw [hkz]; rfl))
                | succ n ih =>
                  intro k  H locs ls hns hP hD hS hl
                  have hlt : k < 4 := by omega
                  refine lv_iload hx hb dX4_digest_90 (lv_at hl 3 rfl) ?_
                  refine lv_iconst (v := 4) hx hb dX4_digest_92 (by decide) ?_
                  refine lv_icmp_ge (tgt := 117) hx hb dX4_digest_93 (by decide) (fun h => absurd h (nI_ge (a := k) (b := 4) (by omega) (by omega))) (fun _ => ?_)
                  refine lv_lload_n hx hb dX4_digest_96 rfl (lv_at hl 1 rfl) ?_
                  refine lv_ldc2 hx hb hown (hts (.constantLong RX4 124 (31)) (List.mem_of_getElem? (i := 3) rfl)) dX4_digest_97 ?_
                  refine lv_lmul hx hb dX4_digest_100 ?_
                  refine lv_aload_n hx hb dX4_digest_101 rfl (lv_at hl 0 rfl) ?_
                  refine lv_iload_n hx hb dX4_digest_102 rfl (lv_at hl 2 rfl) ?_
                  refine lv_iload hx hb dX4_digest_103 (lv_at hl 3 rfl) ?_
                  refine xcV (As := [.int (nI i), .int (nI k)]) (rest := [.long ((dgN (stFact st bk nB i) k (dgS st bk nB i (dgN gate 24 (dgN (tFact nS nB st bk nu hq) 10 1051)))) * 31)]) ⟨hx, hb, hml, hown, hts⟩ (c_X4_storeTold l D cy b am 0 nS nB st bk gate nu i k (by omega) (by omega) hcB) (cwV 2 hts gX4_digest_X4_storeTold rfl rfl rfl (by decide +kernel) ⟨Nat.le_of_ble_eq_true rfl, Nat.le_of_ble_eq_true rfl⟩) hK hP hD hS hA rfl rfl rfl (xE_all) rfl hl.1 rfl (Nat.le_of_ble_eq_true rfl) dX4_digest_105 ⟨Nat.le_of_ble_eq_true rfl, Nat.le_of_ble_eq_true rfl⟩ (fun _ H locs _ hP hD hS => ?_)
                  have hP : va_P D vwCl (mw cy b am 0 nS nB st bk gate nu) H := hP
                  have hD : va_D A (mw cy b am 0 nS nB st bk gate nu) := hD
                  refine W.eq (g2 := F0 m 108 ls [.int (stFact st bk nB i k), .long ((dgN (stFact st bk nB i) k (dgS st bk nB i (dgN gate 24 (dgN (tFact nS nB st bk nu hq) 10 1051)))) * 31)]) rfl ?_
                  refine lv_i2l (v := (stFact st bk nB i k).toInt64) hx hb dX4_digest_108 rfl ?_
                  refine lv_ladd hx hb dX4_digest_109 ?_
                  refine lv_lstore_n (lv' := [(1, .long (((dgN (stFact st bk nB i) k (dgS st bk nB i (dgN gate 24 (dgN (tFact nS nB st bk nu hq) 10 1051)))) * 31) + ((stFact st bk nB i k).toInt64))), (0, .ref b), (3, .int (nI i)), (4, .int (nI k))]) hx hb dX4_digest_110 rfl hl (by decide) rfl (fun ls hl => ?_)
                  refine lv_iinc (v := (nI (k + 1))) (lv' := [(4, .int (nI (k + 1))), (1, .long (((dgN (stFact st bk nB i) k (dgS st bk nB i (dgN gate 24 (dgN (tFact nS nB st bk nu hq) 10 1051)))) * 31) + ((stFact st bk nB i k).toInt64))), (0, .ref b), (3, .int (nI i))]) hx hb dX4_digest_111 hl (k := 3) rfl ((nI_1 k)) (by decide) rfl (fun ls hl => ?_)
                  refine lv_goto (tgt := 90) hx hb dX4_digest_114 (by decide) ?_
                  exact ih (k + 1)  _ _ _ (by omega) hP hD hS (lv_sub hl [2, 1, 3, 0] rfl)
              exact loop4 4 0  _ _ _ (by omega) hP hD hS (lv_sub hl [1, 2, 3, 0] rfl)
          exact loop3 nS 0  _ _ _ (by omega) hP hD hS (lv_sub hl [1, 2, 0] rfl)
        | succ n ih =>
          intro k  H locs ls hns hP hD hS hl
          have hlt : k < 24 := by omega
          refine lv_iload hx hb dX4_digest_48 (lv_at hl 4 rfl) ?_
          refine lv_iload hx hb dX4_digest_50 (lv_at hl 3 rfl) ?_
          refine lv_icmp_ge (tgt := 77) hx hb dX4_digest_52 (by decide) (fun h => absurd h (nI_ge (a := k) (b := 24) (by omega) (by omega))) (fun _ => ?_)
          refine lv_aload_n hx hb dX4_digest_55 rfl (lv_at hl 2 rfl) ?_
          refine lv_iload hx hb dX4_digest_56 (lv_at hl 4 rfl) ?_
          refine xiald hx hb hK hP 1 rfl k rfl (by omega) (by decide) dX4_digest_58 ?_
          refine lv_istore (lv' := [(6, .int (gate k)), (0, .ref b), (1, .long (dgN gate k (dgN (tFact nS nB st bk nu hq) 10 1051))), (3, .ref (am 0)), (4, .int 24), (5, .int (nI k))]) hx hb dX4_digest_59 hl (by decide) rfl (fun ls hl => ?_)
          refine lv_lload_n hx hb dX4_digest_61 rfl (lv_at hl 2 rfl) ?_
          refine lv_ldc2 hx hb hown (hts (.constantLong RX4 124 (31)) (List.mem_of_getElem? (i := 3) rfl)) dX4_digest_62 ?_
          refine lv_lmul hx hb dX4_digest_65 ?_
          refine lv_iload hx hb dX4_digest_66 (lv_at hl 0 rfl) ?_
          refine lv_i2l (v := (gate k).toInt64) hx hb dX4_digest_68 rfl ?_
          refine lv_ladd hx hb dX4_digest_69 ?_
          refine lv_lstore_n (lv' := [(1, .long (((dgN gate k (dgN (tFact nS nB st bk nu hq) 10 1051)) * 31) + ((gate k).toInt64))), (6, .int (gate k)), (0, .ref b), (3, .ref (am 0)), (4, .int 24), (5, .int (nI k))]) hx hb dX4_digest_70 rfl hl (by decide) rfl (fun ls hl => ?_)
          refine lv_iinc (v := (nI (k + 1))) (lv' := [(5, .int (nI (k + 1))), (1, .long (((dgN gate k (dgN (tFact nS nB st bk nu hq) 10 1051)) * 31) + ((gate k).toInt64))), (6, .int (gate k)), (0, .ref b), (3, .ref (am 0)), (4, .int 24)]) hx hb dX4_digest_71 hl (k := 5) rfl ((nI_1 k)) (by decide) rfl (fun ls hl => ?_)
          refine lv_goto (tgt := 48) hx hb dX4_digest_74 (by decide) ?_
          exact ih (k + 1)  _ _ _ (by omega) hP hD hS (lv_sub hl [3, 1, 4, 5, 0] rfl)
      exact loop2 24 0  _ _ _ (by omega) hP hD hS (lv_sub hl [3, 4, 2, 1, 0] rfl)
    | succ n ih =>
      intro i  H locs ls hns hP hD hS hl
      have hlt : i < 10 := by omega
      refine lv_iload_n hx hb dX4_digest_11 rfl (lv_at hl 2 rfl) ?_
      refine lv_bipush (v := 10) hx hb dX4_digest_12 (by decide) ?_
      refine lv_icmp_ge (tgt := 36) hx hb dX4_digest_14 (by decide) (fun h => absurd h (nI_ge (b := 10) hlt (by omega))) (fun _ => ?_)
      refine lv_lload_n hx hb dX4_digest_17 rfl (lv_at hl 1 rfl) ?_
      refine lv_ldc2 hx hb hown (hts (.constantLong RX4 124 (31)) (List.mem_of_getElem? (i := 3) rfl)) dX4_digest_18 ?_
      refine lv_lmul hx hb dX4_digest_21 ?_
      refine lv_aload_n hx hb dX4_digest_22 rfl (lv_at hl 0 rfl) ?_
      refine lv_iload_n hx hb dX4_digest_23 rfl (lv_at hl 2 rfl) ?_
      refine xcV (As := [.int (nI i)]) (rest := [.long ((dgN (tFact nS nB st bk nu hq) i 1051) * 31)]) ⟨hx, hb, hml, hown, hts⟩ (c_X4_counted l D cy b am 0 nS nB st bk gate nu hq i eh hh (by omega) hcS hcB hb7) (cwV 1 hts gX4_digest_X4_counted rfl rfl rfl (by decide +kernel) ⟨Nat.le_of_ble_eq_true rfl, Nat.le_of_ble_eq_true rfl⟩) hK hP hD hS hA rfl rfl rfl (xE_all) rfl hl.1 rfl (Nat.le_of_ble_eq_true rfl) dX4_digest_24 ⟨by show i + 1 ≤ 10; omega, by show 10 * i + 10 ≤ 100; omega⟩ (fun _ H locs _ hP hD hS => ?_)
      have hP : va_P D vwCl (mw cy b am 0 nS nB st bk gate nu) H := hP
      have hD : va_D A (mw cy b am 0 nS nB st bk gate nu) := hD
      refine W.eq (g2 := F0 m 27 ls [.int (tFact nS nB st bk nu hq i), .long ((dgN (tFact nS nB st bk nu hq) i 1051) * 31)]) rfl ?_
      refine lv_i2l (v := (tFact nS nB st bk nu hq i).toInt64) hx hb dX4_digest_27 rfl ?_
      refine lv_ladd hx hb dX4_digest_28 ?_
      refine lv_lstore_n (lv' := [(1, .long (((dgN (tFact nS nB st bk nu hq) i 1051) * 31) + ((tFact nS nB st bk nu hq i).toInt64))), (0, .ref b), (3, .int (nI i))]) hx hb dX4_digest_29 rfl hl (by decide) rfl (fun ls hl => ?_)
      refine lv_iinc (v := (nI (i + 1))) (lv' := [(3, .int (nI (i + 1))), (1, .long (((dgN (tFact nS nB st bk nu hq) i 1051) * 31) + ((tFact nS nB st bk nu hq i).toInt64))), (0, .ref b)]) hx hb dX4_digest_30 hl (k := 2) rfl ((nI_1 i)) (by decide) rfl (fun ls hl => ?_)
      refine lv_goto (tgt := 11) hx hb dX4_digest_33 (by decide) ?_
      refine W.cs (cells' := i + 1) (slots' := 10 * (i + 1)) rfl rfl ?_
      exact ih (i + 1)  _ _ _ (by omega) hP hD hS (lv_sub hl [2, 1, 0] rfl)
  exact loop 10 0  _ _ _ (by omega) hP hD hS (lv_sub hl [2, 1, 0] rfl)

set_option maxHeartbeats 4000000 in
set_option maxRecDepth 100000 in
/-- LoafMarksModel() -/
theorem c_X4_init (l : Launch) (D : va_G) (cy : Nat → ClassId) (b : Nat) : xM l D cy yX4_init wsX4_init ({ frames := 1, cells := 4, slots := 89, locals := 12 } : Room) [.ref b] ([(b, .inr (4, [.int 0, .int 0, .int 0, .int 0, .null, .null, .null, .null]))]) (fun _ : Nat → Nat => none) (fun _ => True) (fun a => mw cy b a 0 0 0 (fun _ _ => 0) (fun _ _ => 0) (fun _ => 0) nu0) := by
  refine xM.of cX4_init 1 none RX4 (by decide +kernel) rfl rfl (Nat.le_of_ble_eq_true rfl) ?_
  intro p e s m below meth c A ls hx hb hr hts hown hlocks hml hin hK hA hP hD hS hl
  have hl : lv_has ls 1 [(0, .ref b)] := hl
  have hinX4 : ∀ w ∈ wsX40, w ∈ wsX4_init := fun _ h => List.mem_cons_of_mem _ (List.mem_append_right _ h)
  refine lv_aload_n hx hb dX4_init_0 rfl (lv_at hl 0 rfl) ?_
  refine W.objInit hx hb hown (hts (.methodLink RX4 1 objectInit) (List.mem_of_getElem? (i := 1) rfl)) (hts (.instanceMethod objectInit) (List.mem_of_getElem? (i := 2) rfl)) (hts (.code objectInit ⟨#[0xb1]⟩ 1 none) (List.mem_of_getElem? (i := 3) rfl)) rfl (by rw [hml]; exact hl.1) rfl dX4_init_1 (Nat.le_of_ble_eq_true rfl) (Nat.le_of_ble_eq_true rfl) ?_
  refine W.eq (g2 := F0 m 4 ls []) rfl ?_
  refine lv_aload_n hx hb dX4_init_4 rfl (lv_at hl 0 rfl) ?_
  refine lv_bipush (v := 20) hx hb dX4_init_5 (by decide) ?_
  refine va_put (D := D) (ci := 4) (v := .int 20) (ty := .int) (C := RX4) (T := TX4) (N := 8) hx hb hts hinX4 tyX4 tyX4_ok nmX4 hown hK.1 hP hD hS 0 rfl rfl 3 (by decide) (hts (.fieldLink RX4 7 "LoafMarksModel" "people" "I") (List.mem_of_getElem? (i := 4) rfl)) (fun _ h9 => h9) rfl (by decide +kernel) rfl rfl (Nat.le_of_ble_eq_true rfl) dX4_init_7 (fun H locs hP hD hS => ?_)
  have hP : va_P D vwCl ([(b, .inr (4, [.int 0, .int 0, .int 0, .int 20, .null, .null, .null, .null]))]) H := hP
  have hD : va_D A ([(b, .inr (4, [.int 0, .int 0, .int 0, .int 20, .null, .null, .null, .null]))]) := hD
  refine lv_aload_n hx hb dX4_init_10 rfl (lv_at hl 0 rfl) ?_
  refine lv_bipush (v := 24) hx hb dX4_init_11 (by decide) ?_
  refine va_newa (atype := .int) (N' := 24) (a0 := (24, .inl (fun _ => 0))) hx hb (hts (.arrayClass .int) (List.mem_of_getElem? (i := 5) rfl)) rfl hK.1 hP hD hS hA (fun _ => rfl) (by decide) (by decide) (by decide) (Nat.le_of_ble_eq_true rfl) (Nat.le_of_ble_eq_true rfl) dX4_init_13 (fun q13 cA H hK1 hP hD hS => ?_)
  obtain rfl : cA = cy 0 := x_cA hK.1 hK1 (i := 0) rfl rfl
  have hP : va_P D vwCl ([(b, .inr (4, [.int 0, .int 0, .int 0, .int 20, .null, .null, .null, .null])), (q13, .inl (cy 0, 24, .inl (fun _ => 0)))]) H := hP
  have hD : va_D A ([(b, .inr (4, [.int 0, .int 0, .int 0, .int 20, .null, .null, .null, .null])), (q13, .inl (cy 0, 24, .inl (fun _ => 0)))]) := hD
  refine va_putF (D := D) (ci := 4) (v := .ref q13) (ty := .array .int) (C := RX4) (T := TX4) (N := 8) hx hb hts hinX4 tyX4 tyX4_ok nmX4 hown hK.1 hP hD hS 0 rfl rfl 4 (by decide) (hts (.fieldLink RX4 13 "LoafMarksModel" "gate" "[I") (List.mem_of_getElem? (i := 6) rfl)) (fun _ h9 => h9) rfl hin rfl (by decide +kernel) rfl rfl (Nat.le_of_ble_eq_true rfl) dX4_init_15 (fun H locs hP hD hS => ?_)
  have hP : va_P D vwCl ([(b, .inr (4, [.int 0, .int 0, .int 0, .int 20, .ref q13, .null, .null, .null])), (q13, .inl (cy 0, 24, .inl (fun _ => 0)))]) H := hP
  have hD : va_D A ([(b, .inr (4, [.int 0, .int 0, .int 0, .int 20, .ref q13, .null, .null, .null])), (q13, .inl (cy 0, 24, .inl (fun _ => 0)))]) := hD
  refine lv_aload_n hx hb dX4_init_18 rfl (lv_at hl 0 rfl) ?_
  refine lv_bipush (v := 12) hx hb dX4_init_19 (by decide) ?_
  refine va_newa (atype := .int) (N' := 12) (a0 := (12, .inl (fun _ => 0))) hx hb (hts (.arrayClass .int) (List.mem_of_getElem? (i := 5) rfl)) rfl hK.1 hP hD hS hA (fun _ => rfl) (by decide) (by decide) (by decide) (Nat.le_of_ble_eq_true rfl) (Nat.le_of_ble_eq_true rfl) dX4_init_21 (fun q21 cA H hK1 hP hD hS => ?_)
  obtain rfl : cA = cy 0 := x_cA hK.1 hK1 (i := 0) rfl rfl
  have hP : va_P D vwCl ([(b, .inr (4, [.int 0, .int 0, .int 0, .int 20, .ref q13, .null, .null, .null])), (q13, .inl (cy 0, 24, .inl (fun _ => 0))), (q21, .inl (cy 0, 12, .inl (fun _ => 0)))]) H := hP
  have hD : va_D A ([(b, .inr (4, [.int 0, .int 0, .int 0, .int 20, .ref q13, .null, .null, .null])), (q13, .inl (cy 0, 24, .inl (fun _ => 0))), (q21, .inl (cy 0, 12, .inl (fun _ => 0)))]) := hD
  refine va_putF (D := D) (ci := 4) (v := .ref q21) (ty := .array .int) (C := RX4) (T := TX4) (N := 8) hx hb hts hinX4 tyX4 tyX4_ok nmX4 hown hK.1 hP hD hS 0 rfl rfl 5 (by decide) (hts (.fieldLink RX4 17 "LoafMarksModel" "barns" "[I") (List.mem_of_getElem? (i := 7) rfl)) (fun _ h9 => h9) rfl hin rfl (by decide +kernel) rfl rfl (Nat.le_of_ble_eq_true rfl) dX4_init_23 (fun H locs hP hD hS => ?_)
  have hP : va_P D vwCl ([(b, .inr (4, [.int 0, .int 0, .int 0, .int 20, .ref q13, .ref q21, .null, .null])), (q13, .inl (cy 0, 24, .inl (fun _ => 0))), (q21, .inl (cy 0, 12, .inl (fun _ => 0)))]) H := hP
  have hD : va_D A ([(b, .inr (4, [.int 0, .int 0, .int 0, .int 20, .ref q13, .ref q21, .null, .null])), (q13, .inl (cy 0, 24, .inl (fun _ => 0))), (q21, .inl (cy 0, 12, .inl (fun _ => 0)))]) := hD
  refine lv_aload_n hx hb dX4_init_26 rfl (lv_at hl 0 rfl) ?_
  refine lv_bipush (v := 48) hx hb dX4_init_27 (by decide) ?_
  refine va_newa (atype := .int) (N' := 48) (a0 := (48, .inl (fun _ => 0))) hx hb (hts (.arrayClass .int) (List.mem_of_getElem? (i := 5) rfl)) rfl hK.1 hP hD hS hA (fun _ => rfl) (by decide) (by decide) (by decide) (Nat.le_of_ble_eq_true rfl) (Nat.le_of_ble_eq_true rfl) dX4_init_29 (fun q29 cA H hK1 hP hD hS => ?_)
  obtain rfl : cA = cy 0 := x_cA hK.1 hK1 (i := 0) rfl rfl
  have hP : va_P D vwCl ([(b, .inr (4, [.int 0, .int 0, .int 0, .int 20, .ref q13, .ref q21, .null, .null])), (q13, .inl (cy 0, 24, .inl (fun _ => 0))), (q21, .inl (cy 0, 12, .inl (fun _ => 0))), (q29, .inl (cy 0, 48, .inl (fun _ => 0)))]) H := hP
  have hD : va_D A ([(b, .inr (4, [.int 0, .int 0, .int 0, .int 20, .ref q13, .ref q21, .null, .null])), (q13, .inl (cy 0, 24, .inl (fun _ => 0))), (q21, .inl (cy 0, 12, .inl (fun _ => 0))), (q29, .inl (cy 0, 48, .inl (fun _ => 0)))]) := hD
  refine va_putF (D := D) (ci := 4) (v := .ref q29) (ty := .array .int) (C := RX4) (T := TX4) (N := 8) hx hb hts hinX4 tyX4 tyX4_ok nmX4 hown hK.1 hP hD hS 0 rfl rfl 6 (by decide) (hts (.fieldLink RX4 20 "LoafMarksModel" "shops" "[I") (List.mem_of_getElem? (i := 8) rfl)) (fun _ h9 => h9) rfl hin rfl (by decide +kernel) rfl rfl (Nat.le_of_ble_eq_true rfl) dX4_init_31 (fun H locs hP hD hS => ?_)
  have hP : va_P D vwCl ([(b, .inr (4, [.int 0, .int 0, .int 0, .int 20, .ref q13, .ref q21, .ref q29, .null])), (q13, .inl (cy 0, 24, .inl (fun _ => 0))), (q21, .inl (cy 0, 12, .inl (fun _ => 0))), (q29, .inl (cy 0, 48, .inl (fun _ => 0)))]) H := hP
  have hD : va_D A ([(b, .inr (4, [.int 0, .int 0, .int 0, .int 20, .ref q13, .ref q21, .ref q29, .null])), (q13, .inl (cy 0, 24, .inl (fun _ => 0))), (q21, .inl (cy 0, 12, .inl (fun _ => 0))), (q29, .inl (cy 0, 48, .inl (fun _ => 0)))]) := hD
  refine lv_aload_n hx hb dX4_init_34 rfl (lv_at hl 0 rfl) ?_
  refine lv_iconst (v := 5) hx hb dX4_init_35 (by decide) ?_
  refine va_newa (atype := .int) (N' := 5) (a0 := (5, .inl (fun _ => 0))) hx hb (hts (.arrayClass .int) (List.mem_of_getElem? (i := 5) rfl)) rfl hK.1 hP hD hS hA (fun _ => rfl) (by decide) (by decide) (by decide) (Nat.le_of_ble_eq_true rfl) (Nat.le_of_ble_eq_true rfl) dX4_init_36 (fun q36 cA H hK1 hP hD hS => ?_)
  obtain rfl : cA = cy 0 := x_cA hK.1 hK1 (i := 0) rfl rfl
  have hP : va_P D vwCl ([(b, .inr (4, [.int 0, .int 0, .int 0, .int 20, .ref q13, .ref q21, .ref q29, .null])), (q13, .inl (cy 0, 24, .inl (fun _ => 0))), (q21, .inl (cy 0, 12, .inl (fun _ => 0))), (q29, .inl (cy 0, 48, .inl (fun _ => 0))), (q36, .inl (cy 0, 5, .inl (fun _ => 0)))]) H := hP
  have hD : va_D A ([(b, .inr (4, [.int 0, .int 0, .int 0, .int 20, .ref q13, .ref q21, .ref q29, .null])), (q13, .inl (cy 0, 24, .inl (fun _ => 0))), (q21, .inl (cy 0, 12, .inl (fun _ => 0))), (q29, .inl (cy 0, 48, .inl (fun _ => 0))), (q36, .inl (cy 0, 5, .inl (fun _ => 0)))]) := hD
  refine va_putF (D := D) (ci := 4) (v := .ref q36) (ty := .array .int) (C := RX4) (T := TX4) (N := 8) hx hb hts hinX4 tyX4 tyX4_ok nmX4 hown hK.1 hP hD hS 0 rfl rfl 7 (by decide) (hts (.fieldLink RX4 23 "LoafMarksModel" "numbers" "[I") (List.mem_of_getElem? (i := 9) rfl)) (fun _ h9 => h9) rfl hin rfl (by decide +kernel) rfl rfl (Nat.le_of_ble_eq_true rfl) dX4_init_38 (fun H locs hP hD hS => ?_)
  have hP : va_P D vwCl ([(b, .inr (4, [.int 0, .int 0, .int 0, .int 20, .ref q13, .ref q21, .ref q29, .ref q36])), (q13, .inl (cy 0, 24, .inl (fun _ => 0))), (q21, .inl (cy 0, 12, .inl (fun _ => 0))), (q29, .inl (cy 0, 48, .inl (fun _ => 0))), (q36, .inl (cy 0, 5, .inl (fun _ => 0)))]) H := hP
  have hD : va_D A ([(b, .inr (4, [.int 0, .int 0, .int 0, .int 20, .ref q13, .ref q21, .ref q29, .ref q36])), (q13, .inl (cy 0, 24, .inl (fun _ => 0))), (q21, .inl (cy 0, 12, .inl (fun _ => 0))), (q29, .inl (cy 0, 48, .inl (fun _ => 0))), (q36, .inl (cy 0, 5, .inl (fun _ => 0)))]) := hD
  have e : mw cy b (adT q13 q21 q29 q36) 0 0 0 (fun _ _ => 0) (fun _ _ => 0) (fun _ => 0) nu0 = [(b, .inr (4, [.int 0, .int 0, .int 0, .int 20, .ref q13, .ref q21, .ref q29, .ref q36])), (q13, .inl (cy 0, 24, .inl (fun _ => 0))), (q21, .inl (cy 0, 12, .inl (fun _ => 0))), (q29, .inl (cy 0, 48, .inl (fun _ => 0))), (q36, .inl (cy 0, 5, .inl (fun _ => 0)))] := by unfold mw; rw [fN_nu0]; rfl
  exact xrv (adT q13 q21 q29 q36) hx hb hr hlocks hS (Nat.le_of_ble_eq_true rfl) (Nat.le_of_ble_eq_true rfl) dX4_init_41 (by rw [e]; exact hP) (by rw [e]; exact hD) rfl trivial
