/-! ===== the town: hours (laid by gen13.py) ===== -/
theorem t_eq {k c : Nat} (hk : k < 24) (hc : c < 24) (h : nI k = nI c) : k = c := (nI_eq (by omega) (by omega)).mp h
set_option maxHeartbeats 4000000 in
set_option maxRecDepth 100000 in
/-- goThroughHour -/
theorem c_X2_goThroughHour (l : Launch) (D : va_G) (cy : Nat → ClassId) (ad : Nat → Nat) (nS nB : Nat) (u : TS) (gate : Iu) (h k : Nat) (eh : u.2.2 0 = nI h) (hh : h < 2 ^ 31) (hk : h % 24 = k) (hcS : nS ≤ 4) (hcB : nB ≤ 6) (hof : ∀ j, j < nB → ∃ i, i < nS ∧ u.2.1 j 0 = nI i) : xM l D cy yX2_goThroughHour wsX2_goThroughHour ({ frames := 4, cells := 0, slots := 0, locals := 120 } : Room) [.ref (ad 0)] (tw cy ad nS nB u.1 u.2.1 gate u.2.2) (fun _ : Unit => some (.int (hUnfed nS nB k gate u))) (fun _ => True) (fun _ => tw cy ad nS nB (hour1 nS nB k gate u).1 (hour1 nS nB k gate u).2.1 gate (hour1 nS nB k gate u).2.2) := by
  refine xM.of cX2_goThroughHour 3 (some .int) RX2 (by decide +kernel) rfl rfl (Nat.le_of_ble_eq_true rfl) ?_
  intro p e s m below meth c A ls hx hb hr hts hown hlocks hml hin hK hA hP hD hS hl
  have hl : lv_has ls 3 [(0, .ref (ad 0))] := hl
  have hinX2 : ∀ w ∈ wsX20, w ∈ wsX2_goThroughHour := fun _ h => List.mem_cons_of_mem _ (List.mem_append_left _ (List.mem_append_left _ (List.mem_append_right _ h)))
  refine lv_aload_n hx hb dX2_goThroughHour_0 rfl (lv_at hl 0 rfl) ?_
  refine xcV (As := []) (rest := []) ⟨hx, hb, hml, hown, hts⟩ (c_X2_hourOfDay l D cy ad nS nB u.1 u.2.1 gate u.2.2 h eh hh) (cwV 0 hts gX2_goThroughHour_X2_hourOfDay rfl rfl rfl (by decide +kernel) ⟨Nat.le_of_ble_eq_true rfl, Nat.le_of_ble_eq_true rfl⟩) hK hP hD hS hA rfl rfl rfl (xE_all) rfl hl.1 rfl (Nat.le_of_ble_eq_true rfl) dX2_goThroughHour_1 ⟨Nat.le_of_ble_eq_true rfl, Nat.le_of_ble_eq_true rfl⟩ (fun _ H locs _ hP hD hS => ?_)
  have hP : va_P D vwCl (tw cy ad nS nB u.1 u.2.1 gate u.2.2) H := hP
  have hD : va_D A (tw cy ad nS nB u.1 u.2.1 gate u.2.2) := hD
  refine W.eq (g2 := F0 m 4 ls [.int (nI k)]) (by rw [← hk]; rfl) ?_
  refine lv_istore_n (lv' := [(1, .int (nI k)), (0, .ref (ad 0))]) hx hb dX2_goThroughHour_4 rfl hl (by decide) rfl (fun ls hl => ?_)
  refine lv_aload_n hx hb dX2_goThroughHour_5 rfl (lv_at hl 1 rfl) ?_
  refine lv_aload_n hx hb dX2_goThroughHour_6 rfl (lv_at hl 1 rfl) ?_
  refine lv_iload_n hx hb dX2_goThroughHour_7 rfl (lv_at hl 0 rfl) ?_
  refine xcV (As := [.int (nI k)]) (rest := [.ref (ad 0)]) ⟨hx, hb, hml, hown, hts⟩ (c_X2_gateAt l D cy ad nS nB u.1 u.2.1 gate u.2.2 k (by omega)) (cwV 1 hts gX2_goThroughHour_X2_gateAt rfl rfl rfl (by decide +kernel) ⟨Nat.le_of_ble_eq_true rfl, Nat.le_of_ble_eq_true rfl⟩) hK hP hD hS hA rfl rfl rfl (xE_all) rfl hl.1 rfl (Nat.le_of_ble_eq_true rfl) dX2_goThroughHour_8 ⟨Nat.le_of_ble_eq_true rfl, Nat.le_of_ble_eq_true rfl⟩ (fun _ H locs _ hP hD hS => ?_)
  have hP : va_P D vwCl (tw cy ad nS nB u.1 u.2.1 gate u.2.2) H := hP
  have hD : va_D A (tw cy ad nS nB u.1 u.2.1 gate u.2.2) := hD
  refine W.eq (g2 := F0 m 11 ls [.int (gate k), .ref (ad 0)]) rfl ?_
  refine xcV (As := [.int (gate k)]) (rest := []) ⟨hx, hb, hml, hown, hts⟩ (c_X2_unloadCarts l D cy ad nS nB u.1 u.2.1 gate u.2.2 (gate k) (by omega)) (cwV 1 hts gX2_goThroughHour_X2_unloadCarts rfl rfl rfl (by decide +kernel) ⟨Nat.le_of_ble_eq_true rfl, Nat.le_of_ble_eq_true rfl⟩) hK hP hD hS hA rfl rfl rfl (xE_all) rfl hl.1 rfl (Nat.le_of_ble_eq_true rfl) dX2_goThroughHour_11 ⟨Nat.le_of_ble_eq_true rfl, Nat.le_of_ble_eq_true rfl⟩ (fun _ H locs _ hP hD hS => ?_)
  have hP : va_P D vwCl (tw cy ad nS nB ((hCart nS (gate k) u).1) ((hCart nS (gate k) u).2.1) gate ((hCart nS (gate k) u).2.2)) H := hP
  have hD : va_D A (tw cy ad nS nB ((hCart nS (gate k) u).1) ((hCart nS (gate k) u).2.1) gate ((hCart nS (gate k) u).2.2)) := hD
  refine W.eq (g2 := F0 m 14 ls []) rfl ?_
  refine lv_iload_n hx hb dX2_goThroughHour_14 rfl (lv_at hl 0 rfl) ?_
  refine lv_if_ne (tgt := 26) hx hb dX2_goThroughHour_15 (by decide) (fun c15 => ?_) (fun c15 => ?_)
  · have k0 : ¬ k = 0 := fun h => c15 (by rw [h]; rfl)
    refine lv_aload_n hx hb dX2_goThroughHour_26 rfl (lv_at hl 1 rfl) ?_
    refine xcV (As := []) (rest := []) ⟨hx, hb, hml, hown, hts⟩ (c_X2_bakeAll l D cy ad nS nB ((hCart nS (gate k) u).1) ((hCart nS (gate k) u).2.1) gate ((hCart nS (gate k) u).2.2) (by omega)) (cwV 0 hts gX2_goThroughHour_X2_bakeAll rfl rfl rfl (by decide +kernel) ⟨Nat.le_of_ble_eq_true rfl, Nat.le_of_ble_eq_true rfl⟩) hK hP hD hS hA rfl rfl rfl (xE_all) rfl hl.1 rfl (Nat.le_of_ble_eq_true rfl) dX2_goThroughHour_27 ⟨Nat.le_of_ble_eq_true rfl, Nat.le_of_ble_eq_true rfl⟩ (fun _ H locs _ hP hD hS => ?_)
    have hP : va_P D vwCl (tw cy ad nS nB ((hBake nB (hCart nS (gate k) u)).1) ((hBake nB (hCart nS (gate k) u)).2.1) gate ((hBake nB (hCart nS (gate k) u)).2.2)) H := hP
    have hD : va_D A (tw cy ad nS nB ((hBake nB (hCart nS (gate k) u)).1) ((hBake nB (hCart nS (gate k) u)).2.1) gate ((hBake nB (hCart nS (gate k) u)).2.2)) := hD
    refine W.eq (g2 := F0 m 30 ls []) rfl ?_
    have em : hMorn nS nB k gate u = hBake nB (hCart nS (gate k) u) := by unfold hMorn; rw [if_neg k0]
    have hP : va_P D vwCl (tw cy ad nS nB ((hMorn nS nB k gate u).1) ((hMorn nS nB k gate u).2.1) gate ((hMorn nS nB k gate u).2.2)) H := by rw [em]; exact hP
    have hD : va_D A (tw cy ad nS nB ((hMorn nS nB k gate u).1) ((hMorn nS nB k gate u).2.1) gate ((hMorn nS nB k gate u).2.2)) := by rw [em]; exact hD
    refine lv_iload_n hx hb dX2_goThroughHour_30 rfl (lv_at hl 0 rfl) ?_
    refine lv_bipush (v := 12) hx hb dX2_goThroughHour_31 (by decide) ?_
    refine lv_icmp_ne (tgt := 43) hx hb dX2_goThroughHour_33 (by decide) (fun c33 => ?_) (fun c33 => ?_)
    · have k12 : ¬ k = 12 := fun h => c33 (by rw [h]; rfl)
      refine lv_iconst (v := 0) hx hb dX2_goThroughHour_43 (by decide) ?_
      refine lv_istore_n (lv' := [(2, .int 0), (1, .int (nI k)), (0, .ref (ad 0))]) hx hb dX2_goThroughHour_44 rfl hl (by decide) rfl (fun ls hl => ?_)
      refine lv_aload_n hx hb dX2_goThroughHour_45 rfl (lv_at hl 2 rfl) ?_
      refine lv_dup hx hb dX2_goThroughHour_46 rfl ?_
      refine va_get (D := D) (ci := 2) (v := .int (((hMorn nS nB k gate u).2.2) 0)) (C := RX2) (T := TX2) (N := 9) hx hb hts hinX2 hown hK.1 hP 0 rfl rfl 3 (by decide) (hts (.fieldLink RX2 31 "LoafMarks$Town" "hour" "I") (List.mem_of_getElem? (i := 1) rfl)) (fun _ h9 => h9) rfl dX2_goThroughHour_47 ?_
      refine lv_iconst (v := 1) hx hb dX2_goThroughHour_50 (by decide) ?_
      refine lv_iadd hx hb dX2_goThroughHour_51 ?_
      refine va_put (D := D) (ci := 2) (v := .int ((((hMorn nS nB k gate u).2.2) 0) + 1)) (ty := .int) (C := RX2) (T := TX2) (N := 9) hx hb hts hinX2 tyX2 tyX2_ok nmX2 hown hK.1 hP hD hS 0 rfl rfl 3 (by decide) (hts (.fieldLink RX2 31 "LoafMarks$Town" "hour" "I") (List.mem_of_getElem? (i := 1) rfl)) (fun _ h9 => h9) rfl (by decide +kernel) rfl rfl (Nat.le_of_ble_eq_true rfl) dX2_goThroughHour_52 (fun H locs hP hD hS => ?_)
      have hP : va_P D vwCl (tw cy ad nS nB ((hMorn nS nB k gate u).1) ((hMorn nS nB k gate u).2.1) gate (upd ((hMorn nS nB k gate u).2.2) 0 ((((hMorn nS nB k gate u).2.2) 0) + 1))) H := hP
      have hD : va_D A (tw cy ad nS nB ((hMorn nS nB k gate u).1) ((hMorn nS nB k gate u).2.1) gate (upd ((hMorn nS nB k gate u).2.2) 0 ((((hMorn nS nB k gate u).2.2) 0) + 1))) := hD
      refine lv_iload_n hx hb dX2_goThroughHour_55 rfl (lv_at hl 0 rfl) ?_
      have e : hour1 nS nB k gate u = hTick (hMorn nS nB k gate u) := by unfold hour1 hSale; rw [if_neg k12]
      exact xri () hx hb hr hlocks hS (Nat.le_of_ble_eq_true rfl) (Nat.le_of_ble_eq_true rfl) dX2_goThroughHour_56 (by rw [e]; exact hP) (by rw [e]; exact hD) (by show some (Value.int (hUnfed nS nB k gate u)) = _; unfold hUnfed; rw [if_neg k12]) trivial
    · have k12 : k = 12 := t_eq (by omega) (by omega) c33
      refine lv_aload_n hx hb dX2_goThroughHour_36 rfl (lv_at hl 1 rfl) ?_
      refine xcV (As := []) (rest := []) ⟨hx, hb, hml, hown, hts⟩ (c_X2_sellAtNoon l D cy ad nS nB (hMorn nS nB k gate u).1 (hMorn nS nB k gate u).2.1 gate (hMorn nS nB k gate u).2.2 (by omega)) (cwV 0 hts gX2_goThroughHour_X2_sellAtNoon rfl rfl rfl (by decide +kernel) ⟨Nat.le_of_ble_eq_true rfl, Nat.le_of_ble_eq_true rfl⟩) hK hP hD hS hA rfl rfl rfl (xE_all) rfl hl.1 rfl (Nat.le_of_ble_eq_true rfl) dX2_goThroughHour_37 ⟨Nat.le_of_ble_eq_true rfl, Nat.le_of_ble_eq_true rfl⟩ (fun _ H locs _ hP hD hS => ?_)
      have hP : va_P D vwCl (tw cy ad nS nB ((hNoon nB (hMorn nS nB k gate u)).1) ((hNoon nB (hMorn nS nB k gate u)).2.1) gate ((hNoon nB (hMorn nS nB k gate u)).2.2)) H := hP
      have hD : va_D A (tw cy ad nS nB ((hNoon nB (hMorn nS nB k gate u)).1) ((hNoon nB (hMorn nS nB k gate u)).2.1) gate ((hNoon nB (hMorn nS nB k gate u)).2.2)) := hD
      refine W.eq (g2 := F0 m 40 ls [.int (hLeft nB (hMorn nS nB k gate u))]) rfl ?_
      refine lv_goto (tgt := 44) hx hb dX2_goThroughHour_40 (by decide) ?_
      refine lv_istore_n (lv' := [(2, .int (hLeft nB (hMorn nS nB k gate u))), (1, .int (nI k)), (0, .ref (ad 0))]) hx hb dX2_goThroughHour_44 rfl hl (by decide) rfl (fun ls hl => ?_)
      refine lv_aload_n hx hb dX2_goThroughHour_45 rfl (lv_at hl 2 rfl) ?_
      refine lv_dup hx hb dX2_goThroughHour_46 rfl ?_
      refine va_get (D := D) (ci := 2) (v := .int (((hNoon nB (hMorn nS nB k gate u)).2.2) 0)) (C := RX2) (T := TX2) (N := 9) hx hb hts hinX2 hown hK.1 hP 0 rfl rfl 3 (by decide) (hts (.fieldLink RX2 31 "LoafMarks$Town" "hour" "I") (List.mem_of_getElem? (i := 1) rfl)) (fun _ h9 => h9) rfl dX2_goThroughHour_47 ?_
      refine lv_iconst (v := 1) hx hb dX2_goThroughHour_50 (by decide) ?_
      refine lv_iadd hx hb dX2_goThroughHour_51 ?_
      refine va_put (D := D) (ci := 2) (v := .int ((((hNoon nB (hMorn nS nB k gate u)).2.2) 0) + 1)) (ty := .int) (C := RX2) (T := TX2) (N := 9) hx hb hts hinX2 tyX2 tyX2_ok nmX2 hown hK.1 hP hD hS 0 rfl rfl 3 (by decide) (hts (.fieldLink RX2 31 "LoafMarks$Town" "hour" "I") (List.mem_of_getElem? (i := 1) rfl)) (fun _ h9 => h9) rfl (by decide +kernel) rfl rfl (Nat.le_of_ble_eq_true rfl) dX2_goThroughHour_52 (fun H locs hP hD hS => ?_)
      have hP : va_P D vwCl (tw cy ad nS nB ((hNoon nB (hMorn nS nB k gate u)).1) ((hNoon nB (hMorn nS nB k gate u)).2.1) gate (upd ((hNoon nB (hMorn nS nB k gate u)).2.2) 0 ((((hNoon nB (hMorn nS nB k gate u)).2.2) 0) + 1))) H := hP
      have hD : va_D A (tw cy ad nS nB ((hNoon nB (hMorn nS nB k gate u)).1) ((hNoon nB (hMorn nS nB k gate u)).2.1) gate (upd ((hNoon nB (hMorn nS nB k gate u)).2.2) 0 ((((hNoon nB (hMorn nS nB k gate u)).2.2) 0) + 1))) := hD
      refine lv_iload_n hx hb dX2_goThroughHour_55 rfl (lv_at hl 0 rfl) ?_
      have e : hour1 nS nB k gate u = hTick (hNoon nB (hMorn nS nB k gate u)) := by unfold hour1 hSale; rw [if_pos k12]
      exact xri () hx hb hr hlocks hS (Nat.le_of_ble_eq_true rfl) (Nat.le_of_ble_eq_true rfl) dX2_goThroughHour_56 (by rw [e]; exact hP) (by rw [e]; exact hD) (by show some (Value.int (hUnfed nS nB k gate u)) = _; unfold hUnfed; rw [if_pos k12]) trivial
  · have k0 : k = 0 := t_eq (by omega) (by omega) c15
    refine lv_aload_n hx hb dX2_goThroughHour_18 rfl (lv_at hl 1 rfl) ?_
    refine xcV (As := []) (rest := []) ⟨hx, hb, hml, hown, hts⟩ (c_X2_dealRations l D cy ad nS nB (hCart nS (gate k) u).1 (hCart nS (gate k) u).2.1 gate (hCart nS (gate k) u).2.2 (by omega) (by omega) (by rw [hCart_bk]; exact hof)) (cwV 0 hts gX2_goThroughHour_X2_dealRations rfl rfl rfl (by decide +kernel) ⟨Nat.le_of_ble_eq_true rfl, Nat.le_of_ble_eq_true rfl⟩) hK hP hD hS hA rfl rfl rfl (xE_all) rfl hl.1 rfl (Nat.le_of_ble_eq_true rfl) dX2_goThroughHour_19 ⟨Nat.le_of_ble_eq_true rfl, Nat.le_of_ble_eq_true rfl⟩ (fun _ H locs _ hP hD hS => ?_)
    have hP : va_P D vwCl (tw cy ad nS nB ((dlN ((hCart nS (gate k) u).1, (hCart nS (gate k) u).2.1) nB).1) ((dlN ((hCart nS (gate k) u).1, (hCart nS (gate k) u).2.1) nB).2) gate ((hCart nS (gate k) u).2.2)) H := hP
    have hD : va_D A (tw cy ad nS nB ((dlN ((hCart nS (gate k) u).1, (hCart nS (gate k) u).2.1) nB).1) ((dlN ((hCart nS (gate k) u).1, (hCart nS (gate k) u).2.1) nB).2) gate ((hCart nS (gate k) u).2.2)) := hD
    refine W.eq (g2 := F0 m 22 ls []) rfl ?_
    refine lv_aload_n hx hb dX2_goThroughHour_22 rfl (lv_at hl 1 rfl) ?_
    refine xcV (As := []) (rest := []) ⟨hx, hb, hml, hown, hts⟩ (c_X2_feedAllWeevils l D cy ad nS nB ((dlN ((hCart nS (gate k) u).1, (hCart nS (gate k) u).2.1) nB).1) ((dlN ((hCart nS (gate k) u).1, (hCart nS (gate k) u).2.1) nB).2) gate ((hCart nS (gate k) u).2.2) (by omega)) (cwV 0 hts gX2_goThroughHour_X2_feedAllWeevils rfl rfl rfl (by decide +kernel) ⟨Nat.le_of_ble_eq_true rfl, Nat.le_of_ble_eq_true rfl⟩) hK hP hD hS hA rfl rfl rfl (xE_all) rfl hl.1 rfl (Nat.le_of_ble_eq_true rfl) dX2_goThroughHour_23 ⟨Nat.le_of_ble_eq_true rfl, Nat.le_of_ble_eq_true rfl⟩ (fun _ H locs _ hP hD hS => ?_)
    have hP : va_P D vwCl (tw cy ad nS nB ((hNight nS nB (hCart nS (gate k) u)).1) ((hNight nS nB (hCart nS (gate k) u)).2.1) gate ((hNight nS nB (hCart nS (gate k) u)).2.2)) H := hP
    have hD : va_D A (tw cy ad nS nB ((hNight nS nB (hCart nS (gate k) u)).1) ((hNight nS nB (hCart nS (gate k) u)).2.1) gate ((hNight nS nB (hCart nS (gate k) u)).2.2)) := hD
    refine W.eq (g2 := F0 m 26 ls []) rfl ?_
    refine lv_aload_n hx hb dX2_goThroughHour_26 rfl (lv_at hl 1 rfl) ?_
    refine xcV (As := []) (rest := []) ⟨hx, hb, hml, hown, hts⟩ (c_X2_bakeAll l D cy ad nS nB ((hNight nS nB (hCart nS (gate k) u)).1) ((hNight nS nB (hCart nS (gate k) u)).2.1) gate ((hNight nS nB (hCart nS (gate k) u)).2.2) (by omega)) (cwV 0 hts gX2_goThroughHour_X2_bakeAll rfl rfl rfl (by decide +kernel) ⟨Nat.le_of_ble_eq_true rfl, Nat.le_of_ble_eq_true rfl⟩) hK hP hD hS hA rfl rfl rfl (xE_all) rfl hl.1 rfl (Nat.le_of_ble_eq_true rfl) dX2_goThroughHour_27 ⟨Nat.le_of_ble_eq_true rfl, Nat.le_of_ble_eq_true rfl⟩ (fun _ H locs _ hP hD hS => ?_)
    have hP : va_P D vwCl (tw cy ad nS nB ((hBake nB (hNight nS nB (hCart nS (gate k) u))).1) ((hBake nB (hNight nS nB (hCart nS (gate k) u))).2.1) gate ((hBake nB (hNight nS nB (hCart nS (gate k) u))).2.2)) H := hP
    have hD : va_D A (tw cy ad nS nB ((hBake nB (hNight nS nB (hCart nS (gate k) u))).1) ((hBake nB (hNight nS nB (hCart nS (gate k) u))).2.1) gate ((hBake nB (hNight nS nB (hCart nS (gate k) u))).2.2)) := hD
    refine W.eq (g2 := F0 m 30 ls []) rfl ?_
    have em : hMorn nS nB k gate u = hBake nB (hNight nS nB (hCart nS (gate k) u)) := by unfold hMorn; rw [if_pos k0]
    have hP : va_P D vwCl (tw cy ad nS nB ((hMorn nS nB k gate u).1) ((hMorn nS nB k gate u).2.1) gate ((hMorn nS nB k gate u).2.2)) H := by rw [em]; exact hP
    have hD : va_D A (tw cy ad nS nB ((hMorn nS nB k gate u).1) ((hMorn nS nB k gate u).2.1) gate ((hMorn nS nB k gate u).2.2)) := by rw [em]; exact hD
    refine lv_iload_n hx hb dX2_goThroughHour_30 rfl (lv_at hl 0 rfl) ?_
    refine lv_bipush (v := 12) hx hb dX2_goThroughHour_31 (by decide) ?_
    refine lv_icmp_ne (tgt := 43) hx hb dX2_goThroughHour_33 (by decide) (fun c33 => ?_) (fun c33 => ?_)
    · have k12 : ¬ k = 12 := fun h => c33 (by rw [h]; rfl)
      refine lv_iconst (v := 0) hx hb dX2_goThroughHour_43 (by decide) ?_
      refine lv_istore_n (lv' := [(2, .int 0), (1, .int (nI k)), (0, .ref (ad 0))]) hx hb dX2_goThroughHour_44 rfl hl (by decide) rfl (fun ls hl => ?_)
      refine lv_aload_n hx hb dX2_goThroughHour_45 rfl (lv_at hl 2 rfl) ?_
      refine lv_dup hx hb dX2_goThroughHour_46 rfl ?_
      refine va_get (D := D) (ci := 2) (v := .int (((hMorn nS nB k gate u).2.2) 0)) (C := RX2) (T := TX2) (N := 9) hx hb hts hinX2 hown hK.1 hP 0 rfl rfl 3 (by decide) (hts (.fieldLink RX2 31 "LoafMarks$Town" "hour" "I") (List.mem_of_getElem? (i := 1) rfl)) (fun _ h9 => h9) rfl dX2_goThroughHour_47 ?_
      refine lv_iconst (v := 1) hx hb dX2_goThroughHour_50 (by decide) ?_
      refine lv_iadd hx hb dX2_goThroughHour_51 ?_
      refine va_put (D := D) (ci := 2) (v := .int ((((hMorn nS nB k gate u).2.2) 0) + 1)) (ty := .int) (C := RX2) (T := TX2) (N := 9) hx hb hts hinX2 tyX2 tyX2_ok nmX2 hown hK.1 hP hD hS 0 rfl rfl 3 (by decide) (hts (.fieldLink RX2 31 "LoafMarks$Town" "hour" "I") (List.mem_of_getElem? (i := 1) rfl)) (fun _ h9 => h9) rfl (by decide +kernel) rfl rfl (Nat.le_of_ble_eq_true rfl) dX2_goThroughHour_52 (fun H locs hP hD hS => ?_)
      have hP : va_P D vwCl (tw cy ad nS nB ((hMorn nS nB k gate u).1) ((hMorn nS nB k gate u).2.1) gate (upd ((hMorn nS nB k gate u).2.2) 0 ((((hMorn nS nB k gate u).2.2) 0) + 1))) H := hP
      have hD : va_D A (tw cy ad nS nB ((hMorn nS nB k gate u).1) ((hMorn nS nB k gate u).2.1) gate (upd ((hMorn nS nB k gate u).2.2) 0 ((((hMorn nS nB k gate u).2.2) 0) + 1))) := hD
      refine lv_iload_n hx hb dX2_goThroughHour_55 rfl (lv_at hl 0 rfl) ?_
      have e : hour1 nS nB k gate u = hTick (hMorn nS nB k gate u) := by unfold hour1 hSale; rw [if_neg k12]
      exact xri () hx hb hr hlocks hS (Nat.le_of_ble_eq_true rfl) (Nat.le_of_ble_eq_true rfl) dX2_goThroughHour_56 (by rw [e]; exact hP) (by rw [e]; exact hD) (by show some (Value.int (hUnfed nS nB k gate u)) = _; unfold hUnfed; rw [if_neg k12]) trivial
    · have k12 : k = 12 := t_eq (by omega) (by omega) c33
      refine lv_aload_n hx hb dX2_goThroughHour_36 rfl (lv_at hl 1 rfl) ?_
      refine xcV (As := []) (rest := []) ⟨hx, hb, hml, hown, hts⟩ (c_X2_sellAtNoon l D cy ad nS nB (hMorn nS nB k gate u).1 (hMorn nS nB k gate u).2.1 gate (hMorn nS nB k gate u).2.2 (by omega)) (cwV 0 hts gX2_goThroughHour_X2_sellAtNoon rfl rfl rfl (by decide +kernel) ⟨Nat.le_of_ble_eq_true rfl, Nat.le_of_ble_eq_true rfl⟩) hK hP hD hS hA rfl rfl rfl (xE_all) rfl hl.1 rfl (Nat.le_of_ble_eq_true rfl) dX2_goThroughHour_37 ⟨Nat.le_of_ble_eq_true rfl, Nat.le_of_ble_eq_true rfl⟩ (fun _ H locs _ hP hD hS => ?_)
      have hP : va_P D vwCl (tw cy ad nS nB ((hNoon nB (hMorn nS nB k gate u)).1) ((hNoon nB (hMorn nS nB k gate u)).2.1) gate ((hNoon nB (hMorn nS nB k gate u)).2.2)) H := hP
      have hD : va_D A (tw cy ad nS nB ((hNoon nB (hMorn nS nB k gate u)).1) ((hNoon nB (hMorn nS nB k gate u)).2.1) gate ((hNoon nB (hMorn nS nB k gate u)).2.2)) := hD
      refine W.eq (g2 := F0 m 40 ls [.int (hLeft nB (hMorn nS nB k gate u))]) rfl ?_
      refine lv_goto (tgt := 44) hx hb dX2_goThroughHour_40 (by decide) ?_
      refine lv_istore_n (lv' := [(2, .int (hLeft nB (hMorn nS nB k gate u))), (1, .int (nI k)), (0, .ref (ad 0))]) hx hb dX2_goThroughHour_44 rfl hl (by decide) rfl (fun ls hl => ?_)
      refine lv_aload_n hx hb dX2_goThroughHour_45 rfl (lv_at hl 2 rfl) ?_
      refine lv_dup hx hb dX2_goThroughHour_46 rfl ?_
      refine va_get (D := D) (ci := 2) (v := .int (((hNoon nB (hMorn nS nB k gate u)).2.2) 0)) (C := RX2) (T := TX2) (N := 9) hx hb hts hinX2 hown hK.1 hP 0 rfl rfl 3 (by decide) (hts (.fieldLink RX2 31 "LoafMarks$Town" "hour" "I") (List.mem_of_getElem? (i := 1) rfl)) (fun _ h9 => h9) rfl dX2_goThroughHour_47 ?_
      refine lv_iconst (v := 1) hx hb dX2_goThroughHour_50 (by decide) ?_
      refine lv_iadd hx hb dX2_goThroughHour_51 ?_
      refine va_put (D := D) (ci := 2) (v := .int ((((hNoon nB (hMorn nS nB k gate u)).2.2) 0) + 1)) (ty := .int) (C := RX2) (T := TX2) (N := 9) hx hb hts hinX2 tyX2 tyX2_ok nmX2 hown hK.1 hP hD hS 0 rfl rfl 3 (by decide) (hts (.fieldLink RX2 31 "LoafMarks$Town" "hour" "I") (List.mem_of_getElem? (i := 1) rfl)) (fun _ h9 => h9) rfl (by decide +kernel) rfl rfl (Nat.le_of_ble_eq_true rfl) dX2_goThroughHour_52 (fun H locs hP hD hS => ?_)
      have hP : va_P D vwCl (tw cy ad nS nB ((hNoon nB (hMorn nS nB k gate u)).1) ((hNoon nB (hMorn nS nB k gate u)).2.1) gate (upd ((hNoon nB (hMorn nS nB k gate u)).2.2) 0 ((((hNoon nB (hMorn nS nB k gate u)).2.2) 0) + 1))) H := hP
      have hD : va_D A (tw cy ad nS nB ((hNoon nB (hMorn nS nB k gate u)).1) ((hNoon nB (hMorn nS nB k gate u)).2.1) gate (upd ((hNoon nB (hMorn nS nB k gate u)).2.2) 0 ((((hNoon nB (hMorn nS nB k gate u)).2.2) 0) + 1))) := hD
      refine lv_iload_n hx hb dX2_goThroughHour_55 rfl (lv_at hl 0 rfl) ?_
      have e : hour1 nS nB k gate u = hTick (hNoon nB (hMorn nS nB k gate u)) := by unfold hour1 hSale; rw [if_pos k12]
      exact xri () hx hb hr hlocks hS (Nat.le_of_ble_eq_true rfl) (Nat.le_of_ble_eq_true rfl) dX2_goThroughHour_56 (by rw [e]; exact hP) (by rw [e]; exact hD) (by show some (Value.int (hUnfed nS nB k gate u)) = _; unfold hUnfed; rw [if_pos k12]) trivial

set_option maxHeartbeats 4000000 in
set_option maxRecDepth 100000 in
/-- goThrough -/
theorem c_X2_goThrough (l : Launch) (D : va_G) (cy : Nat → ClassId) (ad : Nat → Nat) (nS nB : Nat) (u : TS) (gate : Iu) (h n : Nat) (eh : u.2.2 0 = nI h) (hh : h + n < 2 ^ 31) (hcS : nS ≤ 4) (hcB : nB ≤ 6) (hof : ∀ j, j < nB → ∃ i, i < nS ∧ u.2.1 j 0 = nI i) : xM l D cy yX2_goThrough wsX2_goThrough ({ frames := 5, cells := 0, slots := 0, locals := 150 } : Room) [.ref (ad 0), .int (nI n)] (tw cy ad nS nB u.1 u.2.1 gate u.2.2) (fun _ : Unit => some (.int (unf nS nB h gate u n))) (fun _ => True) (fun _ => tw cy ad nS nB (hrs nS nB h gate u n).1 (hrs nS nB h gate u n).2.1 gate (hrs nS nB h gate u n).2.2) := by
  refine xM.of cX2_goThrough 4 (some .int) RX2 (by decide +kernel) rfl rfl (Nat.le_of_ble_eq_true rfl) ?_
  intro p e s m below meth c A ls hx hb hr hts hown hlocks hml hin hK hA hP hD hS hl
  have hl : lv_has ls 4 [(0, .ref (ad 0)), (1, .int (nI n))] := hl
  refine lv_iconst (v := 0) hx hb dX2_goThrough_0 (by decide) ?_
  refine lv_istore_n (lv' := [(2, .int 0), (0, .ref (ad 0)), (1, .int (nI n))]) hx hb dX2_goThrough_1 rfl hl (by decide) rfl (fun ls hl => ?_)
  refine lv_iconst (v := 0) hx hb dX2_goThrough_2 (by decide) ?_
  refine lv_istore_n (lv' := [(3, .int 0), (2, .int 0), (0, .ref (ad 0)), (1, .int (nI n))]) hx hb dX2_goThrough_3 rfl hl (by decide) rfl (fun ls hl => ?_)
  have loop : ∀ (k i : Nat)  (H : Heap) (locs : List Loc) (ls : Array Slot), i + k = n → va_P D vwCl (tw cy ad nS nB ((hrs nS nB h gate u i).1) ((hrs nS nB h gate u i).2.1) gate ((hrs nS nB h gate u i).2.2)) H → va_D A (tw cy ad nS nB ((hrs nS nB h gate u i).1) ((hrs nS nB h gate u i).2.1) gate ((hrs nS nB h gate u i).2.2)) → va_S A s.heap H locs → lv_has ls 4 [(0, .ref (ad 0)), (1, .int (nI n)), (2, .int (unf nS nB h gate u i)), (3, .int (nI i))] → W p l e ({ frames := 5, cells := 0, slots := 0, locals := 150 } : Room) s m ([.ref (ad 0), .int (nI n)] : List Value).toArray below meth c H locs 0 0 (MQ below (xQ D A (fun _ : Unit => some (.int (unf nS nB h gate u n))) (fun _ => True) (fun _ => tw cy ad nS nB (hrs nS nB h gate u n).1 (hrs nS nB h gate u n).2.1 gate (hrs nS nB h gate u n).2.2)) ([.ref (ad 0), .int (nI n)] : List Value).toArray s 0 0 A) (F0 m 4 ls []) := by
    intro k
    induction k with
    | zero =>
      intro i  H locs ls hns hP hD hS hl
      have hii : i = n := by omega
      refine lv_iload_n hx hb dX2_goThrough_4 rfl (lv_at hl 3 rfl) ?_
      refine lv_iload_n hx hb dX2_goThrough_5 rfl (lv_at hl 1 rfl) ?_
      refine lv_icmp_ge (tgt := 22) hx hb dX2_goThrough_6 (by decide) (fun _ => ?_) (fun h => absurd (by rw [hii]; exact Int32.le_refl _) h)
      refine lv_iload_n hx hb dX2_goThrough_22 rfl (lv_at hl 2 rfl) ?_
      subst hii
      exact xri () hx hb hr hlocks hS (Nat.le_of_ble_eq_true rfl) (Nat.le_of_ble_eq_true rfl) dX2_goThrough_23 hP hD rfl trivial
    | succ k ih =>
      intro i  H locs ls hns hP hD hS hl
      have hlt : i < n := by omega
      refine lv_iload_n hx hb dX2_goThrough_4 rfl (lv_at hl 3 rfl) ?_
      refine lv_iload_n hx hb dX2_goThrough_5 rfl (lv_at hl 1 rfl) ?_
      refine lv_icmp_ge (tgt := 22) hx hb dX2_goThrough_6 (by decide) (fun h => absurd h (nI_ge (b := n) hlt (by omega))) (fun _ => ?_)
      refine lv_iload_n hx hb dX2_goThrough_9 rfl (lv_at hl 2 rfl) ?_
      refine lv_aload_n hx hb dX2_goThrough_10 rfl (lv_at hl 0 rfl) ?_
      refine xcV (As := []) (rest := [.int (unf nS nB h gate u i)]) ⟨hx, hb, hml, hown, hts⟩ (c_X2_goThroughHour l D cy ad nS nB (hrs nS nB h gate u i) gate (h + i) ((h + i) % 24) (hrs_hour nS nB h gate u eh i) (by omega) rfl hcS hcB (fun j hj => by rw [hrs_of]; exact hof j hj)) (cwV 0 hts gX2_goThrough_X2_goThroughHour rfl rfl rfl (by decide +kernel) ⟨Nat.le_of_ble_eq_true rfl, Nat.le_of_ble_eq_true rfl⟩) hK hP hD hS hA rfl rfl rfl (xE_all) rfl hl.1 rfl (Nat.le_of_ble_eq_true rfl) dX2_goThrough_11 ⟨Nat.le_of_ble_eq_true rfl, Nat.le_of_ble_eq_true rfl⟩ (fun _ H locs _ hP hD hS => ?_)
      have hP : va_P D vwCl (tw cy ad nS nB ((hrs nS nB h gate u (i + 1)).1) ((hrs nS nB h gate u (i + 1)).2.1) gate ((hrs nS nB h gate u (i + 1)).2.2)) H := hP
      have hD : va_D A (tw cy ad nS nB ((hrs nS nB h gate u (i + 1)).1) ((hrs nS nB h gate u (i + 1)).2.1) gate ((hrs nS nB h gate u (i + 1)).2.2)) := hD
      refine W.eq (g2 := F0 m 14 ls [.int (hUnfed nS nB ((h + i) % 24) gate (hrs nS nB h gate u i)), .int (unf nS nB h gate u i)]) rfl ?_
      refine lv_iadd hx hb dX2_goThrough_14 ?_
      refine lv_istore_n (lv' := [(2, .int ((unf nS nB h gate u i) + (hUnfed nS nB ((h + i) % 24) gate (hrs nS nB h gate u i)))), (0, .ref (ad 0)), (1, .int (nI n)), (3, .int (nI i))]) hx hb dX2_goThrough_15 rfl hl (by decide) rfl (fun ls hl => ?_)
      refine lv_iinc (v := (nI (i + 1))) (lv' := [(3, .int (nI (i + 1))), (2, .int ((unf nS nB h gate u i) + (hUnfed nS nB ((h + i) % 24) gate (hrs nS nB h gate u i)))), (0, .ref (ad 0)), (1, .int (nI n))]) hx hb dX2_goThrough_16 hl (k := 3) rfl ((nI_1 i)) (by decide) rfl (fun ls hl => ?_)
      refine lv_goto (tgt := 4) hx hb dX2_goThrough_19 (by decide) ?_
      exact ih (i + 1)  _ _ _ (by omega) hP hD hS (lv_sub hl [2, 3, 1, 0] rfl)
  exact loop n 0  _ _ _ (by omega) hP hD hS (lv_sub hl [2, 3, 1, 0] rfl)
