/-! ===== the town: reads (laid by gen11.py) ===== -/
theorem x_nI {x : Int32} (h : ¬ x < 0) : x = nI x.toNatClampNeg := by
  obtain ⟨j, hj, rfl⟩ := nI_of h
  rw [nI_clamp hj]
theorem x_lt {x : Int32} (h : ¬ x < 0) {N : Nat} (hN : N < 2 ^ 31) (h2 : ¬ nI N ≤ x) : x.toNatClampNeg < N := by
  obtain ⟨j, hj, rfl⟩ := nI_of h
  rw [nI_clamp hj]
  exact Decidable.byContradiction fun g => h2 (nI_le (by omega) hj)
theorem xAt_noneS {ad : Nat → Nat} {nS : Nat} {x : Int32} (hn : nS ≤ 4) (h : x < 0 ∨ (4 : Int32) ≤ x) : va_rf (sAt ad nS x) = .null := by
  unfold sAt
  by_cases h0 : x < 0
  · rw [if_pos h0]; rfl
  · rw [if_neg h0]
    rcases h with h | h
    · exact absurd h h0
    · obtain ⟨j, hj, rfl⟩ := nI_of h0
      rw [nI_clamp hj]
      exact rS_ge (Nat.le_trans hn ((nI_leI (a := 4) (by decide) hj).mp h))
theorem xAt_noneB {ad : Nat → Nat} {nB : Nat} {x : Int32} (hcap : nB ≤ 6) (h : x < 0 ∨ (6 : Int32) ≤ x) : va_rf (bAt ad nB x) = .null := by
  unfold bAt
  by_cases h0 : x < 0
  · rw [if_pos h0]; rfl
  · rw [if_neg h0]
    rcases h with h | h
    · exact absurd h h0
    · obtain ⟨j, hj, rfl⟩ := nI_of h0
      rw [nI_clamp hj]
      exact rB_ge (Nat.le_trans hcap ((nI_leI (a := 6) (by decide) hj).mp h))
theorem sAt_nI {ad : Nat → Nat} {nS i : Nat} (h : i < nS) (h2 : nS ≤ 4) : va_rf (sAt ad nS (nI i)) = .ref (ad (4 + i)) := by
  unfold sAt
  rw [if_neg (nI_pos (by omega)), nI_clamp (by omega)]
  exact rS_lt h
theorem bAt_nI {ad : Nat → Nat} {nB i : Nat} (h : i < nB) (h2 : nB ≤ 6) : va_rf (bAt ad nB (nI i)) = .ref (ad (8 + i)) := by
  unfold bAt
  rw [if_neg (nI_pos (by omega)), nI_clamp (by omega)]
  exact rB_lt h
theorem sAt_none {ad : Nat → Nat} {nS : Nat} {x : Int32} (h : ¬ vp_in x nS) : va_rf (sAt ad nS x) = .null := by
  unfold sAt
  by_cases h0 : x < 0
  · rw [if_pos h0]; rfl
  · rw [if_neg h0]
    exact rS_ge (Decidable.byContradiction fun g => h (fun z => z.elim h0 (fun q => g q)))
theorem bAt_none {ad : Nat → Nat} {nB : Nat} {x : Int32} (h : ¬ vp_in x nB) : va_rf (bAt ad nB x) = .null := by
  unfold bAt
  by_cases h0 : x < 0
  · rw [if_pos h0]; rfl
  · rw [if_neg h0]
    exact rB_ge (Decidable.byContradiction fun g => h (fun z => z.elim h0 (fun q => g q)))
theorem min_l {i n : Nat} (h : i < n) : min i n = i := by omega
theorem min_s {i n : Nat} (h : i < n) : min (i + 1) n = i + 1 := by omega
theorem min_g {i n : Nat} (h : n ≤ i) : min (i + 1) n = min i n := by omega
set_option maxHeartbeats 4000000 in
set_option maxRecDepth 100000 in
/-- gateAt, in the day -/
theorem c_X2_gateAt (l : Launch) (D : va_G) (cy : Nat → ClassId) (ad : Nat → Nat) (nS nB : Nat) (st bk : Nat → Iu) (gate nu : Iu) (k : Nat) (hk : k < 24) : xM l D cy yX2_gateAt wsX2_gateAt ({ frames := 0, cells := 0, slots := 0, locals := 0 } : Room) [.ref (ad 0), .int (nI k)] (tw cy ad nS nB st bk gate nu) (fun _ : Unit => some (.int (gate k))) (fun _ => True) (fun _ => tw cy ad nS nB st bk gate nu) := by
  refine xM.of cX2_gateAt 2 (some .int) RX2 (by decide +kernel) rfl rfl (Nat.le_of_ble_eq_true rfl) ?_
  intro p e s m below meth c A ls hx hb hr hts hown hlocks hml hin hK hA hP hD hS hl
  have hl : lv_has ls 2 [(0, .ref (ad 0)), (1, .int (nI k))] := hl
  have hinX2 : ∀ w ∈ wsX20, w ∈ wsX2_gateAt := fun _ h => List.mem_cons_of_mem _ (List.mem_append_right _ h)
  refine lv_iload_n hx hb dX2_gateAt_0 rfl (lv_at hl 1 rfl) ?_
  refine lv_if_lt (tgt := 22) hx hb dX2_gateAt_1 (by decide) (fun h => absurd h (nI_pos (by omega))) (fun _ => ?_)
  refine lv_iload_n hx hb dX2_gateAt_4 rfl (lv_at hl 1 rfl) ?_
  refine lv_aload_n hx hb dX2_gateAt_5 rfl (lv_at hl 0 rfl) ?_
  refine va_get (D := D) (ci := 2) (v := .ref (ad 1)) (C := RX2) (T := TX2) (N := 9) hx hb hts hinX2 hown hK.1 hP 0 rfl rfl 0 (by decide) (hts (.fieldLink RX2 9 "LoafMarks$Town" "gate" "[I") (List.mem_of_getElem? (i := 1) rfl)) (fun _ h9 => h9) rfl dX2_gateAt_6 ?_
  refine va_alen hx hb hK.1 hP 1 0 rfl rfl (v := 24) rfl dX2_gateAt_9 ?_
  refine lv_icmp_ge (tgt := 22) hx hb dX2_gateAt_10 (by decide) (fun h => absurd h (nI_ge (b := 24) hk (by decide))) (fun _ => ?_)
  refine lv_aload_n hx hb dX2_gateAt_13 rfl (lv_at hl 0 rfl) ?_
  refine va_get (D := D) (ci := 2) (v := .ref (ad 1)) (C := RX2) (T := TX2) (N := 9) hx hb hts hinX2 hown hK.1 hP 0 rfl rfl 0 (by decide) (hts (.fieldLink RX2 9 "LoafMarks$Town" "gate" "[I") (List.mem_of_getElem? (i := 1) rfl)) (fun _ h9 => h9) rfl dX2_gateAt_14 ?_
  refine lv_iload_n hx hb dX2_gateAt_17 rfl (lv_at hl 1 rfl) ?_
  refine xiald hx hb hK hP 1 rfl k rfl (by omega) (by decide) dX2_gateAt_18 ?_
  refine lv_goto (tgt := 23) hx hb dX2_gateAt_19 (by decide) ?_
  exact xri () hx hb hr hlocks hS (Nat.le_of_ble_eq_true rfl) (Nat.le_of_ble_eq_true rfl) dX2_gateAt_23 hP hD rfl trivial

set_option maxHeartbeats 4000000 in
set_option maxRecDepth 100000 in
/-- changeGate, in the day -/
theorem c_X2_changeGate (l : Launch) (D : va_G) (cy : Nat → ClassId) (ad : Nat → Nat) (nS nB : Nat) (st bk : Nat → Iu) (gate nu : Iu) (k : Nat) (hk : k < 24) (p1 : Int32) : xM l D cy yX2_changeGate wsX2_changeGate ({ frames := 1, cells := 0, slots := 0, locals := 30 } : Room) [.ref (ad 0), .int (nI k), .int p1] (tw cy ad nS nB st bk gate nu) (fun _ : Unit => some (.int (gate k))) (fun _ => True) (fun _ => tw cy ad nS nB st bk (upd gate k p1) nu) := by
  refine xM.of cX2_changeGate 4 (some .int) RX2 (by decide +kernel) rfl rfl (Nat.le_of_ble_eq_true rfl) ?_
  intro p e s m below meth c A ls hx hb hr hts hown hlocks hml hin hK hA hP hD hS hl
  have hl : lv_has ls 4 [(0, .ref (ad 0)), (1, .int (nI k)), (2, .int p1)] := hl
  have hinX2 : ∀ w ∈ wsX20, w ∈ wsX2_changeGate := fun _ h => List.mem_cons_of_mem _ (List.mem_append_right _ h)
  refine lv_aload_n hx hb dX2_changeGate_0 rfl (lv_at hl 0 rfl) ?_
  refine lv_iload_n hx hb dX2_changeGate_1 rfl (lv_at hl 1 rfl) ?_
  refine xcV (As := [.int (nI k)]) (rest := []) ⟨hx, hb, hml, hown, hts⟩ (c_X2_gateAt l D cy ad nS nB st bk gate nu k (by omega)) (cwV 1 hts gX2_changeGate_X2_gateAt rfl rfl rfl (by decide +kernel) ⟨Nat.le_of_ble_eq_true rfl, Nat.le_of_ble_eq_true rfl⟩) hK hP hD hS hA rfl rfl rfl (xE_all) rfl hl.1 rfl (Nat.le_of_ble_eq_true rfl) dX2_changeGate_2 ⟨Nat.le_of_ble_eq_true rfl, Nat.le_of_ble_eq_true rfl⟩ (fun _ H locs _ hP hD hS => ?_)
  have hP : va_P D vwCl (tw cy ad nS nB st bk gate nu) H := hP
  have hD : va_D A (tw cy ad nS nB st bk gate nu) := hD
  refine W.eq (g2 := F0 m 5 ls [.int (gate k)]) rfl ?_
  refine lv_istore_n (lv' := [(3, .int (gate k)), (0, .ref (ad 0)), (1, .int (nI k)), (2, .int p1)]) hx hb dX2_changeGate_5 rfl hl (by decide) rfl (fun ls hl => ?_)
  refine lv_iload_n hx hb dX2_changeGate_6 rfl (lv_at hl 2 rfl) ?_
  refine lv_if_lt (tgt := 26) hx hb dX2_changeGate_7 (by decide) (fun h => absurd h (nI_pos (by omega))) (fun _ => ?_)
  refine lv_iload_n hx hb dX2_changeGate_10 rfl (lv_at hl 2 rfl) ?_
  refine lv_aload_n hx hb dX2_changeGate_11 rfl (lv_at hl 1 rfl) ?_
  refine va_get (D := D) (ci := 2) (v := .ref (ad 1)) (C := RX2) (T := TX2) (N := 9) hx hb hts hinX2 hown hK.1 hP 0 rfl rfl 0 (by decide) (hts (.fieldLink RX2 9 "LoafMarks$Town" "gate" "[I") (List.mem_of_getElem? (i := 1) rfl)) (fun _ h9 => h9) rfl dX2_changeGate_12 ?_
  refine va_alen hx hb hK.1 hP 1 0 rfl rfl (v := 24) rfl dX2_changeGate_15 ?_
  refine lv_icmp_ge (tgt := 26) hx hb dX2_changeGate_16 (by decide) (fun h => absurd h (nI_ge (b := 24) hk (by decide))) (fun _ => ?_)
  refine lv_aload_n hx hb dX2_changeGate_19 rfl (lv_at hl 1 rfl) ?_
  refine va_get (D := D) (ci := 2) (v := .ref (ad 1)) (C := RX2) (T := TX2) (N := 9) hx hb hts hinX2 hown hK.1 hP 0 rfl rfl 0 (by decide) (hts (.fieldLink RX2 9 "LoafMarks$Town" "gate" "[I") (List.mem_of_getElem? (i := 1) rfl)) (fun _ h9 => h9) rfl dX2_changeGate_20 ?_
  refine lv_iload_n hx hb dX2_changeGate_23 rfl (lv_at hl 2 rfl) ?_
  refine lv_iload_n hx hb dX2_changeGate_24 rfl (lv_at hl 3 rfl) ?_
  refine xiast hx hb hK hP hD hS 1 rfl k rfl (by omega) (by decide) dX2_changeGate_25 (fun H locs hP hD hS => ?_)
  have hP : va_P D vwCl (tw cy ad nS nB st bk (upd gate k p1) nu) H := hP
  have hD : va_D A (tw cy ad nS nB st bk (upd gate k p1) nu) := hD
  refine lv_iload_n hx hb dX2_changeGate_26 rfl (lv_at hl 0 rfl) ?_
  exact xri () hx hb hr hlocks hS (Nat.le_of_ble_eq_true rfl) (Nat.le_of_ble_eq_true rfl) dX2_changeGate_27 hP hD rfl trivial

set_option maxHeartbeats 4000000 in
set_option maxRecDepth 100000 in
/-- storeAt: any number -/
theorem c_X2_storeAt (l : Launch) (D : va_G) (cy : Nat → ClassId) (ad : Nat → Nat) (nS nB : Nat) (st bk : Nat → Iu) (gate nu : Iu) (p0 : Int32) (hcap : nS ≤ 4) : xM l D cy yX2_storeAt wsX2_storeAt ({ frames := 0, cells := 0, slots := 0, locals := 0 } : Room) [.ref (ad 0), .int p0] (tw cy ad nS nB st bk gate nu) (fun _ : Unit => some (va_rf (sAt ad nS p0))) (fun _ => True) (fun _ => tw cy ad nS nB st bk gate nu) := by
  refine xM.of cX2_storeAt 2 (some (.object "LoafMarks$Store")) RX2 (by decide +kernel) rfl rfl (Nat.le_of_ble_eq_true rfl) ?_
  intro p e s m below meth c A ls hx hb hr hts hown hlocks hml hin hK hA hP hD hS hl
  have hl : lv_has ls 2 [(0, .ref (ad 0)), (1, .int p0)] := hl
  have hinX2 : ∀ w ∈ wsX20, w ∈ wsX2_storeAt := fun _ h => List.mem_cons_of_mem _ (List.mem_append_right _ h)
  refine lv_iload_n hx hb dX2_storeAt_0 rfl (lv_at hl 1 rfl) ?_
  refine lv_if_lt (tgt := 22) hx hb dX2_storeAt_1 (by decide) (fun c1 => ?_) (fun c1 => ?_)
  · refine lv_null hx hb dX2_storeAt_22 ?_
    exact xra () hx hb hr (Or.inl ⟨_, rfl⟩) (Or.inl rfl) hlocks hS (Nat.le_of_ble_eq_true rfl) (Nat.le_of_ble_eq_true rfl) dX2_storeAt_23 hP hD (congrArg some (xAt_noneS hcap (Or.inl c1))) trivial
  · refine lv_iload_n hx hb dX2_storeAt_4 rfl (lv_at hl 1 rfl) ?_
    refine lv_aload_n hx hb dX2_storeAt_5 rfl (lv_at hl 0 rfl) ?_
    refine va_get (D := D) (ci := 2) (v := .ref (ad 2)) (C := RX2) (T := TX2) (N := 9) hx hb hts hinX2 hown hK.1 hP 0 rfl rfl 1 (by decide) (hts (.fieldLink RX2 17 "LoafMarks$Town" "stores" "[LLoafMarks$Store;") (List.mem_of_getElem? (i := 1) rfl)) (fun _ h9 => h9) rfl dX2_storeAt_6 ?_
    refine va_alen hx hb hK.1 hP 2 1 rfl rfl (v := 4) rfl dX2_storeAt_9 ?_
    refine lv_icmp_ge (tgt := 22) hx hb dX2_storeAt_10 (by decide) (fun c10 => ?_) (fun c10 => ?_)
    · refine lv_null hx hb dX2_storeAt_22 ?_
      exact xra () hx hb hr (Or.inl ⟨_, rfl⟩) (Or.inl rfl) hlocks hS (Nat.le_of_ble_eq_true rfl) (Nat.le_of_ble_eq_true rfl) dX2_storeAt_23 hP hD (congrArg some (xAt_noneS hcap (Or.inr c10))) trivial
    · refine lv_aload_n hx hb dX2_storeAt_13 rfl (lv_at hl 0 rfl) ?_
      refine va_get (D := D) (ci := 2) (v := .ref (ad 2)) (C := RX2) (T := TX2) (N := 9) hx hb hts hinX2 hown hK.1 hP 0 rfl rfl 1 (by decide) (hts (.fieldLink RX2 17 "LoafMarks$Town" "stores" "[LLoafMarks$Store;") (List.mem_of_getElem? (i := 1) rfl)) (fun _ h9 => h9) rfl dX2_storeAt_14 ?_
      refine lv_iload_n hx hb dX2_storeAt_17 rfl (lv_at hl 1 rfl) ?_
      refine xaldq hx hb hK hP 2 1 rfl rfl p0.toNatClampNeg (x_nI c1) (x_lt c1 (N := 4) (by decide) c10) (by decide) dX2_storeAt_18 ?_
      refine lv_goto (tgt := 23) hx hb dX2_storeAt_19 (by decide) ?_
      exact xra () hx hb hr (Or.inl ⟨_, rfl⟩) (va_rf_or _) hlocks hS (Nat.le_of_ble_eq_true rfl) (Nat.le_of_ble_eq_true rfl) dX2_storeAt_23 hP hD (congrArg some (by show va_rf (sAt ad nS p0) = va_rf (rS ad nS p0.toNatClampNeg); unfold sAt; rw [if_neg c1])) trivial

set_option maxHeartbeats 4000000 in
set_option maxRecDepth 100000 in
/-- bakerAt: any number -/
theorem c_X2_bakerAt (l : Launch) (D : va_G) (cy : Nat → ClassId) (ad : Nat → Nat) (nS nB : Nat) (st bk : Nat → Iu) (gate nu : Iu) (p0 : Int32) (hcap : nB ≤ 6) : xM l D cy yX2_bakerAt wsX2_bakerAt ({ frames := 0, cells := 0, slots := 0, locals := 0 } : Room) [.ref (ad 0), .int p0] (tw cy ad nS nB st bk gate nu) (fun _ : Unit => some (va_rf (bAt ad nB p0))) (fun _ => True) (fun _ => tw cy ad nS nB st bk gate nu) := by
  refine xM.of cX2_bakerAt 2 (some (.object "LoafMarks$Baker")) RX2 (by decide +kernel) rfl rfl (Nat.le_of_ble_eq_true rfl) ?_
  intro p e s m below meth c A ls hx hb hr hts hown hlocks hml hin hK hA hP hD hS hl
  have hl : lv_has ls 2 [(0, .ref (ad 0)), (1, .int p0)] := hl
  have hinX2 : ∀ w ∈ wsX20, w ∈ wsX2_bakerAt := fun _ h => List.mem_cons_of_mem _ (List.mem_append_right _ h)
  refine lv_iload_n hx hb dX2_bakerAt_0 rfl (lv_at hl 1 rfl) ?_
  refine lv_if_lt (tgt := 22) hx hb dX2_bakerAt_1 (by decide) (fun c1 => ?_) (fun c1 => ?_)
  · refine lv_null hx hb dX2_bakerAt_22 ?_
    exact xra () hx hb hr (Or.inl ⟨_, rfl⟩) (Or.inl rfl) hlocks hS (Nat.le_of_ble_eq_true rfl) (Nat.le_of_ble_eq_true rfl) dX2_bakerAt_23 hP hD (congrArg some (xAt_noneB hcap (Or.inl c1))) trivial
  · refine lv_iload_n hx hb dX2_bakerAt_4 rfl (lv_at hl 1 rfl) ?_
    refine lv_aload_n hx hb dX2_bakerAt_5 rfl (lv_at hl 0 rfl) ?_
    refine va_get (D := D) (ci := 2) (v := .ref (ad 3)) (C := RX2) (T := TX2) (N := 9) hx hb hts hinX2 hown hK.1 hP 0 rfl rfl 2 (by decide) (hts (.fieldLink RX2 23 "LoafMarks$Town" "bakers" "[LLoafMarks$Baker;") (List.mem_of_getElem? (i := 1) rfl)) (fun _ h9 => h9) rfl dX2_bakerAt_6 ?_
    refine va_alen hx hb hK.1 hP 3 2 rfl rfl (v := 6) rfl dX2_bakerAt_9 ?_
    refine lv_icmp_ge (tgt := 22) hx hb dX2_bakerAt_10 (by decide) (fun c10 => ?_) (fun c10 => ?_)
    · refine lv_null hx hb dX2_bakerAt_22 ?_
      exact xra () hx hb hr (Or.inl ⟨_, rfl⟩) (Or.inl rfl) hlocks hS (Nat.le_of_ble_eq_true rfl) (Nat.le_of_ble_eq_true rfl) dX2_bakerAt_23 hP hD (congrArg some (xAt_noneB hcap (Or.inr c10))) trivial
    · refine lv_aload_n hx hb dX2_bakerAt_13 rfl (lv_at hl 0 rfl) ?_
      refine va_get (D := D) (ci := 2) (v := .ref (ad 3)) (C := RX2) (T := TX2) (N := 9) hx hb hts hinX2 hown hK.1 hP 0 rfl rfl 2 (by decide) (hts (.fieldLink RX2 23 "LoafMarks$Town" "bakers" "[LLoafMarks$Baker;") (List.mem_of_getElem? (i := 1) rfl)) (fun _ h9 => h9) rfl dX2_bakerAt_14 ?_
      refine lv_iload_n hx hb dX2_bakerAt_17 rfl (lv_at hl 1 rfl) ?_
      refine xaldq hx hb hK hP 3 2 rfl rfl p0.toNatClampNeg (x_nI c1) (x_lt c1 (N := 6) (by decide) c10) (by decide) dX2_bakerAt_18 ?_
      refine lv_goto (tgt := 23) hx hb dX2_bakerAt_19 (by decide) ?_
      exact xra () hx hb hr (Or.inl ⟨_, rfl⟩) (va_rf_or _) hlocks hS (Nat.le_of_ble_eq_true rfl) (Nat.le_of_ble_eq_true rfl) dX2_bakerAt_23 hP hD (congrArg some (by show va_rf (bAt ad nB p0) = va_rf (rB ad nB p0.toNatClampNeg); unfold bAt; rw [if_neg c1])) trivial

set_option maxHeartbeats 4000000 in
set_option maxRecDepth 100000 in
/-- flourOfAll -/
theorem c_X2_flourOfAll (l : Launch) (D : va_G) (cy : Nat → ClassId) (ad : Nat → Nat) (nS nB : Nat) (st bk : Nat → Iu) (gate nu : Iu)  (hcap : nS ≤ 4) : xM l D cy yX2_flourOfAll wsX2_flourOfAll ({ frames := 0, cells := 0, slots := 0, locals := 0 } : Room) [.ref (ad 0)] (tw cy ad nS nB st bk gate nu) (fun _ : Unit => some (.int (sm (fun i => st i 0) nS))) (fun _ => True) (fun _ => tw cy ad nS nB st bk gate nu) := by
  refine xM.of cX2_flourOfAll 6 (some .int) RX2 (by decide +kernel) rfl rfl (Nat.le_of_ble_eq_true rfl) ?_
  intro p e s m below meth c A ls hx hb hr hts hown hlocks hml hin hK hA hP hD hS hl
  have hl : lv_has ls 6 [(0, .ref (ad 0))] := hl
  have hinX1 : ∀ w ∈ wsX10, w ∈ wsX2_flourOfAll := fun _ h => List.mem_cons_of_mem _ (List.mem_append_right _ h)
  have hinX2 : ∀ w ∈ wsX20, w ∈ wsX2_flourOfAll := fun _ h => List.mem_cons_of_mem _ (List.mem_append_left _ (List.mem_append_right _ h))
  refine lv_iconst (v := 0) hx hb dX2_flourOfAll_0 (by decide) ?_
  refine lv_istore_n (lv' := [(1, .int 0), (0, .ref (ad 0))]) hx hb dX2_flourOfAll_1 rfl hl (by decide) rfl (fun ls hl => ?_)
  refine lv_aload_n hx hb dX2_flourOfAll_2 rfl (lv_at hl 1 rfl) ?_
  refine va_get (D := D) (ci := 2) (v := .ref (ad 2)) (C := RX2) (T := TX2) (N := 9) hx hb hts hinX2 hown hK.1 hP 0 rfl rfl 1 (by decide) (hts (.fieldLink RX2 17 "LoafMarks$Town" "stores" "[LLoafMarks$Store;") (List.mem_of_getElem? (i := 1) rfl)) (fun _ h9 => h9) rfl dX2_flourOfAll_3 ?_
  refine lv_astore_n (lv' := [(2, .ref (ad 2)), (1, .int 0), (0, .ref (ad 0))]) hx hb dX2_flourOfAll_6 rfl hl (by decide) rfl (fun ls hl => ?_)
  refine lv_aload_n hx hb dX2_flourOfAll_7 rfl (lv_at hl 0 rfl) ?_
  refine va_alen hx hb hK.1 hP 2 1 rfl rfl (v := 4) rfl dX2_flourOfAll_8 ?_
  refine lv_istore_n (lv' := [(3, .int 4), (2, .ref (ad 2)), (1, .int 0), (0, .ref (ad 0))]) hx hb dX2_flourOfAll_9 rfl hl (by decide) rfl (fun ls hl => ?_)
  refine lv_iconst (v := 0) hx hb dX2_flourOfAll_10 (by decide) ?_
  refine lv_istore (lv' := [(4, .int 0), (3, .int 4), (2, .ref (ad 2)), (1, .int 0), (0, .ref (ad 0))]) hx hb dX2_flourOfAll_11 hl (by decide) rfl (fun ls hl => ?_)
  have loop : ∀ (n i : Nat) (sv : Int32) (H : Heap) (locs : List Loc) (ls : Array Slot), i + n = 4 → (sv = sm (fun i => st i 0) (min i nS)) → va_P D vwCl (tw cy ad nS nB st bk gate nu) H → va_D A (tw cy ad nS nB st bk gate nu) → va_S A s.heap H locs → lv_has ls 6 [(0, .ref (ad 0)), (1, .int sv), (2, .ref (ad 2)), (3, .int 4), (4, .int (nI i))] → W p l e ({ frames := 0, cells := 0, slots := 0, locals := 0 } : Room) s m ([.ref (ad 0)] : List Value).toArray below meth c H locs 0 0 (MQ below (xQ D A (fun _ : Unit => some (.int (sm (fun i => st i 0) nS))) (fun _ => True) (fun _ => tw cy ad nS nB st bk gate nu)) ([.ref (ad 0)] : List Value).toArray s 0 0 A) (F0 m 13 ls []) := by
    intro n
    induction n with
    | zero =>
      intro i sv H locs ls hns hinv hP hD hS hl
      have hii : i = 4 := by omega
      refine lv_iload hx hb dX2_flourOfAll_13 (lv_at hl 4 rfl) ?_
      refine lv_iload_n hx hb dX2_flourOfAll_15 rfl (lv_at hl 3 rfl) ?_
      refine lv_icmp_ge (tgt := 44) hx hb dX2_flourOfAll_16 (by decide) (fun _ => ?_) (fun h => absurd (by rw [hii]; exact Int32.le_refl _) h)
      refine lv_iload_n hx hb dX2_flourOfAll_44 rfl (lv_at hl 1 rfl) ?_
      exact xri () hx hb hr hlocks hS (Nat.le_of_ble_eq_true rfl) (Nat.le_of_ble_eq_true rfl) dX2_flourOfAll_45 hP hD (by show some (Value.int (sm (fun i => st i 0) nS)) = some (Value.int sv); rw [hinv, hii, Nat.min_eq_right hcap]) trivial
    | succ n ih =>
      intro i sv H locs ls hns hinv hP hD hS hl
      have hlt : i < 4 := by omega
      refine lv_iload hx hb dX2_flourOfAll_13 (lv_at hl 4 rfl) ?_
      refine lv_iload_n hx hb dX2_flourOfAll_15 rfl (lv_at hl 3 rfl) ?_
      refine lv_icmp_ge (tgt := 44) hx hb dX2_flourOfAll_16 (by decide) (fun h => absurd h (nI_ge (b := 4) hlt (by omega))) (fun _ => ?_)
      refine lv_aload_n hx hb dX2_flourOfAll_19 rfl (lv_at hl 2 rfl) ?_
      refine lv_iload hx hb dX2_flourOfAll_20 (lv_at hl 4 rfl) ?_
      refine xaldq hx hb hK hP 2 1 rfl rfl i rfl (by omega) (by decide) dX2_flourOfAll_22 ?_
      rcases Nat.lt_or_ge i nS with hi | hi
      · refine W.eq (g2 := F0 m 23 ls [.ref (ad (4 + i))]) (by rw [rS_lt hi]) ?_
        refine lv_astore (lv' := [(5, .ref (ad (4 + i))), (0, .ref (ad 0)), (1, .int sv), (2, .ref (ad 2)), (3, .int 4), (4, .int (nI i))]) hx hb dX2_flourOfAll_23 hl (by decide) rfl (fun ls hl => ?_)
        refine lv_aload hx hb dX2_flourOfAll_25 (lv_at hl 0 rfl) ?_
        refine lv_ifnull hx hb dX2_flourOfAll_27 ?_
        refine lv_iload_n hx hb dX2_flourOfAll_30 rfl (lv_at hl 2 rfl) ?_
        refine lv_aload hx hb dX2_flourOfAll_31 (lv_at hl 0 rfl) ?_
        refine va_get (D := D) (ci := 1) (v := .int (st i 0)) (C := RX1) (T := TX1) (N := 3) hx hb hts hinX1 hown hK.1 hP (4 + i) (tw_st hi) rfl 0 (by decide) (hts (.fieldLink RX2 117 "LoafMarks$Store" "flour" "I") (List.mem_of_getElem? (i := 2) rfl)) (fun _ h9 => h9) rfl dX2_flourOfAll_33 ?_
        refine lv_iadd hx hb dX2_flourOfAll_36 ?_
        refine lv_istore_n (lv' := [(1, .int (sv + (st i 0))), (5, .ref (ad (4 + i))), (0, .ref (ad 0)), (2, .ref (ad 2)), (3, .int 4), (4, .int (nI i))]) hx hb dX2_flourOfAll_37 rfl hl (by decide) rfl (fun ls hl => ?_)
        refine lv_iinc (v := (nI (i + 1))) (lv' := [(4, .int (nI (i + 1))), (1, .int (sv + (st i 0))), (5, .ref (ad (4 + i))), (0, .ref (ad 0)), (2, .ref (ad 2)), (3, .int 4)]) hx hb dX2_flourOfAll_38 hl (k := 5) rfl ((nI_1 i)) (by decide) rfl (fun ls hl => ?_)
        refine lv_goto (tgt := 13) hx hb dX2_flourOfAll_41 (by decide) ?_
        exact ih (i + 1) (sv + (st i 0)) _ _ _ (by omega) (by rw [min_s hi, hinv, min_l hi]; rfl) hP hD hS (lv_sub hl [3, 1, 4, 5, 0] rfl)
      · refine W.eq (g2 := F0 m 23 ls [.null]) (by rw [rS_ge hi]) ?_
        refine lv_astoreN (lv' := [(5, .null), (0, .ref (ad 0)), (1, .int sv), (2, .ref (ad 2)), (3, .int 4), (4, .int (nI i))]) hx hb dX2_flourOfAll_23 hl (by decide) rfl (fun ls hl => ?_)
        refine lv_aloadN hx hb dX2_flourOfAll_25 (lv_at hl 0 rfl) ?_
        refine lv_ifnullN (tgt := 38) hx hb dX2_flourOfAll_27 (by decide) ?_
        refine lv_iinc (v := (nI (i + 1))) (lv' := [(4, .int (nI (i + 1))), (5, .null), (0, .ref (ad 0)), (1, .int sv), (2, .ref (ad 2)), (3, .int 4)]) hx hb dX2_flourOfAll_38 hl (k := 5) rfl ((nI_1 i)) (by decide) rfl (fun ls hl => ?_)
        refine lv_goto (tgt := 13) hx hb dX2_flourOfAll_41 (by decide) ?_
        exact ih (i + 1) sv _ _ _ (by omega) (by rw [min_g hi]; exact hinv) hP hD hS (lv_sub hl [2, 3, 4, 5, 0] rfl)
  exact loop 4 0 0 _ _ _ (by omega) (by rw [Nat.zero_min]; rfl) hP hD hS (lv_sub hl [4, 3, 2, 1, 0] rfl)

set_option maxHeartbeats 4000000 in
set_option maxRecDepth 100000 in
/-- weevilsOfAll -/
theorem c_X2_weevilsOfAll (l : Launch) (D : va_G) (cy : Nat → ClassId) (ad : Nat → Nat) (nS nB : Nat) (st bk : Nat → Iu) (gate nu : Iu)  (hcap : nS ≤ 4) : xM l D cy yX2_weevilsOfAll wsX2_weevilsOfAll ({ frames := 0, cells := 0, slots := 0, locals := 0 } : Room) [.ref (ad 0)] (tw cy ad nS nB st bk gate nu) (fun _ : Unit => some (.int (sm (fun i => st i 1) nS))) (fun _ => True) (fun _ => tw cy ad nS nB st bk gate nu) := by
  refine xM.of cX2_weevilsOfAll 6 (some .int) RX2 (by decide +kernel) rfl rfl (Nat.le_of_ble_eq_true rfl) ?_
  intro p e s m below meth c A ls hx hb hr hts hown hlocks hml hin hK hA hP hD hS hl
  have hl : lv_has ls 6 [(0, .ref (ad 0))] := hl
  have hinX1 : ∀ w ∈ wsX10, w ∈ wsX2_weevilsOfAll := fun _ h => List.mem_cons_of_mem _ (List.mem_append_right _ h)
  have hinX2 : ∀ w ∈ wsX20, w ∈ wsX2_weevilsOfAll := fun _ h => List.mem_cons_of_mem _ (List.mem_append_left _ (List.mem_append_right _ h))
  refine lv_iconst (v := 0) hx hb dX2_weevilsOfAll_0 (by decide) ?_
  refine lv_istore_n (lv' := [(1, .int 0), (0, .ref (ad 0))]) hx hb dX2_weevilsOfAll_1 rfl hl (by decide) rfl (fun ls hl => ?_)
  refine lv_aload_n hx hb dX2_weevilsOfAll_2 rfl (lv_at hl 1 rfl) ?_
  refine va_get (D := D) (ci := 2) (v := .ref (ad 2)) (C := RX2) (T := TX2) (N := 9) hx hb hts hinX2 hown hK.1 hP 0 rfl rfl 1 (by decide) (hts (.fieldLink RX2 17 "LoafMarks$Town" "stores" "[LLoafMarks$Store;") (List.mem_of_getElem? (i := 1) rfl)) (fun _ h9 => h9) rfl dX2_weevilsOfAll_3 ?_
  refine lv_astore_n (lv' := [(2, .ref (ad 2)), (1, .int 0), (0, .ref (ad 0))]) hx hb dX2_weevilsOfAll_6 rfl hl (by decide) rfl (fun ls hl => ?_)
  refine lv_aload_n hx hb dX2_weevilsOfAll_7 rfl (lv_at hl 0 rfl) ?_
  refine va_alen hx hb hK.1 hP 2 1 rfl rfl (v := 4) rfl dX2_weevilsOfAll_8 ?_
  refine lv_istore_n (lv' := [(3, .int 4), (2, .ref (ad 2)), (1, .int 0), (0, .ref (ad 0))]) hx hb dX2_weevilsOfAll_9 rfl hl (by decide) rfl (fun ls hl => ?_)
  refine lv_iconst (v := 0) hx hb dX2_weevilsOfAll_10 (by decide) ?_
  refine lv_istore (lv' := [(4, .int 0), (3, .int 4), (2, .ref (ad 2)), (1, .int 0), (0, .ref (ad 0))]) hx hb dX2_weevilsOfAll_11 hl (by decide) rfl (fun ls hl => ?_)
  have loop : ∀ (n i : Nat) (sv : Int32) (H : Heap) (locs : List Loc) (ls : Array Slot), i + n = 4 → (sv = sm (fun i => st i 1) (min i nS)) → va_P D vwCl (tw cy ad nS nB st bk gate nu) H → va_D A (tw cy ad nS nB st bk gate nu) → va_S A s.heap H locs → lv_has ls 6 [(0, .ref (ad 0)), (1, .int sv), (2, .ref (ad 2)), (3, .int 4), (4, .int (nI i))] → W p l e ({ frames := 0, cells := 0, slots := 0, locals := 0 } : Room) s m ([.ref (ad 0)] : List Value).toArray below meth c H locs 0 0 (MQ below (xQ D A (fun _ : Unit => some (.int (sm (fun i => st i 1) nS))) (fun _ => True) (fun _ => tw cy ad nS nB st bk gate nu)) ([.ref (ad 0)] : List Value).toArray s 0 0 A) (F0 m 13 ls []) := by
    intro n
    induction n with
    | zero =>
      intro i sv H locs ls hns hinv hP hD hS hl
      have hii : i = 4 := by omega
      refine lv_iload hx hb dX2_weevilsOfAll_13 (lv_at hl 4 rfl) ?_
      refine lv_iload_n hx hb dX2_weevilsOfAll_15 rfl (lv_at hl 3 rfl) ?_
      refine lv_icmp_ge (tgt := 44) hx hb dX2_weevilsOfAll_16 (by decide) (fun _ => ?_) (fun h => absurd (by rw [hii]; exact Int32.le_refl _) h)
      refine lv_iload_n hx hb dX2_weevilsOfAll_44 rfl (lv_at hl 1 rfl) ?_
      exact xri () hx hb hr hlocks hS (Nat.le_of_ble_eq_true rfl) (Nat.le_of_ble_eq_true rfl) dX2_weevilsOfAll_45 hP hD (by show some (Value.int (sm (fun i => st i 1) nS)) = some (Value.int sv); rw [hinv, hii, Nat.min_eq_right hcap]) trivial
    | succ n ih =>
      intro i sv H locs ls hns hinv hP hD hS hl
      have hlt : i < 4 := by omega
      refine lv_iload hx hb dX2_weevilsOfAll_13 (lv_at hl 4 rfl) ?_
      refine lv_iload_n hx hb dX2_weevilsOfAll_15 rfl (lv_at hl 3 rfl) ?_
      refine lv_icmp_ge (tgt := 44) hx hb dX2_weevilsOfAll_16 (by decide) (fun h => absurd h (nI_ge (b := 4) hlt (by omega))) (fun _ => ?_)
      refine lv_aload_n hx hb dX2_weevilsOfAll_19 rfl (lv_at hl 2 rfl) ?_
      refine lv_iload hx hb dX2_weevilsOfAll_20 (lv_at hl 4 rfl) ?_
      refine xaldq hx hb hK hP 2 1 rfl rfl i rfl (by omega) (by decide) dX2_weevilsOfAll_22 ?_
      rcases Nat.lt_or_ge i nS with hi | hi
      · refine W.eq (g2 := F0 m 23 ls [.ref (ad (4 + i))]) (by rw [rS_lt hi]) ?_
        refine lv_astore (lv' := [(5, .ref (ad (4 + i))), (0, .ref (ad 0)), (1, .int sv), (2, .ref (ad 2)), (3, .int 4), (4, .int (nI i))]) hx hb dX2_weevilsOfAll_23 hl (by decide) rfl (fun ls hl => ?_)
        refine lv_aload hx hb dX2_weevilsOfAll_25 (lv_at hl 0 rfl) ?_
        refine lv_ifnull hx hb dX2_weevilsOfAll_27 ?_
        refine lv_iload_n hx hb dX2_weevilsOfAll_30 rfl (lv_at hl 2 rfl) ?_
        refine lv_aload hx hb dX2_weevilsOfAll_31 (lv_at hl 0 rfl) ?_
        refine va_get (D := D) (ci := 1) (v := .int (st i 1)) (C := RX1) (T := TX1) (N := 3) hx hb hts hinX1 hown hK.1 hP (4 + i) (tw_st hi) rfl 1 (by decide) (hts (.fieldLink RX2 149 "LoafMarks$Store" "weevils" "I") (List.mem_of_getElem? (i := 2) rfl)) (fun _ h9 => h9) rfl dX2_weevilsOfAll_33 ?_
        refine lv_iadd hx hb dX2_weevilsOfAll_36 ?_
        refine lv_istore_n (lv' := [(1, .int (sv + (st i 1))), (5, .ref (ad (4 + i))), (0, .ref (ad 0)), (2, .ref (ad 2)), (3, .int 4), (4, .int (nI i))]) hx hb dX2_weevilsOfAll_37 rfl hl (by decide) rfl (fun ls hl => ?_)
        refine lv_iinc (v := (nI (i + 1))) (lv' := [(4, .int (nI (i + 1))), (1, .int (sv + (st i 1))), (5, .ref (ad (4 + i))), (0, .ref (ad 0)), (2, .ref (ad 2)), (3, .int 4)]) hx hb dX2_weevilsOfAll_38 hl (k := 5) rfl ((nI_1 i)) (by decide) rfl (fun ls hl => ?_)
        refine lv_goto (tgt := 13) hx hb dX2_weevilsOfAll_41 (by decide) ?_
        exact ih (i + 1) (sv + (st i 1)) _ _ _ (by omega) (by rw [min_s hi, hinv, min_l hi]; rfl) hP hD hS (lv_sub hl [3, 1, 4, 5, 0] rfl)
      · refine W.eq (g2 := F0 m 23 ls [.null]) (by rw [rS_ge hi]) ?_
        refine lv_astoreN (lv' := [(5, .null), (0, .ref (ad 0)), (1, .int sv), (2, .ref (ad 2)), (3, .int 4), (4, .int (nI i))]) hx hb dX2_weevilsOfAll_23 hl (by decide) rfl (fun ls hl => ?_)
        refine lv_aloadN hx hb dX2_weevilsOfAll_25 (lv_at hl 0 rfl) ?_
        refine lv_ifnullN (tgt := 38) hx hb dX2_weevilsOfAll_27 (by decide) ?_
        refine lv_iinc (v := (nI (i + 1))) (lv' := [(4, .int (nI (i + 1))), (5, .null), (0, .ref (ad 0)), (1, .int sv), (2, .ref (ad 2)), (3, .int 4)]) hx hb dX2_weevilsOfAll_38 hl (k := 5) rfl ((nI_1 i)) (by decide) rfl (fun ls hl => ?_)
        refine lv_goto (tgt := 13) hx hb dX2_weevilsOfAll_41 (by decide) ?_
        exact ih (i + 1) sv _ _ _ (by omega) (by rw [min_g hi]; exact hinv) hP hD hS (lv_sub hl [2, 3, 4, 5, 0] rfl)
  exact loop 4 0 0 _ _ _ (by omega) (by rw [Nat.zero_min]; rfl) hP hD hS (lv_sub hl [4, 3, 2, 1, 0] rfl)

set_option maxHeartbeats 4000000 in
set_option maxRecDepth 100000 in
/-- loavesOfAll -/
theorem c_X2_loavesOfAll (l : Launch) (D : va_G) (cy : Nat → ClassId) (ad : Nat → Nat) (nS nB : Nat) (st bk : Nat → Iu) (gate nu : Iu)  (hcap : nB ≤ 6) : xM l D cy yX2_loavesOfAll wsX2_loavesOfAll ({ frames := 0, cells := 0, slots := 0, locals := 0 } : Room) [.ref (ad 0)] (tw cy ad nS nB st bk gate nu) (fun _ : Unit => some (.int (sm (fun i => bk i 5) nB))) (fun _ => True) (fun _ => tw cy ad nS nB st bk gate nu) := by
  refine xM.of cX2_loavesOfAll 6 (some .int) RX2 (by decide +kernel) rfl rfl (Nat.le_of_ble_eq_true rfl) ?_
  intro p e s m below meth c A ls hx hb hr hts hown hlocks hml hin hK hA hP hD hS hl
  have hl : lv_has ls 6 [(0, .ref (ad 0))] := hl
  have hinX0 : ∀ w ∈ wsX00, w ∈ wsX2_loavesOfAll := fun _ h => List.mem_cons_of_mem _ (List.mem_append_right _ h)
  have hinX2 : ∀ w ∈ wsX20, w ∈ wsX2_loavesOfAll := fun _ h => List.mem_cons_of_mem _ (List.mem_append_left _ (List.mem_append_right _ h))
  refine lv_iconst (v := 0) hx hb dX2_loavesOfAll_0 (by decide) ?_
  refine lv_istore_n (lv' := [(1, .int 0), (0, .ref (ad 0))]) hx hb dX2_loavesOfAll_1 rfl hl (by decide) rfl (fun ls hl => ?_)
  refine lv_aload_n hx hb dX2_loavesOfAll_2 rfl (lv_at hl 1 rfl) ?_
  refine va_get (D := D) (ci := 2) (v := .ref (ad 3)) (C := RX2) (T := TX2) (N := 9) hx hb hts hinX2 hown hK.1 hP 0 rfl rfl 2 (by decide) (hts (.fieldLink RX2 23 "LoafMarks$Town" "bakers" "[LLoafMarks$Baker;") (List.mem_of_getElem? (i := 1) rfl)) (fun _ h9 => h9) rfl dX2_loavesOfAll_3 ?_
  refine lv_astore_n (lv' := [(2, .ref (ad 3)), (1, .int 0), (0, .ref (ad 0))]) hx hb dX2_loavesOfAll_6 rfl hl (by decide) rfl (fun ls hl => ?_)
  refine lv_aload_n hx hb dX2_loavesOfAll_7 rfl (lv_at hl 0 rfl) ?_
  refine va_alen hx hb hK.1 hP 3 2 rfl rfl (v := 6) rfl dX2_loavesOfAll_8 ?_
  refine lv_istore_n (lv' := [(3, .int 6), (2, .ref (ad 3)), (1, .int 0), (0, .ref (ad 0))]) hx hb dX2_loavesOfAll_9 rfl hl (by decide) rfl (fun ls hl => ?_)
  refine lv_iconst (v := 0) hx hb dX2_loavesOfAll_10 (by decide) ?_
  refine lv_istore (lv' := [(4, .int 0), (3, .int 6), (2, .ref (ad 3)), (1, .int 0), (0, .ref (ad 0))]) hx hb dX2_loavesOfAll_11 hl (by decide) rfl (fun ls hl => ?_)
  have loop : ∀ (n i : Nat) (sv : Int32) (H : Heap) (locs : List Loc) (ls : Array Slot), i + n = 6 → (sv = sm (fun i => bk i 5) (min i nB)) → va_P D vwCl (tw cy ad nS nB st bk gate nu) H → va_D A (tw cy ad nS nB st bk gate nu) → va_S A s.heap H locs → lv_has ls 6 [(0, .ref (ad 0)), (1, .int sv), (2, .ref (ad 3)), (3, .int 6), (4, .int (nI i))] → W p l e ({ frames := 0, cells := 0, slots := 0, locals := 0 } : Room) s m ([.ref (ad 0)] : List Value).toArray below meth c H locs 0 0 (MQ below (xQ D A (fun _ : Unit => some (.int (sm (fun i => bk i 5) nB))) (fun _ => True) (fun _ => tw cy ad nS nB st bk gate nu)) ([.ref (ad 0)] : List Value).toArray s 0 0 A) (F0 m 13 ls []) := by
    intro n
    induction n with
    | zero =>
      intro i sv H locs ls hns hinv hP hD hS hl
      have hii : i = 6 := by omega
      refine lv_iload hx hb dX2_loavesOfAll_13 (lv_at hl 4 rfl) ?_
      refine lv_iload_n hx hb dX2_loavesOfAll_15 rfl (lv_at hl 3 rfl) ?_
      refine lv_icmp_ge (tgt := 44) hx hb dX2_loavesOfAll_16 (by decide) (fun _ => ?_) (fun h => absurd (by rw [hii]; exact Int32.le_refl _) h)
      refine lv_iload_n hx hb dX2_loavesOfAll_44 rfl (lv_at hl 1 rfl) ?_
      exact xri () hx hb hr hlocks hS (Nat.le_of_ble_eq_true rfl) (Nat.le_of_ble_eq_true rfl) dX2_loavesOfAll_45 hP hD (by show some (Value.int (sm (fun i => bk i 5) nB)) = some (Value.int sv); rw [hinv, hii, Nat.min_eq_right hcap]) trivial
    | succ n ih =>
      intro i sv H locs ls hns hinv hP hD hS hl
      have hlt : i < 6 := by omega
      refine lv_iload hx hb dX2_loavesOfAll_13 (lv_at hl 4 rfl) ?_
      refine lv_iload_n hx hb dX2_loavesOfAll_15 rfl (lv_at hl 3 rfl) ?_
      refine lv_icmp_ge (tgt := 44) hx hb dX2_loavesOfAll_16 (by decide) (fun h => absurd h (nI_ge (b := 6) hlt (by omega))) (fun _ => ?_)
      refine lv_aload_n hx hb dX2_loavesOfAll_19 rfl (lv_at hl 2 rfl) ?_
      refine lv_iload hx hb dX2_loavesOfAll_20 (lv_at hl 4 rfl) ?_
      refine xaldq hx hb hK hP 3 2 rfl rfl i rfl (by omega) (by decide) dX2_loavesOfAll_22 ?_
      rcases Nat.lt_or_ge i nB with hi | hi
      · refine W.eq (g2 := F0 m 23 ls [.ref (ad (8 + i))]) (by rw [rB_lt hi]) ?_
        refine lv_astore (lv' := [(5, .ref (ad (8 + i))), (0, .ref (ad 0)), (1, .int sv), (2, .ref (ad 3)), (3, .int 6), (4, .int (nI i))]) hx hb dX2_loavesOfAll_23 hl (by decide) rfl (fun ls hl => ?_)
        refine lv_aload hx hb dX2_loavesOfAll_25 (lv_at hl 0 rfl) ?_
        refine lv_ifnull hx hb dX2_loavesOfAll_27 ?_
        refine lv_iload_n hx hb dX2_loavesOfAll_30 rfl (lv_at hl 2 rfl) ?_
        refine lv_aload hx hb dX2_loavesOfAll_31 (lv_at hl 0 rfl) ?_
        refine va_get (D := D) (ci := 0) (v := .int (bk i 5)) (C := RX0) (T := TX0) (N := 8) hx hb hts hinX0 hown hK.1 hP (4 + nS + i) (tw_bk hi) rfl 5 (by decide) (hts (.fieldLink RX2 152 "LoafMarks$Baker" "shelf" "I") (List.mem_of_getElem? (i := 2) rfl)) (fun _ h9 => h9) rfl dX2_loavesOfAll_33 ?_
        refine lv_iadd hx hb dX2_loavesOfAll_36 ?_
        refine lv_istore_n (lv' := [(1, .int (sv + (bk i 5))), (5, .ref (ad (8 + i))), (0, .ref (ad 0)), (2, .ref (ad 3)), (3, .int 6), (4, .int (nI i))]) hx hb dX2_loavesOfAll_37 rfl hl (by decide) rfl (fun ls hl => ?_)
        refine lv_iinc (v := (nI (i + 1))) (lv' := [(4, .int (nI (i + 1))), (1, .int (sv + (bk i 5))), (5, .ref (ad (8 + i))), (0, .ref (ad 0)), (2, .ref (ad 3)), (3, .int 6)]) hx hb dX2_loavesOfAll_38 hl (k := 5) rfl ((nI_1 i)) (by decide) rfl (fun ls hl => ?_)
        refine lv_goto (tgt := 13) hx hb dX2_loavesOfAll_41 (by decide) ?_
        exact ih (i + 1) (sv + (bk i 5)) _ _ _ (by omega) (by rw [min_s hi, hinv, min_l hi]; rfl) hP hD hS (lv_sub hl [3, 1, 4, 5, 0] rfl)
      · refine W.eq (g2 := F0 m 23 ls [.null]) (by rw [rB_ge hi]) ?_
        refine lv_astoreN (lv' := [(5, .null), (0, .ref (ad 0)), (1, .int sv), (2, .ref (ad 3)), (3, .int 6), (4, .int (nI i))]) hx hb dX2_loavesOfAll_23 hl (by decide) rfl (fun ls hl => ?_)
        refine lv_aloadN hx hb dX2_loavesOfAll_25 (lv_at hl 0 rfl) ?_
        refine lv_ifnullN (tgt := 38) hx hb dX2_loavesOfAll_27 (by decide) ?_
        refine lv_iinc (v := (nI (i + 1))) (lv' := [(4, .int (nI (i + 1))), (5, .null), (0, .ref (ad 0)), (1, .int sv), (2, .ref (ad 3)), (3, .int 6)]) hx hb dX2_loavesOfAll_38 hl (k := 5) rfl ((nI_1 i)) (by decide) rfl (fun ls hl => ?_)
        refine lv_goto (tgt := 13) hx hb dX2_loavesOfAll_41 (by decide) ?_
        exact ih (i + 1) sv _ _ _ (by omega) (by rw [min_g hi]; exact hinv) hP hD hS (lv_sub hl [2, 3, 4, 5, 0] rfl)
  exact loop 6 0 0 _ _ _ (by omega) (by rw [Nat.zero_min]; rfl) hP hD hS (lv_sub hl [4, 3, 2, 1, 0] rfl)

set_option maxHeartbeats 4000000 in
set_option maxRecDepth 100000 in
/-- barredBakers -/
theorem c_X2_barredBakers (l : Launch) (D : va_G) (cy : Nat → ClassId) (ad : Nat → Nat) (nS nB : Nat) (st bk : Nat → Iu) (gate nu : Iu)  (hcap : nB ≤ 6) : xM l D cy yX2_barredBakers wsX2_barredBakers ({ frames := 0, cells := 0, slots := 0, locals := 0 } : Room) [.ref (ad 0)] (tw cy ad nS nB st bk gate nu) (fun _ : Unit => some (.int (sm (fun i => (if bk i 7 = 0 then 0 else 1)) nB))) (fun _ => True) (fun _ => tw cy ad nS nB st bk gate nu) := by
  refine xM.of cX2_barredBakers 6 (some .int) RX2 (by decide +kernel) rfl rfl (Nat.le_of_ble_eq_true rfl) ?_
  intro p e s m below meth c A ls hx hb hr hts hown hlocks hml hin hK hA hP hD hS hl
  have hl : lv_has ls 6 [(0, .ref (ad 0))] := hl
  have hinX0 : ∀ w ∈ wsX00, w ∈ wsX2_barredBakers := fun _ h => List.mem_cons_of_mem _ (List.mem_append_right _ h)
  have hinX2 : ∀ w ∈ wsX20, w ∈ wsX2_barredBakers := fun _ h => List.mem_cons_of_mem _ (List.mem_append_left _ (List.mem_append_right _ h))
  refine lv_iconst (v := 0) hx hb dX2_barredBakers_0 (by decide) ?_
  refine lv_istore_n (lv' := [(1, .int 0), (0, .ref (ad 0))]) hx hb dX2_barredBakers_1 rfl hl (by decide) rfl (fun ls hl => ?_)
  refine lv_aload_n hx hb dX2_barredBakers_2 rfl (lv_at hl 1 rfl) ?_
  refine va_get (D := D) (ci := 2) (v := .ref (ad 3)) (C := RX2) (T := TX2) (N := 9) hx hb hts hinX2 hown hK.1 hP 0 rfl rfl 2 (by decide) (hts (.fieldLink RX2 23 "LoafMarks$Town" "bakers" "[LLoafMarks$Baker;") (List.mem_of_getElem? (i := 1) rfl)) (fun _ h9 => h9) rfl dX2_barredBakers_3 ?_
  refine lv_astore_n (lv' := [(2, .ref (ad 3)), (1, .int 0), (0, .ref (ad 0))]) hx hb dX2_barredBakers_6 rfl hl (by decide) rfl (fun ls hl => ?_)
  refine lv_aload_n hx hb dX2_barredBakers_7 rfl (lv_at hl 0 rfl) ?_
  refine va_alen hx hb hK.1 hP 3 2 rfl rfl (v := 6) rfl dX2_barredBakers_8 ?_
  refine lv_istore_n (lv' := [(3, .int 6), (2, .ref (ad 3)), (1, .int 0), (0, .ref (ad 0))]) hx hb dX2_barredBakers_9 rfl hl (by decide) rfl (fun ls hl => ?_)
  refine lv_iconst (v := 0) hx hb dX2_barredBakers_10 (by decide) ?_
  refine lv_istore (lv' := [(4, .int 0), (3, .int 6), (2, .ref (ad 3)), (1, .int 0), (0, .ref (ad 0))]) hx hb dX2_barredBakers_11 hl (by decide) rfl (fun ls hl => ?_)
  have loop : ∀ (n i : Nat) (sv : Int32) (H : Heap) (locs : List Loc) (ls : Array Slot), i + n = 6 → (sv = sm (fun i => (if bk i 7 = 0 then 0 else 1)) (min i nB)) → va_P D vwCl (tw cy ad nS nB st bk gate nu) H → va_D A (tw cy ad nS nB st bk gate nu) → va_S A s.heap H locs → lv_has ls 6 [(0, .ref (ad 0)), (1, .int sv), (2, .ref (ad 3)), (3, .int 6), (4, .int (nI i))] → W p l e ({ frames := 0, cells := 0, slots := 0, locals := 0 } : Room) s m ([.ref (ad 0)] : List Value).toArray below meth c H locs 0 0 (MQ below (xQ D A (fun _ : Unit => some (.int (sm (fun i => (if bk i 7 = 0 then 0 else 1)) nB))) (fun _ => True) (fun _ => tw cy ad nS nB st bk gate nu)) ([.ref (ad 0)] : List Value).toArray s 0 0 A) (F0 m 13 ls []) := by
    intro n
    induction n with
    | zero =>
      intro i sv H locs ls hns hinv hP hD hS hl
      have hii : i = 6 := by omega
      refine lv_iload hx hb dX2_barredBakers_13 (lv_at hl 4 rfl) ?_
      refine lv_iload_n hx hb dX2_barredBakers_15 rfl (lv_at hl 3 rfl) ?_
      refine lv_icmp_ge (tgt := 47) hx hb dX2_barredBakers_16 (by decide) (fun _ => ?_) (fun h => absurd (by rw [hii]; exact Int32.le_refl _) h)
      refine lv_iload_n hx hb dX2_barredBakers_47 rfl (lv_at hl 1 rfl) ?_
      exact xri () hx hb hr hlocks hS (Nat.le_of_ble_eq_true rfl) (Nat.le_of_ble_eq_true rfl) dX2_barredBakers_48 hP hD (by show some (Value.int (sm (fun i => (if bk i 7 = 0 then 0 else 1)) nB)) = some (Value.int sv); rw [hinv, hii, Nat.min_eq_right hcap]) trivial
    | succ n ih =>
      intro i sv H locs ls hns hinv hP hD hS hl
      have hlt : i < 6 := by omega
      refine lv_iload hx hb dX2_barredBakers_13 (lv_at hl 4 rfl) ?_
      refine lv_iload_n hx hb dX2_barredBakers_15 rfl (lv_at hl 3 rfl) ?_
      refine lv_icmp_ge (tgt := 47) hx hb dX2_barredBakers_16 (by decide) (fun h => absurd h (nI_ge (b := 6) hlt (by omega))) (fun _ => ?_)
      refine lv_aload_n hx hb dX2_barredBakers_19 rfl (lv_at hl 2 rfl) ?_
      refine lv_iload hx hb dX2_barredBakers_20 (lv_at hl 4 rfl) ?_
      refine xaldq hx hb hK hP 3 2 rfl rfl i rfl (by omega) (by decide) dX2_barredBakers_22 ?_
      rcases Nat.lt_or_ge i nB with hi | hi
      · refine W.eq (g2 := F0 m 23 ls [.ref (ad (8 + i))]) (by rw [rB_lt hi]) ?_
        refine lv_astore (lv' := [(5, .ref (ad (8 + i))), (0, .ref (ad 0)), (1, .int sv), (2, .ref (ad 3)), (3, .int 6), (4, .int (nI i))]) hx hb dX2_barredBakers_23 hl (by decide) rfl (fun ls hl => ?_)
        refine lv_aload hx hb dX2_barredBakers_25 (lv_at hl 0 rfl) ?_
        refine lv_ifnull hx hb dX2_barredBakers_27 ?_
        refine lv_aload hx hb dX2_barredBakers_30 (lv_at hl 0 rfl) ?_
        refine va_get (D := D) (ci := 0) (v := .int (bk i 7)) (C := RX0) (T := TX0) (N := 8) hx hb hts hinX0 hown hK.1 hP (4 + nS + i) (tw_bk hi) rfl 7 (by decide) (hts (.fieldLink RX2 120 "LoafMarks$Baker" "barred" "Z") (List.mem_of_getElem? (i := 2) rfl)) (fun _ h9 => h9) rfl dX2_barredBakers_32 ?_
        refine lv_if_eq (tgt := 41) hx hb dX2_barredBakers_35 (by decide) (fun c35 => ?_) (fun c35 => ?_)
        · refine lv_iinc (v := (nI (i + 1))) (lv' := [(4, .int (nI (i + 1))), (5, .ref (ad (8 + i))), (0, .ref (ad 0)), (1, .int sv), (2, .ref (ad 3)), (3, .int 6)]) hx hb dX2_barredBakers_41 hl (k := 5) rfl ((nI_1 i)) (by decide) rfl (fun ls hl => ?_)
          refine lv_goto (tgt := 13) hx hb dX2_barredBakers_44 (by decide) ?_
          exact ih (i + 1) sv _ _ _ (by omega) (by rw [min_s hi, hinv, min_l hi]; show _ = sm _ i + (if _ then _ else _); rw [if_pos c35, Int32.add_zero]) hP hD hS (lv_sub hl [2, 3, 4, 5, 0] rfl)
        · refine lv_iinc (v := (sv + 1)) (lv' := [(1, .int (sv + 1)), (5, .ref (ad (8 + i))), (0, .ref (ad 0)), (2, .ref (ad 3)), (3, .int 6), (4, .int (nI i))]) hx hb dX2_barredBakers_38 hl (k := 2) rfl (rfl) (by decide) rfl (fun ls hl => ?_)
          refine lv_iinc (v := (nI (i + 1))) (lv' := [(4, .int (nI (i + 1))), (1, .int (sv + 1)), (5, .ref (ad (8 + i))), (0, .ref (ad 0)), (2, .ref (ad 3)), (3, .int 6)]) hx hb dX2_barredBakers_41 hl (k := 5) rfl ((nI_1 i)) (by decide) rfl (fun ls hl => ?_)
          refine lv_goto (tgt := 13) hx hb dX2_barredBakers_44 (by decide) ?_
          exact ih (i + 1) (sv + 1) _ _ _ (by omega) (by rw [min_s hi, hinv, min_l hi]; show _ = sm _ i + (if _ then _ else _); rw [if_neg c35]) hP hD hS (lv_sub hl [3, 1, 4, 5, 0] rfl)
      · refine W.eq (g2 := F0 m 23 ls [.null]) (by rw [rB_ge hi]) ?_
        refine lv_astoreN (lv' := [(5, .null), (0, .ref (ad 0)), (1, .int sv), (2, .ref (ad 3)), (3, .int 6), (4, .int (nI i))]) hx hb dX2_barredBakers_23 hl (by decide) rfl (fun ls hl => ?_)
        refine lv_aloadN hx hb dX2_barredBakers_25 (lv_at hl 0 rfl) ?_
        refine lv_ifnullN (tgt := 41) hx hb dX2_barredBakers_27 (by decide) ?_
        refine lv_iinc (v := (nI (i + 1))) (lv' := [(4, .int (nI (i + 1))), (5, .null), (0, .ref (ad 0)), (1, .int sv), (2, .ref (ad 3)), (3, .int 6)]) hx hb dX2_barredBakers_41 hl (k := 5) rfl ((nI_1 i)) (by decide) rfl (fun ls hl => ?_)
        refine lv_goto (tgt := 13) hx hb dX2_barredBakers_44 (by decide) ?_
        exact ih (i + 1) sv _ _ _ (by omega) (by rw [min_g hi]; exact hinv) hP hD hS (lv_sub hl [2, 3, 4, 5, 0] rfl)
  exact loop 6 0 0 _ _ _ (by omega) (by rw [Nat.zero_min]; rfl) hP hD hS (lv_sub hl [4, 3, 2, 1, 0] rfl)

set_option maxHeartbeats 4000000 in
set_option maxRecDepth 100000 in
/-- bakersOfStore -/
theorem c_X2_bakersOfStore (l : Launch) (D : va_G) (cy : Nat → ClassId) (ad : Nat → Nat) (nS nB : Nat) (st bk : Nat → Iu) (gate nu : Iu) (p0 : Int32) (hcap : nB ≤ 6) : xM l D cy yX2_bakersOfStore wsX2_bakersOfStore ({ frames := 0, cells := 0, slots := 0, locals := 0 } : Room) [.ref (ad 0), .int p0] (tw cy ad nS nB st bk gate nu) (fun _ : Unit => some (.int (sm (fun i => (if bk i 0 = p0 then 1 else 0)) nB))) (fun _ => True) (fun _ => tw cy ad nS nB st bk gate nu) := by
  refine xM.of cX2_bakersOfStore 7 (some .int) RX2 (by decide +kernel) rfl rfl (Nat.le_of_ble_eq_true rfl) ?_
  intro p e s m below meth c A ls hx hb hr hts hown hlocks hml hin hK hA hP hD hS hl
  have hl : lv_has ls 7 [(0, .ref (ad 0)), (1, .int p0)] := hl
  have hinX0 : ∀ w ∈ wsX00, w ∈ wsX2_bakersOfStore := fun _ h => List.mem_cons_of_mem _ (List.mem_append_right _ h)
  have hinX2 : ∀ w ∈ wsX20, w ∈ wsX2_bakersOfStore := fun _ h => List.mem_cons_of_mem _ (List.mem_append_left _ (List.mem_append_right _ h))
  refine lv_iconst (v := 0) hx hb dX2_bakersOfStore_0 (by decide) ?_
  refine lv_istore_n (lv' := [(2, .int 0), (0, .ref (ad 0)), (1, .int p0)]) hx hb dX2_bakersOfStore_1 rfl hl (by decide) rfl (fun ls hl => ?_)
  refine lv_aload_n hx hb dX2_bakersOfStore_2 rfl (lv_at hl 1 rfl) ?_
  refine va_get (D := D) (ci := 2) (v := .ref (ad 3)) (C := RX2) (T := TX2) (N := 9) hx hb hts hinX2 hown hK.1 hP 0 rfl rfl 2 (by decide) (hts (.fieldLink RX2 23 "LoafMarks$Town" "bakers" "[LLoafMarks$Baker;") (List.mem_of_getElem? (i := 1) rfl)) (fun _ h9 => h9) rfl dX2_bakersOfStore_3 ?_
  refine lv_astore_n (lv' := [(3, .ref (ad 3)), (2, .int 0), (0, .ref (ad 0)), (1, .int p0)]) hx hb dX2_bakersOfStore_6 rfl hl (by decide) rfl (fun ls hl => ?_)
  refine lv_aload_n hx hb dX2_bakersOfStore_7 rfl (lv_at hl 0 rfl) ?_
  refine va_alen hx hb hK.1 hP 3 2 rfl rfl (v := 6) rfl dX2_bakersOfStore_8 ?_
  refine lv_istore (lv' := [(4, .int 6), (3, .ref (ad 3)), (2, .int 0), (0, .ref (ad 0)), (1, .int p0)]) hx hb dX2_bakersOfStore_9 hl (by decide) rfl (fun ls hl => ?_)
  refine lv_iconst (v := 0) hx hb dX2_bakersOfStore_11 (by decide) ?_
  refine lv_istore (lv' := [(5, .int 0), (4, .int 6), (3, .ref (ad 3)), (2, .int 0), (0, .ref (ad 0)), (1, .int p0)]) hx hb dX2_bakersOfStore_12 hl (by decide) rfl (fun ls hl => ?_)
  have loop : ∀ (n i : Nat) (sv : Int32) (H : Heap) (locs : List Loc) (ls : Array Slot), i + n = 6 → (sv = sm (fun i => (if bk i 0 = p0 then 1 else 0)) (min i nB)) → va_P D vwCl (tw cy ad nS nB st bk gate nu) H → va_D A (tw cy ad nS nB st bk gate nu) → va_S A s.heap H locs → lv_has ls 7 [(0, .ref (ad 0)), (1, .int p0), (2, .int sv), (3, .ref (ad 3)), (4, .int 6), (5, .int (nI i))] → W p l e ({ frames := 0, cells := 0, slots := 0, locals := 0 } : Room) s m ([.ref (ad 0), .int p0] : List Value).toArray below meth c H locs 0 0 (MQ below (xQ D A (fun _ : Unit => some (.int (sm (fun i => (if bk i 0 = p0 then 1 else 0)) nB))) (fun _ => True) (fun _ => tw cy ad nS nB st bk gate nu)) ([.ref (ad 0), .int p0] : List Value).toArray s 0 0 A) (F0 m 14 ls []) := by
    intro n
    induction n with
    | zero =>
      intro i sv H locs ls hns hinv hP hD hS hl
      have hii : i = 6 := by omega
      refine lv_iload hx hb dX2_bakersOfStore_14 (lv_at hl 5 rfl) ?_
      refine lv_iload hx hb dX2_bakersOfStore_16 (lv_at hl 4 rfl) ?_
      refine lv_icmp_ge (tgt := 50) hx hb dX2_bakersOfStore_18 (by decide) (fun _ => ?_) (fun h => absurd (by rw [hii]; exact Int32.le_refl _) h)
      refine lv_iload_n hx hb dX2_bakersOfStore_50 rfl (lv_at hl 2 rfl) ?_
      exact xri () hx hb hr hlocks hS (Nat.le_of_ble_eq_true rfl) (Nat.le_of_ble_eq_true rfl) dX2_bakersOfStore_51 hP hD (by show some (Value.int (sm (fun i => (if bk i 0 = p0 then 1 else 0)) nB)) = some (Value.int sv); rw [hinv, hii, Nat.min_eq_right hcap]) trivial
    | succ n ih =>
      intro i sv H locs ls hns hinv hP hD hS hl
      have hlt : i < 6 := by omega
      refine lv_iload hx hb dX2_bakersOfStore_14 (lv_at hl 5 rfl) ?_
      refine lv_iload hx hb dX2_bakersOfStore_16 (lv_at hl 4 rfl) ?_
      refine lv_icmp_ge (tgt := 50) hx hb dX2_bakersOfStore_18 (by decide) (fun h => absurd h (nI_ge (b := 6) hlt (by omega))) (fun _ => ?_)
      refine lv_aload_n hx hb dX2_bakersOfStore_21 rfl (lv_at hl 3 rfl) ?_
      refine lv_iload hx hb dX2_bakersOfStore_22 (lv_at hl 5 rfl) ?_
      refine xaldq hx hb hK hP 3 2 rfl rfl i rfl (by omega) (by decide) dX2_bakersOfStore_24 ?_
      rcases Nat.lt_or_ge i nB with hi | hi
      · refine W.eq (g2 := F0 m 25 ls [.ref (ad (8 + i))]) (by rw [rB_lt hi]) ?_
        refine lv_astore (lv' := [(6, .ref (ad (8 + i))), (0, .ref (ad 0)), (1, .int p0), (2, .int sv), (3, .ref (ad 3)), (4, .int 6), (5, .int (nI i))]) hx hb dX2_bakersOfStore_25 hl (by decide) rfl (fun ls hl => ?_)
        refine lv_aload hx hb dX2_bakersOfStore_27 (lv_at hl 0 rfl) ?_
        refine lv_ifnull hx hb dX2_bakersOfStore_29 ?_
        refine lv_aload hx hb dX2_bakersOfStore_32 (lv_at hl 0 rfl) ?_
        refine va_get (D := D) (ci := 0) (v := .int (bk i 0)) (C := RX0) (T := TX0) (N := 8) hx hb hts hinX0 hown hK.1 hP (4 + nS + i) (tw_bk hi) rfl 0 (by decide) (hts (.fieldLink RX2 124 "LoafMarks$Baker" "storeNumber" "I") (List.mem_of_getElem? (i := 2) rfl)) (fun _ h9 => h9) rfl dX2_bakersOfStore_34 ?_
        refine lv_iload_n hx hb dX2_bakersOfStore_37 rfl (lv_at hl 2 rfl) ?_
        refine lv_icmp_ne (tgt := 44) hx hb dX2_bakersOfStore_38 (by decide) (fun c38 => ?_) (fun c38 => ?_)
        · refine lv_iinc (v := (nI (i + 1))) (lv' := [(5, .int (nI (i + 1))), (6, .ref (ad (8 + i))), (0, .ref (ad 0)), (1, .int p0), (2, .int sv), (3, .ref (ad 3)), (4, .int 6)]) hx hb dX2_bakersOfStore_44 hl (k := 6) rfl ((nI_1 i)) (by decide) rfl (fun ls hl => ?_)
          refine lv_goto (tgt := 14) hx hb dX2_bakersOfStore_47 (by decide) ?_
          exact ih (i + 1) sv _ _ _ (by omega) (by rw [min_s hi, hinv, min_l hi]; show _ = sm _ i + (if _ then _ else _); rw [if_neg c38, Int32.add_zero]) hP hD hS (lv_sub hl [2, 3, 4, 5, 6, 0] rfl)
        · refine lv_iinc (v := (sv + 1)) (lv' := [(2, .int (sv + 1)), (6, .ref (ad (8 + i))), (0, .ref (ad 0)), (1, .int p0), (3, .ref (ad 3)), (4, .int 6), (5, .int (nI i))]) hx hb dX2_bakersOfStore_41 hl (k := 3) rfl (rfl) (by decide) rfl (fun ls hl => ?_)
          refine lv_iinc (v := (nI (i + 1))) (lv' := [(5, .int (nI (i + 1))), (2, .int (sv + 1)), (6, .ref (ad (8 + i))), (0, .ref (ad 0)), (1, .int p0), (3, .ref (ad 3)), (4, .int 6)]) hx hb dX2_bakersOfStore_44 hl (k := 6) rfl ((nI_1 i)) (by decide) rfl (fun ls hl => ?_)
          refine lv_goto (tgt := 14) hx hb dX2_bakersOfStore_47 (by decide) ?_
          exact ih (i + 1) (sv + 1) _ _ _ (by omega) (by rw [min_s hi, hinv, min_l hi]; show _ = sm _ i + (if _ then _ else _); rw [if_pos c38]) hP hD hS (lv_sub hl [3, 4, 1, 5, 6, 0] rfl)
      · refine W.eq (g2 := F0 m 25 ls [.null]) (by rw [rB_ge hi]) ?_
        refine lv_astoreN (lv' := [(6, .null), (0, .ref (ad 0)), (1, .int p0), (2, .int sv), (3, .ref (ad 3)), (4, .int 6), (5, .int (nI i))]) hx hb dX2_bakersOfStore_25 hl (by decide) rfl (fun ls hl => ?_)
        refine lv_aloadN hx hb dX2_bakersOfStore_27 (lv_at hl 0 rfl) ?_
        refine lv_ifnullN (tgt := 44) hx hb dX2_bakersOfStore_29 (by decide) ?_
        refine lv_iinc (v := (nI (i + 1))) (lv' := [(5, .int (nI (i + 1))), (6, .null), (0, .ref (ad 0)), (1, .int p0), (2, .int sv), (3, .ref (ad 3)), (4, .int 6)]) hx hb dX2_bakersOfStore_44 hl (k := 6) rfl ((nI_1 i)) (by decide) rfl (fun ls hl => ?_)
        refine lv_goto (tgt := 14) hx hb dX2_bakersOfStore_47 (by decide) ?_
        exact ih (i + 1) sv _ _ _ (by omega) (by rw [min_g hi]; exact hinv) hP hD hS (lv_sub hl [2, 3, 4, 5, 6, 0] rfl)
  exact loop 6 0 0 _ _ _ (by omega) (by rw [Nat.zero_min]; rfl) hP hD hS (lv_sub hl [4, 5, 3, 2, 1, 0] rfl)

set_option maxHeartbeats 4000000 in
set_option maxRecDepth 100000 in
/-- bakerWithMark -/
theorem c_X2_bakerWithMark (l : Launch) (D : va_G) (cy : Nat → ClassId) (ad : Nat → Nat) (nS nB : Nat) (st bk : Nat → Iu) (gate nu : Iu) (p0 : Int32) (hcap : nB ≤ 6) : xM l D cy yX2_bakerWithMark wsX2_bakerWithMark ({ frames := 0, cells := 0, slots := 0, locals := 0 } : Room) [.ref (ad 0), .int p0] (tw cy ad nS nB st bk gate nu) (fun _ : Unit => some (.int (ownF bk p0 nB 0))) (fun _ => True) (fun _ => tw cy ad nS nB st bk gate nu) := by
  refine xM.of cX2_bakerWithMark 4 (some .int) RX2 (by decide +kernel) rfl rfl (Nat.le_of_ble_eq_true rfl) ?_
  intro p e s m below meth c A ls hx hb hr hts hown hlocks hml hin hK hA hP hD hS hl
  have hl : lv_has ls 4 [(0, .ref (ad 0)), (1, .int p0)] := hl
  have hinX0 : ∀ w ∈ wsX00, w ∈ wsX2_bakerWithMark := fun _ h => List.mem_cons_of_mem _ (List.mem_append_right _ h)
  have hinX2 : ∀ w ∈ wsX20, w ∈ wsX2_bakerWithMark := fun _ h => List.mem_cons_of_mem _ (List.mem_append_left _ (List.mem_append_right _ h))
  refine lv_iconst (v := 0) hx hb dX2_bakerWithMark_0 (by decide) ?_
  refine lv_istore_n (lv' := [(2, .int 0), (0, .ref (ad 0)), (1, .int p0)]) hx hb dX2_bakerWithMark_1 rfl hl (by decide) rfl (fun ls hl => ?_)
  have loop : ∀ (n i : Nat)  (H : Heap) (locs : List Loc) (ls : Array Slot), i + n = 6 → (ownF bk p0 nB 0 = ownF bk p0 (nB - i) i) → va_P D vwCl (tw cy ad nS nB st bk gate nu) H → va_D A (tw cy ad nS nB st bk gate nu) → va_S A s.heap H locs → lv_has ls 4 [(0, .ref (ad 0)), (1, .int p0), (2, .int (nI i))] → W p l e ({ frames := 0, cells := 0, slots := 0, locals := 0 } : Room) s m ([.ref (ad 0), .int p0] : List Value).toArray below meth c H locs 0 0 (MQ below (xQ D A (fun _ : Unit => some (.int (ownF bk p0 nB 0))) (fun _ => True) (fun _ => tw cy ad nS nB st bk gate nu)) ([.ref (ad 0), .int p0] : List Value).toArray s 0 0 A) (F0 m 2 ls []) := by
    intro n
    induction n with
    | zero =>
      intro i  H locs ls hns hinv hP hD hS hl
      have hii : i = 6 := by omega
      refine lv_iload_n hx hb dX2_bakerWithMark_2 rfl (lv_at hl 2 rfl) ?_
      refine lv_aload_n hx hb dX2_bakerWithMark_3 rfl (lv_at hl 0 rfl) ?_
      refine va_get (D := D) (ci := 2) (v := .ref (ad 3)) (C := RX2) (T := TX2) (N := 9) hx hb hts hinX2 hown hK.1 hP 0 rfl rfl 2 (by decide) (hts (.fieldLink RX2 23 "LoafMarks$Town" "bakers" "[LLoafMarks$Baker;") (List.mem_of_getElem? (i := 1) rfl)) (fun _ h9 => h9) rfl dX2_bakerWithMark_4 ?_
      refine va_alen hx hb hK.1 hP 3 2 rfl rfl (v := 6) rfl dX2_bakerWithMark_7 ?_
      refine lv_icmp_ge (tgt := 38) hx hb dX2_bakerWithMark_8 (by decide) (fun _ => ?_) (fun h => absurd (by rw [hii]; exact Int32.le_refl _) h)
      refine lv_iconst (v := (-1)) hx hb dX2_bakerWithMark_38 (by decide) ?_
      exact xri () hx hb hr hlocks hS (Nat.le_of_ble_eq_true rfl) (Nat.le_of_ble_eq_true rfl) dX2_bakerWithMark_39 hP hD (by show some (Value.int (ownF bk p0 nB 0)) = _; rw [hinv, hii, Nat.sub_eq_zero_of_le hcap]; rfl) trivial
    | succ n ih =>
      intro i  H locs ls hns hinv hP hD hS hl
      have hlt : i < 6 := by omega
      refine lv_iload_n hx hb dX2_bakerWithMark_2 rfl (lv_at hl 2 rfl) ?_
      refine lv_aload_n hx hb dX2_bakerWithMark_3 rfl (lv_at hl 0 rfl) ?_
      refine va_get (D := D) (ci := 2) (v := .ref (ad 3)) (C := RX2) (T := TX2) (N := 9) hx hb hts hinX2 hown hK.1 hP 0 rfl rfl 2 (by decide) (hts (.fieldLink RX2 23 "LoafMarks$Town" "bakers" "[LLoafMarks$Baker;") (List.mem_of_getElem? (i := 1) rfl)) (fun _ h9 => h9) rfl dX2_bakerWithMark_4 ?_
      refine va_alen hx hb hK.1 hP 3 2 rfl rfl (v := 6) rfl dX2_bakerWithMark_7 ?_
      refine lv_icmp_ge (tgt := 38) hx hb dX2_bakerWithMark_8 (by decide) (fun h => absurd h (nI_ge (b := 6) hlt (by omega))) (fun _ => ?_)
      refine lv_aload_n hx hb dX2_bakerWithMark_11 rfl (lv_at hl 0 rfl) ?_
      refine va_get (D := D) (ci := 2) (v := .ref (ad 3)) (C := RX2) (T := TX2) (N := 9) hx hb hts hinX2 hown hK.1 hP 0 rfl rfl 2 (by decide) (hts (.fieldLink RX2 23 "LoafMarks$Town" "bakers" "[LLoafMarks$Baker;") (List.mem_of_getElem? (i := 1) rfl)) (fun _ h9 => h9) rfl dX2_bakerWithMark_12 ?_
      refine lv_iload_n hx hb dX2_bakerWithMark_15 rfl (lv_at hl 2 rfl) ?_
      refine xaldq hx hb hK hP 3 2 rfl rfl i rfl (by omega) (by decide) dX2_bakerWithMark_16 ?_
      rcases Nat.lt_or_ge i nB with hi | hi
      · refine W.eq (g2 := F0 m 17 ls [.ref (ad (8 + i))]) (by rw [rB_lt hi]) ?_
        refine lv_astore_n (lv' := [(3, .ref (ad (8 + i))), (0, .ref (ad 0)), (1, .int p0), (2, .int (nI i))]) hx hb dX2_bakerWithMark_17 rfl hl (by decide) rfl (fun ls hl => ?_)
        refine lv_aload_n hx hb dX2_bakerWithMark_18 rfl (lv_at hl 0 rfl) ?_
        refine lv_ifnull hx hb dX2_bakerWithMark_19 ?_
        refine lv_aload_n hx hb dX2_bakerWithMark_22 rfl (lv_at hl 0 rfl) ?_
        refine va_get (D := D) (ci := 0) (v := .int (bk i 1)) (C := RX0) (T := TX0) (N := 8) hx hb hts hinX0 hown hK.1 hP (4 + nS + i) (tw_bk hi) rfl 1 (by decide) (hts (.fieldLink RX2 78 "LoafMarks$Baker" "mark" "I") (List.mem_of_getElem? (i := 2) rfl)) (fun _ h9 => h9) rfl dX2_bakerWithMark_23 ?_
        refine lv_iload_n hx hb dX2_bakerWithMark_26 rfl (lv_at hl 2 rfl) ?_
        refine lv_icmp_ne (tgt := 32) hx hb dX2_bakerWithMark_27 (by decide) (fun c27 => ?_) (fun c27 => ?_)
        · refine lv_iinc (v := (nI (i + 1))) (lv' := [(2, .int (nI (i + 1))), (3, .ref (ad (8 + i))), (0, .ref (ad 0)), (1, .int p0)]) hx hb dX2_bakerWithMark_32 hl (k := 3) rfl ((nI_1 i)) (by decide) rfl (fun ls hl => ?_)
          refine lv_goto (tgt := 2) hx hb dX2_bakerWithMark_35 (by decide) ?_
          exact ih (i + 1)  _ _ _ (by omega) (by rw [hinv, show nB - i = (nB - (i + 1)) + 1 by omega]; show (if _ then _ else _) = _; rw [if_neg c27]) hP hD hS (lv_sub hl [2, 3, 0] rfl)
        · refine lv_iload_n hx hb dX2_bakerWithMark_30 rfl (lv_at hl 3 rfl) ?_
          exact xri () hx hb hr hlocks hS (Nat.le_of_ble_eq_true rfl) (Nat.le_of_ble_eq_true rfl) dX2_bakerWithMark_31 hP hD (by show some (Value.int (ownF bk p0 nB 0)) = _; rw [hinv, show nB - i = (nB - (i + 1)) + 1 by omega]; show some (Value.int (if _ then _ else _)) = _; rw [if_pos c27]) trivial
      · refine W.eq (g2 := F0 m 17 ls [.null]) (by rw [rB_ge hi]) ?_
        refine lv_astore_nN (lv' := [(3, .null), (0, .ref (ad 0)), (1, .int p0), (2, .int (nI i))]) hx hb dX2_bakerWithMark_17 rfl hl (by decide) rfl (fun ls hl => ?_)
        refine lv_aload_nN hx hb dX2_bakerWithMark_18 rfl (lv_at hl 0 rfl) ?_
        refine lv_ifnullN (tgt := 32) hx hb dX2_bakerWithMark_19 (by decide) ?_
        refine lv_iinc (v := (nI (i + 1))) (lv' := [(2, .int (nI (i + 1))), (3, .null), (0, .ref (ad 0)), (1, .int p0)]) hx hb dX2_bakerWithMark_32 hl (k := 3) rfl ((nI_1 i)) (by decide) rfl (fun ls hl => ?_)
        refine lv_goto (tgt := 2) hx hb dX2_bakerWithMark_35 (by decide) ?_
        exact ih (i + 1)  _ _ _ (by omega) (by rw [hinv, Nat.sub_eq_zero_of_le hi, Nat.sub_eq_zero_of_le (Nat.le_succ_of_le hi)]; rfl) hP hD hS (lv_sub hl [2, 3, 0] rfl)
  exact loop 6 0  _ _ _ (by omega) rfl hP hD hS (lv_sub hl [1, 2, 0] rfl)
