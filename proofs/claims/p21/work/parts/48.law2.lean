/-! ===== the law: the hour and what is told behind it (laid by g48.py) ===== -/
theorem le50 {x : Int32} (h : x.toInt ≤ 50) : x ≤ 50 := by
  have o : (50 : Int32).toInt = 50 := by decide
  exact Int32.le_iff_toInt_le.mpr (by omega)
theorem gt900 {x : Int32} (h : x.toInt ≤ 900) : ¬ 900 < x := fun z => by
  have := Int32.lt_iff_toInt_lt.mp z
  rw [i_900] at this
  omega
theorem gt4 {x : Int32} (h : x.toInt ≤ 4) : ¬ 4 < x := fun z => by
  have := Int32.lt_iff_toInt_lt.mp z
  have o : (4 : Int32).toInt = 4 := by decide
  omega
theorem lt4 {x : Int32} (h : ¬ 4 ≤ x) : x.toInt < 4 := by
  have := Int32.lt_iff_toInt_lt.mp (Int32.not_le.mp h)
  have o : (4 : Int32).toInt = 4 := by decide
  omega
theorem bt25 {x : Int32} (h : rgI 0 25 x) : (0 : Int32) ≤ x ∧ x ≤ 25 := by
  have o : (0 : Int32).toInt = 0 := rfl
  have o2 : (25 : Int32).toInt = 25 := by decide
  exact ⟨Int32.le_iff_toInt_le.mpr (by have := h.1; omega), Int32.le_iff_toInt_le.mpr (by have := h.2; omega)⟩
theorem jinv_hour {nS nB hq : Nat} {gate : Iu} {v : TS} (hI : jInv nS nB gate hq v) (hcS : nS ≤ 4) (hq1 : hq ≤ 200000) : jInv nS nB gate (hq + 1) (hour1 nS nB (hq % 24) gate v) :=
  jinv_same hI (inv_hour hcS hq1 hI.1) (fun _ hj => hour_q hj (by decide) (by decide) (by decide))
theorem own_hour {nS nB hq : Nat} {gate : Iu} {v : TS} (hI : jInv nS nB gate hq v) {j : Nat} (hj : j < nB) : ownF (hour1 nS nB (hq % 24) gate v).2.1 (v.2.1 j 1) nB 0 = nI j := by
  have e : ∀ q, q < nB → (hour1 nS nB (hq % 24) gate v).2.1 q 1 = v.2.1 q 1 := fun q hq => hour_q hq (by decide) (by decide) (by decide)
  rw [← e j hj]
  refine ownF_at (Nat.zero_le j) (by omega) (fun q _ hq z => ?_)
  rw [e q (by omega), e j hj] at z
  have := hI.2.2 q j (by omega) hj z
  omega
set_option maxHeartbeats 4000000 in
set_option maxRecDepth 100000 in
/-- the hour, as it was foreseen -/
theorem s_3 {p : Program} {l : Launch} {e : Env} {s : State} {m : MethodId} {below : List Frame} {meth : Method} {c : Code} {sb L : Nat} {xs : Nat → Int32} {D : va_G} {cy : Nat → ClassId} {A : Nat → Prop} {d0 : Drawn} {h : Nat} {am ad : Nat → Nat} {nS nB : Nat} {v : TS} {gate : Iu} {hq t : Nat} {C N : Nat} {av : Nat → Nat} {tS tB : Nat} {ts tb : Nat → Iu} {tg tn : Iu} {aw : Nat → Nat} (F : lF p s m meth c sb L xs D cy A d0) (hI : jInv nS nB gate hq v) (hq1 : hq ≤ 2000) (hcS : nS ≤ 4) (hcB : nB ≤ 6) (hC : C ≤ 600000) (hN : N ≤ 7000000) (htS : tS ≤ nS) (htB : tB ≤ nB) (KK : ∀ (av : Nat → Nat) (tS tB : Nat) (ts tb : Nat → Iu) (tg tn : Iu), tS ≤ nS → tB ≤ nB → lS p l e s m below meth c sb D A d0 412 [(0, .ref sb), (1, .ref h), (2, .ref (am 0)), (3, .int (nI t)), (5, .int (nI nS)), (6, .int (nI nB)), (7, .int (nI (hq % 24))), (8, .int (sm (fun i => v.1 i 0) nS)), (9, .int (sm (fun i => v.2.1 i 5) nB)), (10, .int (v.2.2 2)), (11, .int (v.2.2 5)), (12, .int (sm (fun i => v.1 i 2) nS)), (13, .ref (aw 0)), (15, .int (hUnfed nS nB (hq % 24) gate v)), (18, .int (sm (fun i => (hour1 nS nB (hq % 24) gate v).1 i 1) nS))] (sw cy am nS nB v.1 v.2.1 gate v.2.2 (xw cy h ad nS nB (hour1 nS nB (hq % 24) gate v).1 (hour1 nS nB (hq % 24) gate v).2.1 gate (hour1 nS nB (hq % 24) gate v).2.2 (av 0) (tw cy av tS tB ts tb tg tn) ++ wz cy aw nB v.2.1)) (C + 90) (N + 600)) : lS p l e s m below meth c sb D A d0 250 [(0, .ref sb), (1, .ref h), (2, .ref (am 0)), (3, .int (nI t)), (5, .int (nI nS)), (6, .int (nI nB)), (7, .int (nI (hq % 24))), (8, .int (sm (fun i => v.1 i 0) nS)), (9, .int (sm (fun i => v.2.1 i 5) nB)), (10, .int (v.2.2 2)), (11, .int (v.2.2 5)), (12, .int (sm (fun i => v.1 i 2) nS)), (13, .ref (aw 0))] (sw cy am nS nB v.1 v.2.1 gate v.2.2 (xw cy h ad nS nB v.1 v.2.1 gate v.2.2 (av 0) (tw cy av tS tB ts tb tg tn) ++ wz cy aw nB v.2.1)) (C) (N) := by
  obtain ⟨hx, hb, hts, hown, hml, hK, hX, hbl, hL, hbA, hA⟩ := id F
  intro H locs ls hP hD hS hl
  have hI1 := jinv_hour hI hcS (by omega)
  refine lv_aload_n hx hb dL_law_250 rfl (lv_at hl 1 rfl) ?_
  refine xcV (As := []) (rest := []) ⟨hx, hb, hml, hown, hts⟩ (c_X3_lasts l D cy h ad av nS nB tS tB v.1 v.2.1 ts tb gate v.2.2 tg tn htS htB hcS hcB (fun j hj => (hI.1.2.1 j hj).2.1) hq hI.1.2.2.2.2.1 (by omega) (fun j hj => (hI.1.2.1 j hj).1)) (cwV 0 hts gL_law_X3_lasts rfl rfl rfl (by decide +kernel) ⟨Nat.le_of_ble_eq_true rfl, Nat.le_of_ble_eq_true rfl⟩) hK hP hD hS hA rfl rfl rfl (xE_wrl) rfl hl.1 rfl (Nat.le_of_ble_eq_true rfl) dL_law_251 ⟨by show C + 10 ≤ 606250; omega, by show N + 60 ≤ 7282873; omega⟩ (fun q1 H locs _ hP hD hS => ?_)
  have hP : va_P D vwCl (sw cy am nS nB v.1 v.2.1 gate v.2.2 (xw cy h ad nS nB v.1 v.2.1 gate v.2.2 (q1.1 0) (tw cy q1.1 nS nB q1.2.1 q1.2.2.1 gate q1.2.2.2) ++ wz cy aw nB v.2.1)) H := hP
  have hD : va_D A (sw cy am nS nB v.1 v.2.1 gate v.2.2 (xw cy h ad nS nB v.1 v.2.1 gate v.2.2 (q1.1 0) (tw cy q1.1 nS nB q1.2.1 q1.2.2.1 gate q1.2.2.2) ++ wz cy aw nB v.2.1)) := hD
  refine W.eq (g2 := F0 m 254 ls [.int (lastN nS nB hq gate v 480 0)]) rfl ?_
  refine W.cs (cells' := C + 10) (slots' := N + 60) (by first | rfl | omega) (by first | rfl | omega) ?_
  refine lv_istore (lv' := [(14, .int (lastN nS nB hq gate v 480 0)), (0, .ref sb), (1, .ref h), (2, .ref (am 0)), (3, .int (nI t)), (5, .int (nI nS)), (6, .int (nI nB)), (7, .int (nI (hq % 24))), (8, .int (sm (fun i => v.1 i 0) nS)), (9, .int (sm (fun i => v.2.1 i 5) nB)), (10, .int (v.2.2 2)), (11, .int (v.2.2 5)), (12, .int (sm (fun i => v.1 i 2) nS)), (13, .ref (aw 0))]) hx hb dL_law_254 hl (by decide) rfl (fun ls hl => ?_)
  refine lv_aload_n hx hb dL_law_256 rfl (lv_at hl 2 rfl) ?_
  refine lv_iconst (v := 1) hx hb dL_law_257 (by decide) ?_
  refine lv_iconst (v := 0) hx hb dL_law_258 (by decide) ?_
  refine xcV (As := [.int 1, .int 0]) (rest := []) ⟨hx, hb, hml, hown, hts⟩ (c_X3_foresee l D cy h ad q1.1 nS nB nS nB v.1 v.2.1 q1.2.1 q1.2.2.1 gate v.2.2 gate q1.2.2.2 (Nat.le_refl nS) (Nat.le_refl nB) hcS hcB (fun j hj => (hI.1.2.1 j hj).2.1) hq 1 0 hI.1.2.2.2.2.1 (by decide) (by decide) (by omega) (by decide) (fun j hj => (hI.1.2.1 j hj).1)) (cwV 2 hts gL_law_X3_foresee rfl rfl rfl (by decide +kernel) ⟨Nat.le_of_ble_eq_true rfl, Nat.le_of_ble_eq_true rfl⟩) hK hP hD hS hA rfl rfl rfl (xE_wrl) rfl hl.1 rfl (Nat.le_of_ble_eq_true rfl) dL_law_259 ⟨by show C + 10 + 10 ≤ 606250; omega, by show N + 60 + 60 ≤ 7282873; omega⟩ (fun q2 H locs _ hP hD hS => ?_)
  have hP : va_P D vwCl (sw cy am nS nB v.1 v.2.1 gate v.2.2 (xw cy h ad nS nB v.1 v.2.1 gate v.2.2 (q2.1 0) (tw cy q2.1 nS nB q2.2.1 q2.2.2.1 gate q2.2.2.2) ++ wz cy aw nB v.2.1)) H := hP
  have hD : va_D A (sw cy am nS nB v.1 v.2.1 gate v.2.2 (xw cy h ad nS nB v.1 v.2.1 gate v.2.2 (q2.1 0) (tw cy q2.1 nS nB q2.2.1 q2.2.2.1 gate q2.2.2.2) ++ wz cy aw nB v.2.1)) := hD
  refine W.eq (g2 := F0 m 262 ls [.int (hUnfed nS nB (hq % 24) gate v)]) (congrArg (fun z => F0 m 262 ls (.int z :: [])) (zero_add1 _)) ?_
  refine W.cs (cells' := C + 10 + 10) (slots' := N + 60 + 60) (by first | rfl | omega) (by first | rfl | omega) ?_
  refine lv_istore (lv' := [(15, .int (hUnfed nS nB (hq % 24) gate v)), (14, .int (lastN nS nB hq gate v 480 0)), (0, .ref sb), (1, .ref h), (2, .ref (am 0)), (3, .int (nI t)), (5, .int (nI nS)), (6, .int (nI nB)), (7, .int (nI (hq % 24))), (8, .int (sm (fun i => v.1 i 0) nS)), (9, .int (sm (fun i => v.2.1 i 5) nB)), (10, .int (v.2.2 2)), (11, .int (v.2.2 5)), (12, .int (sm (fun i => v.1 i 2) nS)), (13, .ref (aw 0))]) hx hb dL_law_262 hl (by decide) rfl (fun ls hl => ?_)
  refine lv_aload_n hx hb dL_law_264 rfl (lv_at hl 3 rfl) ?_
  refine lv_iconst (v := 1) hx hb dL_law_265 (by decide) ?_
  refine lv_iconst (v := 1) hx hb dL_law_266 (by decide) ?_
  refine xcV (As := [.int 1, .int 1]) (rest := []) ⟨hx, hb, hml, hown, hts⟩ (c_X3_foresee l D cy h ad q2.1 nS nB nS nB v.1 v.2.1 q2.2.1 q2.2.2.1 gate v.2.2 gate q2.2.2.2 (Nat.le_refl nS) (Nat.le_refl nB) hcS hcB (fun j hj => (hI.1.2.1 j hj).2.1) hq 1 1 hI.1.2.2.2.2.1 (by decide) (by decide) (by omega) (by decide) (fun j hj => (hI.1.2.1 j hj).1)) (cwV 2 hts gL_law_X3_foresee rfl rfl rfl (by decide +kernel) ⟨Nat.le_of_ble_eq_true rfl, Nat.le_of_ble_eq_true rfl⟩) hK hP hD hS hA rfl rfl rfl (xE_wrl) rfl hl.1 rfl (Nat.le_of_ble_eq_true rfl) dL_law_267 ⟨by show C + 10 + 10 + 10 ≤ 606250; omega, by show N + 60 + 60 + 60 ≤ 7282873; omega⟩ (fun q3 H locs _ hP hD hS => ?_)
  have hP : va_P D vwCl (sw cy am nS nB v.1 v.2.1 gate v.2.2 (xw cy h ad nS nB v.1 v.2.1 gate v.2.2 (q3.1 0) (tw cy q3.1 nS nB q3.2.1 q3.2.2.1 gate q3.2.2.2) ++ wz cy aw nB v.2.1)) H := hP
  have hD : va_D A (sw cy am nS nB v.1 v.2.1 gate v.2.2 (xw cy h ad nS nB v.1 v.2.1 gate v.2.2 (q3.1 0) (tw cy q3.1 nS nB q3.2.1 q3.2.2.1 gate q3.2.2.2) ++ wz cy aw nB v.2.1)) := hD
  refine W.eq (g2 := F0 m 270 ls [.int (sm (fun i => (hour1 nS nB (hq % 24) gate v).1 i 0) nS)]) rfl ?_
  refine W.cs (cells' := C + 10 + 10 + 10) (slots' := N + 60 + 60 + 60) (by first | rfl | omega) (by first | rfl | omega) ?_
  refine lv_istore (lv' := [(16, .int (sm (fun i => (hour1 nS nB (hq % 24) gate v).1 i 0) nS)), (15, .int (hUnfed nS nB (hq % 24) gate v)), (14, .int (lastN nS nB hq gate v 480 0)), (0, .ref sb), (1, .ref h), (2, .ref (am 0)), (3, .int (nI t)), (5, .int (nI nS)), (6, .int (nI nB)), (7, .int (nI (hq % 24))), (8, .int (sm (fun i => v.1 i 0) nS)), (9, .int (sm (fun i => v.2.1 i 5) nB)), (10, .int (v.2.2 2)), (11, .int (v.2.2 5)), (12, .int (sm (fun i => v.1 i 2) nS)), (13, .ref (aw 0))]) hx hb dL_law_270 hl (by decide) rfl (fun ls hl => ?_)
  refine lv_aload_n hx hb dL_law_272 rfl (lv_at hl 4 rfl) ?_
  refine lv_iconst (v := 1) hx hb dL_law_273 (by decide) ?_
  refine lv_iconst (v := 2) hx hb dL_law_274 (by decide) ?_
  refine xcV (As := [.int 1, .int 2]) (rest := []) ⟨hx, hb, hml, hown, hts⟩ (c_X3_foresee l D cy h ad q3.1 nS nB nS nB v.1 v.2.1 q3.2.1 q3.2.2.1 gate v.2.2 gate q3.2.2.2 (Nat.le_refl nS) (Nat.le_refl nB) hcS hcB (fun j hj => (hI.1.2.1 j hj).2.1) hq 1 2 hI.1.2.2.2.2.1 (by decide) (by decide) (by omega) (by decide) (fun j hj => (hI.1.2.1 j hj).1)) (cwV 2 hts gL_law_X3_foresee rfl rfl rfl (by decide +kernel) ⟨Nat.le_of_ble_eq_true rfl, Nat.le_of_ble_eq_true rfl⟩) hK hP hD hS hA rfl rfl rfl (xE_wrl) rfl hl.1 rfl (Nat.le_of_ble_eq_true rfl) dL_law_275 ⟨by show C + 10 + 10 + 10 + 10 ≤ 606250; omega, by show N + 60 + 60 + 60 + 60 ≤ 7282873; omega⟩ (fun q4 H locs _ hP hD hS => ?_)
  have hP : va_P D vwCl (sw cy am nS nB v.1 v.2.1 gate v.2.2 (xw cy h ad nS nB v.1 v.2.1 gate v.2.2 (q4.1 0) (tw cy q4.1 nS nB q4.2.1 q4.2.2.1 gate q4.2.2.2) ++ wz cy aw nB v.2.1)) H := hP
  have hD : va_D A (sw cy am nS nB v.1 v.2.1 gate v.2.2 (xw cy h ad nS nB v.1 v.2.1 gate v.2.2 (q4.1 0) (tw cy q4.1 nS nB q4.2.1 q4.2.2.1 gate q4.2.2.2) ++ wz cy aw nB v.2.1)) := hD
  refine W.eq (g2 := F0 m 278 ls [.int (sm (fun i => (hour1 nS nB (hq % 24) gate v).2.1 i 5) nB)]) rfl ?_
  refine W.cs (cells' := C + 10 + 10 + 10 + 10) (slots' := N + 60 + 60 + 60 + 60) (by first | rfl | omega) (by first | rfl | omega) ?_
  refine lv_istore (lv' := [(17, .int (sm (fun i => (hour1 nS nB (hq % 24) gate v).2.1 i 5) nB)), (16, .int (sm (fun i => (hour1 nS nB (hq % 24) gate v).1 i 0) nS)), (15, .int (hUnfed nS nB (hq % 24) gate v)), (14, .int (lastN nS nB hq gate v 480 0)), (0, .ref sb), (1, .ref h), (2, .ref (am 0)), (3, .int (nI t)), (5, .int (nI nS)), (6, .int (nI nB)), (7, .int (nI (hq % 24))), (8, .int (sm (fun i => v.1 i 0) nS)), (9, .int (sm (fun i => v.2.1 i 5) nB)), (10, .int (v.2.2 2)), (11, .int (v.2.2 5)), (12, .int (sm (fun i => v.1 i 2) nS)), (13, .ref (aw 0))]) hx hb dL_law_278 hl (by decide) rfl (fun ls hl => ?_)
  refine lv_aload_n hx hb dL_law_280 rfl (lv_at hl 5 rfl) ?_
  refine lv_iconst (v := 1) hx hb dL_law_281 (by decide) ?_
  refine lv_iconst (v := 3) hx hb dL_law_282 (by decide) ?_
  refine xcV (As := [.int 1, .int 3]) (rest := []) ⟨hx, hb, hml, hown, hts⟩ (c_X3_foresee l D cy h ad q4.1 nS nB nS nB v.1 v.2.1 q4.2.1 q4.2.2.1 gate v.2.2 gate q4.2.2.2 (Nat.le_refl nS) (Nat.le_refl nB) hcS hcB (fun j hj => (hI.1.2.1 j hj).2.1) hq 1 3 hI.1.2.2.2.2.1 (by decide) (by decide) (by omega) (by decide) (fun j hj => (hI.1.2.1 j hj).1)) (cwV 2 hts gL_law_X3_foresee rfl rfl rfl (by decide +kernel) ⟨Nat.le_of_ble_eq_true rfl, Nat.le_of_ble_eq_true rfl⟩) hK hP hD hS hA rfl rfl rfl (xE_wrl) rfl hl.1 rfl (Nat.le_of_ble_eq_true rfl) dL_law_283 ⟨by show C + 10 + 10 + 10 + 10 + 10 ≤ 606250; omega, by show N + 60 + 60 + 60 + 60 + 60 ≤ 7282873; omega⟩ (fun q5 H locs _ hP hD hS => ?_)
  have hP : va_P D vwCl (sw cy am nS nB v.1 v.2.1 gate v.2.2 (xw cy h ad nS nB v.1 v.2.1 gate v.2.2 (q5.1 0) (tw cy q5.1 nS nB q5.2.1 q5.2.2.1 gate q5.2.2.2) ++ wz cy aw nB v.2.1)) H := hP
  have hD : va_D A (sw cy am nS nB v.1 v.2.1 gate v.2.2 (xw cy h ad nS nB v.1 v.2.1 gate v.2.2 (q5.1 0) (tw cy q5.1 nS nB q5.2.1 q5.2.2.1 gate q5.2.2.2) ++ wz cy aw nB v.2.1)) := hD
  refine W.eq (g2 := F0 m 286 ls [.int (sm (fun i => (hour1 nS nB (hq % 24) gate v).1 i 1) nS)]) rfl ?_
  refine W.cs (cells' := C + 10 + 10 + 10 + 10 + 10) (slots' := N + 60 + 60 + 60 + 60 + 60) (by first | rfl | omega) (by first | rfl | omega) ?_
  refine lv_istore (lv' := [(18, .int (sm (fun i => (hour1 nS nB (hq % 24) gate v).1 i 1) nS)), (17, .int (sm (fun i => (hour1 nS nB (hq % 24) gate v).2.1 i 5) nB)), (16, .int (sm (fun i => (hour1 nS nB (hq % 24) gate v).1 i 0) nS)), (15, .int (hUnfed nS nB (hq % 24) gate v)), (14, .int (lastN nS nB hq gate v 480 0)), (0, .ref sb), (1, .ref h), (2, .ref (am 0)), (3, .int (nI t)), (5, .int (nI nS)), (6, .int (nI nB)), (7, .int (nI (hq % 24))), (8, .int (sm (fun i => v.1 i 0) nS)), (9, .int (sm (fun i => v.2.1 i 5) nB)), (10, .int (v.2.2 2)), (11, .int (v.2.2 5)), (12, .int (sm (fun i => v.1 i 2) nS)), (13, .ref (aw 0))]) hx hb dL_law_286 hl (by decide) rfl (fun ls hl => ?_)
  refine lv_aload_n hx hb dL_law_288 rfl (lv_at hl 6 rfl) ?_
  refine lv_bipush (v := 7) hx hb dL_law_289 (by decide) ?_
  refine xcV (As := [.int 7]) (rest := []) ⟨hx, hb, hml, hown, hts⟩ (c_X3_count l D cy h ad nS nB v.1 v.2.1 gate v.2.2 (q5.1 0) (tw cy q5.1 nS nB q5.2.1 q5.2.2.1 gate q5.2.2.2) hq 7 hI.1.2.2.2.2.1 (by omega) (by decide) hcS hcB) (cwV 1 hts gL_law_X3_count rfl rfl rfl (by decide +kernel) ⟨Nat.le_of_ble_eq_true rfl, Nat.le_of_ble_eq_true rfl⟩) hK hP hD hS hA rfl rfl rfl (xE_wrl) rfl hl.1 rfl (Nat.le_of_ble_eq_true rfl) dL_law_291 ⟨by show C + 10 + 10 + 10 + 10 + 10 + 1 ≤ 606250; omega, by show N + 60 + 60 + 60 + 60 + 60 + 6 ≤ 7282873; omega⟩ (fun _ H locs _ hP hD hS => ?_)
  have hP : va_P D vwCl (sw cy am nS nB v.1 v.2.1 gate v.2.2 (xw cy h ad nS nB v.1 v.2.1 gate v.2.2 (q5.1 0) (tw cy q5.1 nS nB q5.2.1 q5.2.2.1 gate q5.2.2.2) ++ wz cy aw nB v.2.1)) H := hP
  have hD : va_D A (sw cy am nS nB v.1 v.2.1 gate v.2.2 (xw cy h ad nS nB v.1 v.2.1 gate v.2.2 (q5.1 0) (tw cy q5.1 nS nB q5.2.1 q5.2.2.1 gate q5.2.2.2) ++ wz cy aw nB v.2.1)) := hD
  refine W.eq (g2 := F0 m 294 ls [.int (v.2.2 4)]) rfl ?_
  refine W.cs (cells' := C + 10 + 10 + 10 + 10 + 10 + 1) (slots' := N + 60 + 60 + 60 + 60 + 60 + 6) (by first | rfl | omega) (by first | rfl | omega) ?_
  refine lv_istore (lv' := [(19, .int (v.2.2 4)), (18, .int (sm (fun i => (hour1 nS nB (hq % 24) gate v).1 i 1) nS)), (17, .int (sm (fun i => (hour1 nS nB (hq % 24) gate v).2.1 i 5) nB)), (16, .int (sm (fun i => (hour1 nS nB (hq % 24) gate v).1 i 0) nS)), (15, .int (hUnfed nS nB (hq % 24) gate v)), (14, .int (lastN nS nB hq gate v 480 0)), (0, .ref sb), (1, .ref h), (2, .ref (am 0)), (3, .int (nI t)), (5, .int (nI nS)), (6, .int (nI nB)), (7, .int (nI (hq % 24))), (8, .int (sm (fun i => v.1 i 0) nS)), (9, .int (sm (fun i => v.2.1 i 5) nB)), (10, .int (v.2.2 2)), (11, .int (v.2.2 5)), (12, .int (sm (fun i => v.1 i 2) nS)), (13, .ref (aw 0))]) hx hb dL_law_294 hl (by decide) rfl (fun ls hl => ?_)
  refine lv_aload_n hx hb dL_law_296 rfl (lv_at hl 7 rfl) ?_
  refine lv_iconst (v := 1) hx hb dL_law_297 (by decide) ?_
  refine xcV (As := [.int 1]) (rest := []) ⟨hx, hb, hml, hown, hts⟩ (c_X3_pass l D cy h ad nS nB v.1 v.2.1 gate v.2.2 (q5.1 0) (tw cy q5.1 nS nB q5.2.1 q5.2.2.1 gate q5.2.2.2) hq 1 hI.1.2.2.2.2.1 (by decide) (by decide) (by omega) hcS hcB (fun j hj => (hI.1.2.1 j hj).1)) (cwV 1 hts gL_law_X3_pass rfl rfl rfl (by decide +kernel) ⟨Nat.le_of_ble_eq_true rfl, Nat.le_of_ble_eq_true rfl⟩) hK hP hD hS hA rfl rfl rfl (xE_wrl) rfl hl.1 rfl (Nat.le_of_ble_eq_true rfl) dL_law_298 ⟨by show C + 10 + 10 + 10 + 10 + 10 + 1 + 1 ≤ 606250; omega, by show N + 60 + 60 + 60 + 60 + 60 + 6 + 6 ≤ 7282873; omega⟩ (fun _ H locs _ hP hD hS => ?_)
  have hP : va_P D vwCl (sw cy am nS nB v.1 v.2.1 gate v.2.2 (xw cy h ad nS nB (hour1 nS nB (hq % 24) gate v).1 (hour1 nS nB (hq % 24) gate v).2.1 gate (hour1 nS nB (hq % 24) gate v).2.2 (q5.1 0) (tw cy q5.1 nS nB q5.2.1 q5.2.2.1 gate q5.2.2.2) ++ wz cy aw nB v.2.1)) H := hP
  have hD : va_D A (sw cy am nS nB v.1 v.2.1 gate v.2.2 (xw cy h ad nS nB (hour1 nS nB (hq % 24) gate v).1 (hour1 nS nB (hq % 24) gate v).2.1 gate (hour1 nS nB (hq % 24) gate v).2.2 (q5.1 0) (tw cy q5.1 nS nB q5.2.1 q5.2.2.1 gate q5.2.2.2) ++ wz cy aw nB v.2.1)) := hD
  refine W.eq (g2 := F0 m 301 ls [.int (hUnfed nS nB (hq % 24) gate v)]) (congrArg (fun z => F0 m 301 ls (.int z :: [])) (zero_add1 _)) ?_
  refine W.cs (cells' := C + 10 + 10 + 10 + 10 + 10 + 1 + 1) (slots' := N + 60 + 60 + 60 + 60 + 60 + 6 + 6) (by first | rfl | omega) (by first | rfl | omega) ?_
  refine lv_iload hx hb dL_law_301 (lv_at hl 4 rfl) ?_
  refine lv_icmp_ne (tgt := 410) hx hb dL_law_303 (by decide) (fun z => absurd rfl z) (fun _ => ?_)
  refine lv_aload_n hx hb dL_law_306 rfl (lv_at hl 7 rfl) ?_
  refine lv_bipush (v := 7) hx hb dL_law_307 (by decide) ?_
  refine xcV (As := [.int 7]) (rest := []) ⟨hx, hb, hml, hown, hts⟩ (c_X3_count l D cy h ad nS nB (hour1 nS nB (hq % 24) gate v).1 (hour1 nS nB (hq % 24) gate v).2.1 gate (hour1 nS nB (hq % 24) gate v).2.2 (q5.1 0) (tw cy q5.1 nS nB q5.2.1 q5.2.2.1 gate q5.2.2.2) (hq + 1) 7 hI1.1.2.2.2.2.1 (by omega) (by decide) hcS hcB) (cwV 1 hts gL_law_X3_count rfl rfl rfl (by decide +kernel) ⟨Nat.le_of_ble_eq_true rfl, Nat.le_of_ble_eq_true rfl⟩) hK hP hD hS hA rfl rfl rfl (xE_wrl) rfl hl.1 rfl (Nat.le_of_ble_eq_true rfl) dL_law_309 ⟨by show C + 10 + 10 + 10 + 10 + 10 + 1 + 1 + 1 ≤ 606250; omega, by show N + 60 + 60 + 60 + 60 + 60 + 6 + 6 + 6 ≤ 7282873; omega⟩ (fun _ H locs _ hP hD hS => ?_)
  have hP : va_P D vwCl (sw cy am nS nB v.1 v.2.1 gate v.2.2 (xw cy h ad nS nB (hour1 nS nB (hq % 24) gate v).1 (hour1 nS nB (hq % 24) gate v).2.1 gate (hour1 nS nB (hq % 24) gate v).2.2 (q5.1 0) (tw cy q5.1 nS nB q5.2.1 q5.2.2.1 gate q5.2.2.2) ++ wz cy aw nB v.2.1)) H := hP
  have hD : va_D A (sw cy am nS nB v.1 v.2.1 gate v.2.2 (xw cy h ad nS nB (hour1 nS nB (hq % 24) gate v).1 (hour1 nS nB (hq % 24) gate v).2.1 gate (hour1 nS nB (hq % 24) gate v).2.2 (q5.1 0) (tw cy q5.1 nS nB q5.2.1 q5.2.2.1 gate q5.2.2.2) ++ wz cy aw nB v.2.1)) := hD
  refine W.eq (g2 := F0 m 312 ls [.int ((hour1 nS nB (hq % 24) gate v).2.2 4)]) rfl ?_
  refine W.cs (cells' := C + 10 + 10 + 10 + 10 + 10 + 1 + 1 + 1) (slots' := N + 60 + 60 + 60 + 60 + 60 + 6 + 6 + 6) (by first | rfl | omega) (by first | rfl | omega) ?_
  refine lv_iload hx hb dL_law_312 (lv_at hl 0 rfl) ?_
  refine lv_iload hx hb dL_law_314 (lv_at hl 4 rfl) ?_
  refine lv_iadd hx hb dL_law_316 ?_
  refine lv_icmp_ne (tgt := 410) hx hb dL_law_317 (by decide) (fun z => absurd (hour1_4 _ _ _ _ _) z) (fun _ => ?_)
  refine lv_aload_n hx hb dL_law_320 rfl (lv_at hl 7 rfl) ?_
  refine lv_iconst (v := 3) hx hb dL_law_321 (by decide) ?_
  refine xcV (As := [.int 3]) (rest := []) ⟨hx, hb, hml, hown, hts⟩ (c_X3_count l D cy h ad nS nB (hour1 nS nB (hq % 24) gate v).1 (hour1 nS nB (hq % 24) gate v).2.1 gate (hour1 nS nB (hq % 24) gate v).2.2 (q5.1 0) (tw cy q5.1 nS nB q5.2.1 q5.2.2.1 gate q5.2.2.2) (hq + 1) 3 hI1.1.2.2.2.2.1 (by omega) (by decide) hcS hcB) (cwV 1 hts gL_law_X3_count rfl rfl rfl (by decide +kernel) ⟨Nat.le_of_ble_eq_true rfl, Nat.le_of_ble_eq_true rfl⟩) hK hP hD hS hA rfl rfl rfl (xE_wrl) rfl hl.1 rfl (Nat.le_of_ble_eq_true rfl) dL_law_322 ⟨by show C + 10 + 10 + 10 + 10 + 10 + 1 + 1 + 1 + 1 ≤ 606250; omega, by show N + 60 + 60 + 60 + 60 + 60 + 6 + 6 + 6 + 6 ≤ 7282873; omega⟩ (fun _ H locs _ hP hD hS => ?_)
  have hP : va_P D vwCl (sw cy am nS nB v.1 v.2.1 gate v.2.2 (xw cy h ad nS nB (hour1 nS nB (hq % 24) gate v).1 (hour1 nS nB (hq % 24) gate v).2.1 gate (hour1 nS nB (hq % 24) gate v).2.2 (q5.1 0) (tw cy q5.1 nS nB q5.2.1 q5.2.2.1 gate q5.2.2.2) ++ wz cy aw nB v.2.1)) H := hP
  have hD : va_D A (sw cy am nS nB v.1 v.2.1 gate v.2.2 (xw cy h ad nS nB (hour1 nS nB (hq % 24) gate v).1 (hour1 nS nB (hq % 24) gate v).2.1 gate (hour1 nS nB (hq % 24) gate v).2.2 (q5.1 0) (tw cy q5.1 nS nB q5.2.1 q5.2.2.1 gate q5.2.2.2) ++ wz cy aw nB v.2.1)) := hD
  refine W.eq (g2 := F0 m 325 ls [.int (sm (fun i => (hour1 nS nB (hq % 24) gate v).1 i 0) nS)]) rfl ?_
  refine W.cs (cells' := C + 10 + 10 + 10 + 10 + 10 + 1 + 1 + 1 + 1) (slots' := N + 60 + 60 + 60 + 60 + 60 + 6 + 6 + 6 + 6) (by first | rfl | omega) (by first | rfl | omega) ?_
  refine lv_iload hx hb dL_law_325 (lv_at hl 3 rfl) ?_
  refine lv_icmp_ne (tgt := 410) hx hb dL_law_327 (by decide) (fun z => absurd rfl z) (fun _ => ?_)
  refine lv_aload_n hx hb dL_law_330 rfl (lv_at hl 7 rfl) ?_
  refine lv_iconst (v := 4) hx hb dL_law_331 (by decide) ?_
  refine xcV (As := [.int 4]) (rest := []) ⟨hx, hb, hml, hown, hts⟩ (c_X3_count l D cy h ad nS nB (hour1 nS nB (hq % 24) gate v).1 (hour1 nS nB (hq % 24) gate v).2.1 gate (hour1 nS nB (hq % 24) gate v).2.2 (q5.1 0) (tw cy q5.1 nS nB q5.2.1 q5.2.2.1 gate q5.2.2.2) (hq + 1) 4 hI1.1.2.2.2.2.1 (by omega) (by decide) hcS hcB) (cwV 1 hts gL_law_X3_count rfl rfl rfl (by decide +kernel) ⟨Nat.le_of_ble_eq_true rfl, Nat.le_of_ble_eq_true rfl⟩) hK hP hD hS hA rfl rfl rfl (xE_wrl) rfl hl.1 rfl (Nat.le_of_ble_eq_true rfl) dL_law_332 ⟨by show C + 10 + 10 + 10 + 10 + 10 + 1 + 1 + 1 + 1 + 1 ≤ 606250; omega, by show N + 60 + 60 + 60 + 60 + 60 + 6 + 6 + 6 + 6 + 6 ≤ 7282873; omega⟩ (fun _ H locs _ hP hD hS => ?_)
  have hP : va_P D vwCl (sw cy am nS nB v.1 v.2.1 gate v.2.2 (xw cy h ad nS nB (hour1 nS nB (hq % 24) gate v).1 (hour1 nS nB (hq % 24) gate v).2.1 gate (hour1 nS nB (hq % 24) gate v).2.2 (q5.1 0) (tw cy q5.1 nS nB q5.2.1 q5.2.2.1 gate q5.2.2.2) ++ wz cy aw nB v.2.1)) H := hP
  have hD : va_D A (sw cy am nS nB v.1 v.2.1 gate v.2.2 (xw cy h ad nS nB (hour1 nS nB (hq % 24) gate v).1 (hour1 nS nB (hq % 24) gate v).2.1 gate (hour1 nS nB (hq % 24) gate v).2.2 (q5.1 0) (tw cy q5.1 nS nB q5.2.1 q5.2.2.1 gate q5.2.2.2) ++ wz cy aw nB v.2.1)) := hD
  refine W.eq (g2 := F0 m 335 ls [.int (sm (fun i => (hour1 nS nB (hq % 24) gate v).2.1 i 5) nB)]) rfl ?_
  refine W.cs (cells' := C + 10 + 10 + 10 + 10 + 10 + 1 + 1 + 1 + 1 + 1) (slots' := N + 60 + 60 + 60 + 60 + 60 + 6 + 6 + 6 + 6 + 6) (by first | rfl | omega) (by first | rfl | omega) ?_
  refine lv_iload hx hb dL_law_335 (lv_at hl 2 rfl) ?_
  refine lv_icmp_ne (tgt := 410) hx hb dL_law_337 (by decide) (fun z => absurd rfl z) (fun _ => ?_)
  refine lv_iload hx hb dL_law_340 (lv_at hl 12 rfl) ?_
  refine lv_bipush (v := 12) hx hb dL_law_342 (by decide) ?_
  refine lv_icmp_eq (tgt := 352) hx hb dL_law_344 (by decide) (fun c344 => ?_) (fun c344 => ?_)
  · refine lv_iload hx hb dL_law_352 (lv_at hl 5 rfl) ?_
    refine lv_iconst (v := 1) hx hb dL_law_354 (by decide) ?_
    refine lv_icmp_le (tgt := 369) hx hb dL_law_355 (by decide) (fun c355 => ?_) (fun c355 => ?_)
    · refine lv_iload hx hb dL_law_369 (lv_at hl 5 rfl) ?_
      refine lv_iconst (v := 1) hx hb dL_law_371 (by decide) ?_
      refine lv_icmp_le (tgt := 386) hx hb dL_law_372 (by decide) (fun _ => ?_) (fun h => absurd c355 h)
      refine lv_iload hx hb dL_law_386 (lv_at hl 5 rfl) ?_
      refine lv_iconst (v := 1) hx hb dL_law_388 (by decide) ?_
      refine lv_icmp_ne (tgt := 396) hx hb dL_law_389 (by decide) (fun c389 => ?_) (fun c389 => ?_)
      · refine lv_iconst (v := 0) hx hb dL_law_396 (by decide) ?_
        refine lv_iload hx hb dL_law_397 (lv_at hl 4 rfl) ?_
        refine lv_if_le (tgt := 406) hx hb dL_law_399 (by decide) (fun _ => ?_) (fun h => absurd (Int32.not_lt.mp (fun z => c389 (lasts_one.mpr z))) h)
        refine lv_iconst (v := 0) hx hb dL_law_406 (by decide) ?_
        refine lv_icmp_eq (tgt := 412) hx hb dL_law_407 (by decide) (fun _ => ?_) (fun z => absurd rfl z)
        refine W.widen (k := C + 90) (n := N + 600) (by omega) (by omega) ?_
        exact KK q5.1 nS nB q5.2.1 q5.2.2.1 gate q5.2.2.2 (Nat.le_refl nS) (Nat.le_refl nB) _ _ _ hP hD hS (lv_sub hl [6, 7, 8, 9, 10, 11, 12, 13, 14, 15, 16, 17, 18, 4, 1] rfl)
      · refine lv_iconst (v := 1) hx hb dL_law_392 (by decide) ?_
        refine lv_goto (tgt := 397) hx hb dL_law_393 (by decide) ?_
        refine lv_iload hx hb dL_law_397 (lv_at hl 4 rfl) ?_
        refine lv_if_le (tgt := 406) hx hb dL_law_399 (by decide) (fun h => absurd h (Int32.not_le.mpr (lasts_one.mp c389))) (fun _ => ?_)
        refine lv_iconst (v := 1) hx hb dL_law_402 (by decide) ?_
        refine lv_goto (tgt := 407) hx hb dL_law_403 (by decide) ?_
        refine lv_icmp_eq (tgt := 412) hx hb dL_law_407 (by decide) (fun _ => ?_) (fun z => absurd rfl z)
        refine W.widen (k := C + 90) (n := N + 600) (by omega) (by omega) ?_
        exact KK q5.1 nS nB q5.2.1 q5.2.2.1 gate q5.2.2.2 (Nat.le_refl nS) (Nat.le_refl nB) _ _ _ hP hD hS (lv_sub hl [6, 7, 8, 9, 10, 11, 12, 13, 14, 15, 16, 17, 18, 4, 1] rfl)
    · refine lv_aload_n hx hb dL_law_358 rfl (lv_at hl 7 rfl) ?_
      refine xcV (As := []) (rest := []) ⟨hx, hb, hml, hown, hts⟩ (c_X3_lasts l D cy h ad q5.1 nS nB nS nB (hour1 nS nB (hq % 24) gate v).1 (hour1 nS nB (hq % 24) gate v).2.1 q5.2.1 q5.2.2.1 gate (hour1 nS nB (hq % 24) gate v).2.2 gate q5.2.2.2 (Nat.le_refl nS) (Nat.le_refl nB) hcS hcB (fun j hj => (hI1.1.2.1 j hj).2.1) (hq + 1) hI1.1.2.2.2.2.1 (by omega) (fun j hj => (hI1.1.2.1 j hj).1)) (cwV 0 hts gL_law_X3_lasts rfl rfl rfl (by decide +kernel) ⟨Nat.le_of_ble_eq_true rfl, Nat.le_of_ble_eq_true rfl⟩) hK hP hD hS hA rfl rfl rfl (xE_wrl) rfl hl.1 rfl (Nat.le_of_ble_eq_true rfl) dL_law_359 ⟨by show C + 10 + 10 + 10 + 10 + 10 + 1 + 1 + 1 + 1 + 1 + 10 ≤ 606250; omega, by show N + 60 + 60 + 60 + 60 + 60 + 6 + 6 + 6 + 6 + 6 + 60 ≤ 7282873; omega⟩ (fun q6 H locs _ hP hD hS => ?_)
      have hP : va_P D vwCl (sw cy am nS nB v.1 v.2.1 gate v.2.2 (xw cy h ad nS nB (hour1 nS nB (hq % 24) gate v).1 (hour1 nS nB (hq % 24) gate v).2.1 gate (hour1 nS nB (hq % 24) gate v).2.2 (q6.1 0) (tw cy q6.1 nS nB q6.2.1 q6.2.2.1 gate q6.2.2.2) ++ wz cy aw nB v.2.1)) H := hP
      have hD : va_D A (sw cy am nS nB v.1 v.2.1 gate v.2.2 (xw cy h ad nS nB (hour1 nS nB (hq % 24) gate v).1 (hour1 nS nB (hq % 24) gate v).2.1 gate (hour1 nS nB (hq % 24) gate v).2.2 (q6.1 0) (tw cy q6.1 nS nB q6.2.1 q6.2.2.1 gate q6.2.2.2) ++ wz cy aw nB v.2.1)) := hD
      refine W.eq (g2 := F0 m 362 ls [.int (lastN nS nB (hq + 1) gate (hour1 nS nB (hq % 24) gate v) 480 0)]) rfl ?_
      refine W.cs (cells' := C + 10 + 10 + 10 + 10 + 10 + 1 + 1 + 1 + 1 + 1 + 10) (slots' := N + 60 + 60 + 60 + 60 + 60 + 6 + 6 + 6 + 6 + 6 + 60) (by first | rfl | omega) (by first | rfl | omega) ?_
      refine lv_iload hx hb dL_law_362 (lv_at hl 5 rfl) ?_
      refine lv_iconst (v := 1) hx hb dL_law_364 (by decide) ?_
      refine lv_isub hx hb dL_law_365 ?_
      refine lv_icmp_lt (tgt := 410) hx hb dL_law_366 (by decide) (fun h => absurd h (by rw [lasts_next (Int32.not_le.mp c355)]; exact Int32.lt_irrefl)) (fun _ => ?_)
      refine lv_iload hx hb dL_law_369 (lv_at hl 5 rfl) ?_
      refine lv_iconst (v := 1) hx hb dL_law_371 (by decide) ?_
      refine lv_icmp_le (tgt := 386) hx hb dL_law_372 (by decide) (fun h => absurd h c355) (fun _ => ?_)
      refine lv_aload_n hx hb dL_law_375 rfl (lv_at hl 7 rfl) ?_
      refine xcV (As := []) (rest := []) ⟨hx, hb, hml, hown, hts⟩ (c_X3_lasts l D cy h ad q6.1 nS nB nS nB (hour1 nS nB (hq % 24) gate v).1 (hour1 nS nB (hq % 24) gate v).2.1 q6.2.1 q6.2.2.1 gate (hour1 nS nB (hq % 24) gate v).2.2 gate q6.2.2.2 (Nat.le_refl nS) (Nat.le_refl nB) hcS hcB (fun j hj => (hI1.1.2.1 j hj).2.1) (hq + 1) hI1.1.2.2.2.2.1 (by omega) (fun j hj => (hI1.1.2.1 j hj).1)) (cwV 0 hts gL_law_X3_lasts rfl rfl rfl (by decide +kernel) ⟨Nat.le_of_ble_eq_true rfl, Nat.le_of_ble_eq_true rfl⟩) hK hP hD hS hA rfl rfl rfl (xE_wrl) rfl hl.1 rfl (Nat.le_of_ble_eq_true rfl) dL_law_376 ⟨by show C + 10 + 10 + 10 + 10 + 10 + 1 + 1 + 1 + 1 + 1 + 10 + 10 ≤ 606250; omega, by show N + 60 + 60 + 60 + 60 + 60 + 6 + 6 + 6 + 6 + 6 + 60 + 60 ≤ 7282873; omega⟩ (fun q7 H locs _ hP hD hS => ?_)
      have hP : va_P D vwCl (sw cy am nS nB v.1 v.2.1 gate v.2.2 (xw cy h ad nS nB (hour1 nS nB (hq % 24) gate v).1 (hour1 nS nB (hq % 24) gate v).2.1 gate (hour1 nS nB (hq % 24) gate v).2.2 (q7.1 0) (tw cy q7.1 nS nB q7.2.1 q7.2.2.1 gate q7.2.2.2) ++ wz cy aw nB v.2.1)) H := hP
      have hD : va_D A (sw cy am nS nB v.1 v.2.1 gate v.2.2 (xw cy h ad nS nB (hour1 nS nB (hq % 24) gate v).1 (hour1 nS nB (hq % 24) gate v).2.1 gate (hour1 nS nB (hq % 24) gate v).2.2 (q7.1 0) (tw cy q7.1 nS nB q7.2.1 q7.2.2.1 gate q7.2.2.2) ++ wz cy aw nB v.2.1)) := hD
      refine W.eq (g2 := F0 m 379 ls [.int (lastN nS nB (hq + 1) gate (hour1 nS nB (hq % 24) gate v) 480 0)]) rfl ?_
      refine W.cs (cells' := C + 10 + 10 + 10 + 10 + 10 + 1 + 1 + 1 + 1 + 1 + 10 + 10) (slots' := N + 60 + 60 + 60 + 60 + 60 + 6 + 6 + 6 + 6 + 6 + 60 + 60) (by first | rfl | omega) (by first | rfl | omega) ?_
      refine lv_iload hx hb dL_law_379 (lv_at hl 5 rfl) ?_
      refine lv_iconst (v := 1) hx hb dL_law_381 (by decide) ?_
      refine lv_isub hx hb dL_law_382 ?_
      refine lv_icmp_gt (tgt := 410) hx hb dL_law_383 (by decide) (fun h => absurd h (by rw [lasts_next (Int32.not_le.mp c355)]; exact Int32.lt_irrefl)) (fun _ => ?_)
      refine lv_iload hx hb dL_law_386 (lv_at hl 5 rfl) ?_
      refine lv_iconst (v := 1) hx hb dL_law_388 (by decide) ?_
      refine lv_icmp_ne (tgt := 396) hx hb dL_law_389 (by decide) (fun c389 => ?_) (fun c389 => ?_)
      · refine lv_iconst (v := 0) hx hb dL_law_396 (by decide) ?_
        refine lv_iload hx hb dL_law_397 (lv_at hl 4 rfl) ?_
        refine lv_if_le (tgt := 406) hx hb dL_law_399 (by decide) (fun _ => ?_) (fun h => absurd (Int32.not_lt.mp (fun z => c389 (lasts_one.mpr z))) h)
        refine lv_iconst (v := 0) hx hb dL_law_406 (by decide) ?_
        refine lv_icmp_eq (tgt := 412) hx hb dL_law_407 (by decide) (fun _ => ?_) (fun z => absurd rfl z)
        refine W.widen (k := C + 90) (n := N + 600) (by omega) (by omega) ?_
        exact KK q7.1 nS nB q7.2.1 q7.2.2.1 gate q7.2.2.2 (Nat.le_refl nS) (Nat.le_refl nB) _ _ _ hP hD hS (lv_sub hl [6, 7, 8, 9, 10, 11, 12, 13, 14, 15, 16, 17, 18, 4, 1] rfl)
      · refine lv_iconst (v := 1) hx hb dL_law_392 (by decide) ?_
        refine lv_goto (tgt := 397) hx hb dL_law_393 (by decide) ?_
        refine lv_iload hx hb dL_law_397 (lv_at hl 4 rfl) ?_
        refine lv_if_le (tgt := 406) hx hb dL_law_399 (by decide) (fun h => absurd h (Int32.not_le.mpr (lasts_one.mp c389))) (fun _ => ?_)
        refine lv_iconst (v := 1) hx hb dL_law_402 (by decide) ?_
        refine lv_goto (tgt := 407) hx hb dL_law_403 (by decide) ?_
        refine lv_icmp_eq (tgt := 412) hx hb dL_law_407 (by decide) (fun _ => ?_) (fun z => absurd rfl z)
        refine W.widen (k := C + 90) (n := N + 600) (by omega) (by omega) ?_
        exact KK q7.1 nS nB q7.2.1 q7.2.2.1 gate q7.2.2.2 (Nat.le_refl nS) (Nat.le_refl nB) _ _ _ hP hD hS (lv_sub hl [6, 7, 8, 9, 10, 11, 12, 13, 14, 15, 16, 17, 18, 4, 1] rfl)
  · refine lv_iload hx hb dL_law_347 (lv_at hl 4 rfl) ?_
    refine lv_if_ne (tgt := 410) hx hb dL_law_349 (by decide) (fun z => absurd (unf_ne (ne12 (Nat.mod_lt _ (by decide)) c344)) z) (fun _ => ?_)
    refine lv_iload hx hb dL_law_352 (lv_at hl 5 rfl) ?_
    refine lv_iconst (v := 1) hx hb dL_law_354 (by decide) ?_
    refine lv_icmp_le (tgt := 369) hx hb dL_law_355 (by decide) (fun c355 => ?_) (fun c355 => ?_)
    · refine lv_iload hx hb dL_law_369 (lv_at hl 5 rfl) ?_
      refine lv_iconst (v := 1) hx hb dL_law_371 (by decide) ?_
      refine lv_icmp_le (tgt := 386) hx hb dL_law_372 (by decide) (fun _ => ?_) (fun h => absurd c355 h)
      refine lv_iload hx hb dL_law_386 (lv_at hl 5 rfl) ?_
      refine lv_iconst (v := 1) hx hb dL_law_388 (by decide) ?_
      refine lv_icmp_ne (tgt := 396) hx hb dL_law_389 (by decide) (fun c389 => ?_) (fun c389 => ?_)
      · refine lv_iconst (v := 0) hx hb dL_law_396 (by decide) ?_
        refine lv_iload hx hb dL_law_397 (lv_at hl 4 rfl) ?_
        refine lv_if_le (tgt := 406) hx hb dL_law_399 (by decide) (fun _ => ?_) (fun h => absurd (Int32.not_lt.mp (fun z => c389 (lasts_one.mpr z))) h)
        refine lv_iconst (v := 0) hx hb dL_law_406 (by decide) ?_
        refine lv_icmp_eq (tgt := 412) hx hb dL_law_407 (by decide) (fun _ => ?_) (fun z => absurd rfl z)
        refine W.widen (k := C + 90) (n := N + 600) (by omega) (by omega) ?_
        exact KK q5.1 nS nB q5.2.1 q5.2.2.1 gate q5.2.2.2 (Nat.le_refl nS) (Nat.le_refl nB) _ _ _ hP hD hS (lv_sub hl [6, 7, 8, 9, 10, 11, 12, 13, 14, 15, 16, 17, 18, 4, 1] rfl)
      · refine lv_iconst (v := 1) hx hb dL_law_392 (by decide) ?_
        refine lv_goto (tgt := 397) hx hb dL_law_393 (by decide) ?_
        refine lv_iload hx hb dL_law_397 (lv_at hl 4 rfl) ?_
        refine lv_if_le (tgt := 406) hx hb dL_law_399 (by decide) (fun h => absurd h (Int32.not_le.mpr (lasts_one.mp c389))) (fun _ => ?_)
        refine lv_iconst (v := 1) hx hb dL_law_402 (by decide) ?_
        refine lv_goto (tgt := 407) hx hb dL_law_403 (by decide) ?_
        refine lv_icmp_eq (tgt := 412) hx hb dL_law_407 (by decide) (fun _ => ?_) (fun z => absurd rfl z)
        refine W.widen (k := C + 90) (n := N + 600) (by omega) (by omega) ?_
        exact KK q5.1 nS nB q5.2.1 q5.2.2.1 gate q5.2.2.2 (Nat.le_refl nS) (Nat.le_refl nB) _ _ _ hP hD hS (lv_sub hl [6, 7, 8, 9, 10, 11, 12, 13, 14, 15, 16, 17, 18, 4, 1] rfl)
    · refine lv_aload_n hx hb dL_law_358 rfl (lv_at hl 7 rfl) ?_
      refine xcV (As := []) (rest := []) ⟨hx, hb, hml, hown, hts⟩ (c_X3_lasts l D cy h ad q5.1 nS nB nS nB (hour1 nS nB (hq % 24) gate v).1 (hour1 nS nB (hq % 24) gate v).2.1 q5.2.1 q5.2.2.1 gate (hour1 nS nB (hq % 24) gate v).2.2 gate q5.2.2.2 (Nat.le_refl nS) (Nat.le_refl nB) hcS hcB (fun j hj => (hI1.1.2.1 j hj).2.1) (hq + 1) hI1.1.2.2.2.2.1 (by omega) (fun j hj => (hI1.1.2.1 j hj).1)) (cwV 0 hts gL_law_X3_lasts rfl rfl rfl (by decide +kernel) ⟨Nat.le_of_ble_eq_true rfl, Nat.le_of_ble_eq_true rfl⟩) hK hP hD hS hA rfl rfl rfl (xE_wrl) rfl hl.1 rfl (Nat.le_of_ble_eq_true rfl) dL_law_359 ⟨by show C + 10 + 10 + 10 + 10 + 10 + 1 + 1 + 1 + 1 + 1 + 10 ≤ 606250; omega, by show N + 60 + 60 + 60 + 60 + 60 + 6 + 6 + 6 + 6 + 6 + 60 ≤ 7282873; omega⟩ (fun q6 H locs _ hP hD hS => ?_)
      have hP : va_P D vwCl (sw cy am nS nB v.1 v.2.1 gate v.2.2 (xw cy h ad nS nB (hour1 nS nB (hq % 24) gate v).1 (hour1 nS nB (hq % 24) gate v).2.1 gate (hour1 nS nB (hq % 24) gate v).2.2 (q6.1 0) (tw cy q6.1 nS nB q6.2.1 q6.2.2.1 gate q6.2.2.2) ++ wz cy aw nB v.2.1)) H := hP
      have hD : va_D A (sw cy am nS nB v.1 v.2.1 gate v.2.2 (xw cy h ad nS nB (hour1 nS nB (hq % 24) gate v).1 (hour1 nS nB (hq % 24) gate v).2.1 gate (hour1 nS nB (hq % 24) gate v).2.2 (q6.1 0) (tw cy q6.1 nS nB q6.2.1 q6.2.2.1 gate q6.2.2.2) ++ wz cy aw nB v.2.1)) := hD
      refine W.eq (g2 := F0 m 362 ls [.int (lastN nS nB (hq + 1) gate (hour1 nS nB (hq % 24) gate v) 480 0)]) rfl ?_
      refine W.cs (cells' := C + 10 + 10 + 10 + 10 + 10 + 1 + 1 + 1 + 1 + 1 + 10) (slots' := N + 60 + 60 + 60 + 60 + 60 + 6 + 6 + 6 + 6 + 6 + 60) (by first | rfl | omega) (by first | rfl | omega) ?_
      refine lv_iload hx hb dL_law_362 (lv_at hl 5 rfl) ?_
      refine lv_iconst (v := 1) hx hb dL_law_364 (by decide) ?_
      refine lv_isub hx hb dL_law_365 ?_
      refine lv_icmp_lt (tgt := 410) hx hb dL_law_366 (by decide) (fun h => absurd h (by rw [lasts_next (Int32.not_le.mp c355)]; exact Int32.lt_irrefl)) (fun _ => ?_)
      refine lv_iload hx hb dL_law_369 (lv_at hl 5 rfl) ?_
      refine lv_iconst (v := 1) hx hb dL_law_371 (by decide) ?_
      refine lv_icmp_le (tgt := 386) hx hb dL_law_372 (by decide) (fun h => absurd h c355) (fun _ => ?_)
      refine lv_aload_n hx hb dL_law_375 rfl (lv_at hl 7 rfl) ?_
      refine xcV (As := []) (rest := []) ⟨hx, hb, hml, hown, hts⟩ (c_X3_lasts l D cy h ad q6.1 nS nB nS nB (hour1 nS nB (hq % 24) gate v).1 (hour1 nS nB (hq % 24) gate v).2.1 q6.2.1 q6.2.2.1 gate (hour1 nS nB (hq % 24) gate v).2.2 gate q6.2.2.2 (Nat.le_refl nS) (Nat.le_refl nB) hcS hcB (fun j hj => (hI1.1.2.1 j hj).2.1) (hq + 1) hI1.1.2.2.2.2.1 (by omega) (fun j hj => (hI1.1.2.1 j hj).1)) (cwV 0 hts gL_law_X3_lasts rfl rfl rfl (by decide +kernel) ⟨Nat.le_of_ble_eq_true rfl, Nat.le_of_ble_eq_true rfl⟩) hK hP hD hS hA rfl rfl rfl (xE_wrl) rfl hl.1 rfl (Nat.le_of_ble_eq_true rfl) dL_law_376 ⟨by show C + 10 + 10 + 10 + 10 + 10 + 1 + 1 + 1 + 1 + 1 + 10 + 10 ≤ 606250; omega, by show N + 60 + 60 + 60 + 60 + 60 + 6 + 6 + 6 + 6 + 6 + 60 + 60 ≤ 7282873; omega⟩ (fun q7 H locs _ hP hD hS => ?_)
      have hP : va_P D vwCl (sw cy am nS nB v.1 v.2.1 gate v.2.2 (xw cy h ad nS nB (hour1 nS nB (hq % 24) gate v).1 (hour1 nS nB (hq % 24) gate v).2.1 gate (hour1 nS nB (hq % 24) gate v).2.2 (q7.1 0) (tw cy q7.1 nS nB q7.2.1 q7.2.2.1 gate q7.2.2.2) ++ wz cy aw nB v.2.1)) H := hP
      have hD : va_D A (sw cy am nS nB v.1 v.2.1 gate v.2.2 (xw cy h ad nS nB (hour1 nS nB (hq % 24) gate v).1 (hour1 nS nB (hq % 24) gate v).2.1 gate (hour1 nS nB (hq % 24) gate v).2.2 (q7.1 0) (tw cy q7.1 nS nB q7.2.1 q7.2.2.1 gate q7.2.2.2) ++ wz cy aw nB v.2.1)) := hD
      refine W.eq (g2 := F0 m 379 ls [.int (lastN nS nB (hq + 1) gate (hour1 nS nB (hq % 24) gate v) 480 0)]) rfl ?_
      refine W.cs (cells' := C + 10 + 10 + 10 + 10 + 10 + 1 + 1 + 1 + 1 + 1 + 10 + 10) (slots' := N + 60 + 60 + 60 + 60 + 60 + 6 + 6 + 6 + 6 + 6 + 60 + 60) (by first | rfl | omega) (by first | rfl | omega) ?_
      refine lv_iload hx hb dL_law_379 (lv_at hl 5 rfl) ?_
      refine lv_iconst (v := 1) hx hb dL_law_381 (by decide) ?_
      refine lv_isub hx hb dL_law_382 ?_
      refine lv_icmp_gt (tgt := 410) hx hb dL_law_383 (by decide) (fun h => absurd h (by rw [lasts_next (Int32.not_le.mp c355)]; exact Int32.lt_irrefl)) (fun _ => ?_)
      refine lv_iload hx hb dL_law_386 (lv_at hl 5 rfl) ?_
      refine lv_iconst (v := 1) hx hb dL_law_388 (by decide) ?_
      refine lv_icmp_ne (tgt := 396) hx hb dL_law_389 (by decide) (fun c389 => ?_) (fun c389 => ?_)
      · refine lv_iconst (v := 0) hx hb dL_law_396 (by decide) ?_
        refine lv_iload hx hb dL_law_397 (lv_at hl 4 rfl) ?_
        refine lv_if_le (tgt := 406) hx hb dL_law_399 (by decide) (fun _ => ?_) (fun h => absurd (Int32.not_lt.mp (fun z => c389 (lasts_one.mpr z))) h)
        refine lv_iconst (v := 0) hx hb dL_law_406 (by decide) ?_
        refine lv_icmp_eq (tgt := 412) hx hb dL_law_407 (by decide) (fun _ => ?_) (fun z => absurd rfl z)
        refine W.widen (k := C + 90) (n := N + 600) (by omega) (by omega) ?_
        exact KK q7.1 nS nB q7.2.1 q7.2.2.1 gate q7.2.2.2 (Nat.le_refl nS) (Nat.le_refl nB) _ _ _ hP hD hS (lv_sub hl [6, 7, 8, 9, 10, 11, 12, 13, 14, 15, 16, 17, 18, 4, 1] rfl)
      · refine lv_iconst (v := 1) hx hb dL_law_392 (by decide) ?_
        refine lv_goto (tgt := 397) hx hb dL_law_393 (by decide) ?_
        refine lv_iload hx hb dL_law_397 (lv_at hl 4 rfl) ?_
        refine lv_if_le (tgt := 406) hx hb dL_law_399 (by decide) (fun h => absurd h (Int32.not_le.mpr (lasts_one.mp c389))) (fun _ => ?_)
        refine lv_iconst (v := 1) hx hb dL_law_402 (by decide) ?_
        refine lv_goto (tgt := 407) hx hb dL_law_403 (by decide) ?_
        refine lv_icmp_eq (tgt := 412) hx hb dL_law_407 (by decide) (fun _ => ?_) (fun z => absurd rfl z)
        refine W.widen (k := C + 90) (n := N + 600) (by omega) (by omega) ?_
        exact KK q7.1 nS nB q7.2.1 q7.2.2.1 gate q7.2.2.2 (Nat.le_refl nS) (Nat.le_refl nB) _ _ _ hP hD hS (lv_sub hl [6, 7, 8, 9, 10, 11, 12, 13, 14, 15, 16, 17, 18, 4, 1] rfl)

set_option maxHeartbeats 4000000 in
set_option maxRecDepth 100000 in
/-- the stores behind the hour -/
theorem s_4 {p : Program} {l : Launch} {e : Env} {s : State} {m : MethodId} {below : List Frame} {meth : Method} {c : Code} {sb L : Nat} {xs : Nat → Int32} {D : va_G} {cy : Nat → ClassId} {A : Nat → Prop} {d0 : Drawn} {h : Nat} {am ad : Nat → Nat} {nS nB : Nat} {v : TS} {gate : Iu} {hq t : Nat} {C N : Nat} {av : Nat → Nat} {tS tB : Nat} {ts tb : Nat → Iu} {tg tn : Iu} {aw : Nat → Nat} (F : lF p s m meth c sb L xs D cy A d0) (hI : jInv nS nB gate hq v) (hq1 : hq ≤ 2000) (hcS : nS ≤ 4) (hcB : nB ≤ 6) (hC : C ≤ 600000) (hN : N ≤ 7000000)  (KK : lS p l e s m below meth c sb D A d0 526 [(0, .ref sb), (1, .ref h), (2, .ref (am 0)), (3, .int (nI t)), (5, .int (nI nS)), (6, .int (nI nB)), (7, .int (nI (hq % 24))), (8, .int (sm (fun i => v.1 i 0) nS)), (9, .int (sm (fun i => v.2.1 i 5) nB)), (10, .int (v.2.2 2)), (11, .int (v.2.2 5)), (12, .int (sm (fun i => v.1 i 2) nS)), (13, .ref (aw 0)), (15, .int (hUnfed nS nB (hq % 24) gate v)), (18, .int (sm (fun i => (hour1 nS nB (hq % 24) gate v).1 i 1) nS)), (20, .int 0), (21, .int 0), (22, .int 0), (23, .int ((hour1 nS nB (hq % 24) gate v).2.2 1)), (24, .int (sm (fun i => (hour1 nS nB (hq % 24) gate v).1 i 2) nS)), (25, .int (sm (fun i => (hour1 nS nB (hq % 24) gate v).1 i 1) nS))] (sw cy am nS nB (hour1 nS nB (hq % 24) gate v).1 (hour1 nS nB (hq % 24) gate v).2.1 gate (hour1 nS nB (hq % 24) gate v).2.2 (xw cy h ad nS nB (hour1 nS nB (hq % 24) gate v).1 (hour1 nS nB (hq % 24) gate v).2.1 gate (hour1 nS nB (hq % 24) gate v).2.2 (av 0) (tw cy av tS tB ts tb tg tn) ++ wz cy aw nB v.2.1)) (C + 30) (N + 200)) : lS p l e s m below meth c sb D A d0 412 [(0, .ref sb), (1, .ref h), (2, .ref (am 0)), (3, .int (nI t)), (5, .int (nI nS)), (6, .int (nI nB)), (7, .int (nI (hq % 24))), (8, .int (sm (fun i => v.1 i 0) nS)), (9, .int (sm (fun i => v.2.1 i 5) nB)), (10, .int (v.2.2 2)), (11, .int (v.2.2 5)), (12, .int (sm (fun i => v.1 i 2) nS)), (13, .ref (aw 0)), (15, .int (hUnfed nS nB (hq % 24) gate v)), (18, .int (sm (fun i => (hour1 nS nB (hq % 24) gate v).1 i 1) nS))] (sw cy am nS nB v.1 v.2.1 gate v.2.2 (xw cy h ad nS nB (hour1 nS nB (hq % 24) gate v).1 (hour1 nS nB (hq % 24) gate v).2.1 gate (hour1 nS nB (hq % 24) gate v).2.2 (av 0) (tw cy av tS tB ts tb tg tn) ++ wz cy aw nB v.2.1)) (C) (N) := by
  obtain ⟨hx, hb, hts, hown, hml, hK, hX, hbl, hL, hbA, hA⟩ := id F
  intro H locs ls hP hD hS hl
  have hI1 := jinv_hour hI hcS (by omega)
  refine lv_aload_n hx hb dL_law_412 rfl (lv_at hl 2 rfl) ?_
  refine xcV (As := []) (rest := []) ⟨hx, hb, hml, hown, hts⟩ (c_X4_pass l D cy am nS nB v.1 v.2.1 gate v.2.2 hq hI.1 (by omega) hcS hcB) (cwV 0 hts gL_law_X4_pass rfl rfl rfl (by decide +kernel) ⟨Nat.le_of_ble_eq_true rfl, Nat.le_of_ble_eq_true rfl⟩) hK hP hD hS hA rfl rfl rfl (xE_sw) rfl hl.1 rfl (Nat.le_of_ble_eq_true rfl) dL_law_413 ⟨by show C + 0 ≤ 606250; omega, by show N + 0 ≤ 7282873; omega⟩ (fun _ H locs _ hP hD hS => ?_)
  have hP : va_P D vwCl (sw cy am nS nB (hour1 nS nB (hq % 24) gate v).1 (hour1 nS nB (hq % 24) gate v).2.1 gate (hour1 nS nB (hq % 24) gate v).2.2 (xw cy h ad nS nB (hour1 nS nB (hq % 24) gate v).1 (hour1 nS nB (hq % 24) gate v).2.1 gate (hour1 nS nB (hq % 24) gate v).2.2 (av 0) (tw cy av tS tB ts tb tg tn) ++ wz cy aw nB v.2.1)) H := hP
  have hD : va_D A (sw cy am nS nB (hour1 nS nB (hq % 24) gate v).1 (hour1 nS nB (hq % 24) gate v).2.1 gate (hour1 nS nB (hq % 24) gate v).2.2 (xw cy h ad nS nB (hour1 nS nB (hq % 24) gate v).1 (hour1 nS nB (hq % 24) gate v).2.1 gate (hour1 nS nB (hq % 24) gate v).2.2 (av 0) (tw cy av tS tB ts tb tg tn) ++ wz cy aw nB v.2.1)) := hD
  refine W.eq (g2 := F0 m 416 ls [.int (hUnfed nS nB (hq % 24) gate v)]) rfl ?_
  refine W.cs (cells' := C + 0) (slots' := N + 0) (by first | rfl | omega) (by first | rfl | omega) ?_
  refine lv_pop hx hb dL_law_416 rfl ?_
  refine lv_iconst (v := 0) hx hb dL_law_417 (by decide) ?_
  refine lv_istore (lv' := [(20, .int 0), (0, .ref sb), (1, .ref h), (2, .ref (am 0)), (3, .int (nI t)), (5, .int (nI nS)), (6, .int (nI nB)), (7, .int (nI (hq % 24))), (8, .int (sm (fun i => v.1 i 0) nS)), (9, .int (sm (fun i => v.2.1 i 5) nB)), (10, .int (v.2.2 2)), (11, .int (v.2.2 5)), (12, .int (sm (fun i => v.1 i 2) nS)), (13, .ref (aw 0)), (15, .int (hUnfed nS nB (hq % 24) gate v)), (18, .int (sm (fun i => (hour1 nS nB (hq % 24) gate v).1 i 1) nS))]) hx hb dL_law_418 hl (by decide) rfl (fun ls hl => ?_)
  refine lv_iconst (v := 0) hx hb dL_law_420 (by decide) ?_
  refine lv_istore (lv' := [(21, .int 0), (20, .int 0), (0, .ref sb), (1, .ref h), (2, .ref (am 0)), (3, .int (nI t)), (5, .int (nI nS)), (6, .int (nI nB)), (7, .int (nI (hq % 24))), (8, .int (sm (fun i => v.1 i 0) nS)), (9, .int (sm (fun i => v.2.1 i 5) nB)), (10, .int (v.2.2 2)), (11, .int (v.2.2 5)), (12, .int (sm (fun i => v.1 i 2) nS)), (13, .ref (aw 0)), (15, .int (hUnfed nS nB (hq % 24) gate v)), (18, .int (sm (fun i => (hour1 nS nB (hq % 24) gate v).1 i 1) nS))]) hx hb dL_law_421 hl (by decide) rfl (fun ls hl => ?_)
  refine lv_iconst (v := 0) hx hb dL_law_423 (by decide) ?_
  refine lv_istore (lv' := [(22, .int 0), (21, .int 0), (20, .int 0), (0, .ref sb), (1, .ref h), (2, .ref (am 0)), (3, .int (nI t)), (5, .int (nI nS)), (6, .int (nI nB)), (7, .int (nI (hq % 24))), (8, .int (sm (fun i => v.1 i 0) nS)), (9, .int (sm (fun i => v.2.1 i 5) nB)), (10, .int (v.2.2 2)), (11, .int (v.2.2 5)), (12, .int (sm (fun i => v.1 i 2) nS)), (13, .ref (aw 0)), (15, .int (hUnfed nS nB (hq % 24) gate v)), (18, .int (sm (fun i => (hour1 nS nB (hq % 24) gate v).1 i 1) nS))]) hx hb dL_law_424 hl (by decide) rfl (fun ls hl => ?_)
  refine lv_aload_n hx hb dL_law_426 rfl (lv_at hl 4 rfl) ?_
  refine lv_iconst (v := 2) hx hb dL_law_427 (by decide) ?_
  refine xcV (As := [.int 2]) (rest := []) ⟨hx, hb, hml, hown, hts⟩ (c_X3_count l D cy h ad nS nB (hour1 nS nB (hq % 24) gate v).1 (hour1 nS nB (hq % 24) gate v).2.1 gate (hour1 nS nB (hq % 24) gate v).2.2 (av 0) (tw cy av tS tB ts tb tg tn) (hq + 1) 2 hI1.1.2.2.2.2.1 (by omega) (by decide) hcS hcB) (cwV 1 hts gL_law_X3_count rfl rfl rfl (by decide +kernel) ⟨Nat.le_of_ble_eq_true rfl, Nat.le_of_ble_eq_true rfl⟩) hK hP hD hS hA rfl rfl rfl (xE_wrl) rfl hl.1 rfl (Nat.le_of_ble_eq_true rfl) dL_law_428 ⟨by show C + 0 + 1 ≤ 606250; omega, by show N + 0 + 6 ≤ 7282873; omega⟩ (fun _ H locs _ hP hD hS => ?_)
  have hP : va_P D vwCl (sw cy am nS nB (hour1 nS nB (hq % 24) gate v).1 (hour1 nS nB (hq % 24) gate v).2.1 gate (hour1 nS nB (hq % 24) gate v).2.2 (xw cy h ad nS nB (hour1 nS nB (hq % 24) gate v).1 (hour1 nS nB (hq % 24) gate v).2.1 gate (hour1 nS nB (hq % 24) gate v).2.2 (av 0) (tw cy av tS tB ts tb tg tn) ++ wz cy aw nB v.2.1)) H := hP
  have hD : va_D A (sw cy am nS nB (hour1 nS nB (hq % 24) gate v).1 (hour1 nS nB (hq % 24) gate v).2.1 gate (hour1 nS nB (hq % 24) gate v).2.2 (xw cy h ad nS nB (hour1 nS nB (hq % 24) gate v).1 (hour1 nS nB (hq % 24) gate v).2.1 gate (hour1 nS nB (hq % 24) gate v).2.2 (av 0) (tw cy av tS tB ts tb tg tn) ++ wz cy aw nB v.2.1)) := hD
  refine W.eq (g2 := F0 m 431 ls [.int ((hour1 nS nB (hq % 24) gate v).2.2 1)]) rfl ?_
  refine W.cs (cells' := C + 0 + 1) (slots' := N + 0 + 6) (by first | rfl | omega) (by first | rfl | omega) ?_
  refine lv_istore (lv' := [(23, .int ((hour1 nS nB (hq % 24) gate v).2.2 1)), (22, .int 0), (21, .int 0), (20, .int 0), (0, .ref sb), (1, .ref h), (2, .ref (am 0)), (3, .int (nI t)), (5, .int (nI nS)), (6, .int (nI nB)), (7, .int (nI (hq % 24))), (8, .int (sm (fun i => v.1 i 0) nS)), (9, .int (sm (fun i => v.2.1 i 5) nB)), (10, .int (v.2.2 2)), (11, .int (v.2.2 5)), (12, .int (sm (fun i => v.1 i 2) nS)), (13, .ref (aw 0)), (15, .int (hUnfed nS nB (hq % 24) gate v)), (18, .int (sm (fun i => (hour1 nS nB (hq % 24) gate v).1 i 1) nS))]) hx hb dL_law_431 hl (by decide) rfl (fun ls hl => ?_)
  refine lv_iconst (v := 0) hx hb dL_law_433 (by decide) ?_
  refine lv_istore (lv' := [(24, .int 0), (23, .int ((hour1 nS nB (hq % 24) gate v).2.2 1)), (22, .int 0), (21, .int 0), (20, .int 0), (0, .ref sb), (1, .ref h), (2, .ref (am 0)), (3, .int (nI t)), (5, .int (nI nS)), (6, .int (nI nB)), (7, .int (nI (hq % 24))), (8, .int (sm (fun i => v.1 i 0) nS)), (9, .int (sm (fun i => v.2.1 i 5) nB)), (10, .int (v.2.2 2)), (11, .int (v.2.2 5)), (12, .int (sm (fun i => v.1 i 2) nS)), (13, .ref (aw 0)), (15, .int (hUnfed nS nB (hq % 24) gate v)), (18, .int (sm (fun i => (hour1 nS nB (hq % 24) gate v).1 i 1) nS))]) hx hb dL_law_434 hl (by decide) rfl (fun ls hl => ?_)
  refine lv_iconst (v := 0) hx hb dL_law_436 (by decide) ?_
  refine lv_istore (lv' := [(25, .int 0), (24, .int 0), (23, .int ((hour1 nS nB (hq % 24) gate v).2.2 1)), (22, .int 0), (21, .int 0), (20, .int 0), (0, .ref sb), (1, .ref h), (2, .ref (am 0)), (3, .int (nI t)), (5, .int (nI nS)), (6, .int (nI nB)), (7, .int (nI (hq % 24))), (8, .int (sm (fun i => v.1 i 0) nS)), (9, .int (sm (fun i => v.2.1 i 5) nB)), (10, .int (v.2.2 2)), (11, .int (v.2.2 5)), (12, .int (sm (fun i => v.1 i 2) nS)), (13, .ref (aw 0)), (15, .int (hUnfed nS nB (hq % 24) gate v)), (18, .int (sm (fun i => (hour1 nS nB (hq % 24) gate v).1 i 1) nS))]) hx hb dL_law_437 hl (by decide) rfl (fun ls hl => ?_)
  refine lv_iconst (v := 0) hx hb dL_law_439 (by decide) ?_
  refine lv_istore (lv' := [(26, .int 0), (25, .int 0), (24, .int 0), (23, .int ((hour1 nS nB (hq % 24) gate v).2.2 1)), (22, .int 0), (21, .int 0), (20, .int 0), (0, .ref sb), (1, .ref h), (2, .ref (am 0)), (3, .int (nI t)), (5, .int (nI nS)), (6, .int (nI nB)), (7, .int (nI (hq % 24))), (8, .int (sm (fun i => v.1 i 0) nS)), (9, .int (sm (fun i => v.2.1 i 5) nB)), (10, .int (v.2.2 2)), (11, .int (v.2.2 5)), (12, .int (sm (fun i => v.1 i 2) nS)), (13, .ref (aw 0)), (15, .int (hUnfed nS nB (hq % 24) gate v)), (18, .int (sm (fun i => (hour1 nS nB (hq % 24) gate v).1 i 1) nS))]) hx hb dL_law_440 hl (by decide) rfl (fun ls hl => ?_)
  refine W.widen (k := C + 1 + 6 * 0) (n := N + 6 + 36 * 0) (by omega) (by omega) ?_
  have loop1 : ∀ (n i : Nat)  (H : Heap) (locs : List Loc) (ls : Array Slot), i + n = nS → va_P D vwCl (sw cy am nS nB (hour1 nS nB (hq % 24) gate v).1 (hour1 nS nB (hq % 24) gate v).2.1 gate (hour1 nS nB (hq % 24) gate v).2.2 (xw cy h ad nS nB (hour1 nS nB (hq % 24) gate v).1 (hour1 nS nB (hq % 24) gate v).2.1 gate (hour1 nS nB (hq % 24) gate v).2.2 (av 0) (tw cy av tS tB ts tb tg tn) ++ wz cy aw nB v.2.1)) H → va_D A (sw cy am nS nB (hour1 nS nB (hq % 24) gate v).1 (hour1 nS nB (hq % 24) gate v).2.1 gate (hour1 nS nB (hq % 24) gate v).2.2 (xw cy h ad nS nB (hour1 nS nB (hq % 24) gate v).1 (hour1 nS nB (hq % 24) gate v).2.1 gate (hour1 nS nB (hq % 24) gate v).2.2 (av 0) (tw cy av tS tB ts tb tg tn) ++ wz cy aw nB v.2.1)) → va_S A s.heap H locs → lv_has ls 32 [(0, .ref sb), (1, .ref h), (2, .ref (am 0)), (3, .int (nI t)), (5, .int (nI nS)), (6, .int (nI nB)), (7, .int (nI (hq % 24))), (8, .int (sm (fun i => v.1 i 0) nS)), (9, .int (sm (fun i => v.2.1 i 5) nB)), (10, .int (v.2.2 2)), (11, .int (v.2.2 5)), (12, .int (sm (fun i => v.1 i 2) nS)), (13, .ref (aw 0)), (15, .int (hUnfed nS nB (hq % 24) gate v)), (18, .int (sm (fun i => (hour1 nS nB (hq % 24) gate v).1 i 1) nS)), (20, .int 0), (21, .int 0), (22, .int 0), (23, .int ((hour1 nS nB (hq % 24) gate v).2.2 1)), (24, .int (sm (fun i => (hour1 nS nB (hq % 24) gate v).1 i 2) i)), (25, .int (sm (fun i => (hour1 nS nB (hq % 24) gate v).1 i 1) i)), (26, .int (nI i))] → W p l e room_1 (s.setDrawn d0) m ([.ref sb] : List Value).toArray below meth c H locs (C + 1 + 6 * i) (N + 6 + 36 * i) (lw_Z below #[Value.ref sb] s) (F0 m 442 ls []) := by
    intro n
    induction n with
    | zero =>
      intro i  H locs ls hns hP hD hS hl
      have hii : i = nS := by omega
      refine lv_iload hx hb dL_law_442 (lv_at hl 21 rfl) ?_
      refine lv_iload hx hb dL_law_444 (lv_at hl 4 rfl) ?_
      refine lv_icmp_ge (tgt := 526) hx hb dL_law_446 (by decide) (fun _ => ?_) (fun h => absurd (by rw [hii]; exact Int32.le_refl _) h)
      rw [hii] at hl
      refine W.widen (k := C + 30) (n := N + 200) (by omega) (by omega) ?_
      exact KK _ _ _ hP hD hS (lv_sub hl [0, 1, 2, 3, 4, 5, 6, 7, 8, 9, 10, 11, 12, 13, 14, 15, 16, 17, 18, 19, 20] rfl)
    | succ n ih1 =>
      intro i  H locs ls hns hP hD hS hl
      have hlt : i < nS := by omega
      refine lv_iload hx hb dL_law_442 (lv_at hl 21 rfl) ?_
      refine lv_iload hx hb dL_law_444 (lv_at hl 4 rfl) ?_
      refine lv_icmp_ge (tgt := 526) hx hb dL_law_446 (by decide) (fun h => absurd h (nI_ge (b := nS) hlt (by omega))) (fun _ => ?_)
      refine lv_iload hx hb dL_law_449 (lv_at hl 19 rfl) ?_
      refine lv_aload_n hx hb dL_law_451 rfl (lv_at hl 1 rfl) ?_
      refine lv_iload hx hb dL_law_452 (lv_at hl 21 rfl) ?_
      refine lv_iconst (v := 3) hx hb dL_law_454 (by decide) ?_
      refine xcV (As := [.int (nI i), .int 3]) (rest := [.int (sm (fun i => (hour1 nS nB (hq % 24) gate v).1 i 2) i)]) ⟨hx, hb, hml, hown, hts⟩ (c_X3_store l D cy h ad nS nB (hour1 nS nB (hq % 24) gate v).1 (hour1 nS nB (hq % 24) gate v).2.1 gate (hour1 nS nB (hq % 24) gate v).2.2 (av 0) (tw cy av tS tB ts tb tg tn) i hlt 3 (by decide) hcS hcB) (cwV 2 hts gL_law_X3_store rfl rfl rfl (by decide +kernel) ⟨Nat.le_of_ble_eq_true rfl, Nat.le_of_ble_eq_true rfl⟩) hK hP hD hS hA rfl rfl rfl (xE_wrl) rfl hl.1 rfl (Nat.le_of_ble_eq_true rfl) dL_law_455 ⟨by show C + 1 + 6 * i + 1 ≤ 606250; omega, by show N + 6 + 36 * i + 6 ≤ 7282873; omega⟩ (fun _ H locs _ hP hD hS => ?_)
      have hP : va_P D vwCl (sw cy am nS nB (hour1 nS nB (hq % 24) gate v).1 (hour1 nS nB (hq % 24) gate v).2.1 gate (hour1 nS nB (hq % 24) gate v).2.2 (xw cy h ad nS nB (hour1 nS nB (hq % 24) gate v).1 (hour1 nS nB (hq % 24) gate v).2.1 gate (hour1 nS nB (hq % 24) gate v).2.2 (av 0) (tw cy av tS tB ts tb tg tn) ++ wz cy aw nB v.2.1)) H := hP
      have hD : va_D A (sw cy am nS nB (hour1 nS nB (hq % 24) gate v).1 (hour1 nS nB (hq % 24) gate v).2.1 gate (hour1 nS nB (hq % 24) gate v).2.2 (xw cy h ad nS nB (hour1 nS nB (hq % 24) gate v).1 (hour1 nS nB (hq % 24) gate v).2.1 gate (hour1 nS nB (hq % 24) gate v).2.2 (av 0) (tw cy av tS tB ts tb tg tn) ++ wz cy aw nB v.2.1)) := hD
      refine W.eq (g2 := F0 m 458 ls [.int ((hour1 nS nB (hq % 24) gate v).1 i 2), .int (sm (fun i => (hour1 nS nB (hq % 24) gate v).1 i 2) i)]) rfl ?_
      refine W.cs (cells' := C + 1 + 6 * i + 1) (slots' := N + 6 + 36 * i + 6) (by first | rfl | omega) (by first | rfl | omega) ?_
      refine lv_iadd hx hb dL_law_458 ?_
      refine lv_istore (lv' := [(24, .int ((sm (fun i => (hour1 nS nB (hq % 24) gate v).1 i 2) i) + ((hour1 nS nB (hq % 24) gate v).1 i 2))), (0, .ref sb), (1, .ref h), (2, .ref (am 0)), (3, .int (nI t)), (5, .int (nI nS)), (6, .int (nI nB)), (7, .int (nI (hq % 24))), (8, .int (sm (fun i => v.1 i 0) nS)), (9, .int (sm (fun i => v.2.1 i 5) nB)), (10, .int (v.2.2 2)), (11, .int (v.2.2 5)), (12, .int (sm (fun i => v.1 i 2) nS)), (13, .ref (aw 0)), (15, .int (hUnfed nS nB (hq % 24) gate v)), (18, .int (sm (fun i => (hour1 nS nB (hq % 24) gate v).1 i 1) nS)), (20, .int 0), (21, .int 0), (22, .int 0), (23, .int ((hour1 nS nB (hq % 24) gate v).2.2 1)), (25, .int (sm (fun i => (hour1 nS nB (hq % 24) gate v).1 i 1) i)), (26, .int (nI i))]) hx hb dL_law_459 hl (by decide) rfl (fun ls hl => ?_)
      refine lv_iload hx hb dL_law_461 (lv_at hl 20 rfl) ?_
      refine lv_aload_n hx hb dL_law_463 rfl (lv_at hl 2 rfl) ?_
      refine lv_iload hx hb dL_law_464 (lv_at hl 21 rfl) ?_
      refine lv_iconst (v := 1) hx hb dL_law_466 (by decide) ?_
      refine xcV (As := [.int (nI i), .int 1]) (rest := [.int (sm (fun i => (hour1 nS nB (hq % 24) gate v).1 i 1) i)]) ⟨hx, hb, hml, hown, hts⟩ (c_X3_store l D cy h ad nS nB (hour1 nS nB (hq % 24) gate v).1 (hour1 nS nB (hq % 24) gate v).2.1 gate (hour1 nS nB (hq % 24) gate v).2.2 (av 0) (tw cy av tS tB ts tb tg tn) i hlt 1 (by decide) hcS hcB) (cwV 2 hts gL_law_X3_store rfl rfl rfl (by decide +kernel) ⟨Nat.le_of_ble_eq_true rfl, Nat.le_of_ble_eq_true rfl⟩) hK hP hD hS hA rfl rfl rfl (xE_wrl) rfl hl.1 rfl (Nat.le_of_ble_eq_true rfl) dL_law_467 ⟨by show C + 1 + 6 * i + 1 + 1 ≤ 606250; omega, by show N + 6 + 36 * i + 6 + 6 ≤ 7282873; omega⟩ (fun _ H locs _ hP hD hS => ?_)
      have hP : va_P D vwCl (sw cy am nS nB (hour1 nS nB (hq % 24) gate v).1 (hour1 nS nB (hq % 24) gate v).2.1 gate (hour1 nS nB (hq % 24) gate v).2.2 (xw cy h ad nS nB (hour1 nS nB (hq % 24) gate v).1 (hour1 nS nB (hq % 24) gate v).2.1 gate (hour1 nS nB (hq % 24) gate v).2.2 (av 0) (tw cy av tS tB ts tb tg tn) ++ wz cy aw nB v.2.1)) H := hP
      have hD : va_D A (sw cy am nS nB (hour1 nS nB (hq % 24) gate v).1 (hour1 nS nB (hq % 24) gate v).2.1 gate (hour1 nS nB (hq % 24) gate v).2.2 (xw cy h ad nS nB (hour1 nS nB (hq % 24) gate v).1 (hour1 nS nB (hq % 24) gate v).2.1 gate (hour1 nS nB (hq % 24) gate v).2.2 (av 0) (tw cy av tS tB ts tb tg tn) ++ wz cy aw nB v.2.1)) := hD
      refine W.eq (g2 := F0 m 470 ls [.int ((hour1 nS nB (hq % 24) gate v).1 i 1), .int (sm (fun i => (hour1 nS nB (hq % 24) gate v).1 i 1) i)]) rfl ?_
      refine W.cs (cells' := C + 1 + 6 * i + 1 + 1) (slots' := N + 6 + 36 * i + 6 + 6) (by first | rfl | omega) (by first | rfl | omega) ?_
      refine lv_iadd hx hb dL_law_470 ?_
      refine lv_istore (lv' := [(25, .int ((sm (fun i => (hour1 nS nB (hq % 24) gate v).1 i 1) i) + ((hour1 nS nB (hq % 24) gate v).1 i 1))), (24, .int ((sm (fun i => (hour1 nS nB (hq % 24) gate v).1 i 2) i) + ((hour1 nS nB (hq % 24) gate v).1 i 2))), (0, .ref sb), (1, .ref h), (2, .ref (am 0)), (3, .int (nI t)), (5, .int (nI nS)), (6, .int (nI nB)), (7, .int (nI (hq % 24))), (8, .int (sm (fun i => v.1 i 0) nS)), (9, .int (sm (fun i => v.2.1 i 5) nB)), (10, .int (v.2.2 2)), (11, .int (v.2.2 5)), (12, .int (sm (fun i => v.1 i 2) nS)), (13, .ref (aw 0)), (15, .int (hUnfed nS nB (hq % 24) gate v)), (18, .int (sm (fun i => (hour1 nS nB (hq % 24) gate v).1 i 1) nS)), (20, .int 0), (21, .int 0), (22, .int 0), (23, .int ((hour1 nS nB (hq % 24) gate v).2.2 1)), (26, .int (nI i))]) hx hb dL_law_471 hl (by decide) rfl (fun ls hl => ?_)
      refine lv_aload_n hx hb dL_law_473 rfl (lv_at hl 3 rfl) ?_
      refine lv_iload hx hb dL_law_474 (lv_at hl 21 rfl) ?_
      refine lv_iconst (v := 0) hx hb dL_law_476 (by decide) ?_
      refine xcV (As := [.int (nI i), .int 0]) (rest := []) ⟨hx, hb, hml, hown, hts⟩ (c_X3_store l D cy h ad nS nB (hour1 nS nB (hq % 24) gate v).1 (hour1 nS nB (hq % 24) gate v).2.1 gate (hour1 nS nB (hq % 24) gate v).2.2 (av 0) (tw cy av tS tB ts tb tg tn) i hlt 0 (by decide) hcS hcB) (cwV 2 hts gL_law_X3_store rfl rfl rfl (by decide +kernel) ⟨Nat.le_of_ble_eq_true rfl, Nat.le_of_ble_eq_true rfl⟩) hK hP hD hS hA rfl rfl rfl (xE_wrl) rfl hl.1 rfl (Nat.le_of_ble_eq_true rfl) dL_law_477 ⟨by show C + 1 + 6 * i + 1 + 1 + 1 ≤ 606250; omega, by show N + 6 + 36 * i + 6 + 6 + 6 ≤ 7282873; omega⟩ (fun _ H locs _ hP hD hS => ?_)
      have hP : va_P D vwCl (sw cy am nS nB (hour1 nS nB (hq % 24) gate v).1 (hour1 nS nB (hq % 24) gate v).2.1 gate (hour1 nS nB (hq % 24) gate v).2.2 (xw cy h ad nS nB (hour1 nS nB (hq % 24) gate v).1 (hour1 nS nB (hq % 24) gate v).2.1 gate (hour1 nS nB (hq % 24) gate v).2.2 (av 0) (tw cy av tS tB ts tb tg tn) ++ wz cy aw nB v.2.1)) H := hP
      have hD : va_D A (sw cy am nS nB (hour1 nS nB (hq % 24) gate v).1 (hour1 nS nB (hq % 24) gate v).2.1 gate (hour1 nS nB (hq % 24) gate v).2.2 (xw cy h ad nS nB (hour1 nS nB (hq % 24) gate v).1 (hour1 nS nB (hq % 24) gate v).2.1 gate (hour1 nS nB (hq % 24) gate v).2.2 (av 0) (tw cy av tS tB ts tb tg tn) ++ wz cy aw nB v.2.1)) := hD
      refine W.eq (g2 := F0 m 480 ls [.int ((hour1 nS nB (hq % 24) gate v).1 i 0)]) rfl ?_
      refine W.cs (cells' := C + 1 + 6 * i + 1 + 1 + 1) (slots' := N + 6 + 36 * i + 6 + 6 + 6) (by first | rfl | omega) (by first | rfl | omega) ?_
      refine lv_if_lt (tgt := 518) hx hb dL_law_480 (by decide) (fun h => absurd h (ge0 (hI1.1.1 i hlt).1.1)) (fun _ => ?_)
      refine lv_aload_n hx hb dL_law_483 rfl (lv_at hl 3 rfl) ?_
      refine lv_iload hx hb dL_law_484 (lv_at hl 21 rfl) ?_
      refine lv_iconst (v := 0) hx hb dL_law_486 (by decide) ?_
      refine xcV (As := [.int (nI i), .int 0]) (rest := []) ⟨hx, hb, hml, hown, hts⟩ (c_X3_store l D cy h ad nS nB (hour1 nS nB (hq % 24) gate v).1 (hour1 nS nB (hq % 24) gate v).2.1 gate (hour1 nS nB (hq % 24) gate v).2.2 (av 0) (tw cy av tS tB ts tb tg tn) i hlt 0 (by decide) hcS hcB) (cwV 2 hts gL_law_X3_store rfl rfl rfl (by decide +kernel) ⟨Nat.le_of_ble_eq_true rfl, Nat.le_of_ble_eq_true rfl⟩) hK hP hD hS hA rfl rfl rfl (xE_wrl) rfl hl.1 rfl (Nat.le_of_ble_eq_true rfl) dL_law_487 ⟨by show C + 1 + 6 * i + 1 + 1 + 1 + 1 ≤ 606250; omega, by show N + 6 + 36 * i + 6 + 6 + 6 + 6 ≤ 7282873; omega⟩ (fun _ H locs _ hP hD hS => ?_)
      have hP : va_P D vwCl (sw cy am nS nB (hour1 nS nB (hq % 24) gate v).1 (hour1 nS nB (hq % 24) gate v).2.1 gate (hour1 nS nB (hq % 24) gate v).2.2 (xw cy h ad nS nB (hour1 nS nB (hq % 24) gate v).1 (hour1 nS nB (hq % 24) gate v).2.1 gate (hour1 nS nB (hq % 24) gate v).2.2 (av 0) (tw cy av tS tB ts tb tg tn) ++ wz cy aw nB v.2.1)) H := hP
      have hD : va_D A (sw cy am nS nB (hour1 nS nB (hq % 24) gate v).1 (hour1 nS nB (hq % 24) gate v).2.1 gate (hour1 nS nB (hq % 24) gate v).2.2 (xw cy h ad nS nB (hour1 nS nB (hq % 24) gate v).1 (hour1 nS nB (hq % 24) gate v).2.1 gate (hour1 nS nB (hq % 24) gate v).2.2 (av 0) (tw cy av tS tB ts tb tg tn) ++ wz cy aw nB v.2.1)) := hD
      refine W.eq (g2 := F0 m 490 ls [.int ((hour1 nS nB (hq % 24) gate v).1 i 0)]) rfl ?_
      refine W.cs (cells' := C + 1 + 6 * i + 1 + 1 + 1 + 1) (slots' := N + 6 + 36 * i + 6 + 6 + 6 + 6) (by first | rfl | omega) (by first | rfl | omega) ?_
      refine lv_sipush (v := 900) hx hb dL_law_490 (by decide) ?_
      refine lv_icmp_gt (tgt := 518) hx hb dL_law_493 (by decide) (fun h => absurd h (gt900 (hI1.1.1 i hlt).1.2)) (fun _ => ?_)
      refine lv_aload_n hx hb dL_law_496 rfl (lv_at hl 3 rfl) ?_
      refine lv_iload hx hb dL_law_497 (lv_at hl 21 rfl) ?_
      refine lv_iconst (v := 1) hx hb dL_law_499 (by decide) ?_
      refine xcV (As := [.int (nI i), .int 1]) (rest := []) ⟨hx, hb, hml, hown, hts⟩ (c_X3_store l D cy h ad nS nB (hour1 nS nB (hq % 24) gate v).1 (hour1 nS nB (hq % 24) gate v).2.1 gate (hour1 nS nB (hq % 24) gate v).2.2 (av 0) (tw cy av tS tB ts tb tg tn) i hlt 1 (by decide) hcS hcB) (cwV 2 hts gL_law_X3_store rfl rfl rfl (by decide +kernel) ⟨Nat.le_of_ble_eq_true rfl, Nat.le_of_ble_eq_true rfl⟩) hK hP hD hS hA rfl rfl rfl (xE_wrl) rfl hl.1 rfl (Nat.le_of_ble_eq_true rfl) dL_law_500 ⟨by show C + 1 + 6 * i + 1 + 1 + 1 + 1 + 1 ≤ 606250; omega, by show N + 6 + 36 * i + 6 + 6 + 6 + 6 + 6 ≤ 7282873; omega⟩ (fun _ H locs _ hP hD hS => ?_)
      have hP : va_P D vwCl (sw cy am nS nB (hour1 nS nB (hq % 24) gate v).1 (hour1 nS nB (hq % 24) gate v).2.1 gate (hour1 nS nB (hq % 24) gate v).2.2 (xw cy h ad nS nB (hour1 nS nB (hq % 24) gate v).1 (hour1 nS nB (hq % 24) gate v).2.1 gate (hour1 nS nB (hq % 24) gate v).2.2 (av 0) (tw cy av tS tB ts tb tg tn) ++ wz cy aw nB v.2.1)) H := hP
      have hD : va_D A (sw cy am nS nB (hour1 nS nB (hq % 24) gate v).1 (hour1 nS nB (hq % 24) gate v).2.1 gate (hour1 nS nB (hq % 24) gate v).2.2 (xw cy h ad nS nB (hour1 nS nB (hq % 24) gate v).1 (hour1 nS nB (hq % 24) gate v).2.1 gate (hour1 nS nB (hq % 24) gate v).2.2 (av 0) (tw cy av tS tB ts tb tg tn) ++ wz cy aw nB v.2.1)) := hD
      refine W.eq (g2 := F0 m 503 ls [.int ((hour1 nS nB (hq % 24) gate v).1 i 1)]) rfl ?_
      refine W.cs (cells' := C + 1 + 6 * i + 1 + 1 + 1 + 1 + 1) (slots' := N + 6 + 36 * i + 6 + 6 + 6 + 6 + 6) (by first | rfl | omega) (by first | rfl | omega) ?_
      refine lv_if_lt (tgt := 518) hx hb dL_law_503 (by decide) (fun h => absurd h (ge0 (hI1.1.1 i hlt).2.1)) (fun _ => ?_)
      refine lv_aload_n hx hb dL_law_506 rfl (lv_at hl 3 rfl) ?_
      refine lv_iload hx hb dL_law_507 (lv_at hl 21 rfl) ?_
      refine lv_iconst (v := 1) hx hb dL_law_509 (by decide) ?_
      refine xcV (As := [.int (nI i), .int 1]) (rest := []) ⟨hx, hb, hml, hown, hts⟩ (c_X3_store l D cy h ad nS nB (hour1 nS nB (hq % 24) gate v).1 (hour1 nS nB (hq % 24) gate v).2.1 gate (hour1 nS nB (hq % 24) gate v).2.2 (av 0) (tw cy av tS tB ts tb tg tn) i hlt 1 (by decide) hcS hcB) (cwV 2 hts gL_law_X3_store rfl rfl rfl (by decide +kernel) ⟨Nat.le_of_ble_eq_true rfl, Nat.le_of_ble_eq_true rfl⟩) hK hP hD hS hA rfl rfl rfl (xE_wrl) rfl hl.1 rfl (Nat.le_of_ble_eq_true rfl) dL_law_510 ⟨by show C + 1 + 6 * i + 1 + 1 + 1 + 1 + 1 + 1 ≤ 606250; omega, by show N + 6 + 36 * i + 6 + 6 + 6 + 6 + 6 + 6 ≤ 7282873; omega⟩ (fun _ H locs _ hP hD hS => ?_)
      have hP : va_P D vwCl (sw cy am nS nB (hour1 nS nB (hq % 24) gate v).1 (hour1 nS nB (hq % 24) gate v).2.1 gate (hour1 nS nB (hq % 24) gate v).2.2 (xw cy h ad nS nB (hour1 nS nB (hq % 24) gate v).1 (hour1 nS nB (hq % 24) gate v).2.1 gate (hour1 nS nB (hq % 24) gate v).2.2 (av 0) (tw cy av tS tB ts tb tg tn) ++ wz cy aw nB v.2.1)) H := hP
      have hD : va_D A (sw cy am nS nB (hour1 nS nB (hq % 24) gate v).1 (hour1 nS nB (hq % 24) gate v).2.1 gate (hour1 nS nB (hq % 24) gate v).2.2 (xw cy h ad nS nB (hour1 nS nB (hq % 24) gate v).1 (hour1 nS nB (hq % 24) gate v).2.1 gate (hour1 nS nB (hq % 24) gate v).2.2 (av 0) (tw cy av tS tB ts tb tg tn) ++ wz cy aw nB v.2.1)) := hD
      refine W.eq (g2 := F0 m 513 ls [.int ((hour1 nS nB (hq % 24) gate v).1 i 1)]) rfl ?_
      refine W.cs (cells' := C + 1 + 6 * i + 1 + 1 + 1 + 1 + 1 + 1) (slots' := N + 6 + 36 * i + 6 + 6 + 6 + 6 + 6 + 6) (by first | rfl | omega) (by first | rfl | omega) ?_
      refine lv_bipush (v := 50) hx hb dL_law_513 (by decide) ?_
      refine lv_icmp_le (tgt := 520) hx hb dL_law_515 (by decide) (fun _ => ?_) (fun h => absurd (le50 (hI1.1.1 i hlt).2.2) h)
      refine W.widen (k := C + 1 + 6 * (i + 1)) (n := N + 6 + 36 * (i + 1)) (by omega) (by omega) ?_
      refine lv_iinc (v := (nI (i + 1))) (lv' := [(26, .int (nI (i + 1))), (25, .int ((sm (fun i => (hour1 nS nB (hq % 24) gate v).1 i 1) i) + ((hour1 nS nB (hq % 24) gate v).1 i 1))), (24, .int ((sm (fun i => (hour1 nS nB (hq % 24) gate v).1 i 2) i) + ((hour1 nS nB (hq % 24) gate v).1 i 2))), (0, .ref sb), (1, .ref h), (2, .ref (am 0)), (3, .int (nI t)), (5, .int (nI nS)), (6, .int (nI nB)), (7, .int (nI (hq % 24))), (8, .int (sm (fun i => v.1 i 0) nS)), (9, .int (sm (fun i => v.2.1 i 5) nB)), (10, .int (v.2.2 2)), (11, .int (v.2.2 5)), (12, .int (sm (fun i => v.1 i 2) nS)), (13, .ref (aw 0)), (15, .int (hUnfed nS nB (hq % 24) gate v)), (18, .int (sm (fun i => (hour1 nS nB (hq % 24) gate v).1 i 1) nS)), (20, .int 0), (21, .int 0), (22, .int 0), (23, .int ((hour1 nS nB (hq % 24) gate v).2.2 1))]) hx hb dL_law_520 hl (k := 21) rfl ((nI_1 i)) (by decide) rfl (fun ls hl => ?_)
      refine lv_goto (tgt := 442) hx hb dL_law_523 (by decide) ?_
      exact ih1 (i + 1)  _ _ _ (by omega) hP hD hS (lv_sub hl [3, 4, 5, 6, 7, 8, 9, 10, 11, 12, 13, 14, 15, 16, 17, 18, 19, 20, 21, 2, 1, 0] rfl)
  exact loop1 nS 0  _ _ _ (by omega) hP hD hS (lv_sub hl [7, 8, 9, 10, 11, 12, 13, 14, 15, 16, 17, 18, 19, 20, 21, 6, 5, 4, 3, 2, 1, 0] rfl)

set_option maxHeartbeats 4000000 in
set_option maxRecDepth 100000 in
/-- a baker: sold, made, got -/
theorem s_5a {p : Program} {l : Launch} {e : Env} {s : State} {m : MethodId} {below : List Frame} {meth : Method} {c : Code} {sb L : Nat} {xs : Nat → Int32} {D : va_G} {cy : Nat → ClassId} {A : Nat → Prop} {d0 : Drawn} {h : Nat} {am ad : Nat → Nat} {nS nB : Nat} {v : TS} {gate : Iu} {hq t : Nat} {C N : Nat} {av : Nat → Nat} {tS tB : Nat} {ts tb : Nat → Iu} {tg tn : Iu} {aw : Nat → Nat} (F : lF p s m meth c sb L xs D cy A d0) (hI : jInv nS nB gate hq v) (hq1 : hq ≤ 2000) (hcS : nS ≤ 4) (hcB : nB ≤ 6) (hC : C ≤ 600000) (hN : N ≤ 7000000) {j : Nat} {fi : Int32} (hj : j < nB)  (KK : lS p l e s m below meth c sb D A d0 694 [(0, .ref sb), (1, .ref h), (2, .ref (am 0)), (3, .int (nI t)), (5, .int (nI nS)), (6, .int (nI nB)), (7, .int (nI (hq % 24))), (8, .int (sm (fun i => v.1 i 0) nS)), (9, .int (sm (fun i => v.2.1 i 5) nB)), (10, .int (v.2.2 2)), (11, .int (v.2.2 5)), (12, .int (sm (fun i => v.1 i 2) nS)), (13, .ref (aw 0)), (15, .int (hUnfed nS nB (hq % 24) gate v)), (18, .int (sm (fun i => (hour1 nS nB (hq % 24) gate v).1 i 1) nS)), (23, .int ((hour1 nS nB (hq % 24) gate v).2.2 1)), (24, .int (sm (fun i => (hour1 nS nB (hq % 24) gate v).1 i 2) nS)), (25, .int (sm (fun i => (hour1 nS nB (hq % 24) gate v).1 i 1) nS)), (20, .int (sm (gtJ nS nB (hq % 24) gate v) (j + 1))), (21, .int (sm (mJ nS nB (hq % 24) gate v) (j + 1))), (22, .int (sm (soJ nS nB (hq % 24) gate v) (j + 1))), (26, .int fi), (27, .int (nI j)), (28, .int (soJ nS nB (hq % 24) gate v j)), (29, .int (mJ nS nB (hq % 24) gate v j)), (30, .int (gtJ nS nB (hq % 24) gate v j))] (sw cy am nS nB (hour1 nS nB (hq % 24) gate v).1 (hour1 nS nB (hq % 24) gate v).2.1 gate (hour1 nS nB (hq % 24) gate v).2.2 (xw cy h ad nS nB (hour1 nS nB (hq % 24) gate v).1 (hour1 nS nB (hq % 24) gate v).2.1 gate (hour1 nS nB (hq % 24) gate v).2.2 (av 0) (tw cy av tS tB ts tb tg tn) ++ wz cy aw nB v.2.1)) (C + 3) (N + 18)) : lS p l e s m below meth c sb D A d0 539 [(0, .ref sb), (1, .ref h), (2, .ref (am 0)), (3, .int (nI t)), (5, .int (nI nS)), (6, .int (nI nB)), (7, .int (nI (hq % 24))), (8, .int (sm (fun i => v.1 i 0) nS)), (9, .int (sm (fun i => v.2.1 i 5) nB)), (10, .int (v.2.2 2)), (11, .int (v.2.2 5)), (12, .int (sm (fun i => v.1 i 2) nS)), (13, .ref (aw 0)), (15, .int (hUnfed nS nB (hq % 24) gate v)), (18, .int (sm (fun i => (hour1 nS nB (hq % 24) gate v).1 i 1) nS)), (23, .int ((hour1 nS nB (hq % 24) gate v).2.2 1)), (24, .int (sm (fun i => (hour1 nS nB (hq % 24) gate v).1 i 2) nS)), (25, .int (sm (fun i => (hour1 nS nB (hq % 24) gate v).1 i 1) nS)), (20, .int (sm (gtJ nS nB (hq % 24) gate v) j)), (21, .int (sm (mJ nS nB (hq % 24) gate v) j)), (22, .int (sm (soJ nS nB (hq % 24) gate v) j)), (26, .int fi), (27, .int (nI j))] (sw cy am nS nB (hour1 nS nB (hq % 24) gate v).1 (hour1 nS nB (hq % 24) gate v).2.1 gate (hour1 nS nB (hq % 24) gate v).2.2 (xw cy h ad nS nB (hour1 nS nB (hq % 24) gate v).1 (hour1 nS nB (hq % 24) gate v).2.1 gate (hour1 nS nB (hq % 24) gate v).2.2 (av 0) (tw cy av tS tB ts tb tg tn) ++ wz cy aw nB v.2.1)) (C) (N) := by
  obtain ⟨hx, hb, hts, hown, hml, hK, hX, hbl, hL, hbA, hA⟩ := id F
  intro H locs ls hP hD hS hl
  have hI1 := jinv_hour hI hcS (by omega)
  have hG := gtJ_OK hcS (show hq ≤ 200000 by omega) hI.1 hj
  have hM := mJ_OK hcS (show hq ≤ 200000 by omega) hI.1 hj
  have hSo := soJ_OK hcS (show hq ≤ 200000 by omega) hI.1 hj
  refine lv_aload_n hx hb dL_law_539 rfl (lv_at hl 1 rfl) ?_
  refine lv_iload hx hb dL_law_540 (lv_at hl 22 rfl) ?_
  refine lv_bipush (v := 6) hx hb dL_law_542 (by decide) ?_
  refine xcV (As := [.int (nI j), .int 6]) (rest := []) ⟨hx, hb, hml, hown, hts⟩ (c_X3_baker l D cy h ad nS nB (hour1 nS nB (hq % 24) gate v).1 (hour1 nS nB (hq % 24) gate v).2.1 gate (hour1 nS nB (hq % 24) gate v).2.2 (av 0) (tw cy av tS tB ts tb tg tn) j hj 6 (by decide) hcS hcB) (cwV 2 hts gL_law_X3_baker rfl rfl rfl (by decide +kernel) ⟨Nat.le_of_ble_eq_true rfl, Nat.le_of_ble_eq_true rfl⟩) hK hP hD hS hA rfl rfl rfl (xE_wrl) rfl hl.1 rfl (Nat.le_of_ble_eq_true rfl) dL_law_544 ⟨by show C + 1 ≤ 606250; omega, by show N + 6 ≤ 7282873; omega⟩ (fun _ H locs _ hP hD hS => ?_)
  have hP : va_P D vwCl (sw cy am nS nB (hour1 nS nB (hq % 24) gate v).1 (hour1 nS nB (hq % 24) gate v).2.1 gate (hour1 nS nB (hq % 24) gate v).2.2 (xw cy h ad nS nB (hour1 nS nB (hq % 24) gate v).1 (hour1 nS nB (hq % 24) gate v).2.1 gate (hour1 nS nB (hq % 24) gate v).2.2 (av 0) (tw cy av tS tB ts tb tg tn) ++ wz cy aw nB v.2.1)) H := hP
  have hD : va_D A (sw cy am nS nB (hour1 nS nB (hq % 24) gate v).1 (hour1 nS nB (hq % 24) gate v).2.1 gate (hour1 nS nB (hq % 24) gate v).2.2 (xw cy h ad nS nB (hour1 nS nB (hq % 24) gate v).1 (hour1 nS nB (hq % 24) gate v).2.1 gate (hour1 nS nB (hq % 24) gate v).2.2 (av 0) (tw cy av tS tB ts tb tg tn) ++ wz cy aw nB v.2.1)) := hD
  refine W.eq (g2 := F0 m 547 ls [.int ((hour1 nS nB (hq % 24) gate v).2.1 j 6)]) rfl ?_
  refine W.cs (cells' := C + 1) (slots' := N + 6) (by first | rfl | omega) (by first | rfl | omega) ?_
  refine lv_aload hx hb dL_law_547 (lv_at hl 12 rfl) ?_
  refine lv_iload hx hb dL_law_549 (lv_at hl 22 rfl) ?_
  refine xaldB hx hb hK hP (4 + nS + nB + ((xw cy h ad nS nB (hour1 nS nB (hq % 24) gate v).1 (hour1 nS nB (hq % 24) gate v).2.1 gate (hour1 nS nB (hq % 24) gate v).2.2 (av 0) (tw cy av tS tB ts tb tg tn)).length + 0)) (am := aw) (ww_wr (at_r (k := 0) rfl)) j rfl hj hcB dL_law_551 ?_
  refine lv_bipush (v := 6) hx hb dL_law_552 (by decide) ?_
  refine xiald hx hb hK hP (4 + nS + nB + ((xw cy h ad nS nB (hour1 nS nB (hq % 24) gate v).1 (hour1 nS nB (hq % 24) gate v).2.1 gate (hour1 nS nB (hq % 24) gate v).2.2 (av 0) (tw cy av tS tB ts tb tg tn)).length + (1 + j))) (ww_wr (at_r (k := 1 + j) (wz_at hj))) 6 (by decide) (by decide) (by decide) dL_law_554 ?_
  refine lv_isub hx hb dL_law_555 ?_
  refine W.eq (g2 := F0 m 556 ls [.int (soJ nS nB (hq % 24) gate v j)]) (congrArg (fun z => F0 m 556 ls (.int z :: [])) (e_sold hj)) ?_
  refine lv_istore (lv' := [(28, .int (soJ nS nB (hq % 24) gate v j)), (0, .ref sb), (1, .ref h), (2, .ref (am 0)), (3, .int (nI t)), (5, .int (nI nS)), (6, .int (nI nB)), (7, .int (nI (hq % 24))), (8, .int (sm (fun i => v.1 i 0) nS)), (9, .int (sm (fun i => v.2.1 i 5) nB)), (10, .int (v.2.2 2)), (11, .int (v.2.2 5)), (12, .int (sm (fun i => v.1 i 2) nS)), (13, .ref (aw 0)), (15, .int (hUnfed nS nB (hq % 24) gate v)), (18, .int (sm (fun i => (hour1 nS nB (hq % 24) gate v).1 i 1) nS)), (23, .int ((hour1 nS nB (hq % 24) gate v).2.2 1)), (24, .int (sm (fun i => (hour1 nS nB (hq % 24) gate v).1 i 2) nS)), (25, .int (sm (fun i => (hour1 nS nB (hq % 24) gate v).1 i 1) nS)), (20, .int (sm (gtJ nS nB (hq % 24) gate v) j)), (21, .int (sm (mJ nS nB (hq % 24) gate v) j)), (22, .int (sm (soJ nS nB (hq % 24) gate v) j)), (26, .int fi), (27, .int (nI j))]) hx hb dL_law_556 hl (by decide) rfl (fun ls hl => ?_)
  refine lv_aload_n hx hb dL_law_558 rfl (lv_at hl 2 rfl) ?_
  refine lv_iload hx hb dL_law_559 (lv_at hl 23 rfl) ?_
  refine lv_iconst (v := 5) hx hb dL_law_561 (by decide) ?_
  refine xcV (As := [.int (nI j), .int 5]) (rest := []) ⟨hx, hb, hml, hown, hts⟩ (c_X3_baker l D cy h ad nS nB (hour1 nS nB (hq % 24) gate v).1 (hour1 nS nB (hq % 24) gate v).2.1 gate (hour1 nS nB (hq % 24) gate v).2.2 (av 0) (tw cy av tS tB ts tb tg tn) j hj 5 (by decide) hcS hcB) (cwV 2 hts gL_law_X3_baker rfl rfl rfl (by decide +kernel) ⟨Nat.le_of_ble_eq_true rfl, Nat.le_of_ble_eq_true rfl⟩) hK hP hD hS hA rfl rfl rfl (xE_wrl) rfl hl.1 rfl (Nat.le_of_ble_eq_true rfl) dL_law_562 ⟨by show C + 1 + 1 ≤ 606250; omega, by show N + 6 + 6 ≤ 7282873; omega⟩ (fun _ H locs _ hP hD hS => ?_)
  have hP : va_P D vwCl (sw cy am nS nB (hour1 nS nB (hq % 24) gate v).1 (hour1 nS nB (hq % 24) gate v).2.1 gate (hour1 nS nB (hq % 24) gate v).2.2 (xw cy h ad nS nB (hour1 nS nB (hq % 24) gate v).1 (hour1 nS nB (hq % 24) gate v).2.1 gate (hour1 nS nB (hq % 24) gate v).2.2 (av 0) (tw cy av tS tB ts tb tg tn) ++ wz cy aw nB v.2.1)) H := hP
  have hD : va_D A (sw cy am nS nB (hour1 nS nB (hq % 24) gate v).1 (hour1 nS nB (hq % 24) gate v).2.1 gate (hour1 nS nB (hq % 24) gate v).2.2 (xw cy h ad nS nB (hour1 nS nB (hq % 24) gate v).1 (hour1 nS nB (hq % 24) gate v).2.1 gate (hour1 nS nB (hq % 24) gate v).2.2 (av 0) (tw cy av tS tB ts tb tg tn) ++ wz cy aw nB v.2.1)) := hD
  refine W.eq (g2 := F0 m 565 ls [.int ((hour1 nS nB (hq % 24) gate v).2.1 j 5)]) rfl ?_
  refine W.cs (cells' := C + 1 + 1) (slots' := N + 6 + 6) (by first | rfl | omega) (by first | rfl | omega) ?_
  refine lv_iload hx hb dL_law_565 (lv_at hl 0 rfl) ?_
  refine lv_iadd hx hb dL_law_567 ?_
  refine lv_aload hx hb dL_law_568 (lv_at hl 13 rfl) ?_
  refine lv_iload hx hb dL_law_570 (lv_at hl 23 rfl) ?_
  refine xaldB hx hb hK hP (4 + nS + nB + ((xw cy h ad nS nB (hour1 nS nB (hq % 24) gate v).1 (hour1 nS nB (hq % 24) gate v).2.1 gate (hour1 nS nB (hq % 24) gate v).2.2 (av 0) (tw cy av tS tB ts tb tg tn)).length + 0)) (am := aw) (ww_wr (at_r (k := 0) rfl)) j rfl hj hcB dL_law_572 ?_
  refine lv_iconst (v := 5) hx hb dL_law_573 (by decide) ?_
  refine xiald hx hb hK hP (4 + nS + nB + ((xw cy h ad nS nB (hour1 nS nB (hq % 24) gate v).1 (hour1 nS nB (hq % 24) gate v).2.1 gate (hour1 nS nB (hq % 24) gate v).2.2 (av 0) (tw cy av tS tB ts tb tg tn)).length + (1 + j))) (ww_wr (at_r (k := 1 + j) (wz_at hj))) 5 (by decide) (by decide) (by decide) dL_law_574 ?_
  refine lv_isub hx hb dL_law_575 ?_
  refine W.eq (g2 := F0 m 576 ls [.int (mJ nS nB (hq % 24) gate v j)]) (congrArg (fun z => F0 m 576 ls (.int z :: [])) (e_made hj)) ?_
  refine lv_istore (lv' := [(29, .int (mJ nS nB (hq % 24) gate v j)), (28, .int (soJ nS nB (hq % 24) gate v j)), (0, .ref sb), (1, .ref h), (2, .ref (am 0)), (3, .int (nI t)), (5, .int (nI nS)), (6, .int (nI nB)), (7, .int (nI (hq % 24))), (8, .int (sm (fun i => v.1 i 0) nS)), (9, .int (sm (fun i => v.2.1 i 5) nB)), (10, .int (v.2.2 2)), (11, .int (v.2.2 5)), (12, .int (sm (fun i => v.1 i 2) nS)), (13, .ref (aw 0)), (15, .int (hUnfed nS nB (hq % 24) gate v)), (18, .int (sm (fun i => (hour1 nS nB (hq % 24) gate v).1 i 1) nS)), (23, .int ((hour1 nS nB (hq % 24) gate v).2.2 1)), (24, .int (sm (fun i => (hour1 nS nB (hq % 24) gate v).1 i 2) nS)), (25, .int (sm (fun i => (hour1 nS nB (hq % 24) gate v).1 i 1) nS)), (20, .int (sm (gtJ nS nB (hq % 24) gate v) j)), (21, .int (sm (mJ nS nB (hq % 24) gate v) j)), (22, .int (sm (soJ nS nB (hq % 24) gate v) j)), (26, .int fi), (27, .int (nI j))]) hx hb dL_law_576 hl (by decide) rfl (fun ls hl => ?_)
  refine lv_aload_n hx hb dL_law_578 rfl (lv_at hl 3 rfl) ?_
  refine lv_iload hx hb dL_law_579 (lv_at hl 24 rfl) ?_
  refine lv_iconst (v := 3) hx hb dL_law_581 (by decide) ?_
  refine xcV (As := [.int (nI j), .int 3]) (rest := []) ⟨hx, hb, hml, hown, hts⟩ (c_X3_baker l D cy h ad nS nB (hour1 nS nB (hq % 24) gate v).1 (hour1 nS nB (hq % 24) gate v).2.1 gate (hour1 nS nB (hq % 24) gate v).2.2 (av 0) (tw cy av tS tB ts tb tg tn) j hj 3 (by decide) hcS hcB) (cwV 2 hts gL_law_X3_baker rfl rfl rfl (by decide +kernel) ⟨Nat.le_of_ble_eq_true rfl, Nat.le_of_ble_eq_true rfl⟩) hK hP hD hS hA rfl rfl rfl (xE_wrl) rfl hl.1 rfl (Nat.le_of_ble_eq_true rfl) dL_law_582 ⟨by show C + 1 + 1 + 1 ≤ 606250; omega, by show N + 6 + 6 + 6 ≤ 7282873; omega⟩ (fun _ H locs _ hP hD hS => ?_)
  have hP : va_P D vwCl (sw cy am nS nB (hour1 nS nB (hq % 24) gate v).1 (hour1 nS nB (hq % 24) gate v).2.1 gate (hour1 nS nB (hq % 24) gate v).2.2 (xw cy h ad nS nB (hour1 nS nB (hq % 24) gate v).1 (hour1 nS nB (hq % 24) gate v).2.1 gate (hour1 nS nB (hq % 24) gate v).2.2 (av 0) (tw cy av tS tB ts tb tg tn) ++ wz cy aw nB v.2.1)) H := hP
  have hD : va_D A (sw cy am nS nB (hour1 nS nB (hq % 24) gate v).1 (hour1 nS nB (hq % 24) gate v).2.1 gate (hour1 nS nB (hq % 24) gate v).2.2 (xw cy h ad nS nB (hour1 nS nB (hq % 24) gate v).1 (hour1 nS nB (hq % 24) gate v).2.1 gate (hour1 nS nB (hq % 24) gate v).2.2 (av 0) (tw cy av tS tB ts tb tg tn) ++ wz cy aw nB v.2.1)) := hD
  refine W.eq (g2 := F0 m 585 ls [.int ((hour1 nS nB (hq % 24) gate v).2.1 j 3)]) rfl ?_
  refine W.cs (cells' := C + 1 + 1 + 1) (slots' := N + 6 + 6 + 6) (by first | rfl | omega) (by first | rfl | omega) ?_
  refine lv_iload hx hb dL_law_585 (lv_at hl 0 rfl) ?_
  refine lv_aload hx hb dL_law_587 (lv_at hl 14 rfl) ?_
  refine lv_iload hx hb dL_law_589 (lv_at hl 24 rfl) ?_
  refine xaldB hx hb hK hP (4 + nS + nB + ((xw cy h ad nS nB (hour1 nS nB (hq % 24) gate v).1 (hour1 nS nB (hq % 24) gate v).2.1 gate (hour1 nS nB (hq % 24) gate v).2.2 (av 0) (tw cy av tS tB ts tb tg tn)).length + 0)) (am := aw) (ww_wr (at_r (k := 0) rfl)) j rfl hj hcB dL_law_591 ?_
  refine lv_iconst (v := 4) hx hb dL_law_592 (by decide) ?_
  refine xiald hx hb hK hP (4 + nS + nB + ((xw cy h ad nS nB (hour1 nS nB (hq % 24) gate v).1 (hour1 nS nB (hq % 24) gate v).2.1 gate (hour1 nS nB (hq % 24) gate v).2.2 (av 0) (tw cy av tS tB ts tb tg tn)).length + (1 + j))) (ww_wr (at_r (k := 1 + j) (wz_at hj))) 4 (by decide) (by decide) (by decide) dL_law_593 ?_
  refine lv_imul hx hb dL_law_594 ?_
  refine lv_iadd hx hb dL_law_595 ?_
  refine lv_aload hx hb dL_law_596 (lv_at hl 14 rfl) ?_
  refine lv_iload hx hb dL_law_598 (lv_at hl 24 rfl) ?_
  refine xaldB hx hb hK hP (4 + nS + nB + ((xw cy h ad nS nB (hour1 nS nB (hq % 24) gate v).1 (hour1 nS nB (hq % 24) gate v).2.1 gate (hour1 nS nB (hq % 24) gate v).2.2 (av 0) (tw cy av tS tB ts tb tg tn)).length + 0)) (am := aw) (ww_wr (at_r (k := 0) rfl)) j rfl hj hcB dL_law_600 ?_
  refine lv_iconst (v := 3) hx hb dL_law_601 (by decide) ?_
  refine xiald hx hb hK hP (4 + nS + nB + ((xw cy h ad nS nB (hour1 nS nB (hq % 24) gate v).1 (hour1 nS nB (hq % 24) gate v).2.1 gate (hour1 nS nB (hq % 24) gate v).2.2 (av 0) (tw cy av tS tB ts tb tg tn)).length + (1 + j))) (ww_wr (at_r (k := 1 + j) (wz_at hj))) 3 (by decide) (by decide) (by decide) dL_law_602 ?_
  refine lv_isub hx hb dL_law_603 ?_
  refine W.eq (g2 := F0 m 604 ls [.int (gtJ nS nB (hq % 24) gate v j)]) (congrArg (fun z => F0 m 604 ls (.int z :: [])) (e_gets hj)) ?_
  refine lv_istore (lv' := [(30, .int (gtJ nS nB (hq % 24) gate v j)), (29, .int (mJ nS nB (hq % 24) gate v j)), (28, .int (soJ nS nB (hq % 24) gate v j)), (0, .ref sb), (1, .ref h), (2, .ref (am 0)), (3, .int (nI t)), (5, .int (nI nS)), (6, .int (nI nB)), (7, .int (nI (hq % 24))), (8, .int (sm (fun i => v.1 i 0) nS)), (9, .int (sm (fun i => v.2.1 i 5) nB)), (10, .int (v.2.2 2)), (11, .int (v.2.2 5)), (12, .int (sm (fun i => v.1 i 2) nS)), (13, .ref (aw 0)), (15, .int (hUnfed nS nB (hq % 24) gate v)), (18, .int (sm (fun i => (hour1 nS nB (hq % 24) gate v).1 i 1) nS)), (23, .int ((hour1 nS nB (hq % 24) gate v).2.2 1)), (24, .int (sm (fun i => (hour1 nS nB (hq % 24) gate v).1 i 2) nS)), (25, .int (sm (fun i => (hour1 nS nB (hq % 24) gate v).1 i 1) nS)), (20, .int (sm (gtJ nS nB (hq % 24) gate v) j)), (21, .int (sm (mJ nS nB (hq % 24) gate v) j)), (22, .int (sm (soJ nS nB (hq % 24) gate v) j)), (26, .int fi), (27, .int (nI j))]) hx hb dL_law_604 hl (by decide) rfl (fun ls hl => ?_)
  refine lv_iload hx hb dL_law_606 (lv_at hl 21 rfl) ?_
  refine lv_iload hx hb dL_law_608 (lv_at hl 0 rfl) ?_
  refine lv_iadd hx hb dL_law_610 ?_
  refine lv_istore (lv' := [(20, .int ((sm (gtJ nS nB (hq % 24) gate v) j) + (gtJ nS nB (hq % 24) gate v j))), (30, .int (gtJ nS nB (hq % 24) gate v j)), (29, .int (mJ nS nB (hq % 24) gate v j)), (28, .int (soJ nS nB (hq % 24) gate v j)), (0, .ref sb), (1, .ref h), (2, .ref (am 0)), (3, .int (nI t)), (5, .int (nI nS)), (6, .int (nI nB)), (7, .int (nI (hq % 24))), (8, .int (sm (fun i => v.1 i 0) nS)), (9, .int (sm (fun i => v.2.1 i 5) nB)), (10, .int (v.2.2 2)), (11, .int (v.2.2 5)), (12, .int (sm (fun i => v.1 i 2) nS)), (13, .ref (aw 0)), (15, .int (hUnfed nS nB (hq % 24) gate v)), (18, .int (sm (fun i => (hour1 nS nB (hq % 24) gate v).1 i 1) nS)), (23, .int ((hour1 nS nB (hq % 24) gate v).2.2 1)), (24, .int (sm (fun i => (hour1 nS nB (hq % 24) gate v).1 i 2) nS)), (25, .int (sm (fun i => (hour1 nS nB (hq % 24) gate v).1 i 1) nS)), (21, .int (sm (mJ nS nB (hq % 24) gate v) j)), (22, .int (sm (soJ nS nB (hq % 24) gate v) j)), (26, .int fi), (27, .int (nI j))]) hx hb dL_law_611 hl (by decide) rfl (fun ls hl => ?_)
  refine lv_iload hx hb dL_law_613 (lv_at hl 22 rfl) ?_
  refine lv_iload hx hb dL_law_615 (lv_at hl 2 rfl) ?_
  refine lv_iadd hx hb dL_law_617 ?_
  refine lv_istore (lv' := [(21, .int ((sm (mJ nS nB (hq % 24) gate v) j) + (mJ nS nB (hq % 24) gate v j))), (20, .int ((sm (gtJ nS nB (hq % 24) gate v) j) + (gtJ nS nB (hq % 24) gate v j))), (30, .int (gtJ nS nB (hq % 24) gate v j)), (29, .int (mJ nS nB (hq % 24) gate v j)), (28, .int (soJ nS nB (hq % 24) gate v j)), (0, .ref sb), (1, .ref h), (2, .ref (am 0)), (3, .int (nI t)), (5, .int (nI nS)), (6, .int (nI nB)), (7, .int (nI (hq % 24))), (8, .int (sm (fun i => v.1 i 0) nS)), (9, .int (sm (fun i => v.2.1 i 5) nB)), (10, .int (v.2.2 2)), (11, .int (v.2.2 5)), (12, .int (sm (fun i => v.1 i 2) nS)), (13, .ref (aw 0)), (15, .int (hUnfed nS nB (hq % 24) gate v)), (18, .int (sm (fun i => (hour1 nS nB (hq % 24) gate v).1 i 1) nS)), (23, .int ((hour1 nS nB (hq % 24) gate v).2.2 1)), (24, .int (sm (fun i => (hour1 nS nB (hq % 24) gate v).1 i 2) nS)), (25, .int (sm (fun i => (hour1 nS nB (hq % 24) gate v).1 i 1) nS)), (22, .int (sm (soJ nS nB (hq % 24) gate v) j)), (26, .int fi), (27, .int (nI j))]) hx hb dL_law_618 hl (by decide) rfl (fun ls hl => ?_)
  refine lv_iload hx hb dL_law_620 (lv_at hl 23 rfl) ?_
  refine lv_iload hx hb dL_law_622 (lv_at hl 4 rfl) ?_
  refine lv_iadd hx hb dL_law_624 ?_
  refine lv_istore (lv' := [(22, .int ((sm (soJ nS nB (hq % 24) gate v) j) + (soJ nS nB (hq % 24) gate v j))), (21, .int ((sm (mJ nS nB (hq % 24) gate v) j) + (mJ nS nB (hq % 24) gate v j))), (20, .int ((sm (gtJ nS nB (hq % 24) gate v) j) + (gtJ nS nB (hq % 24) gate v j))), (30, .int (gtJ nS nB (hq % 24) gate v j)), (29, .int (mJ nS nB (hq % 24) gate v j)), (28, .int (soJ nS nB (hq % 24) gate v j)), (0, .ref sb), (1, .ref h), (2, .ref (am 0)), (3, .int (nI t)), (5, .int (nI nS)), (6, .int (nI nB)), (7, .int (nI (hq % 24))), (8, .int (sm (fun i => v.1 i 0) nS)), (9, .int (sm (fun i => v.2.1 i 5) nB)), (10, .int (v.2.2 2)), (11, .int (v.2.2 5)), (12, .int (sm (fun i => v.1 i 2) nS)), (13, .ref (aw 0)), (15, .int (hUnfed nS nB (hq % 24) gate v)), (18, .int (sm (fun i => (hour1 nS nB (hq % 24) gate v).1 i 1) nS)), (23, .int ((hour1 nS nB (hq % 24) gate v).2.2 1)), (24, .int (sm (fun i => (hour1 nS nB (hq % 24) gate v).1 i 2) nS)), (25, .int (sm (fun i => (hour1 nS nB (hq % 24) gate v).1 i 1) nS)), (26, .int fi), (27, .int (nI j))]) hx hb dL_law_625 hl (by decide) rfl (fun ls hl => ?_)
  refine lv_iload hx hb dL_law_627 (lv_at hl 5 rfl) ?_
  refine lv_if_lt (tgt := 692) hx hb dL_law_629 (by decide) (fun h => absurd h (ge0 hSo)) (fun _ => ?_)
  refine lv_iload hx hb dL_law_632 (lv_at hl 4 rfl) ?_
  refine lv_if_lt (tgt := 692) hx hb dL_law_634 (by decide) (fun h => absurd h (ge0 hM.1)) (fun _ => ?_)
  refine lv_iload hx hb dL_law_637 (lv_at hl 4 rfl) ?_
  refine lv_iconst (v := 4) hx hb dL_law_639 (by decide) ?_
  refine lv_icmp_gt (tgt := 692) hx hb dL_law_640 (by decide) (fun h => absurd h (gt4 hM.2.1)) (fun _ => ?_)
  refine lv_iload hx hb dL_law_643 (lv_at hl 3 rfl) ?_
  refine lv_if_lt (tgt := 692) hx hb dL_law_645 (by decide) (fun h => absurd h (ge0 hG.1)) (fun _ => ?_)
  refine lv_iload hx hb dL_law_648 (lv_at hl 3 rfl) ?_
  refine lv_aload hx hb dL_law_650 (lv_at hl 18 rfl) ?_
  refine lv_iload hx hb dL_law_652 (lv_at hl 25 rfl) ?_
  refine xaldB hx hb hK hP (4 + nS + nB + ((xw cy h ad nS nB (hour1 nS nB (hq % 24) gate v).1 (hour1 nS nB (hq % 24) gate v).2.1 gate (hour1 nS nB (hq % 24) gate v).2.2 (av 0) (tw cy av tS tB ts tb tg tn)).length + 0)) (am := aw) (ww_wr (at_r (k := 0) rfl)) j rfl hj hcB dL_law_654 ?_
  refine lv_iconst (v := 2) hx hb dL_law_655 (by decide) ?_
  refine xiald hx hb hK hP (4 + nS + nB + ((xw cy h ad nS nB (hour1 nS nB (hq % 24) gate v).1 (hour1 nS nB (hq % 24) gate v).2.1 gate (hour1 nS nB (hq % 24) gate v).2.2 (av 0) (tw cy av tS tB ts tb tg tn)).length + (1 + j))) (ww_wr (at_r (k := 1 + j) (wz_at hj))) 2 (by decide) (by decide) (by decide) dL_law_656 ?_
  refine lv_icmp_gt (tgt := 692) hx hb dL_law_657 (by decide) (fun h => absurd h (not_gt hG.2.1)) (fun _ => ?_)
  refine lv_iload hx hb dL_law_660 (lv_at hl 3 rfl) ?_
  refine lv_if_le (tgt := 670) hx hb dL_law_662 (by decide) (fun c662 => ?_) (fun c662 => ?_)
  · refine lv_aload hx hb dL_law_670 (lv_at hl 18 rfl) ?_
    refine lv_iload hx hb dL_law_672 (lv_at hl 25 rfl) ?_
    refine xaldB hx hb hK hP (4 + nS + nB + ((xw cy h ad nS nB (hour1 nS nB (hq % 24) gate v).1 (hour1 nS nB (hq % 24) gate v).2.1 gate (hour1 nS nB (hq % 24) gate v).2.2 (av 0) (tw cy av tS tB ts tb tg tn)).length + 0)) (am := aw) (ww_wr (at_r (k := 0) rfl)) j rfl hj hcB dL_law_674 ?_
    refine lv_bipush (v := 7) hx hb dL_law_675 (by decide) ?_
    refine xiald hx hb hK hP (4 + nS + nB + ((xw cy h ad nS nB (hour1 nS nB (hq % 24) gate v).1 (hour1 nS nB (hq % 24) gate v).2.1 gate (hour1 nS nB (hq % 24) gate v).2.2 (av 0) (tw cy av tS tB ts tb tg tn)).length + (1 + j))) (ww_wr (at_r (k := 1 + j) (wz_at hj))) 7 (by decide) (by decide) (by decide) dL_law_677 ?_
    refine lv_iconst (v := 1) hx hb dL_law_678 (by decide) ?_
    refine lv_icmp_ne (tgt := 694) hx hb dL_law_679 (by decide) (fun c679 => ?_) (fun c679 => ?_)
    · refine W.widen (k := C + 3) (n := N + 18) (by omega) (by omega) ?_
      exact KK _ _ _ hP hD hS (lv_sub hl [6, 7, 8, 9, 10, 11, 12, 13, 14, 15, 16, 17, 18, 19, 20, 21, 22, 23, 2, 1, 0, 24, 25, 5, 4, 3] rfl)
    · refine lv_iload hx hb dL_law_682 (lv_at hl 3 rfl) ?_
      refine lv_if_ne (tgt := 692) hx hb dL_law_684 (by decide) (fun z => absurd (hG.2.2 c679) z) (fun _ => ?_)
      refine lv_iload hx hb dL_law_687 (lv_at hl 4 rfl) ?_
      refine lv_if_eq (tgt := 694) hx hb dL_law_689 (by decide) (fun _ => ?_) (fun z => absurd (hM.2.2.1 c679) z)
      refine W.widen (k := C + 3) (n := N + 18) (by omega) (by omega) ?_
      exact KK _ _ _ hP hD hS (lv_sub hl [6, 7, 8, 9, 10, 11, 12, 13, 14, 15, 16, 17, 18, 19, 20, 21, 22, 23, 2, 1, 0, 24, 25, 5, 4, 3] rfl)
  · refine lv_iload hx hb dL_law_665 (lv_at hl 12 rfl) ?_
    refine lv_if_ne (tgt := 692) hx hb dL_law_667 (by decide) (fun z => absurd (Decidable.byContradiction (fun hk => c662 (by rw [gtJ_ne (fun z => hk (by rw [z]; rfl)) j]; exact Int32.le_refl _))) z) (fun _ => ?_)
    refine lv_aload hx hb dL_law_670 (lv_at hl 18 rfl) ?_
    refine lv_iload hx hb dL_law_672 (lv_at hl 25 rfl) ?_
    refine xaldB hx hb hK hP (4 + nS + nB + ((xw cy h ad nS nB (hour1 nS nB (hq % 24) gate v).1 (hour1 nS nB (hq % 24) gate v).2.1 gate (hour1 nS nB (hq % 24) gate v).2.2 (av 0) (tw cy av tS tB ts tb tg tn)).length + 0)) (am := aw) (ww_wr (at_r (k := 0) rfl)) j rfl hj hcB dL_law_674 ?_
    refine lv_bipush (v := 7) hx hb dL_law_675 (by decide) ?_
    refine xiald hx hb hK hP (4 + nS + nB + ((xw cy h ad nS nB (hour1 nS nB (hq % 24) gate v).1 (hour1 nS nB (hq % 24) gate v).2.1 gate (hour1 nS nB (hq % 24) gate v).2.2 (av 0) (tw cy av tS tB ts tb tg tn)).length + (1 + j))) (ww_wr (at_r (k := 1 + j) (wz_at hj))) 7 (by decide) (by decide) (by decide) dL_law_677 ?_
    refine lv_iconst (v := 1) hx hb dL_law_678 (by decide) ?_
    refine lv_icmp_ne (tgt := 694) hx hb dL_law_679 (by decide) (fun c679 => ?_) (fun c679 => ?_)
    · refine W.widen (k := C + 3) (n := N + 18) (by omega) (by omega) ?_
      exact KK _ _ _ hP hD hS (lv_sub hl [6, 7, 8, 9, 10, 11, 12, 13, 14, 15, 16, 17, 18, 19, 20, 21, 22, 23, 2, 1, 0, 24, 25, 5, 4, 3] rfl)
    · refine lv_iload hx hb dL_law_682 (lv_at hl 3 rfl) ?_
      refine lv_if_ne (tgt := 692) hx hb dL_law_684 (by decide) (fun z => absurd (hG.2.2 c679) z) (fun _ => ?_)
      refine lv_iload hx hb dL_law_687 (lv_at hl 4 rfl) ?_
      refine lv_if_eq (tgt := 694) hx hb dL_law_689 (by decide) (fun _ => ?_) (fun z => absurd (hM.2.2.1 c679) z)
      refine W.widen (k := C + 3) (n := N + 18) (by omega) (by omega) ?_
      exact KK _ _ _ hP hD hS (lv_sub hl [6, 7, 8, 9, 10, 11, 12, 13, 14, 15, 16, 17, 18, 19, 20, 21, 22, 23, 2, 1, 0, 24, 25, 5, 4, 3] rfl)

set_option maxHeartbeats 4000000 in
set_option maxRecDepth 100000 in
/-- a baker: fewer than four only with too little at hand -/
theorem s_5b {p : Program} {l : Launch} {e : Env} {s : State} {m : MethodId} {below : List Frame} {meth : Method} {c : Code} {sb L : Nat} {xs : Nat → Int32} {D : va_G} {cy : Nat → ClassId} {A : Nat → Prop} {d0 : Drawn} {h : Nat} {am ad : Nat → Nat} {nS nB : Nat} {v : TS} {gate : Iu} {hq t : Nat} {C N : Nat} {av : Nat → Nat} {tS tB : Nat} {ts tb : Nat → Iu} {tg tn : Iu} {aw : Nat → Nat} (F : lF p s m meth c sb L xs D cy A d0) (hI : jInv nS nB gate hq v) (hq1 : hq ≤ 2000) (hcS : nS ≤ 4) (hcB : nB ≤ 6) (hC : C ≤ 600000) (hN : N ≤ 7000000) {j : Nat} {fi : Int32} (hj : j < nB)  (KK : lS p l e s m below meth c sb D A d0 728 [(0, .ref sb), (1, .ref h), (2, .ref (am 0)), (3, .int (nI t)), (5, .int (nI nS)), (6, .int (nI nB)), (7, .int (nI (hq % 24))), (8, .int (sm (fun i => v.1 i 0) nS)), (9, .int (sm (fun i => v.2.1 i 5) nB)), (10, .int (v.2.2 2)), (11, .int (v.2.2 5)), (12, .int (sm (fun i => v.1 i 2) nS)), (13, .ref (aw 0)), (15, .int (hUnfed nS nB (hq % 24) gate v)), (18, .int (sm (fun i => (hour1 nS nB (hq % 24) gate v).1 i 1) nS)), (23, .int ((hour1 nS nB (hq % 24) gate v).2.2 1)), (24, .int (sm (fun i => (hour1 nS nB (hq % 24) gate v).1 i 2) nS)), (25, .int (sm (fun i => (hour1 nS nB (hq % 24) gate v).1 i 1) nS)), (20, .int (sm (gtJ nS nB (hq % 24) gate v) (j + 1))), (21, .int (sm (mJ nS nB (hq % 24) gate v) (j + 1))), (22, .int (sm (soJ nS nB (hq % 24) gate v) (j + 1))), (26, .int fi), (27, .int (nI j)), (28, .int (soJ nS nB (hq % 24) gate v j)), (29, .int (mJ nS nB (hq % 24) gate v j)), (30, .int (gtJ nS nB (hq % 24) gate v j))] (sw cy am nS nB (hour1 nS nB (hq % 24) gate v).1 (hour1 nS nB (hq % 24) gate v).2.1 gate (hour1 nS nB (hq % 24) gate v).2.2 (xw cy h ad nS nB (hour1 nS nB (hq % 24) gate v).1 (hour1 nS nB (hq % 24) gate v).2.1 gate (hour1 nS nB (hq % 24) gate v).2.2 (av 0) (tw cy av tS tB ts tb tg tn) ++ wz cy aw nB v.2.1)) (C + 1) (N + 6)) : lS p l e s m below meth c sb D A d0 694 [(0, .ref sb), (1, .ref h), (2, .ref (am 0)), (3, .int (nI t)), (5, .int (nI nS)), (6, .int (nI nB)), (7, .int (nI (hq % 24))), (8, .int (sm (fun i => v.1 i 0) nS)), (9, .int (sm (fun i => v.2.1 i 5) nB)), (10, .int (v.2.2 2)), (11, .int (v.2.2 5)), (12, .int (sm (fun i => v.1 i 2) nS)), (13, .ref (aw 0)), (15, .int (hUnfed nS nB (hq % 24) gate v)), (18, .int (sm (fun i => (hour1 nS nB (hq % 24) gate v).1 i 1) nS)), (23, .int ((hour1 nS nB (hq % 24) gate v).2.2 1)), (24, .int (sm (fun i => (hour1 nS nB (hq % 24) gate v).1 i 2) nS)), (25, .int (sm (fun i => (hour1 nS nB (hq % 24) gate v).1 i 1) nS)), (20, .int (sm (gtJ nS nB (hq % 24) gate v) (j + 1))), (21, .int (sm (mJ nS nB (hq % 24) gate v) (j + 1))), (22, .int (sm (soJ nS nB (hq % 24) gate v) (j + 1))), (26, .int fi), (27, .int (nI j)), (28, .int (soJ nS nB (hq % 24) gate v j)), (29, .int (mJ nS nB (hq % 24) gate v j)), (30, .int (gtJ nS nB (hq % 24) gate v j))] (sw cy am nS nB (hour1 nS nB (hq % 24) gate v).1 (hour1 nS nB (hq % 24) gate v).2.1 gate (hour1 nS nB (hq % 24) gate v).2.2 (xw cy h ad nS nB (hour1 nS nB (hq % 24) gate v).1 (hour1 nS nB (hq % 24) gate v).2.1 gate (hour1 nS nB (hq % 24) gate v).2.2 (av 0) (tw cy av tS tB ts tb tg tn) ++ wz cy aw nB v.2.1)) (C) (N) := by
  obtain ⟨hx, hb, hts, hown, hml, hK, hX, hbl, hL, hbA, hA⟩ := id F
  intro H locs ls hP hD hS hl
  have hI1 := jinv_hour hI hcS (by omega)
  have hG := gtJ_OK hcS (show hq ≤ 200000 by omega) hI.1 hj
  have hM := mJ_OK hcS (show hq ≤ 200000 by omega) hI.1 hj
  have hSo := soJ_OK hcS (show hq ≤ 200000 by omega) hI.1 hj
  refine lv_aload hx hb dL_law_694 (lv_at hl 12 rfl) ?_
  refine lv_iload hx hb dL_law_696 (lv_at hl 22 rfl) ?_
  refine xaldB hx hb hK hP (4 + nS + nB + ((xw cy h ad nS nB (hour1 nS nB (hq % 24) gate v).1 (hour1 nS nB (hq % 24) gate v).2.1 gate (hour1 nS nB (hq % 24) gate v).2.2 (av 0) (tw cy av tS tB ts tb tg tn)).length + 0)) (am := aw) (ww_wr (at_r (k := 0) rfl)) j rfl hj hcB dL_law_698 ?_
  refine lv_bipush (v := 7) hx hb dL_law_699 (by decide) ?_
  refine xiald hx hb hK hP (4 + nS + nB + ((xw cy h ad nS nB (hour1 nS nB (hq % 24) gate v).1 (hour1 nS nB (hq % 24) gate v).2.1 gate (hour1 nS nB (hq % 24) gate v).2.2 (av 0) (tw cy av tS tB ts tb tg tn)).length + (1 + j))) (ww_wr (at_r (k := 1 + j) (wz_at hj))) 7 (by decide) (by decide) (by decide) dL_law_701 ?_
  refine lv_if_ne (tgt := 728) hx hb dL_law_702 (by decide) (fun c702 => ?_) (fun c702 => ?_)
  · refine W.widen (k := C + 1) (n := N + 6) (by omega) (by omega) ?_
    exact KK _ _ _ hP hD hS (lv_sub hl [0, 1, 2, 3, 4, 5, 6, 7, 8, 9, 10, 11, 12, 13, 14, 15, 16, 17, 18, 19, 20, 21, 22, 23, 24, 25] rfl)
  · refine lv_iload hx hb dL_law_705 (lv_at hl 24 rfl) ?_
    refine lv_iconst (v := 4) hx hb dL_law_707 (by decide) ?_
    refine lv_icmp_ge (tgt := 728) hx hb dL_law_708 (by decide) (fun c708 => ?_) (fun c708 => ?_)
    · refine W.widen (k := C + 1) (n := N + 6) (by omega) (by omega) ?_
      exact KK _ _ _ hP hD hS (lv_sub hl [0, 1, 2, 3, 4, 5, 6, 7, 8, 9, 10, 11, 12, 13, 14, 15, 16, 17, 18, 19, 20, 21, 22, 23, 24, 25] rfl)
    · refine lv_aload_n hx hb dL_law_711 rfl (lv_at hl 1 rfl) ?_
      refine lv_iload hx hb dL_law_712 (lv_at hl 22 rfl) ?_
      refine lv_iconst (v := 3) hx hb dL_law_714 (by decide) ?_
      refine xcV (As := [.int (nI j), .int 3]) (rest := []) ⟨hx, hb, hml, hown, hts⟩ (c_X3_baker l D cy h ad nS nB (hour1 nS nB (hq % 24) gate v).1 (hour1 nS nB (hq % 24) gate v).2.1 gate (hour1 nS nB (hq % 24) gate v).2.2 (av 0) (tw cy av tS tB ts tb tg tn) j hj 3 (by decide) hcS hcB) (cwV 2 hts gL_law_X3_baker rfl rfl rfl (by decide +kernel) ⟨Nat.le_of_ble_eq_true rfl, Nat.le_of_ble_eq_true rfl⟩) hK hP hD hS hA rfl rfl rfl (xE_wrl) rfl hl.1 rfl (Nat.le_of_ble_eq_true rfl) dL_law_715 ⟨by show C + 1 ≤ 606250; omega, by show N + 6 ≤ 7282873; omega⟩ (fun _ H locs _ hP hD hS => ?_)
      have hP : va_P D vwCl (sw cy am nS nB (hour1 nS nB (hq % 24) gate v).1 (hour1 nS nB (hq % 24) gate v).2.1 gate (hour1 nS nB (hq % 24) gate v).2.2 (xw cy h ad nS nB (hour1 nS nB (hq % 24) gate v).1 (hour1 nS nB (hq % 24) gate v).2.1 gate (hour1 nS nB (hq % 24) gate v).2.2 (av 0) (tw cy av tS tB ts tb tg tn) ++ wz cy aw nB v.2.1)) H := hP
      have hD : va_D A (sw cy am nS nB (hour1 nS nB (hq % 24) gate v).1 (hour1 nS nB (hq % 24) gate v).2.1 gate (hour1 nS nB (hq % 24) gate v).2.2 (xw cy h ad nS nB (hour1 nS nB (hq % 24) gate v).1 (hour1 nS nB (hq % 24) gate v).2.1 gate (hour1 nS nB (hq % 24) gate v).2.2 (av 0) (tw cy av tS tB ts tb tg tn) ++ wz cy aw nB v.2.1)) := hD
      refine W.eq (g2 := F0 m 718 ls [.int ((hour1 nS nB (hq % 24) gate v).2.1 j 3)]) rfl ?_
      refine W.cs (cells' := C + 1) (slots' := N + 6) (by first | rfl | omega) (by first | rfl | omega) ?_
      refine lv_aload hx hb dL_law_718 (lv_at hl 12 rfl) ?_
      refine lv_iload hx hb dL_law_720 (lv_at hl 22 rfl) ?_
      refine xaldB hx hb hK hP (4 + nS + nB + ((xw cy h ad nS nB (hour1 nS nB (hq % 24) gate v).1 (hour1 nS nB (hq % 24) gate v).2.1 gate (hour1 nS nB (hq % 24) gate v).2.2 (av 0) (tw cy av tS tB ts tb tg tn)).length + 0)) (am := aw) (ww_wr (at_r (k := 0) rfl)) j rfl hj hcB dL_law_722 ?_
      refine lv_iconst (v := 4) hx hb dL_law_723 (by decide) ?_
      refine xiald hx hb hK hP (4 + nS + nB + ((xw cy h ad nS nB (hour1 nS nB (hq % 24) gate v).1 (hour1 nS nB (hq % 24) gate v).2.1 gate (hour1 nS nB (hq % 24) gate v).2.2 (av 0) (tw cy av tS tB ts tb tg tn)).length + (1 + j))) (ww_wr (at_r (k := 1 + j) (wz_at hj))) 4 (by decide) (by decide) (by decide) dL_law_724 ?_
      refine lv_icmp_ge (tgt := 738) hx hb dL_law_725 (by decide) (fun h => absurd h (Int32.not_le.mpr (by rw [hour_o hj (by decide) (by decide)]; exact hM.2.2.2 c702 (lt4 c708)))) (fun _ => ?_)
      refine W.widen (k := C + 1) (n := N + 6) (by omega) (by omega) ?_
      exact KK _ _ _ hP hD hS (lv_sub hl [0, 1, 2, 3, 4, 5, 6, 7, 8, 9, 10, 11, 12, 13, 14, 15, 16, 17, 18, 19, 20, 21, 22, 23, 24, 25] rfl)

set_option maxHeartbeats 4000000 in
set_option maxRecDepth 100000 in
/-- a baker: sold behind empty shelves alone -/
theorem s_5c {p : Program} {l : Launch} {e : Env} {s : State} {m : MethodId} {below : List Frame} {meth : Method} {c : Code} {sb L : Nat} {xs : Nat → Int32} {D : va_G} {cy : Nat → ClassId} {A : Nat → Prop} {d0 : Drawn} {h : Nat} {am ad : Nat → Nat} {nS nB : Nat} {v : TS} {gate : Iu} {hq t : Nat} {C N : Nat} {av : Nat → Nat} {tS tB : Nat} {ts tb : Nat → Iu} {tg tn : Iu} {aw : Nat → Nat} (F : lF p s m meth c sb L xs D cy A d0) (hI : jInv nS nB gate hq v) (hq1 : hq ≤ 2000) (hcS : nS ≤ 4) (hcB : nB ≤ 6) (hC : C ≤ 600000) (hN : N ≤ 7000000) {j : Nat} {fi : Int32} (hj : j < nB) (hfi : (fi = 0 → ∃ i, i < j ∧ hq % 24 = 12 ∧ ¬ (hour1 nS nB (hq % 24) gate v).2.1 i 5 = 0)) (KK : lS p l e s m below meth c sb D A d0 740 [(0, .ref sb), (1, .ref h), (2, .ref (am 0)), (3, .int (nI t)), (5, .int (nI nS)), (6, .int (nI nB)), (7, .int (nI (hq % 24))), (8, .int (sm (fun i => v.1 i 0) nS)), (9, .int (sm (fun i => v.2.1 i 5) nB)), (10, .int (v.2.2 2)), (11, .int (v.2.2 5)), (12, .int (sm (fun i => v.1 i 2) nS)), (13, .ref (aw 0)), (15, .int (hUnfed nS nB (hq % 24) gate v)), (18, .int (sm (fun i => (hour1 nS nB (hq % 24) gate v).1 i 1) nS)), (23, .int ((hour1 nS nB (hq % 24) gate v).2.2 1)), (24, .int (sm (fun i => (hour1 nS nB (hq % 24) gate v).1 i 2) nS)), (25, .int (sm (fun i => (hour1 nS nB (hq % 24) gate v).1 i 1) nS)), (20, .int (sm (gtJ nS nB (hq % 24) gate v) (j + 1))), (21, .int (sm (mJ nS nB (hq % 24) gate v) (j + 1))), (22, .int (sm (soJ nS nB (hq % 24) gate v) (j + 1))), (26, .int fi), (27, .int (nI j)), (28, .int (soJ nS nB (hq % 24) gate v j)), (29, .int (mJ nS nB (hq % 24) gate v j)), (30, .int (gtJ nS nB (hq % 24) gate v j))] (sw cy am nS nB (hour1 nS nB (hq % 24) gate v).1 (hour1 nS nB (hq % 24) gate v).2.1 gate (hour1 nS nB (hq % 24) gate v).2.2 (xw cy h ad nS nB (hour1 nS nB (hq % 24) gate v).1 (hour1 nS nB (hq % 24) gate v).2.1 gate (hour1 nS nB (hq % 24) gate v).2.2 (av 0) (tw cy av tS tB ts tb tg tn) ++ wz cy aw nB v.2.1)) (C) (N)) : lS p l e s m below meth c sb D A d0 728 [(0, .ref sb), (1, .ref h), (2, .ref (am 0)), (3, .int (nI t)), (5, .int (nI nS)), (6, .int (nI nB)), (7, .int (nI (hq % 24))), (8, .int (sm (fun i => v.1 i 0) nS)), (9, .int (sm (fun i => v.2.1 i 5) nB)), (10, .int (v.2.2 2)), (11, .int (v.2.2 5)), (12, .int (sm (fun i => v.1 i 2) nS)), (13, .ref (aw 0)), (15, .int (hUnfed nS nB (hq % 24) gate v)), (18, .int (sm (fun i => (hour1 nS nB (hq % 24) gate v).1 i 1) nS)), (23, .int ((hour1 nS nB (hq % 24) gate v).2.2 1)), (24, .int (sm (fun i => (hour1 nS nB (hq % 24) gate v).1 i 2) nS)), (25, .int (sm (fun i => (hour1 nS nB (hq % 24) gate v).1 i 1) nS)), (20, .int (sm (gtJ nS nB (hq % 24) gate v) (j + 1))), (21, .int (sm (mJ nS nB (hq % 24) gate v) (j + 1))), (22, .int (sm (soJ nS nB (hq % 24) gate v) (j + 1))), (26, .int fi), (27, .int (nI j)), (28, .int (soJ nS nB (hq % 24) gate v j)), (29, .int (mJ nS nB (hq % 24) gate v j)), (30, .int (gtJ nS nB (hq % 24) gate v j))] (sw cy am nS nB (hour1 nS nB (hq % 24) gate v).1 (hour1 nS nB (hq % 24) gate v).2.1 gate (hour1 nS nB (hq % 24) gate v).2.2 (xw cy h ad nS nB (hour1 nS nB (hq % 24) gate v).1 (hour1 nS nB (hq % 24) gate v).2.1 gate (hour1 nS nB (hq % 24) gate v).2.2 (av 0) (tw cy av tS tB ts tb tg tn) ++ wz cy aw nB v.2.1)) (C) (N) := by
  obtain ⟨hx, hb, hts, hown, hml, hK, hX, hbl, hL, hbA, hA⟩ := id F
  intro H locs ls hP hD hS hl
  have hI1 := jinv_hour hI hcS (by omega)
  have hG := gtJ_OK hcS (show hq ≤ 200000 by omega) hI.1 hj
  have hM := mJ_OK hcS (show hq ≤ 200000 by omega) hI.1 hj
  have hSo := soJ_OK hcS (show hq ≤ 200000 by omega) hI.1 hj
  refine lv_iload hx hb dL_law_728 (lv_at hl 23 rfl) ?_
  refine lv_if_le (tgt := 740) hx hb dL_law_730 (by decide) (fun c730 => ?_) (fun c730 => ?_)
  · refine W.widen (k := C) (n := N) (by omega) (by omega) ?_
    exact KK _ _ _ hP hD hS (lv_sub hl [0, 1, 2, 3, 4, 5, 6, 7, 8, 9, 10, 11, 12, 13, 14, 15, 16, 17, 18, 19, 20, 21, 22, 23, 24, 25] rfl)
  · refine lv_iload hx hb dL_law_733 (lv_at hl 21 rfl) ?_
    refine lv_if_ne (tgt := 740) hx hb dL_law_735 (by decide) (fun _ => ?_) (fun z => absurd z (fun z => c730 (by obtain ⟨i, hi, hk, hne⟩ := hfi z; rw [so_first hcS (show hq ≤ 200000 by omega) hI.1 hi hj hne]; exact Int32.le_refl _)))
    refine W.widen (k := C) (n := N) (by omega) (by omega) ?_
    exact KK _ _ _ hP hD hS (lv_sub hl [0, 1, 2, 3, 4, 5, 6, 7, 8, 9, 10, 11, 12, 13, 14, 15, 16, 17, 18, 19, 20, 21, 22, 23, 24, 25] rfl)

set_option maxHeartbeats 4000000 in
set_option maxRecDepth 100000 in
/-- a baker: the first with loaves left -/
theorem s_5d {p : Program} {l : Launch} {e : Env} {s : State} {m : MethodId} {below : List Frame} {meth : Method} {c : Code} {sb L : Nat} {xs : Nat → Int32} {D : va_G} {cy : Nat → ClassId} {A : Nat → Prop} {d0 : Drawn} {h : Nat} {am ad : Nat → Nat} {nS nB : Nat} {v : TS} {gate : Iu} {hq t : Nat} {C N : Nat} {av : Nat → Nat} {tS tB : Nat} {ts tb : Nat → Iu} {tg tn : Iu} {aw : Nat → Nat} (F : lF p s m meth c sb L xs D cy A d0) (hI : jInv nS nB gate hq v) (hq1 : hq ≤ 2000) (hcS : nS ≤ 4) (hcB : nB ≤ 6) (hC : C ≤ 600000) (hN : N ≤ 7000000) {j : Nat} {fi : Int32} (hj : j < nB) (hfi : (fi = 0 → ∃ i, i < j ∧ hq % 24 = 12 ∧ ¬ (hour1 nS nB (hq % 24) gate v).2.1 i 5 = 0)) (KK : ∀ fi2 : Int32, (fi2 = 0 → ∃ i, i < j + 1 ∧ hq % 24 = 12 ∧ ¬ (hour1 nS nB (hq % 24) gate v).2.1 i 5 = 0) → lS p l e s m below meth c sb D A d0 760 [(0, .ref sb), (1, .ref h), (2, .ref (am 0)), (3, .int (nI t)), (5, .int (nI nS)), (6, .int (nI nB)), (7, .int (nI (hq % 24))), (8, .int (sm (fun i => v.1 i 0) nS)), (9, .int (sm (fun i => v.2.1 i 5) nB)), (10, .int (v.2.2 2)), (11, .int (v.2.2 5)), (12, .int (sm (fun i => v.1 i 2) nS)), (13, .ref (aw 0)), (15, .int (hUnfed nS nB (hq % 24) gate v)), (18, .int (sm (fun i => (hour1 nS nB (hq % 24) gate v).1 i 1) nS)), (23, .int ((hour1 nS nB (hq % 24) gate v).2.2 1)), (24, .int (sm (fun i => (hour1 nS nB (hq % 24) gate v).1 i 2) nS)), (25, .int (sm (fun i => (hour1 nS nB (hq % 24) gate v).1 i 1) nS)), (20, .int (sm (gtJ nS nB (hq % 24) gate v) (j + 1))), (21, .int (sm (mJ nS nB (hq % 24) gate v) (j + 1))), (22, .int (sm (soJ nS nB (hq % 24) gate v) (j + 1))), (26, .int fi2), (27, .int (nI j))] (sw cy am nS nB (hour1 nS nB (hq % 24) gate v).1 (hour1 nS nB (hq % 24) gate v).2.1 gate (hour1 nS nB (hq % 24) gate v).2.2 (xw cy h ad nS nB (hour1 nS nB (hq % 24) gate v).1 (hour1 nS nB (hq % 24) gate v).2.1 gate (hour1 nS nB (hq % 24) gate v).2.2 (av 0) (tw cy av tS tB ts tb tg tn) ++ wz cy aw nB v.2.1)) (C + 1) (N + 6)) : lS p l e s m below meth c sb D A d0 740 [(0, .ref sb), (1, .ref h), (2, .ref (am 0)), (3, .int (nI t)), (5, .int (nI nS)), (6, .int (nI nB)), (7, .int (nI (hq % 24))), (8, .int (sm (fun i => v.1 i 0) nS)), (9, .int (sm (fun i => v.2.1 i 5) nB)), (10, .int (v.2.2 2)), (11, .int (v.2.2 5)), (12, .int (sm (fun i => v.1 i 2) nS)), (13, .ref (aw 0)), (15, .int (hUnfed nS nB (hq % 24) gate v)), (18, .int (sm (fun i => (hour1 nS nB (hq % 24) gate v).1 i 1) nS)), (23, .int ((hour1 nS nB (hq % 24) gate v).2.2 1)), (24, .int (sm (fun i => (hour1 nS nB (hq % 24) gate v).1 i 2) nS)), (25, .int (sm (fun i => (hour1 nS nB (hq % 24) gate v).1 i 1) nS)), (20, .int (sm (gtJ nS nB (hq % 24) gate v) (j + 1))), (21, .int (sm (mJ nS nB (hq % 24) gate v) (j + 1))), (22, .int (sm (soJ nS nB (hq % 24) gate v) (j + 1))), (26, .int fi), (27, .int (nI j)), (28, .int (soJ nS nB (hq % 24) gate v j)), (29, .int (mJ nS nB (hq % 24) gate v j)), (30, .int (gtJ nS nB (hq % 24) gate v j))] (sw cy am nS nB (hour1 nS nB (hq % 24) gate v).1 (hour1 nS nB (hq % 24) gate v).2.1 gate (hour1 nS nB (hq % 24) gate v).2.2 (xw cy h ad nS nB (hour1 nS nB (hq % 24) gate v).1 (hour1 nS nB (hq % 24) gate v).2.1 gate (hour1 nS nB (hq % 24) gate v).2.2 (av 0) (tw cy av tS tB ts tb tg tn) ++ wz cy aw nB v.2.1)) (C) (N) := by
  obtain ⟨hx, hb, hts, hown, hml, hK, hX, hbl, hL, hbA, hA⟩ := id F
  intro H locs ls hP hD hS hl
  have hI1 := jinv_hour hI hcS (by omega)
  have hG := gtJ_OK hcS (show hq ≤ 200000 by omega) hI.1 hj
  have hM := mJ_OK hcS (show hq ≤ 200000 by omega) hI.1 hj
  have hSo := soJ_OK hcS (show hq ≤ 200000 by omega) hI.1 hj
  refine lv_iload hx hb dL_law_740 (lv_at hl 6 rfl) ?_
  refine lv_bipush (v := 12) hx hb dL_law_742 (by decide) ?_
  refine lv_icmp_ne (tgt := 760) hx hb dL_law_744 (by decide) (fun c744 => ?_) (fun c744 => ?_)
  · refine W.widen (k := C + 1) (n := N + 6) (by omega) (by omega) ?_
    exact KK fi (fun z => (hfi z).elim (fun i hi => ⟨i, Nat.lt_succ_of_lt hi.1, hi.2⟩)) _ _ _ hP hD hS (lv_sub hl [0, 1, 2, 3, 4, 5, 6, 7, 8, 9, 10, 11, 12, 13, 14, 15, 16, 17, 18, 19, 20, 21, 22] rfl)
  · refine lv_aload_n hx hb dL_law_747 rfl (lv_at hl 1 rfl) ?_
    refine lv_iload hx hb dL_law_748 (lv_at hl 22 rfl) ?_
    refine lv_iconst (v := 5) hx hb dL_law_750 (by decide) ?_
    refine xcV (As := [.int (nI j), .int 5]) (rest := []) ⟨hx, hb, hml, hown, hts⟩ (c_X3_baker l D cy h ad nS nB (hour1 nS nB (hq % 24) gate v).1 (hour1 nS nB (hq % 24) gate v).2.1 gate (hour1 nS nB (hq % 24) gate v).2.2 (av 0) (tw cy av tS tB ts tb tg tn) j hj 5 (by decide) hcS hcB) (cwV 2 hts gL_law_X3_baker rfl rfl rfl (by decide +kernel) ⟨Nat.le_of_ble_eq_true rfl, Nat.le_of_ble_eq_true rfl⟩) hK hP hD hS hA rfl rfl rfl (xE_wrl) rfl hl.1 rfl (Nat.le_of_ble_eq_true rfl) dL_law_751 ⟨by show C + 1 ≤ 606250; omega, by show N + 6 ≤ 7282873; omega⟩ (fun _ H locs _ hP hD hS => ?_)
    have hP : va_P D vwCl (sw cy am nS nB (hour1 nS nB (hq % 24) gate v).1 (hour1 nS nB (hq % 24) gate v).2.1 gate (hour1 nS nB (hq % 24) gate v).2.2 (xw cy h ad nS nB (hour1 nS nB (hq % 24) gate v).1 (hour1 nS nB (hq % 24) gate v).2.1 gate (hour1 nS nB (hq % 24) gate v).2.2 (av 0) (tw cy av tS tB ts tb tg tn) ++ wz cy aw nB v.2.1)) H := hP
    have hD : va_D A (sw cy am nS nB (hour1 nS nB (hq % 24) gate v).1 (hour1 nS nB (hq % 24) gate v).2.1 gate (hour1 nS nB (hq % 24) gate v).2.2 (xw cy h ad nS nB (hour1 nS nB (hq % 24) gate v).1 (hour1 nS nB (hq % 24) gate v).2.1 gate (hour1 nS nB (hq % 24) gate v).2.2 (av 0) (tw cy av tS tB ts tb tg tn) ++ wz cy aw nB v.2.1)) := hD
    refine W.eq (g2 := F0 m 754 ls [.int ((hour1 nS nB (hq % 24) gate v).2.1 j 5)]) rfl ?_
    refine W.cs (cells' := C + 1) (slots' := N + 6) (by first | rfl | omega) (by first | rfl | omega) ?_
    refine lv_if_le (tgt := 760) hx hb dL_law_754 (by decide) (fun c754 => ?_) (fun c754 => ?_)
    · refine W.widen (k := C + 1) (n := N + 6) (by omega) (by omega) ?_
      exact KK fi (fun z => (hfi z).elim (fun i hi => ⟨i, Nat.lt_succ_of_lt hi.1, hi.2⟩)) _ _ _ hP hD hS (lv_sub hl [0, 1, 2, 3, 4, 5, 6, 7, 8, 9, 10, 11, 12, 13, 14, 15, 16, 17, 18, 19, 20, 21, 22] rfl)
    · refine lv_iconst (v := 0) hx hb dL_law_757 (by decide) ?_
      refine lv_istore (lv' := [(26, .int 0), (0, .ref sb), (1, .ref h), (2, .ref (am 0)), (3, .int (nI t)), (5, .int (nI nS)), (6, .int (nI nB)), (7, .int (nI (hq % 24))), (8, .int (sm (fun i => v.1 i 0) nS)), (9, .int (sm (fun i => v.2.1 i 5) nB)), (10, .int (v.2.2 2)), (11, .int (v.2.2 5)), (12, .int (sm (fun i => v.1 i 2) nS)), (13, .ref (aw 0)), (15, .int (hUnfed nS nB (hq % 24) gate v)), (18, .int (sm (fun i => (hour1 nS nB (hq % 24) gate v).1 i 1) nS)), (23, .int ((hour1 nS nB (hq % 24) gate v).2.2 1)), (24, .int (sm (fun i => (hour1 nS nB (hq % 24) gate v).1 i 2) nS)), (25, .int (sm (fun i => (hour1 nS nB (hq % 24) gate v).1 i 1) nS)), (20, .int (sm (gtJ nS nB (hq % 24) gate v) (j + 1))), (21, .int (sm (mJ nS nB (hq % 24) gate v) (j + 1))), (22, .int (sm (soJ nS nB (hq % 24) gate v) (j + 1))), (27, .int (nI j)), (28, .int (soJ nS nB (hq % 24) gate v j)), (29, .int (mJ nS nB (hq % 24) gate v j)), (30, .int (gtJ nS nB (hq % 24) gate v j))]) hx hb dL_law_758 hl (by decide) rfl (fun ls hl => ?_)
      refine W.widen (k := C + 1) (n := N + 6) (by omega) (by omega) ?_
      exact KK 0 (fun _ => ⟨j, Nat.lt_succ_self j, eq12 (Nat.mod_lt _ (by decide)) c744, fun z => c754 (by rw [z]; exact Int32.le_refl _)⟩) _ _ _ hP hD hS (lv_sub hl [1, 2, 3, 4, 5, 6, 7, 8, 9, 10, 11, 12, 13, 14, 15, 16, 17, 18, 19, 20, 21, 0, 22] rfl)

set_option maxHeartbeats 4000000 in
set_option maxRecDepth 100000 in
/-- a baker: what stays -/
theorem s_5e {p : Program} {l : Launch} {e : Env} {s : State} {m : MethodId} {below : List Frame} {meth : Method} {c : Code} {sb L : Nat} {xs : Nat → Int32} {D : va_G} {cy : Nat → ClassId} {A : Nat → Prop} {d0 : Drawn} {h : Nat} {am ad : Nat → Nat} {nS nB : Nat} {v : TS} {gate : Iu} {hq t : Nat} {C N : Nat} {av : Nat → Nat} {tS tB : Nat} {ts tb : Nat → Iu} {tg tn : Iu} {aw : Nat → Nat} (F : lF p s m meth c sb L xs D cy A d0) (hI : jInv nS nB gate hq v) (hq1 : hq ≤ 2000) (hcS : nS ≤ 4) (hcB : nB ≤ 6) (hC : C ≤ 600000) (hN : N ≤ 7000000) {j : Nat} {fi : Int32} (hj : j < nB)  (KK : lS p l e s m below meth c sb D A d0 532 [(0, .ref sb), (1, .ref h), (2, .ref (am 0)), (3, .int (nI t)), (5, .int (nI nS)), (6, .int (nI nB)), (7, .int (nI (hq % 24))), (8, .int (sm (fun i => v.1 i 0) nS)), (9, .int (sm (fun i => v.2.1 i 5) nB)), (10, .int (v.2.2 2)), (11, .int (v.2.2 5)), (12, .int (sm (fun i => v.1 i 2) nS)), (13, .ref (aw 0)), (15, .int (hUnfed nS nB (hq % 24) gate v)), (18, .int (sm (fun i => (hour1 nS nB (hq % 24) gate v).1 i 1) nS)), (23, .int ((hour1 nS nB (hq % 24) gate v).2.2 1)), (24, .int (sm (fun i => (hour1 nS nB (hq % 24) gate v).1 i 2) nS)), (25, .int (sm (fun i => (hour1 nS nB (hq % 24) gate v).1 i 1) nS)), (20, .int (sm (gtJ nS nB (hq % 24) gate v) (j + 1))), (21, .int (sm (mJ nS nB (hq % 24) gate v) (j + 1))), (22, .int (sm (soJ nS nB (hq % 24) gate v) (j + 1))), (26, .int fi), (27, .int (nI (j + 1)))] (sw cy am nS nB (hour1 nS nB (hq % 24) gate v).1 (hour1 nS nB (hq % 24) gate v).2.1 gate (hour1 nS nB (hq % 24) gate v).2.2 (xw cy h ad nS nB (hour1 nS nB (hq % 24) gate v).1 (hour1 nS nB (hq % 24) gate v).2.1 gate (hour1 nS nB (hq % 24) gate v).2.2 (av 0) (tw cy av tS tB ts tb tg tn) ++ wz cy aw nB v.2.1)) (C + 10) (N + 60)) : lS p l e s m below meth c sb D A d0 760 [(0, .ref sb), (1, .ref h), (2, .ref (am 0)), (3, .int (nI t)), (5, .int (nI nS)), (6, .int (nI nB)), (7, .int (nI (hq % 24))), (8, .int (sm (fun i => v.1 i 0) nS)), (9, .int (sm (fun i => v.2.1 i 5) nB)), (10, .int (v.2.2 2)), (11, .int (v.2.2 5)), (12, .int (sm (fun i => v.1 i 2) nS)), (13, .ref (aw 0)), (15, .int (hUnfed nS nB (hq % 24) gate v)), (18, .int (sm (fun i => (hour1 nS nB (hq % 24) gate v).1 i 1) nS)), (23, .int ((hour1 nS nB (hq % 24) gate v).2.2 1)), (24, .int (sm (fun i => (hour1 nS nB (hq % 24) gate v).1 i 2) nS)), (25, .int (sm (fun i => (hour1 nS nB (hq % 24) gate v).1 i 1) nS)), (20, .int (sm (gtJ nS nB (hq % 24) gate v) (j + 1))), (21, .int (sm (mJ nS nB (hq % 24) gate v) (j + 1))), (22, .int (sm (soJ nS nB (hq % 24) gate v) (j + 1))), (26, .int fi), (27, .int (nI j))] (sw cy am nS nB (hour1 nS nB (hq % 24) gate v).1 (hour1 nS nB (hq % 24) gate v).2.1 gate (hour1 nS nB (hq % 24) gate v).2.2 (xw cy h ad nS nB (hour1 nS nB (hq % 24) gate v).1 (hour1 nS nB (hq % 24) gate v).2.1 gate (hour1 nS nB (hq % 24) gate v).2.2 (av 0) (tw cy av tS tB ts tb tg tn) ++ wz cy aw nB v.2.1)) (C) (N) := by
  obtain ⟨hx, hb, hts, hown, hml, hK, hX, hbl, hL, hbA, hA⟩ := id F
  intro H locs ls hP hD hS hl
  have hI1 := jinv_hour hI hcS (by omega)
  have hG := gtJ_OK hcS (show hq ≤ 200000 by omega) hI.1 hj
  have hM := mJ_OK hcS (show hq ≤ 200000 by omega) hI.1 hj
  have hSo := soJ_OK hcS (show hq ≤ 200000 by omega) hI.1 hj
  refine lv_iconst (v := 0) hx hb dL_law_760 (by decide) ?_
  refine lv_istore (lv' := [(31, .int 0), (0, .ref sb), (1, .ref h), (2, .ref (am 0)), (3, .int (nI t)), (5, .int (nI nS)), (6, .int (nI nB)), (7, .int (nI (hq % 24))), (8, .int (sm (fun i => v.1 i 0) nS)), (9, .int (sm (fun i => v.2.1 i 5) nB)), (10, .int (v.2.2 2)), (11, .int (v.2.2 5)), (12, .int (sm (fun i => v.1 i 2) nS)), (13, .ref (aw 0)), (15, .int (hUnfed nS nB (hq % 24) gate v)), (18, .int (sm (fun i => (hour1 nS nB (hq % 24) gate v).1 i 1) nS)), (23, .int ((hour1 nS nB (hq % 24) gate v).2.2 1)), (24, .int (sm (fun i => (hour1 nS nB (hq % 24) gate v).1 i 2) nS)), (25, .int (sm (fun i => (hour1 nS nB (hq % 24) gate v).1 i 1) nS)), (20, .int (sm (gtJ nS nB (hq % 24) gate v) (j + 1))), (21, .int (sm (mJ nS nB (hq % 24) gate v) (j + 1))), (22, .int (sm (soJ nS nB (hq % 24) gate v) (j + 1))), (26, .int fi), (27, .int (nI j))]) hx hb dL_law_761 hl (by decide) rfl (fun ls hl => ?_)
  refine W.widen (k := C + 0) (n := N + 6 * 0) (by omega) (by omega) ?_
  have loop1 : ∀ (n k : Nat)  (H : Heap) (locs : List Loc) (ls : Array Slot), k + n = 8 → va_P D vwCl (sw cy am nS nB (hour1 nS nB (hq % 24) gate v).1 (hour1 nS nB (hq % 24) gate v).2.1 gate (hour1 nS nB (hq % 24) gate v).2.2 (xw cy h ad nS nB (hour1 nS nB (hq % 24) gate v).1 (hour1 nS nB (hq % 24) gate v).2.1 gate (hour1 nS nB (hq % 24) gate v).2.2 (av 0) (tw cy av tS tB ts tb tg tn) ++ wz cy aw nB v.2.1)) H → va_D A (sw cy am nS nB (hour1 nS nB (hq % 24) gate v).1 (hour1 nS nB (hq % 24) gate v).2.1 gate (hour1 nS nB (hq % 24) gate v).2.2 (xw cy h ad nS nB (hour1 nS nB (hq % 24) gate v).1 (hour1 nS nB (hq % 24) gate v).2.1 gate (hour1 nS nB (hq % 24) gate v).2.2 (av 0) (tw cy av tS tB ts tb tg tn) ++ wz cy aw nB v.2.1)) → va_S A s.heap H locs → lv_has ls 32 [(0, .ref sb), (1, .ref h), (2, .ref (am 0)), (3, .int (nI t)), (5, .int (nI nS)), (6, .int (nI nB)), (7, .int (nI (hq % 24))), (8, .int (sm (fun i => v.1 i 0) nS)), (9, .int (sm (fun i => v.2.1 i 5) nB)), (10, .int (v.2.2 2)), (11, .int (v.2.2 5)), (12, .int (sm (fun i => v.1 i 2) nS)), (13, .ref (aw 0)), (15, .int (hUnfed nS nB (hq % 24) gate v)), (18, .int (sm (fun i => (hour1 nS nB (hq % 24) gate v).1 i 1) nS)), (23, .int ((hour1 nS nB (hq % 24) gate v).2.2 1)), (24, .int (sm (fun i => (hour1 nS nB (hq % 24) gate v).1 i 2) nS)), (25, .int (sm (fun i => (hour1 nS nB (hq % 24) gate v).1 i 1) nS)), (20, .int (sm (gtJ nS nB (hq % 24) gate v) (j + 1))), (21, .int (sm (mJ nS nB (hq % 24) gate v) (j + 1))), (22, .int (sm (soJ nS nB (hq % 24) gate v) (j + 1))), (26, .int fi), (27, .int (nI j)), (31, .int (nI k))] → W p l e room_1 (s.setDrawn d0) m ([.ref sb] : List Value).toArray below meth c H locs (C + k) (N + 6 * k) (lw_Z below #[Value.ref sb] s) (F0 m 763 ls []) := by
    intro n
    induction n with
    | zero =>
      intro k  H locs ls hns hP hD hS hl
      have hik : k = 8 := by omega
      refine lv_iload hx hb dL_law_763 (lv_at hl 23 rfl) ?_
      refine lv_bipush (v := 8) hx hb dL_law_765 (by decide) ?_
      refine lv_icmp_ge (tgt := 816) hx hb dL_law_767 (by decide) (fun _ => ?_) (fun h => absurd (by rw [hik]; exact Int32.le_refl _) h)
      refine lv_aload_n hx hb dL_law_816 rfl (lv_at hl 1 rfl) ?_
      refine lv_aload hx hb dL_law_817 (lv_at hl 12 rfl) ?_
      refine lv_iload hx hb dL_law_819 (lv_at hl 22 rfl) ?_
      refine xaldB hx hb hK hP (4 + nS + nB + ((xw cy h ad nS nB (hour1 nS nB (hq % 24) gate v).1 (hour1 nS nB (hq % 24) gate v).2.1 gate (hour1 nS nB (hq % 24) gate v).2.2 (av 0) (tw cy av tS tB ts tb tg tn)).length + 0)) (am := aw) (ww_wr (at_r (k := 0) rfl)) j rfl hj hcB dL_law_821 ?_
      refine lv_iconst (v := 1) hx hb dL_law_822 (by decide) ?_
      refine xiald hx hb hK hP (4 + nS + nB + ((xw cy h ad nS nB (hour1 nS nB (hq % 24) gate v).1 (hour1 nS nB (hq % 24) gate v).2.1 gate (hour1 nS nB (hq % 24) gate v).2.2 (av 0) (tw cy av tS tB ts tb tg tn)).length + (1 + j))) (ww_wr (at_r (k := 1 + j) (wz_at hj))) 1 (by decide) (by decide) (by decide) dL_law_823 ?_
      refine xcV (As := [.int (v.2.1 j 1)]) (rest := []) ⟨hx, hb, hml, hown, hts⟩ (c_X3_whose l D cy h ad nS nB (hour1 nS nB (hq % 24) gate v).1 (hour1 nS nB (hq % 24) gate v).2.1 gate (hour1 nS nB (hq % 24) gate v).2.2 (av 0) (tw cy av tS tB ts tb tg tn) (v.2.1 j 1) (bt25 (hI.2.1 j hj)) hcS hcB) (cwV 1 hts gL_law_X3_whose rfl rfl rfl (by decide +kernel) ⟨Nat.le_of_ble_eq_true rfl, Nat.le_of_ble_eq_true rfl⟩) hK hP hD hS hA rfl rfl rfl (xE_wrl) rfl hl.1 rfl (Nat.le_of_ble_eq_true rfl) dL_law_824 ⟨by show C + k + 1 ≤ 606250; omega, by show N + 6 * k + 6 ≤ 7282873; omega⟩ (fun _ H locs _ hP hD hS => ?_)
      have hP : va_P D vwCl (sw cy am nS nB (hour1 nS nB (hq % 24) gate v).1 (hour1 nS nB (hq % 24) gate v).2.1 gate (hour1 nS nB (hq % 24) gate v).2.2 (xw cy h ad nS nB (hour1 nS nB (hq % 24) gate v).1 (hour1 nS nB (hq % 24) gate v).2.1 gate (hour1 nS nB (hq % 24) gate v).2.2 (av 0) (tw cy av tS tB ts tb tg tn) ++ wz cy aw nB v.2.1)) H := hP
      have hD : va_D A (sw cy am nS nB (hour1 nS nB (hq % 24) gate v).1 (hour1 nS nB (hq % 24) gate v).2.1 gate (hour1 nS nB (hq % 24) gate v).2.2 (xw cy h ad nS nB (hour1 nS nB (hq % 24) gate v).1 (hour1 nS nB (hq % 24) gate v).2.1 gate (hour1 nS nB (hq % 24) gate v).2.2 (av 0) (tw cy av tS tB ts tb tg tn) ++ wz cy aw nB v.2.1)) := hD
      refine W.eq (g2 := F0 m 827 ls [.int (ownF (hour1 nS nB (hq % 24) gate v).2.1 (v.2.1 j 1) nB 0)]) rfl ?_
      refine W.cs (cells' := C + k + 1) (slots' := N + 6 * k + 6) (by first | rfl | omega) (by first | rfl | omega) ?_
      refine lv_iload hx hb dL_law_827 (lv_at hl 22 rfl) ?_
      refine lv_icmp_eq (tgt := 834) hx hb dL_law_829 (by decide) (fun _ => ?_) (fun z => absurd (own_hour hI hj) z)
      refine lv_iinc (v := (nI (j + 1))) (lv' := [(27, .int (nI (j + 1))), (0, .ref sb), (1, .ref h), (2, .ref (am 0)), (3, .int (nI t)), (5, .int (nI nS)), (6, .int (nI nB)), (7, .int (nI (hq % 24))), (8, .int (sm (fun i => v.1 i 0) nS)), (9, .int (sm (fun i => v.2.1 i 5) nB)), (10, .int (v.2.2 2)), (11, .int (v.2.2 5)), (12, .int (sm (fun i => v.1 i 2) nS)), (13, .ref (aw 0)), (15, .int (hUnfed nS nB (hq % 24) gate v)), (18, .int (sm (fun i => (hour1 nS nB (hq % 24) gate v).1 i 1) nS)), (23, .int ((hour1 nS nB (hq % 24) gate v).2.2 1)), (24, .int (sm (fun i => (hour1 nS nB (hq % 24) gate v).1 i 2) nS)), (25, .int (sm (fun i => (hour1 nS nB (hq % 24) gate v).1 i 1) nS)), (20, .int (sm (gtJ nS nB (hq % 24) gate v) (j + 1))), (21, .int (sm (mJ nS nB (hq % 24) gate v) (j + 1))), (22, .int (sm (soJ nS nB (hq % 24) gate v) (j + 1))), (26, .int fi), (31, .int (nI k))]) hx hb dL_law_834 hl (k := 22) rfl ((nI_1 j)) (by decide) rfl (fun ls hl => ?_)
      refine lv_goto (tgt := 532) hx hb dL_law_837 (by decide) ?_
      refine W.widen (k := C + 10) (n := N + 60) (by omega) (by omega) ?_
      exact KK _ _ _ hP hD hS (lv_sub hl [1, 2, 3, 4, 5, 6, 7, 8, 9, 10, 11, 12, 13, 14, 15, 16, 17, 18, 19, 20, 21, 22, 0] rfl)
    | succ n ih1 =>
      intro k  H locs ls hns hP hD hS hl
      have hlt : k < 8 := by omega
      refine lv_iload hx hb dL_law_763 (lv_at hl 23 rfl) ?_
      refine lv_bipush (v := 8) hx hb dL_law_765 (by decide) ?_
      refine lv_icmp_ge (tgt := 816) hx hb dL_law_767 (by decide) (fun h => absurd h (nI_ge (b := 8) hlt (by omega))) (fun _ => ?_)
      refine lv_iload hx hb dL_law_770 (lv_at hl 23 rfl) ?_
      refine lv_iconst (v := 3) hx hb dL_law_772 (by decide) ?_
      refine lv_icmp_eq (tgt := 810) hx hb dL_law_773 (by decide) (fun c773 => ?_) (fun c773 => ?_)
      · refine W.widen (k := C + (k + 1)) (n := N + 6 * (k + 1)) (by omega) (by omega) ?_
        refine lv_iinc (v := (nI (k + 1))) (lv' := [(31, .int (nI (k + 1))), (0, .ref sb), (1, .ref h), (2, .ref (am 0)), (3, .int (nI t)), (5, .int (nI nS)), (6, .int (nI nB)), (7, .int (nI (hq % 24))), (8, .int (sm (fun i => v.1 i 0) nS)), (9, .int (sm (fun i => v.2.1 i 5) nB)), (10, .int (v.2.2 2)), (11, .int (v.2.2 5)), (12, .int (sm (fun i => v.1 i 2) nS)), (13, .ref (aw 0)), (15, .int (hUnfed nS nB (hq % 24) gate v)), (18, .int (sm (fun i => (hour1 nS nB (hq % 24) gate v).1 i 1) nS)), (23, .int ((hour1 nS nB (hq % 24) gate v).2.2 1)), (24, .int (sm (fun i => (hour1 nS nB (hq % 24) gate v).1 i 2) nS)), (25, .int (sm (fun i => (hour1 nS nB (hq % 24) gate v).1 i 1) nS)), (20, .int (sm (gtJ nS nB (hq % 24) gate v) (j + 1))), (21, .int (sm (mJ nS nB (hq % 24) gate v) (j + 1))), (22, .int (sm (soJ nS nB (hq % 24) gate v) (j + 1))), (26, .int fi), (27, .int (nI j))]) hx hb dL_law_810 hl (k := 23) rfl ((nI_1 k)) (by decide) rfl (fun ls hl => ?_)
        refine lv_goto (tgt := 763) hx hb dL_law_813 (by decide) ?_
        exact ih1 (k + 1)  _ _ _ (by omega) hP hD hS (lv_sub hl [1, 2, 3, 4, 5, 6, 7, 8, 9, 10, 11, 12, 13, 14, 15, 16, 17, 18, 19, 20, 21, 22, 23, 0] rfl)
      · refine lv_iload hx hb dL_law_776 (lv_at hl 23 rfl) ?_
        refine lv_iconst (v := 5) hx hb dL_law_778 (by decide) ?_
        refine lv_icmp_eq (tgt := 810) hx hb dL_law_779 (by decide) (fun c779 => ?_) (fun c779 => ?_)
        · refine W.widen (k := C + (k + 1)) (n := N + 6 * (k + 1)) (by omega) (by omega) ?_
          refine lv_iinc (v := (nI (k + 1))) (lv' := [(31, .int (nI (k + 1))), (0, .ref sb), (1, .ref h), (2, .ref (am 0)), (3, .int (nI t)), (5, .int (nI nS)), (6, .int (nI nB)), (7, .int (nI (hq % 24))), (8, .int (sm (fun i => v.1 i 0) nS)), (9, .int (sm (fun i => v.2.1 i 5) nB)), (10, .int (v.2.2 2)), (11, .int (v.2.2 5)), (12, .int (sm (fun i => v.1 i 2) nS)), (13, .ref (aw 0)), (15, .int (hUnfed nS nB (hq % 24) gate v)), (18, .int (sm (fun i => (hour1 nS nB (hq % 24) gate v).1 i 1) nS)), (23, .int ((hour1 nS nB (hq % 24) gate v).2.2 1)), (24, .int (sm (fun i => (hour1 nS nB (hq % 24) gate v).1 i 2) nS)), (25, .int (sm (fun i => (hour1 nS nB (hq % 24) gate v).1 i 1) nS)), (20, .int (sm (gtJ nS nB (hq % 24) gate v) (j + 1))), (21, .int (sm (mJ nS nB (hq % 24) gate v) (j + 1))), (22, .int (sm (soJ nS nB (hq % 24) gate v) (j + 1))), (26, .int fi), (27, .int (nI j))]) hx hb dL_law_810 hl (k := 23) rfl ((nI_1 k)) (by decide) rfl (fun ls hl => ?_)
          refine lv_goto (tgt := 763) hx hb dL_law_813 (by decide) ?_
          exact ih1 (k + 1)  _ _ _ (by omega) hP hD hS (lv_sub hl [1, 2, 3, 4, 5, 6, 7, 8, 9, 10, 11, 12, 13, 14, 15, 16, 17, 18, 19, 20, 21, 22, 23, 0] rfl)
        · refine lv_iload hx hb dL_law_782 (lv_at hl 23 rfl) ?_
          refine lv_bipush (v := 6) hx hb dL_law_784 (by decide) ?_
          refine lv_icmp_eq (tgt := 810) hx hb dL_law_786 (by decide) (fun c786 => ?_) (fun c786 => ?_)
          · refine W.widen (k := C + (k + 1)) (n := N + 6 * (k + 1)) (by omega) (by omega) ?_
            refine lv_iinc (v := (nI (k + 1))) (lv' := [(31, .int (nI (k + 1))), (0, .ref sb), (1, .ref h), (2, .ref (am 0)), (3, .int (nI t)), (5, .int (nI nS)), (6, .int (nI nB)), (7, .int (nI (hq % 24))), (8, .int (sm (fun i => v.1 i 0) nS)), (9, .int (sm (fun i => v.2.1 i 5) nB)), (10, .int (v.2.2 2)), (11, .int (v.2.2 5)), (12, .int (sm (fun i => v.1 i 2) nS)), (13, .ref (aw 0)), (15, .int (hUnfed nS nB (hq % 24) gate v)), (18, .int (sm (fun i => (hour1 nS nB (hq % 24) gate v).1 i 1) nS)), (23, .int ((hour1 nS nB (hq % 24) gate v).2.2 1)), (24, .int (sm (fun i => (hour1 nS nB (hq % 24) gate v).1 i 2) nS)), (25, .int (sm (fun i => (hour1 nS nB (hq % 24) gate v).1 i 1) nS)), (20, .int (sm (gtJ nS nB (hq % 24) gate v) (j + 1))), (21, .int (sm (mJ nS nB (hq % 24) gate v) (j + 1))), (22, .int (sm (soJ nS nB (hq % 24) gate v) (j + 1))), (26, .int fi), (27, .int (nI j))]) hx hb dL_law_810 hl (k := 23) rfl ((nI_1 k)) (by decide) rfl (fun ls hl => ?_)
            refine lv_goto (tgt := 763) hx hb dL_law_813 (by decide) ?_
            exact ih1 (k + 1)  _ _ _ (by omega) hP hD hS (lv_sub hl [1, 2, 3, 4, 5, 6, 7, 8, 9, 10, 11, 12, 13, 14, 15, 16, 17, 18, 19, 20, 21, 22, 23, 0] rfl)
          · refine lv_aload_n hx hb dL_law_789 rfl (lv_at hl 1 rfl) ?_
            refine lv_iload hx hb dL_law_790 (lv_at hl 22 rfl) ?_
            refine lv_iload hx hb dL_law_792 (lv_at hl 23 rfl) ?_
            refine xcV (As := [.int (nI j), .int (nI k)]) (rest := []) ⟨hx, hb, hml, hown, hts⟩ (c_X3_baker l D cy h ad nS nB (hour1 nS nB (hq % 24) gate v).1 (hour1 nS nB (hq % 24) gate v).2.1 gate (hour1 nS nB (hq % 24) gate v).2.2 (av 0) (tw cy av tS tB ts tb tg tn) j hj k (by omega) hcS hcB) (cwV 2 hts gL_law_X3_baker rfl rfl rfl (by decide +kernel) ⟨Nat.le_of_ble_eq_true rfl, Nat.le_of_ble_eq_true rfl⟩) hK hP hD hS hA rfl rfl rfl (xE_wrl) rfl hl.1 rfl (Nat.le_of_ble_eq_true rfl) dL_law_794 ⟨by show C + k + 1 ≤ 606250; omega, by show N + 6 * k + 6 ≤ 7282873; omega⟩ (fun _ H locs _ hP hD hS => ?_)
            have hP : va_P D vwCl (sw cy am nS nB (hour1 nS nB (hq % 24) gate v).1 (hour1 nS nB (hq % 24) gate v).2.1 gate (hour1 nS nB (hq % 24) gate v).2.2 (xw cy h ad nS nB (hour1 nS nB (hq % 24) gate v).1 (hour1 nS nB (hq % 24) gate v).2.1 gate (hour1 nS nB (hq % 24) gate v).2.2 (av 0) (tw cy av tS tB ts tb tg tn) ++ wz cy aw nB v.2.1)) H := hP
            have hD : va_D A (sw cy am nS nB (hour1 nS nB (hq % 24) gate v).1 (hour1 nS nB (hq % 24) gate v).2.1 gate (hour1 nS nB (hq % 24) gate v).2.2 (xw cy h ad nS nB (hour1 nS nB (hq % 24) gate v).1 (hour1 nS nB (hq % 24) gate v).2.1 gate (hour1 nS nB (hq % 24) gate v).2.2 (av 0) (tw cy av tS tB ts tb tg tn) ++ wz cy aw nB v.2.1)) := hD
            refine W.eq (g2 := F0 m 797 ls [.int ((hour1 nS nB (hq % 24) gate v).2.1 j k)]) (by first | (rw [bFact_eq (hI1.1.2.1 j hj).2.1]; done) | (rw [bFact_eq (hI1.1.2.1 j hj).2.1]; rfl)) ?_
            refine W.cs (cells' := C + k + 1) (slots' := N + 6 * k + 6) (by first | rfl | omega) (by first | rfl | omega) ?_
            refine lv_aload hx hb dL_law_797 (lv_at hl 12 rfl) ?_
            refine lv_iload hx hb dL_law_799 (lv_at hl 22 rfl) ?_
            refine xaldB hx hb hK hP (4 + nS + nB + ((xw cy h ad nS nB (hour1 nS nB (hq % 24) gate v).1 (hour1 nS nB (hq % 24) gate v).2.1 gate (hour1 nS nB (hq % 24) gate v).2.2 (av 0) (tw cy av tS tB ts tb tg tn)).length + 0)) (am := aw) (ww_wr (at_r (k := 0) rfl)) j rfl hj hcB dL_law_801 ?_
            refine lv_iload hx hb dL_law_802 (lv_at hl 23 rfl) ?_
            refine xiald hx hb hK hP (4 + nS + nB + ((xw cy h ad nS nB (hour1 nS nB (hq % 24) gate v).1 (hour1 nS nB (hq % 24) gate v).2.1 gate (hour1 nS nB (hq % 24) gate v).2.2 (av 0) (tw cy av tS tB ts tb tg tn)).length + (1 + j))) (ww_wr (at_r (k := 1 + j) (wz_at hj))) k rfl (by omega) (by decide) dL_law_804 ?_
            refine lv_icmp_eq (tgt := 810) hx hb dL_law_805 (by decide) (fun _ => ?_) (fun z => absurd (hour_q hj (fun z => c773 (by rw [z]; rfl)) (fun z => c779 (by rw [z]; rfl)) (fun z => c786 (by rw [z]; rfl))) z)
            refine W.widen (k := C + (k + 1)) (n := N + 6 * (k + 1)) (by omega) (by omega) ?_
            refine lv_iinc (v := (nI (k + 1))) (lv' := [(31, .int (nI (k + 1))), (0, .ref sb), (1, .ref h), (2, .ref (am 0)), (3, .int (nI t)), (5, .int (nI nS)), (6, .int (nI nB)), (7, .int (nI (hq % 24))), (8, .int (sm (fun i => v.1 i 0) nS)), (9, .int (sm (fun i => v.2.1 i 5) nB)), (10, .int (v.2.2 2)), (11, .int (v.2.2 5)), (12, .int (sm (fun i => v.1 i 2) nS)), (13, .ref (aw 0)), (15, .int (hUnfed nS nB (hq % 24) gate v)), (18, .int (sm (fun i => (hour1 nS nB (hq % 24) gate v).1 i 1) nS)), (23, .int ((hour1 nS nB (hq % 24) gate v).2.2 1)), (24, .int (sm (fun i => (hour1 nS nB (hq % 24) gate v).1 i 2) nS)), (25, .int (sm (fun i => (hour1 nS nB (hq % 24) gate v).1 i 1) nS)), (20, .int (sm (gtJ nS nB (hq % 24) gate v) (j + 1))), (21, .int (sm (mJ nS nB (hq % 24) gate v) (j + 1))), (22, .int (sm (soJ nS nB (hq % 24) gate v) (j + 1))), (26, .int fi), (27, .int (nI j))]) hx hb dL_law_810 hl (k := 23) rfl ((nI_1 k)) (by decide) rfl (fun ls hl => ?_)
            refine lv_goto (tgt := 763) hx hb dL_law_813 (by decide) ?_
            exact ih1 (k + 1)  _ _ _ (by omega) hP hD hS (lv_sub hl [1, 2, 3, 4, 5, 6, 7, 8, 9, 10, 11, 12, 13, 14, 15, 16, 17, 18, 19, 20, 21, 22, 23, 0] rfl)
  exact loop1 8 0  _ _ _ (by omega) hP hD hS (lv_sub hl [1, 2, 3, 4, 5, 6, 7, 8, 9, 10, 11, 12, 13, 14, 15, 16, 17, 18, 19, 20, 21, 22, 23, 0] rfl)

set_option maxHeartbeats 4000000 in
set_option maxRecDepth 100000 in
/-- the sums -/
theorem s_6 {p : Program} {l : Launch} {e : Env} {s : State} {m : MethodId} {below : List Frame} {meth : Method} {c : Code} {sb L : Nat} {xs : Nat → Int32} {D : va_G} {cy : Nat → ClassId} {A : Nat → Prop} {d0 : Drawn} {h : Nat} {am ad : Nat → Nat} {nS nB : Nat} {v : TS} {gate : Iu} {hq t : Nat} {C N : Nat} {av : Nat → Nat} {tS tB : Nat} {ts tb : Nat → Iu} {tg tn : Iu} {aw : Nat → Nat} (F : lF p s m meth c sb L xs D cy A d0) (hI : jInv nS nB gate hq v) (hq1 : hq ≤ 2000) (hcS : nS ≤ 4) (hcB : nB ≤ 6) (hC : C ≤ 600000) (hN : N ≤ 7000000) (ht : t < 44) (KK : lS p l e s m below meth c sb D A d0 22 [(0, .ref sb), (1, .ref h), (2, .ref (am 0)), (3, .int (nI (t + 1)))] (sw cy am nS nB (hour1 nS nB (hq % 24) gate v).1 (hour1 nS nB (hq % 24) gate v).2.1 gate (hour1 nS nB (hq % 24) gate v).2.2 (xw cy h ad nS nB (hour1 nS nB (hq % 24) gate v).1 (hour1 nS nB (hq % 24) gate v).2.1 gate (hour1 nS nB (hq % 24) gate v).2.2 (av 0) (tw cy av tS tB ts tb tg tn))) (C + 10) (N + 60)) : lS p l e s m below meth c sb D A d0 840 [(0, .ref sb), (1, .ref h), (2, .ref (am 0)), (3, .int (nI t)), (5, .int (nI nS)), (6, .int (nI nB)), (7, .int (nI (hq % 24))), (8, .int (sm (fun i => v.1 i 0) nS)), (9, .int (sm (fun i => v.2.1 i 5) nB)), (10, .int (v.2.2 2)), (11, .int (v.2.2 5)), (12, .int (sm (fun i => v.1 i 2) nS)), (13, .ref (aw 0)), (15, .int (hUnfed nS nB (hq % 24) gate v)), (18, .int (sm (fun i => (hour1 nS nB (hq % 24) gate v).1 i 1) nS)), (23, .int ((hour1 nS nB (hq % 24) gate v).2.2 1)), (24, .int (sm (fun i => (hour1 nS nB (hq % 24) gate v).1 i 2) nS)), (25, .int (sm (fun i => (hour1 nS nB (hq % 24) gate v).1 i 1) nS)), (20, .int (sm (gtJ nS nB (hq % 24) gate v) nB)), (21, .int (sm (mJ nS nB (hq % 24) gate v) nB)), (22, .int (sm (soJ nS nB (hq % 24) gate v) nB))] (sw cy am nS nB (hour1 nS nB (hq % 24) gate v).1 (hour1 nS nB (hq % 24) gate v).2.1 gate (hour1 nS nB (hq % 24) gate v).2.2 (xw cy h ad nS nB (hour1 nS nB (hq % 24) gate v).1 (hour1 nS nB (hq % 24) gate v).2.1 gate (hour1 nS nB (hq % 24) gate v).2.2 (av 0) (tw cy av tS tB ts tb tg tn) ++ wz cy aw nB v.2.1)) (C) (N) := by
  obtain ⟨hx, hb, hts, hown, hml, hK, hX, hbl, hL, hbA, hA⟩ := id F
  intro H locs ls hP hD hS hl
  have hI1 := jinv_hour hI hcS (by omega)
  have hinX4 : ∀ w ∈ wsX40, w ∈ wsL_law := fun _ h => inlX4 _ h
  refine lv_aload_n hx hb dL_law_840 rfl (lv_at hl 1 rfl) ?_
  refine lv_iconst (v := 4) hx hb dL_law_841 (by decide) ?_
  refine xcV (As := [.int 4]) (rest := []) ⟨hx, hb, hml, hown, hts⟩ (c_X3_count l D cy h ad nS nB (hour1 nS nB (hq % 24) gate v).1 (hour1 nS nB (hq % 24) gate v).2.1 gate (hour1 nS nB (hq % 24) gate v).2.2 (av 0) (tw cy av tS tB ts tb tg tn) (hq + 1) 4 hI1.1.2.2.2.2.1 (by omega) (by decide) hcS hcB) (cwV 1 hts gL_law_X3_count rfl rfl rfl (by decide +kernel) ⟨Nat.le_of_ble_eq_true rfl, Nat.le_of_ble_eq_true rfl⟩) hK hP hD hS hA rfl rfl rfl (xE_wrl) rfl hl.1 rfl (Nat.le_of_ble_eq_true rfl) dL_law_842 ⟨by show C + 1 ≤ 606250; omega, by show N + 6 ≤ 7282873; omega⟩ (fun _ H locs _ hP hD hS => ?_)
  have hP : va_P D vwCl (sw cy am nS nB (hour1 nS nB (hq % 24) gate v).1 (hour1 nS nB (hq % 24) gate v).2.1 gate (hour1 nS nB (hq % 24) gate v).2.2 (xw cy h ad nS nB (hour1 nS nB (hq % 24) gate v).1 (hour1 nS nB (hq % 24) gate v).2.1 gate (hour1 nS nB (hq % 24) gate v).2.2 (av 0) (tw cy av tS tB ts tb tg tn) ++ wz cy aw nB v.2.1)) H := hP
  have hD : va_D A (sw cy am nS nB (hour1 nS nB (hq % 24) gate v).1 (hour1 nS nB (hq % 24) gate v).2.1 gate (hour1 nS nB (hq % 24) gate v).2.2 (xw cy h ad nS nB (hour1 nS nB (hq % 24) gate v).1 (hour1 nS nB (hq % 24) gate v).2.1 gate (hour1 nS nB (hq % 24) gate v).2.2 (av 0) (tw cy av tS tB ts tb tg tn) ++ wz cy aw nB v.2.1)) := hD
  refine W.eq (g2 := F0 m 845 ls [.int (sm (fun i => (hour1 nS nB (hq % 24) gate v).2.1 i 5) nB)]) rfl ?_
  refine W.cs (cells' := C + 1) (slots' := N + 6) (by first | rfl | omega) (by first | rfl | omega) ?_
  refine lv_iload hx hb dL_law_845 (lv_at hl 8 rfl) ?_
  refine lv_iload hx hb dL_law_847 (lv_at hl 19 rfl) ?_
  refine lv_iadd hx hb dL_law_849 ?_
  refine lv_iload hx hb dL_law_850 (lv_at hl 20 rfl) ?_
  refine lv_isub hx hb dL_law_852 ?_
  refine lv_icmp_ne (tgt := 925) hx hb dL_law_853 (by decide) (fun z => absurd e_loaves z) (fun _ => ?_)
  refine lv_aload_n hx hb dL_law_856 rfl (lv_at hl 1 rfl) ?_
  refine lv_iconst (v := 5) hx hb dL_law_857 (by decide) ?_
  refine xcV (As := [.int 5]) (rest := []) ⟨hx, hb, hml, hown, hts⟩ (c_X3_count l D cy h ad nS nB (hour1 nS nB (hq % 24) gate v).1 (hour1 nS nB (hq % 24) gate v).2.1 gate (hour1 nS nB (hq % 24) gate v).2.2 (av 0) (tw cy av tS tB ts tb tg tn) (hq + 1) 5 hI1.1.2.2.2.2.1 (by omega) (by decide) hcS hcB) (cwV 1 hts gL_law_X3_count rfl rfl rfl (by decide +kernel) ⟨Nat.le_of_ble_eq_true rfl, Nat.le_of_ble_eq_true rfl⟩) hK hP hD hS hA rfl rfl rfl (xE_wrl) rfl hl.1 rfl (Nat.le_of_ble_eq_true rfl) dL_law_858 ⟨by show C + 1 + 1 ≤ 606250; omega, by show N + 6 + 6 ≤ 7282873; omega⟩ (fun _ H locs _ hP hD hS => ?_)
  have hP : va_P D vwCl (sw cy am nS nB (hour1 nS nB (hq % 24) gate v).1 (hour1 nS nB (hq % 24) gate v).2.1 gate (hour1 nS nB (hq % 24) gate v).2.2 (xw cy h ad nS nB (hour1 nS nB (hq % 24) gate v).1 (hour1 nS nB (hq % 24) gate v).2.1 gate (hour1 nS nB (hq % 24) gate v).2.2 (av 0) (tw cy av tS tB ts tb tg tn) ++ wz cy aw nB v.2.1)) H := hP
  have hD : va_D A (sw cy am nS nB (hour1 nS nB (hq % 24) gate v).1 (hour1 nS nB (hq % 24) gate v).2.1 gate (hour1 nS nB (hq % 24) gate v).2.2 (xw cy h ad nS nB (hour1 nS nB (hq % 24) gate v).1 (hour1 nS nB (hq % 24) gate v).2.1 gate (hour1 nS nB (hq % 24) gate v).2.2 (av 0) (tw cy av tS tB ts tb tg tn) ++ wz cy aw nB v.2.1)) := hD
  refine W.eq (g2 := F0 m 861 ls [.int ((hour1 nS nB (hq % 24) gate v).2.2 2)]) rfl ?_
  refine W.cs (cells' := C + 1 + 1) (slots' := N + 6 + 6) (by first | rfl | omega) (by first | rfl | omega) ?_
  refine lv_iload hx hb dL_law_861 (lv_at hl 9 rfl) ?_
  refine lv_iload hx hb dL_law_863 (lv_at hl 20 rfl) ?_
  refine lv_iadd hx hb dL_law_865 ?_
  refine lv_icmp_ne (tgt := 925) hx hb dL_law_866 (by decide) (fun z => absurd e_all z) (fun _ => ?_)
  refine lv_iload hx hb dL_law_869 (lv_at hl 17 rfl) ?_
  refine lv_iload hx hb dL_law_871 (lv_at hl 14 rfl) ?_
  refine lv_icmp_ne (tgt := 925) hx hb dL_law_873 (by decide) (fun z => absurd rfl z) (fun _ => ?_)
  refine lv_iload hx hb dL_law_876 (lv_at hl 20 rfl) ?_
  refine lv_iload hx hb dL_law_878 (lv_at hl 15 rfl) ?_
  refine lv_icmp_gt (tgt := 925) hx hb dL_law_880 (by decide) (fun h => absurd h (Int32.not_lt.mpr (by rw [hour1_1]; exact so_le hcS (show hq ≤ 200000 by omega) hI.1))) (fun _ => ?_)
  refine lv_iload hx hb dL_law_883 (lv_at hl 6 rfl) ?_
  refine lv_bipush (v := 12) hx hb dL_law_885 (by decide) ?_
  refine lv_icmp_eq (tgt := 895) hx hb dL_law_887 (by decide) (fun c887 => ?_) (fun c887 => ?_)
  · refine lv_iload hx hb dL_law_895 (lv_at hl 6 rfl) ?_
    refine lv_bipush (v := 12) hx hb dL_law_897 (by decide) ?_
    refine lv_icmp_ne (tgt := 927) hx hb dL_law_899 (by decide) (fun z => absurd c887 z) (fun _ => ?_)
    refine lv_iload hx hb dL_law_902 (lv_at hl 20 rfl) ?_
    refine lv_iload hx hb dL_law_904 (lv_at hl 13 rfl) ?_
    refine lv_iadd hx hb dL_law_906 ?_
    refine lv_iload hx hb dL_law_907 (lv_at hl 15 rfl) ?_
    refine lv_icmp_ne (tgt := 925) hx hb dL_law_909 (by decide) (fun z => absurd (by rw [hour1_1]; exact so_people (eq12 (Nat.mod_lt _ (by decide)) c887)) z) (fun _ => ?_)
    refine lv_iload hx hb dL_law_912 (lv_at hl 13 rfl) ?_
    refine lv_if_le (tgt := 927) hx hb dL_law_914 (by decide) (fun c914 => ?_) (fun c914 => ?_)
    · refine lv_iload hx hb dL_law_927 (lv_at hl 4 rfl) ?_
      refine lv_if_ne (tgt := 936) hx hb dL_law_929 (by decide) (fun c929 => ?_) (fun c929 => ?_)
      · refine lv_aload_n hx hb dL_law_936 rfl (lv_at hl 2 rfl) ?_
        refine va_get (D := D) (ci := 4) (v := .ref (am 1)) (C := RX4) (T := TX4) (N := 9) hx hb hts hinX4 hown hK.1 hP 0 rfl rfl 1 (by decide) (hts (.fieldLink RL 48 "LoafMarksLaw$Sim" "gate" "[I") (List.mem_append_left _ (List.mem_append_left _ (List.mem_append_left _ (List.mem_append_left _ (List.mem_append_left _ (List.mem_append_left _ (List.mem_append_left _ (List.mem_append_left _ (List.mem_append_left _ (List.mem_append_left _ (List.mem_of_getElem? (l := wsL_law0_r1) (i := 7) rfl)))))))))))) (fun _ h9 => h9) rfl dL_law_937 ?_
        refine lv_iload hx hb dL_law_940 (lv_at hl 6 rfl) ?_
        refine xiald hx hb hK hP (1) rfl (hq % 24) rfl (by omega) (by decide) dL_law_942 ?_
        refine W.eq (g2 := F0 m 943 ls [.int (if nS = 0 then 0 else gate (hq % 24))]) (congrArg (fun z => F0 m 943 ls [.int z]) ((if_neg (fun z => c929 (by rw [z]; rfl))).symm)) ?_
        refine lv_istore (lv' := [(27, .int (if nS = 0 then 0 else gate (hq % 24))), (0, .ref sb), (1, .ref h), (2, .ref (am 0)), (3, .int (nI t)), (5, .int (nI nS)), (6, .int (nI nB)), (7, .int (nI (hq % 24))), (8, .int (sm (fun i => v.1 i 0) nS)), (9, .int (sm (fun i => v.2.1 i 5) nB)), (10, .int (v.2.2 2)), (11, .int (v.2.2 5)), (12, .int (sm (fun i => v.1 i 2) nS)), (13, .ref (aw 0)), (15, .int (hUnfed nS nB (hq % 24) gate v)), (18, .int (sm (fun i => (hour1 nS nB (hq % 24) gate v).1 i 1) nS)), (23, .int ((hour1 nS nB (hq % 24) gate v).2.2 1)), (24, .int (sm (fun i => (hour1 nS nB (hq % 24) gate v).1 i 2) nS)), (25, .int (sm (fun i => (hour1 nS nB (hq % 24) gate v).1 i 1) nS)), (20, .int (sm (gtJ nS nB (hq % 24) gate v) nB)), (21, .int (sm (mJ nS nB (hq % 24) gate v) nB)), (22, .int (sm (soJ nS nB (hq % 24) gate v) nB))]) hx hb dL_law_943 hl (by decide) rfl (fun ls hl => ?_)
        refine lv_iload hx hb dL_law_945 (lv_at hl 8 rfl) ?_
        refine lv_iload hx hb dL_law_947 (lv_at hl 0 rfl) ?_
        refine lv_iadd hx hb dL_law_949 ?_
        refine lv_aload_n hx hb dL_law_950 rfl (lv_at hl 2 rfl) ?_
        refine lv_iconst (v := 3) hx hb dL_law_951 (by decide) ?_
        refine xcV (As := [.int 3]) (rest := [.int ((sm (fun i => v.1 i 0) nS) + (if nS = 0 then 0 else gate (hq % 24)))]) ⟨hx, hb, hml, hown, hts⟩ (c_X3_count l D cy h ad nS nB (hour1 nS nB (hq % 24) gate v).1 (hour1 nS nB (hq % 24) gate v).2.1 gate (hour1 nS nB (hq % 24) gate v).2.2 (av 0) (tw cy av tS tB ts tb tg tn) (hq + 1) 3 hI1.1.2.2.2.2.1 (by omega) (by decide) hcS hcB) (cwV 1 hts gL_law_X3_count rfl rfl rfl (by decide +kernel) ⟨Nat.le_of_ble_eq_true rfl, Nat.le_of_ble_eq_true rfl⟩) hK hP hD hS hA rfl rfl rfl (xE_wrl) rfl hl.1 rfl (Nat.le_of_ble_eq_true rfl) dL_law_952 ⟨by show C + 1 + 1 + 1 ≤ 606250; omega, by show N + 6 + 6 + 6 ≤ 7282873; omega⟩ (fun _ H locs _ hP hD hS => ?_)
        have hP : va_P D vwCl (sw cy am nS nB (hour1 nS nB (hq % 24) gate v).1 (hour1 nS nB (hq % 24) gate v).2.1 gate (hour1 nS nB (hq % 24) gate v).2.2 (xw cy h ad nS nB (hour1 nS nB (hq % 24) gate v).1 (hour1 nS nB (hq % 24) gate v).2.1 gate (hour1 nS nB (hq % 24) gate v).2.2 (av 0) (tw cy av tS tB ts tb tg tn) ++ wz cy aw nB v.2.1)) H := hP
        have hD : va_D A (sw cy am nS nB (hour1 nS nB (hq % 24) gate v).1 (hour1 nS nB (hq % 24) gate v).2.1 gate (hour1 nS nB (hq % 24) gate v).2.2 (xw cy h ad nS nB (hour1 nS nB (hq % 24) gate v).1 (hour1 nS nB (hq % 24) gate v).2.1 gate (hour1 nS nB (hq % 24) gate v).2.2 (av 0) (tw cy av tS tB ts tb tg tn) ++ wz cy aw nB v.2.1)) := hD
        refine W.eq (g2 := F0 m 955 ls [.int (sm (fun i => (hour1 nS nB (hq % 24) gate v).1 i 0) nS), .int ((sm (fun i => v.1 i 0) nS) + (if nS = 0 then 0 else gate (hq % 24)))]) rfl ?_
        refine W.cs (cells' := C + 1 + 1 + 1) (slots' := N + 6 + 6 + 6) (by first | rfl | omega) (by first | rfl | omega) ?_
        refine lv_iload hx hb dL_law_955 (lv_at hl 19 rfl) ?_
        refine lv_iadd hx hb dL_law_957 ?_
        refine lv_iload hx hb dL_law_958 (lv_at hl 17 rfl) ?_
        refine lv_iadd hx hb dL_law_960 ?_
        refine lv_iload hx hb dL_law_961 (lv_at hl 12 rfl) ?_
        refine lv_isub hx hb dL_law_963 ?_
        refine lv_aload_n hx hb dL_law_964 rfl (lv_at hl 2 rfl) ?_
        refine lv_bipush (v := 9) hx hb dL_law_965 (by decide) ?_
        refine xcV (As := [.int 9]) (rest := [.int ((((sm (fun i => (hour1 nS nB (hq % 24) gate v).1 i 0) nS) + (sm (gtJ nS nB (hq % 24) gate v) nB)) + (sm (fun i => (hour1 nS nB (hq % 24) gate v).1 i 2) nS)) - (sm (fun i => v.1 i 2) nS)), .int ((sm (fun i => v.1 i 0) nS) + (if nS = 0 then 0 else gate (hq % 24)))]) ⟨hx, hb, hml, hown, hts⟩ (c_X3_count l D cy h ad nS nB (hour1 nS nB (hq % 24) gate v).1 (hour1 nS nB (hq % 24) gate v).2.1 gate (hour1 nS nB (hq % 24) gate v).2.2 (av 0) (tw cy av tS tB ts tb tg tn) (hq + 1) 9 hI1.1.2.2.2.2.1 (by omega) (by decide) hcS hcB) (cwV 1 hts gL_law_X3_count rfl rfl rfl (by decide +kernel) ⟨Nat.le_of_ble_eq_true rfl, Nat.le_of_ble_eq_true rfl⟩) hK hP hD hS hA rfl rfl rfl (xE_wrl) rfl hl.1 rfl (Nat.le_of_ble_eq_true rfl) dL_law_967 ⟨by show C + 1 + 1 + 1 + 1 ≤ 606250; omega, by show N + 6 + 6 + 6 + 6 ≤ 7282873; omega⟩ (fun _ H locs _ hP hD hS => ?_)
        have hP : va_P D vwCl (sw cy am nS nB (hour1 nS nB (hq % 24) gate v).1 (hour1 nS nB (hq % 24) gate v).2.1 gate (hour1 nS nB (hq % 24) gate v).2.2 (xw cy h ad nS nB (hour1 nS nB (hq % 24) gate v).1 (hour1 nS nB (hq % 24) gate v).2.1 gate (hour1 nS nB (hq % 24) gate v).2.2 (av 0) (tw cy av tS tB ts tb tg tn) ++ wz cy aw nB v.2.1)) H := hP
        have hD : va_D A (sw cy am nS nB (hour1 nS nB (hq % 24) gate v).1 (hour1 nS nB (hq % 24) gate v).2.1 gate (hour1 nS nB (hq % 24) gate v).2.2 (xw cy h ad nS nB (hour1 nS nB (hq % 24) gate v).1 (hour1 nS nB (hq % 24) gate v).2.1 gate (hour1 nS nB (hq % 24) gate v).2.2 (av 0) (tw cy av tS tB ts tb tg tn) ++ wz cy aw nB v.2.1)) := hD
        refine W.eq (g2 := F0 m 970 ls [.int ((hour1 nS nB (hq % 24) gate v).2.2 5), .int ((((sm (fun i => (hour1 nS nB (hq % 24) gate v).1 i 0) nS) + (sm (gtJ nS nB (hq % 24) gate v) nB)) + (sm (fun i => (hour1 nS nB (hq % 24) gate v).1 i 2) nS)) - (sm (fun i => v.1 i 2) nS)), .int ((sm (fun i => v.1 i 0) nS) + (if nS = 0 then 0 else gate (hq % 24)))]) rfl ?_
        refine W.cs (cells' := C + 1 + 1 + 1 + 1) (slots' := N + 6 + 6 + 6 + 6) (by first | rfl | omega) (by first | rfl | omega) ?_
        refine lv_iadd hx hb dL_law_970 ?_
        refine lv_iload hx hb dL_law_971 (lv_at hl 11 rfl) ?_
        refine lv_isub hx hb dL_law_973 ?_
        refine lv_icmp_ne (tgt := 989) hx hb dL_law_974 (by decide) (fun z => absurd (e_flour (fun j hj => (hI.1.2.1 j hj).1) hcS) z) (fun _ => ?_)
        refine lv_iload hx hb dL_law_977 (lv_at hl 17 rfl) ?_
        refine lv_iload hx hb dL_law_979 (lv_at hl 12 rfl) ?_
        refine lv_icmp_eq (tgt := 991) hx hb dL_law_981 (by decide) (fun c981 => ?_) (fun c981 => ?_)
        · refine lv_iinc (v := (nI (t + 1))) (lv' := [(3, .int (nI (t + 1))), (27, .int (if nS = 0 then 0 else gate (hq % 24))), (0, .ref sb), (1, .ref h), (2, .ref (am 0)), (5, .int (nI nS)), (6, .int (nI nB)), (7, .int (nI (hq % 24))), (8, .int (sm (fun i => v.1 i 0) nS)), (9, .int (sm (fun i => v.2.1 i 5) nB)), (10, .int (v.2.2 2)), (11, .int (v.2.2 5)), (12, .int (sm (fun i => v.1 i 2) nS)), (13, .ref (aw 0)), (15, .int (hUnfed nS nB (hq % 24) gate v)), (18, .int (sm (fun i => (hour1 nS nB (hq % 24) gate v).1 i 1) nS)), (23, .int ((hour1 nS nB (hq % 24) gate v).2.2 1)), (24, .int (sm (fun i => (hour1 nS nB (hq % 24) gate v).1 i 2) nS)), (25, .int (sm (fun i => (hour1 nS nB (hq % 24) gate v).1 i 1) nS)), (20, .int (sm (gtJ nS nB (hq % 24) gate v) nB)), (21, .int (sm (mJ nS nB (hq % 24) gate v) nB)), (22, .int (sm (soJ nS nB (hq % 24) gate v) nB))]) hx hb dL_law_991 hl (k := 4) rfl ((nI_1 t)) (by decide) rfl (fun ls hl => ?_)
          refine lv_goto (tgt := 22) hx hb dL_law_994 (by decide) ?_
          refine W.widen (k := C + 10) (n := N + 60) (by omega) (by omega) ?_
          exact KK _ _ _ (sw_dropP hP) (sw_dropD hD) hS (lv_sub hl [2, 3, 4, 0] rfl)
        · refine lv_iload hx hb dL_law_984 (lv_at hl 7 rfl) ?_
          refine lv_if_eq (tgt := 991) hx hb dL_law_986 (by decide) (fun _ => ?_) (fun z => absurd (Decidable.byContradiction (fun hk => c981 (e_eaten (fun z => hk (by rw [z]; rfl))))) z)
          refine lv_iinc (v := (nI (t + 1))) (lv' := [(3, .int (nI (t + 1))), (27, .int (if nS = 0 then 0 else gate (hq % 24))), (0, .ref sb), (1, .ref h), (2, .ref (am 0)), (5, .int (nI nS)), (6, .int (nI nB)), (7, .int (nI (hq % 24))), (8, .int (sm (fun i => v.1 i 0) nS)), (9, .int (sm (fun i => v.2.1 i 5) nB)), (10, .int (v.2.2 2)), (11, .int (v.2.2 5)), (12, .int (sm (fun i => v.1 i 2) nS)), (13, .ref (aw 0)), (15, .int (hUnfed nS nB (hq % 24) gate v)), (18, .int (sm (fun i => (hour1 nS nB (hq % 24) gate v).1 i 1) nS)), (23, .int ((hour1 nS nB (hq % 24) gate v).2.2 1)), (24, .int (sm (fun i => (hour1 nS nB (hq % 24) gate v).1 i 2) nS)), (25, .int (sm (fun i => (hour1 nS nB (hq % 24) gate v).1 i 1) nS)), (20, .int (sm (gtJ nS nB (hq % 24) gate v) nB)), (21, .int (sm (mJ nS nB (hq % 24) gate v) nB)), (22, .int (sm (soJ nS nB (hq % 24) gate v) nB))]) hx hb dL_law_991 hl (k := 4) rfl ((nI_1 t)) (by decide) rfl (fun ls hl => ?_)
          refine lv_goto (tgt := 22) hx hb dL_law_994 (by decide) ?_
          refine W.widen (k := C + 10) (n := N + 60) (by omega) (by omega) ?_
          exact KK _ _ _ (sw_dropP hP) (sw_dropD hD) hS (lv_sub hl [2, 3, 4, 0] rfl)
      · refine lv_iconst (v := 0) hx hb dL_law_932 (by decide) ?_
        refine lv_goto (tgt := 943) hx hb dL_law_933 (by decide) ?_
        refine W.eq (g2 := F0 m 943 ls [.int (if nS = 0 then 0 else gate (hq % 24))]) (congrArg (fun z => F0 m 943 ls [.int z]) ((if_pos ((nI_eq (a := nS) (b := 0) (by omega) (by decide)).mp c929)).symm)) ?_
        refine lv_istore (lv' := [(27, .int (if nS = 0 then 0 else gate (hq % 24))), (0, .ref sb), (1, .ref h), (2, .ref (am 0)), (3, .int (nI t)), (5, .int (nI nS)), (6, .int (nI nB)), (7, .int (nI (hq % 24))), (8, .int (sm (fun i => v.1 i 0) nS)), (9, .int (sm (fun i => v.2.1 i 5) nB)), (10, .int (v.2.2 2)), (11, .int (v.2.2 5)), (12, .int (sm (fun i => v.1 i 2) nS)), (13, .ref (aw 0)), (15, .int (hUnfed nS nB (hq % 24) gate v)), (18, .int (sm (fun i => (hour1 nS nB (hq % 24) gate v).1 i 1) nS)), (23, .int ((hour1 nS nB (hq % 24) gate v).2.2 1)), (24, .int (sm (fun i => (hour1 nS nB (hq % 24) gate v).1 i 2) nS)), (25, .int (sm (fun i => (hour1 nS nB (hq % 24) gate v).1 i 1) nS)), (20, .int (sm (gtJ nS nB (hq % 24) gate v) nB)), (21, .int (sm (mJ nS nB (hq % 24) gate v) nB)), (22, .int (sm (soJ nS nB (hq % 24) gate v) nB))]) hx hb dL_law_943 hl (by decide) rfl (fun ls hl => ?_)
        refine lv_iload hx hb dL_law_945 (lv_at hl 8 rfl) ?_
        refine lv_iload hx hb dL_law_947 (lv_at hl 0 rfl) ?_
        refine lv_iadd hx hb dL_law_949 ?_
        refine lv_aload_n hx hb dL_law_950 rfl (lv_at hl 2 rfl) ?_
        refine lv_iconst (v := 3) hx hb dL_law_951 (by decide) ?_
        refine xcV (As := [.int 3]) (rest := [.int ((sm (fun i => v.1 i 0) nS) + (if nS = 0 then 0 else gate (hq % 24)))]) ⟨hx, hb, hml, hown, hts⟩ (c_X3_count l D cy h ad nS nB (hour1 nS nB (hq % 24) gate v).1 (hour1 nS nB (hq % 24) gate v).2.1 gate (hour1 nS nB (hq % 24) gate v).2.2 (av 0) (tw cy av tS tB ts tb tg tn) (hq + 1) 3 hI1.1.2.2.2.2.1 (by omega) (by decide) hcS hcB) (cwV 1 hts gL_law_X3_count rfl rfl rfl (by decide +kernel) ⟨Nat.le_of_ble_eq_true rfl, Nat.le_of_ble_eq_true rfl⟩) hK hP hD hS hA rfl rfl rfl (xE_wrl) rfl hl.1 rfl (Nat.le_of_ble_eq_true rfl) dL_law_952 ⟨by show C + 1 + 1 + 1 ≤ 606250; omega, by show N + 6 + 6 + 6 ≤ 7282873; omega⟩ (fun _ H locs _ hP hD hS => ?_)
        have hP : va_P D vwCl (sw cy am nS nB (hour1 nS nB (hq % 24) gate v).1 (hour1 nS nB (hq % 24) gate v).2.1 gate (hour1 nS nB (hq % 24) gate v).2.2 (xw cy h ad nS nB (hour1 nS nB (hq % 24) gate v).1 (hour1 nS nB (hq % 24) gate v).2.1 gate (hour1 nS nB (hq % 24) gate v).2.2 (av 0) (tw cy av tS tB ts tb tg tn) ++ wz cy aw nB v.2.1)) H := hP
        have hD : va_D A (sw cy am nS nB (hour1 nS nB (hq % 24) gate v).1 (hour1 nS nB (hq % 24) gate v).2.1 gate (hour1 nS nB (hq % 24) gate v).2.2 (xw cy h ad nS nB (hour1 nS nB (hq % 24) gate v).1 (hour1 nS nB (hq % 24) gate v).2.1 gate (hour1 nS nB (hq % 24) gate v).2.2 (av 0) (tw cy av tS tB ts tb tg tn) ++ wz cy aw nB v.2.1)) := hD
        refine W.eq (g2 := F0 m 955 ls [.int (sm (fun i => (hour1 nS nB (hq % 24) gate v).1 i 0) nS), .int ((sm (fun i => v.1 i 0) nS) + (if nS = 0 then 0 else gate (hq % 24)))]) rfl ?_
        refine W.cs (cells' := C + 1 + 1 + 1) (slots' := N + 6 + 6 + 6) (by first | rfl | omega) (by first | rfl | omega) ?_
        refine lv_iload hx hb dL_law_955 (lv_at hl 19 rfl) ?_
        refine lv_iadd hx hb dL_law_957 ?_
        refine lv_iload hx hb dL_law_958 (lv_at hl 17 rfl) ?_
        refine lv_iadd hx hb dL_law_960 ?_
        refine lv_iload hx hb dL_law_961 (lv_at hl 12 rfl) ?_
        refine lv_isub hx hb dL_law_963 ?_
        refine lv_aload_n hx hb dL_law_964 rfl (lv_at hl 2 rfl) ?_
        refine lv_bipush (v := 9) hx hb dL_law_965 (by decide) ?_
        refine xcV (As := [.int 9]) (rest := [.int ((((sm (fun i => (hour1 nS nB (hq % 24) gate v).1 i 0) nS) + (sm (gtJ nS nB (hq % 24) gate v) nB)) + (sm (fun i => (hour1 nS nB (hq % 24) gate v).1 i 2) nS)) - (sm (fun i => v.1 i 2) nS)), .int ((sm (fun i => v.1 i 0) nS) + (if nS = 0 then 0 else gate (hq % 24)))]) ⟨hx, hb, hml, hown, hts⟩ (c_X3_count l D cy h ad nS nB (hour1 nS nB (hq % 24) gate v).1 (hour1 nS nB (hq % 24) gate v).2.1 gate (hour1 nS nB (hq % 24) gate v).2.2 (av 0) (tw cy av tS tB ts tb tg tn) (hq + 1) 9 hI1.1.2.2.2.2.1 (by omega) (by decide) hcS hcB) (cwV 1 hts gL_law_X3_count rfl rfl rfl (by decide +kernel) ⟨Nat.le_of_ble_eq_true rfl, Nat.le_of_ble_eq_true rfl⟩) hK hP hD hS hA rfl rfl rfl (xE_wrl) rfl hl.1 rfl (Nat.le_of_ble_eq_true rfl) dL_law_967 ⟨by show C + 1 + 1 + 1 + 1 ≤ 606250; omega, by show N + 6 + 6 + 6 + 6 ≤ 7282873; omega⟩ (fun _ H locs _ hP hD hS => ?_)
        have hP : va_P D vwCl (sw cy am nS nB (hour1 nS nB (hq % 24) gate v).1 (hour1 nS nB (hq % 24) gate v).2.1 gate (hour1 nS nB (hq % 24) gate v).2.2 (xw cy h ad nS nB (hour1 nS nB (hq % 24) gate v).1 (hour1 nS nB (hq % 24) gate v).2.1 gate (hour1 nS nB (hq % 24) gate v).2.2 (av 0) (tw cy av tS tB ts tb tg tn) ++ wz cy aw nB v.2.1)) H := hP
        have hD : va_D A (sw cy am nS nB (hour1 nS nB (hq % 24) gate v).1 (hour1 nS nB (hq % 24) gate v).2.1 gate (hour1 nS nB (hq % 24) gate v).2.2 (xw cy h ad nS nB (hour1 nS nB (hq % 24) gate v).1 (hour1 nS nB (hq % 24) gate v).2.1 gate (hour1 nS nB (hq % 24) gate v).2.2 (av 0) (tw cy av tS tB ts tb tg tn) ++ wz cy aw nB v.2.1)) := hD
        refine W.eq (g2 := F0 m 970 ls [.int ((hour1 nS nB (hq % 24) gate v).2.2 5), .int ((((sm (fun i => (hour1 nS nB (hq % 24) gate v).1 i 0) nS) + (sm (gtJ nS nB (hq % 24) gate v) nB)) + (sm (fun i => (hour1 nS nB (hq % 24) gate v).1 i 2) nS)) - (sm (fun i => v.1 i 2) nS)), .int ((sm (fun i => v.1 i 0) nS) + (if nS = 0 then 0 else gate (hq % 24)))]) rfl ?_
        refine W.cs (cells' := C + 1 + 1 + 1 + 1) (slots' := N + 6 + 6 + 6 + 6) (by first | rfl | omega) (by first | rfl | omega) ?_
        refine lv_iadd hx hb dL_law_970 ?_
        refine lv_iload hx hb dL_law_971 (lv_at hl 11 rfl) ?_
        refine lv_isub hx hb dL_law_973 ?_
        refine lv_icmp_ne (tgt := 989) hx hb dL_law_974 (by decide) (fun z => absurd (e_flour (fun j hj => (hI.1.2.1 j hj).1) hcS) z) (fun _ => ?_)
        refine lv_iload hx hb dL_law_977 (lv_at hl 17 rfl) ?_
        refine lv_iload hx hb dL_law_979 (lv_at hl 12 rfl) ?_
        refine lv_icmp_eq (tgt := 991) hx hb dL_law_981 (by decide) (fun c981 => ?_) (fun c981 => ?_)
        · refine lv_iinc (v := (nI (t + 1))) (lv' := [(3, .int (nI (t + 1))), (27, .int (if nS = 0 then 0 else gate (hq % 24))), (0, .ref sb), (1, .ref h), (2, .ref (am 0)), (5, .int (nI nS)), (6, .int (nI nB)), (7, .int (nI (hq % 24))), (8, .int (sm (fun i => v.1 i 0) nS)), (9, .int (sm (fun i => v.2.1 i 5) nB)), (10, .int (v.2.2 2)), (11, .int (v.2.2 5)), (12, .int (sm (fun i => v.1 i 2) nS)), (13, .ref (aw 0)), (15, .int (hUnfed nS nB (hq % 24) gate v)), (18, .int (sm (fun i => (hour1 nS nB (hq % 24) gate v).1 i 1) nS)), (23, .int ((hour1 nS nB (hq % 24) gate v).2.2 1)), (24, .int (sm (fun i => (hour1 nS nB (hq % 24) gate v).1 i 2) nS)), (25, .int (sm (fun i => (hour1 nS nB (hq % 24) gate v).1 i 1) nS)), (20, .int (sm (gtJ nS nB (hq % 24) gate v) nB)), (21, .int (sm (mJ nS nB (hq % 24) gate v) nB)), (22, .int (sm (soJ nS nB (hq % 24) gate v) nB))]) hx hb dL_law_991 hl (k := 4) rfl ((nI_1 t)) (by decide) rfl (fun ls hl => ?_)
          refine lv_goto (tgt := 22) hx hb dL_law_994 (by decide) ?_
          refine W.widen (k := C + 10) (n := N + 60) (by omega) (by omega) ?_
          exact KK _ _ _ (sw_dropP hP) (sw_dropD hD) hS (lv_sub hl [2, 3, 4, 0] rfl)
        · refine lv_iload hx hb dL_law_984 (lv_at hl 7 rfl) ?_
          refine lv_if_eq (tgt := 991) hx hb dL_law_986 (by decide) (fun _ => ?_) (fun z => absurd (Decidable.byContradiction (fun hk => c981 (e_eaten (fun z => hk (by rw [z]; rfl))))) z)
          refine lv_iinc (v := (nI (t + 1))) (lv' := [(3, .int (nI (t + 1))), (27, .int (if nS = 0 then 0 else gate (hq % 24))), (0, .ref sb), (1, .ref h), (2, .ref (am 0)), (5, .int (nI nS)), (6, .int (nI nB)), (7, .int (nI (hq % 24))), (8, .int (sm (fun i => v.1 i 0) nS)), (9, .int (sm (fun i => v.2.1 i 5) nB)), (10, .int (v.2.2 2)), (11, .int (v.2.2 5)), (12, .int (sm (fun i => v.1 i 2) nS)), (13, .ref (aw 0)), (15, .int (hUnfed nS nB (hq % 24) gate v)), (18, .int (sm (fun i => (hour1 nS nB (hq % 24) gate v).1 i 1) nS)), (23, .int ((hour1 nS nB (hq % 24) gate v).2.2 1)), (24, .int (sm (fun i => (hour1 nS nB (hq % 24) gate v).1 i 2) nS)), (25, .int (sm (fun i => (hour1 nS nB (hq % 24) gate v).1 i 1) nS)), (20, .int (sm (gtJ nS nB (hq % 24) gate v) nB)), (21, .int (sm (mJ nS nB (hq % 24) gate v) nB)), (22, .int (sm (soJ nS nB (hq % 24) gate v) nB))]) hx hb dL_law_991 hl (k := 4) rfl ((nI_1 t)) (by decide) rfl (fun ls hl => ?_)
          refine lv_goto (tgt := 22) hx hb dL_law_994 (by decide) ?_
          refine W.widen (k := C + 10) (n := N + 60) (by omega) (by omega) ?_
          exact KK _ _ _ (sw_dropP hP) (sw_dropD hD) hS (lv_sub hl [2, 3, 4, 0] rfl)
    · refine lv_aload_n hx hb dL_law_917 rfl (lv_at hl 1 rfl) ?_
      refine lv_iconst (v := 4) hx hb dL_law_918 (by decide) ?_
      refine xcV (As := [.int 4]) (rest := []) ⟨hx, hb, hml, hown, hts⟩ (c_X3_count l D cy h ad nS nB (hour1 nS nB (hq % 24) gate v).1 (hour1 nS nB (hq % 24) gate v).2.1 gate (hour1 nS nB (hq % 24) gate v).2.2 (av 0) (tw cy av tS tB ts tb tg tn) (hq + 1) 4 hI1.1.2.2.2.2.1 (by omega) (by decide) hcS hcB) (cwV 1 hts gL_law_X3_count rfl rfl rfl (by decide +kernel) ⟨Nat.le_of_ble_eq_true rfl, Nat.le_of_ble_eq_true rfl⟩) hK hP hD hS hA rfl rfl rfl (xE_wrl) rfl hl.1 rfl (Nat.le_of_ble_eq_true rfl) dL_law_919 ⟨by show C + 1 + 1 + 1 ≤ 606250; omega, by show N + 6 + 6 + 6 ≤ 7282873; omega⟩ (fun _ H locs _ hP hD hS => ?_)
      have hP : va_P D vwCl (sw cy am nS nB (hour1 nS nB (hq % 24) gate v).1 (hour1 nS nB (hq % 24) gate v).2.1 gate (hour1 nS nB (hq % 24) gate v).2.2 (xw cy h ad nS nB (hour1 nS nB (hq % 24) gate v).1 (hour1 nS nB (hq % 24) gate v).2.1 gate (hour1 nS nB (hq % 24) gate v).2.2 (av 0) (tw cy av tS tB ts tb tg tn) ++ wz cy aw nB v.2.1)) H := hP
      have hD : va_D A (sw cy am nS nB (hour1 nS nB (hq % 24) gate v).1 (hour1 nS nB (hq % 24) gate v).2.1 gate (hour1 nS nB (hq % 24) gate v).2.2 (xw cy h ad nS nB (hour1 nS nB (hq % 24) gate v).1 (hour1 nS nB (hq % 24) gate v).2.1 gate (hour1 nS nB (hq % 24) gate v).2.2 (av 0) (tw cy av tS tB ts tb tg tn) ++ wz cy aw nB v.2.1)) := hD
      refine W.eq (g2 := F0 m 922 ls [.int (sm (fun i => (hour1 nS nB (hq % 24) gate v).2.1 i 5) nB)]) rfl ?_
      refine W.cs (cells' := C + 1 + 1 + 1) (slots' := N + 6 + 6 + 6) (by first | rfl | omega) (by first | rfl | omega) ?_
      refine lv_if_eq (tgt := 927) hx hb dL_law_922 (by decide) (fun _ => ?_) (fun z => absurd (left_none hcS (show hq ≤ 200000 by omega) hI.1 (Int32.not_le.mp c914)) z)
      refine lv_iload hx hb dL_law_927 (lv_at hl 4 rfl) ?_
      refine lv_if_ne (tgt := 936) hx hb dL_law_929 (by decide) (fun c929 => ?_) (fun c929 => ?_)
      · refine lv_aload_n hx hb dL_law_936 rfl (lv_at hl 2 rfl) ?_
        refine va_get (D := D) (ci := 4) (v := .ref (am 1)) (C := RX4) (T := TX4) (N := 9) hx hb hts hinX4 hown hK.1 hP 0 rfl rfl 1 (by decide) (hts (.fieldLink RL 48 "LoafMarksLaw$Sim" "gate" "[I") (List.mem_append_left _ (List.mem_append_left _ (List.mem_append_left _ (List.mem_append_left _ (List.mem_append_left _ (List.mem_append_left _ (List.mem_append_left _ (List.mem_append_left _ (List.mem_append_left _ (List.mem_append_left _ (List.mem_of_getElem? (l := wsL_law0_r1) (i := 7) rfl)))))))))))) (fun _ h9 => h9) rfl dL_law_937 ?_
        refine lv_iload hx hb dL_law_940 (lv_at hl 6 rfl) ?_
        refine xiald hx hb hK hP (1) rfl (hq % 24) rfl (by omega) (by decide) dL_law_942 ?_
        refine W.eq (g2 := F0 m 943 ls [.int (if nS = 0 then 0 else gate (hq % 24))]) (congrArg (fun z => F0 m 943 ls [.int z]) ((if_neg (fun z => c929 (by rw [z]; rfl))).symm)) ?_
        refine lv_istore (lv' := [(27, .int (if nS = 0 then 0 else gate (hq % 24))), (0, .ref sb), (1, .ref h), (2, .ref (am 0)), (3, .int (nI t)), (5, .int (nI nS)), (6, .int (nI nB)), (7, .int (nI (hq % 24))), (8, .int (sm (fun i => v.1 i 0) nS)), (9, .int (sm (fun i => v.2.1 i 5) nB)), (10, .int (v.2.2 2)), (11, .int (v.2.2 5)), (12, .int (sm (fun i => v.1 i 2) nS)), (13, .ref (aw 0)), (15, .int (hUnfed nS nB (hq % 24) gate v)), (18, .int (sm (fun i => (hour1 nS nB (hq % 24) gate v).1 i 1) nS)), (23, .int ((hour1 nS nB (hq % 24) gate v).2.2 1)), (24, .int (sm (fun i => (hour1 nS nB (hq % 24) gate v).1 i 2) nS)), (25, .int (sm (fun i => (hour1 nS nB (hq % 24) gate v).1 i 1) nS)), (20, .int (sm (gtJ nS nB (hq % 24) gate v) nB)), (21, .int (sm (mJ nS nB (hq % 24) gate v) nB)), (22, .int (sm (soJ nS nB (hq % 24) gate v) nB))]) hx hb dL_law_943 hl (by decide) rfl (fun ls hl => ?_)
        refine lv_iload hx hb dL_law_945 (lv_at hl 8 rfl) ?_
        refine lv_iload hx hb dL_law_947 (lv_at hl 0 rfl) ?_
        refine lv_iadd hx hb dL_law_949 ?_
        refine lv_aload_n hx hb dL_law_950 rfl (lv_at hl 2 rfl) ?_
        refine lv_iconst (v := 3) hx hb dL_law_951 (by decide) ?_
        refine xcV (As := [.int 3]) (rest := [.int ((sm (fun i => v.1 i 0) nS) + (if nS = 0 then 0 else gate (hq % 24)))]) ⟨hx, hb, hml, hown, hts⟩ (c_X3_count l D cy h ad nS nB (hour1 nS nB (hq % 24) gate v).1 (hour1 nS nB (hq % 24) gate v).2.1 gate (hour1 nS nB (hq % 24) gate v).2.2 (av 0) (tw cy av tS tB ts tb tg tn) (hq + 1) 3 hI1.1.2.2.2.2.1 (by omega) (by decide) hcS hcB) (cwV 1 hts gL_law_X3_count rfl rfl rfl (by decide +kernel) ⟨Nat.le_of_ble_eq_true rfl, Nat.le_of_ble_eq_true rfl⟩) hK hP hD hS hA rfl rfl rfl (xE_wrl) rfl hl.1 rfl (Nat.le_of_ble_eq_true rfl) dL_law_952 ⟨by show C + 1 + 1 + 1 + 1 ≤ 606250; omega, by show N + 6 + 6 + 6 + 6 ≤ 7282873; omega⟩ (fun _ H locs _ hP hD hS => ?_)
        have hP : va_P D vwCl (sw cy am nS nB (hour1 nS nB (hq % 24) gate v).1 (hour1 nS nB (hq % 24) gate v).2.1 gate (hour1 nS nB (hq % 24) gate v).2.2 (xw cy h ad nS nB (hour1 nS nB (hq % 24) gate v).1 (hour1 nS nB (hq % 24) gate v).2.1 gate (hour1 nS nB (hq % 24) gate v).2.2 (av 0) (tw cy av tS tB ts tb tg tn) ++ wz cy aw nB v.2.1)) H := hP
        have hD : va_D A (sw cy am nS nB (hour1 nS nB (hq % 24) gate v).1 (hour1 nS nB (hq % 24) gate v).2.1 gate (hour1 nS nB (hq % 24) gate v).2.2 (xw cy h ad nS nB (hour1 nS nB (hq % 24) gate v).1 (hour1 nS nB (hq % 24) gate v).2.1 gate (hour1 nS nB (hq % 24) gate v).2.2 (av 0) (tw cy av tS tB ts tb tg tn) ++ wz cy aw nB v.2.1)) := hD
        refine W.eq (g2 := F0 m 955 ls [.int (sm (fun i => (hour1 nS nB (hq % 24) gate v).1 i 0) nS), .int ((sm (fun i => v.1 i 0) nS) + (if nS = 0 then 0 else gate (hq % 24)))]) rfl ?_
        refine W.cs (cells' := C + 1 + 1 + 1 + 1) (slots' := N + 6 + 6 + 6 + 6) (by first | rfl | omega) (by first | rfl | omega) ?_
        refine lv_iload hx hb dL_law_955 (lv_at hl 19 rfl) ?_
        refine lv_iadd hx hb dL_law_957 ?_
        refine lv_iload hx hb dL_law_958 (lv_at hl 17 rfl) ?_
        refine lv_iadd hx hb dL_law_960 ?_
        refine lv_iload hx hb dL_law_961 (lv_at hl 12 rfl) ?_
        refine lv_isub hx hb dL_law_963 ?_
        refine lv_aload_n hx hb dL_law_964 rfl (lv_at hl 2 rfl) ?_
        refine lv_bipush (v := 9) hx hb dL_law_965 (by decide) ?_
        refine xcV (As := [.int 9]) (rest := [.int ((((sm (fun i => (hour1 nS nB (hq % 24) gate v).1 i 0) nS) + (sm (gtJ nS nB (hq % 24) gate v) nB)) + (sm (fun i => (hour1 nS nB (hq % 24) gate v).1 i 2) nS)) - (sm (fun i => v.1 i 2) nS)), .int ((sm (fun i => v.1 i 0) nS) + (if nS = 0 then 0 else gate (hq % 24)))]) ⟨hx, hb, hml, hown, hts⟩ (c_X3_count l D cy h ad nS nB (hour1 nS nB (hq % 24) gate v).1 (hour1 nS nB (hq % 24) gate v).2.1 gate (hour1 nS nB (hq % 24) gate v).2.2 (av 0) (tw cy av tS tB ts tb tg tn) (hq + 1) 9 hI1.1.2.2.2.2.1 (by omega) (by decide) hcS hcB) (cwV 1 hts gL_law_X3_count rfl rfl rfl (by decide +kernel) ⟨Nat.le_of_ble_eq_true rfl, Nat.le_of_ble_eq_true rfl⟩) hK hP hD hS hA rfl rfl rfl (xE_wrl) rfl hl.1 rfl (Nat.le_of_ble_eq_true rfl) dL_law_967 ⟨by show C + 1 + 1 + 1 + 1 + 1 ≤ 606250; omega, by show N + 6 + 6 + 6 + 6 + 6 ≤ 7282873; omega⟩ (fun _ H locs _ hP hD hS => ?_)
        have hP : va_P D vwCl (sw cy am nS nB (hour1 nS nB (hq % 24) gate v).1 (hour1 nS nB (hq % 24) gate v).2.1 gate (hour1 nS nB (hq % 24) gate v).2.2 (xw cy h ad nS nB (hour1 nS nB (hq % 24) gate v).1 (hour1 nS nB (hq % 24) gate v).2.1 gate (hour1 nS nB (hq % 24) gate v).2.2 (av 0) (tw cy av tS tB ts tb tg tn) ++ wz cy aw nB v.2.1)) H := hP
        have hD : va_D A (sw cy am nS nB (hour1 nS nB (hq % 24) gate v).1 (hour1 nS nB (hq % 24) gate v).2.1 gate (hour1 nS nB (hq % 24) gate v).2.2 (xw cy h ad nS nB (hour1 nS nB (hq % 24) gate v).1 (hour1 nS nB (hq % 24) gate v).2.1 gate (hour1 nS nB (hq % 24) gate v).2.2 (av 0) (tw cy av tS tB ts tb tg tn) ++ wz cy aw nB v.2.1)) := hD
        refine W.eq (g2 := F0 m 970 ls [.int ((hour1 nS nB (hq % 24) gate v).2.2 5), .int ((((sm (fun i => (hour1 nS nB (hq % 24) gate v).1 i 0) nS) + (sm (gtJ nS nB (hq % 24) gate v) nB)) + (sm (fun i => (hour1 nS nB (hq % 24) gate v).1 i 2) nS)) - (sm (fun i => v.1 i 2) nS)), .int ((sm (fun i => v.1 i 0) nS) + (if nS = 0 then 0 else gate (hq % 24)))]) rfl ?_
        refine W.cs (cells' := C + 1 + 1 + 1 + 1 + 1) (slots' := N + 6 + 6 + 6 + 6 + 6) (by first | rfl | omega) (by first | rfl | omega) ?_
        refine lv_iadd hx hb dL_law_970 ?_
        refine lv_iload hx hb dL_law_971 (lv_at hl 11 rfl) ?_
        refine lv_isub hx hb dL_law_973 ?_
        refine lv_icmp_ne (tgt := 989) hx hb dL_law_974 (by decide) (fun z => absurd (e_flour (fun j hj => (hI.1.2.1 j hj).1) hcS) z) (fun _ => ?_)
        refine lv_iload hx hb dL_law_977 (lv_at hl 17 rfl) ?_
        refine lv_iload hx hb dL_law_979 (lv_at hl 12 rfl) ?_
        refine lv_icmp_eq (tgt := 991) hx hb dL_law_981 (by decide) (fun c981 => ?_) (fun c981 => ?_)
        · refine lv_iinc (v := (nI (t + 1))) (lv' := [(3, .int (nI (t + 1))), (27, .int (if nS = 0 then 0 else gate (hq % 24))), (0, .ref sb), (1, .ref h), (2, .ref (am 0)), (5, .int (nI nS)), (6, .int (nI nB)), (7, .int (nI (hq % 24))), (8, .int (sm (fun i => v.1 i 0) nS)), (9, .int (sm (fun i => v.2.1 i 5) nB)), (10, .int (v.2.2 2)), (11, .int (v.2.2 5)), (12, .int (sm (fun i => v.1 i 2) nS)), (13, .ref (aw 0)), (15, .int (hUnfed nS nB (hq % 24) gate v)), (18, .int (sm (fun i => (hour1 nS nB (hq % 24) gate v).1 i 1) nS)), (23, .int ((hour1 nS nB (hq % 24) gate v).2.2 1)), (24, .int (sm (fun i => (hour1 nS nB (hq % 24) gate v).1 i 2) nS)), (25, .int (sm (fun i => (hour1 nS nB (hq % 24) gate v).1 i 1) nS)), (20, .int (sm (gtJ nS nB (hq % 24) gate v) nB)), (21, .int (sm (mJ nS nB (hq % 24) gate v) nB)), (22, .int (sm (soJ nS nB (hq % 24) gate v) nB))]) hx hb dL_law_991 hl (k := 4) rfl ((nI_1 t)) (by decide) rfl (fun ls hl => ?_)
          refine lv_goto (tgt := 22) hx hb dL_law_994 (by decide) ?_
          refine W.widen (k := C + 10) (n := N + 60) (by omega) (by omega) ?_
          exact KK _ _ _ (sw_dropP hP) (sw_dropD hD) hS (lv_sub hl [2, 3, 4, 0] rfl)
        · refine lv_iload hx hb dL_law_984 (lv_at hl 7 rfl) ?_
          refine lv_if_eq (tgt := 991) hx hb dL_law_986 (by decide) (fun _ => ?_) (fun z => absurd (Decidable.byContradiction (fun hk => c981 (e_eaten (fun z => hk (by rw [z]; rfl))))) z)
          refine lv_iinc (v := (nI (t + 1))) (lv' := [(3, .int (nI (t + 1))), (27, .int (if nS = 0 then 0 else gate (hq % 24))), (0, .ref sb), (1, .ref h), (2, .ref (am 0)), (5, .int (nI nS)), (6, .int (nI nB)), (7, .int (nI (hq % 24))), (8, .int (sm (fun i => v.1 i 0) nS)), (9, .int (sm (fun i => v.2.1 i 5) nB)), (10, .int (v.2.2 2)), (11, .int (v.2.2 5)), (12, .int (sm (fun i => v.1 i 2) nS)), (13, .ref (aw 0)), (15, .int (hUnfed nS nB (hq % 24) gate v)), (18, .int (sm (fun i => (hour1 nS nB (hq % 24) gate v).1 i 1) nS)), (23, .int ((hour1 nS nB (hq % 24) gate v).2.2 1)), (24, .int (sm (fun i => (hour1 nS nB (hq % 24) gate v).1 i 2) nS)), (25, .int (sm (fun i => (hour1 nS nB (hq % 24) gate v).1 i 1) nS)), (20, .int (sm (gtJ nS nB (hq % 24) gate v) nB)), (21, .int (sm (mJ nS nB (hq % 24) gate v) nB)), (22, .int (sm (soJ nS nB (hq % 24) gate v) nB))]) hx hb dL_law_991 hl (k := 4) rfl ((nI_1 t)) (by decide) rfl (fun ls hl => ?_)
          refine lv_goto (tgt := 22) hx hb dL_law_994 (by decide) ?_
          refine W.widen (k := C + 10) (n := N + 60) (by omega) (by omega) ?_
          exact KK _ _ _ (sw_dropP hP) (sw_dropD hD) hS (lv_sub hl [2, 3, 4, 0] rfl)
      · refine lv_iconst (v := 0) hx hb dL_law_932 (by decide) ?_
        refine lv_goto (tgt := 943) hx hb dL_law_933 (by decide) ?_
        refine W.eq (g2 := F0 m 943 ls [.int (if nS = 0 then 0 else gate (hq % 24))]) (congrArg (fun z => F0 m 943 ls [.int z]) ((if_pos ((nI_eq (a := nS) (b := 0) (by omega) (by decide)).mp c929)).symm)) ?_
        refine lv_istore (lv' := [(27, .int (if nS = 0 then 0 else gate (hq % 24))), (0, .ref sb), (1, .ref h), (2, .ref (am 0)), (3, .int (nI t)), (5, .int (nI nS)), (6, .int (nI nB)), (7, .int (nI (hq % 24))), (8, .int (sm (fun i => v.1 i 0) nS)), (9, .int (sm (fun i => v.2.1 i 5) nB)), (10, .int (v.2.2 2)), (11, .int (v.2.2 5)), (12, .int (sm (fun i => v.1 i 2) nS)), (13, .ref (aw 0)), (15, .int (hUnfed nS nB (hq % 24) gate v)), (18, .int (sm (fun i => (hour1 nS nB (hq % 24) gate v).1 i 1) nS)), (23, .int ((hour1 nS nB (hq % 24) gate v).2.2 1)), (24, .int (sm (fun i => (hour1 nS nB (hq % 24) gate v).1 i 2) nS)), (25, .int (sm (fun i => (hour1 nS nB (hq % 24) gate v).1 i 1) nS)), (20, .int (sm (gtJ nS nB (hq % 24) gate v) nB)), (21, .int (sm (mJ nS nB (hq % 24) gate v) nB)), (22, .int (sm (soJ nS nB (hq % 24) gate v) nB))]) hx hb dL_law_943 hl (by decide) rfl (fun ls hl => ?_)
        refine lv_iload hx hb dL_law_945 (lv_at hl 8 rfl) ?_
        refine lv_iload hx hb dL_law_947 (lv_at hl 0 rfl) ?_
        refine lv_iadd hx hb dL_law_949 ?_
        refine lv_aload_n hx hb dL_law_950 rfl (lv_at hl 2 rfl) ?_
        refine lv_iconst (v := 3) hx hb dL_law_951 (by decide) ?_
        refine xcV (As := [.int 3]) (rest := [.int ((sm (fun i => v.1 i 0) nS) + (if nS = 0 then 0 else gate (hq % 24)))]) ⟨hx, hb, hml, hown, hts⟩ (c_X3_count l D cy h ad nS nB (hour1 nS nB (hq % 24) gate v).1 (hour1 nS nB (hq % 24) gate v).2.1 gate (hour1 nS nB (hq % 24) gate v).2.2 (av 0) (tw cy av tS tB ts tb tg tn) (hq + 1) 3 hI1.1.2.2.2.2.1 (by omega) (by decide) hcS hcB) (cwV 1 hts gL_law_X3_count rfl rfl rfl (by decide +kernel) ⟨Nat.le_of_ble_eq_true rfl, Nat.le_of_ble_eq_true rfl⟩) hK hP hD hS hA rfl rfl rfl (xE_wrl) rfl hl.1 rfl (Nat.le_of_ble_eq_true rfl) dL_law_952 ⟨by show C + 1 + 1 + 1 + 1 ≤ 606250; omega, by show N + 6 + 6 + 6 + 6 ≤ 7282873; omega⟩ (fun _ H locs _ hP hD hS => ?_)
        have hP : va_P D vwCl (sw cy am nS nB (hour1 nS nB (hq % 24) gate v).1 (hour1 nS nB (hq % 24) gate v).2.1 gate (hour1 nS nB (hq % 24) gate v).2.2 (xw cy h ad nS nB (hour1 nS nB (hq % 24) gate v).1 (hour1 nS nB (hq % 24) gate v).2.1 gate (hour1 nS nB (hq % 24) gate v).2.2 (av 0) (tw cy av tS tB ts tb tg tn) ++ wz cy aw nB v.2.1)) H := hP
        have hD : va_D A (sw cy am nS nB (hour1 nS nB (hq % 24) gate v).1 (hour1 nS nB (hq % 24) gate v).2.1 gate (hour1 nS nB (hq % 24) gate v).2.2 (xw cy h ad nS nB (hour1 nS nB (hq % 24) gate v).1 (hour1 nS nB (hq % 24) gate v).2.1 gate (hour1 nS nB (hq % 24) gate v).2.2 (av 0) (tw cy av tS tB ts tb tg tn) ++ wz cy aw nB v.2.1)) := hD
        refine W.eq (g2 := F0 m 955 ls [.int (sm (fun i => (hour1 nS nB (hq % 24) gate v).1 i 0) nS), .int ((sm (fun i => v.1 i 0) nS) + (if nS = 0 then 0 else gate (hq % 24)))]) rfl ?_
        refine W.cs (cells' := C + 1 + 1 + 1 + 1) (slots' := N + 6 + 6 + 6 + 6) (by first | rfl | omega) (by first | rfl | omega) ?_
        refine lv_iload hx hb dL_law_955 (lv_at hl 19 rfl) ?_
        refine lv_iadd hx hb dL_law_957 ?_
        refine lv_iload hx hb dL_law_958 (lv_at hl 17 rfl) ?_
        refine lv_iadd hx hb dL_law_960 ?_
        refine lv_iload hx hb dL_law_961 (lv_at hl 12 rfl) ?_
        refine lv_isub hx hb dL_law_963 ?_
        refine lv_aload_n hx hb dL_law_964 rfl (lv_at hl 2 rfl) ?_
        refine lv_bipush (v := 9) hx hb dL_law_965 (by decide) ?_
        refine xcV (As := [.int 9]) (rest := [.int ((((sm (fun i => (hour1 nS nB (hq % 24) gate v).1 i 0) nS) + (sm (gtJ nS nB (hq % 24) gate v) nB)) + (sm (fun i => (hour1 nS nB (hq % 24) gate v).1 i 2) nS)) - (sm (fun i => v.1 i 2) nS)), .int ((sm (fun i => v.1 i 0) nS) + (if nS = 0 then 0 else gate (hq % 24)))]) ⟨hx, hb, hml, hown, hts⟩ (c_X3_count l D cy h ad nS nB (hour1 nS nB (hq % 24) gate v).1 (hour1 nS nB (hq % 24) gate v).2.1 gate (hour1 nS nB (hq % 24) gate v).2.2 (av 0) (tw cy av tS tB ts tb tg tn) (hq + 1) 9 hI1.1.2.2.2.2.1 (by omega) (by decide) hcS hcB) (cwV 1 hts gL_law_X3_count rfl rfl rfl (by decide +kernel) ⟨Nat.le_of_ble_eq_true rfl, Nat.le_of_ble_eq_true rfl⟩) hK hP hD hS hA rfl rfl rfl (xE_wrl) rfl hl.1 rfl (Nat.le_of_ble_eq_true rfl) dL_law_967 ⟨by show C + 1 + 1 + 1 + 1 + 1 ≤ 606250; omega, by show N + 6 + 6 + 6 + 6 + 6 ≤ 7282873; omega⟩ (fun _ H locs _ hP hD hS => ?_)
        have hP : va_P D vwCl (sw cy am nS nB (hour1 nS nB (hq % 24) gate v).1 (hour1 nS nB (hq % 24) gate v).2.1 gate (hour1 nS nB (hq % 24) gate v).2.2 (xw cy h ad nS nB (hour1 nS nB (hq % 24) gate v).1 (hour1 nS nB (hq % 24) gate v).2.1 gate (hour1 nS nB (hq % 24) gate v).2.2 (av 0) (tw cy av tS tB ts tb tg tn) ++ wz cy aw nB v.2.1)) H := hP
        have hD : va_D A (sw cy am nS nB (hour1 nS nB (hq % 24) gate v).1 (hour1 nS nB (hq % 24) gate v).2.1 gate (hour1 nS nB (hq % 24) gate v).2.2 (xw cy h ad nS nB (hour1 nS nB (hq % 24) gate v).1 (hour1 nS nB (hq % 24) gate v).2.1 gate (hour1 nS nB (hq % 24) gate v).2.2 (av 0) (tw cy av tS tB ts tb tg tn) ++ wz cy aw nB v.2.1)) := hD
        refine W.eq (g2 := F0 m 970 ls [.int ((hour1 nS nB (hq % 24) gate v).2.2 5), .int ((((sm (fun i => (hour1 nS nB (hq % 24) gate v).1 i 0) nS) + (sm (gtJ nS nB (hq % 24) gate v) nB)) + (sm (fun i => (hour1 nS nB (hq % 24) gate v).1 i 2) nS)) - (sm (fun i => v.1 i 2) nS)), .int ((sm (fun i => v.1 i 0) nS) + (if nS = 0 then 0 else gate (hq % 24)))]) rfl ?_
        refine W.cs (cells' := C + 1 + 1 + 1 + 1 + 1) (slots' := N + 6 + 6 + 6 + 6 + 6) (by first | rfl | omega) (by first | rfl | omega) ?_
        refine lv_iadd hx hb dL_law_970 ?_
        refine lv_iload hx hb dL_law_971 (lv_at hl 11 rfl) ?_
        refine lv_isub hx hb dL_law_973 ?_
        refine lv_icmp_ne (tgt := 989) hx hb dL_law_974 (by decide) (fun z => absurd (e_flour (fun j hj => (hI.1.2.1 j hj).1) hcS) z) (fun _ => ?_)
        refine lv_iload hx hb dL_law_977 (lv_at hl 17 rfl) ?_
        refine lv_iload hx hb dL_law_979 (lv_at hl 12 rfl) ?_
        refine lv_icmp_eq (tgt := 991) hx hb dL_law_981 (by decide) (fun c981 => ?_) (fun c981 => ?_)
        · refine lv_iinc (v := (nI (t + 1))) (lv' := [(3, .int (nI (t + 1))), (27, .int (if nS = 0 then 0 else gate (hq % 24))), (0, .ref sb), (1, .ref h), (2, .ref (am 0)), (5, .int (nI nS)), (6, .int (nI nB)), (7, .int (nI (hq % 24))), (8, .int (sm (fun i => v.1 i 0) nS)), (9, .int (sm (fun i => v.2.1 i 5) nB)), (10, .int (v.2.2 2)), (11, .int (v.2.2 5)), (12, .int (sm (fun i => v.1 i 2) nS)), (13, .ref (aw 0)), (15, .int (hUnfed nS nB (hq % 24) gate v)), (18, .int (sm (fun i => (hour1 nS nB (hq % 24) gate v).1 i 1) nS)), (23, .int ((hour1 nS nB (hq % 24) gate v).2.2 1)), (24, .int (sm (fun i => (hour1 nS nB (hq % 24) gate v).1 i 2) nS)), (25, .int (sm (fun i => (hour1 nS nB (hq % 24) gate v).1 i 1) nS)), (20, .int (sm (gtJ nS nB (hq % 24) gate v) nB)), (21, .int (sm (mJ nS nB (hq % 24) gate v) nB)), (22, .int (sm (soJ nS nB (hq % 24) gate v) nB))]) hx hb dL_law_991 hl (k := 4) rfl ((nI_1 t)) (by decide) rfl (fun ls hl => ?_)
          refine lv_goto (tgt := 22) hx hb dL_law_994 (by decide) ?_
          refine W.widen (k := C + 10) (n := N + 60) (by omega) (by omega) ?_
          exact KK _ _ _ (sw_dropP hP) (sw_dropD hD) hS (lv_sub hl [2, 3, 4, 0] rfl)
        · refine lv_iload hx hb dL_law_984 (lv_at hl 7 rfl) ?_
          refine lv_if_eq (tgt := 991) hx hb dL_law_986 (by decide) (fun _ => ?_) (fun z => absurd (Decidable.byContradiction (fun hk => c981 (e_eaten (fun z => hk (by rw [z]; rfl))))) z)
          refine lv_iinc (v := (nI (t + 1))) (lv' := [(3, .int (nI (t + 1))), (27, .int (if nS = 0 then 0 else gate (hq % 24))), (0, .ref sb), (1, .ref h), (2, .ref (am 0)), (5, .int (nI nS)), (6, .int (nI nB)), (7, .int (nI (hq % 24))), (8, .int (sm (fun i => v.1 i 0) nS)), (9, .int (sm (fun i => v.2.1 i 5) nB)), (10, .int (v.2.2 2)), (11, .int (v.2.2 5)), (12, .int (sm (fun i => v.1 i 2) nS)), (13, .ref (aw 0)), (15, .int (hUnfed nS nB (hq % 24) gate v)), (18, .int (sm (fun i => (hour1 nS nB (hq % 24) gate v).1 i 1) nS)), (23, .int ((hour1 nS nB (hq % 24) gate v).2.2 1)), (24, .int (sm (fun i => (hour1 nS nB (hq % 24) gate v).1 i 2) nS)), (25, .int (sm (fun i => (hour1 nS nB (hq % 24) gate v).1 i 1) nS)), (20, .int (sm (gtJ nS nB (hq % 24) gate v) nB)), (21, .int (sm (mJ nS nB (hq % 24) gate v) nB)), (22, .int (sm (soJ nS nB (hq % 24) gate v) nB))]) hx hb dL_law_991 hl (k := 4) rfl ((nI_1 t)) (by decide) rfl (fun ls hl => ?_)
          refine lv_goto (tgt := 22) hx hb dL_law_994 (by decide) ?_
          refine W.widen (k := C + 10) (n := N + 60) (by omega) (by omega) ?_
          exact KK _ _ _ (sw_dropP hP) (sw_dropD hD) hS (lv_sub hl [2, 3, 4, 0] rfl)
  · refine lv_iload hx hb dL_law_890 (lv_at hl 20 rfl) ?_
    refine lv_if_ne (tgt := 925) hx hb dL_law_892 (by decide) (fun z => absurd (so_none (ne12 (Nat.mod_lt _ (by decide)) c887)) z) (fun _ => ?_)
    refine lv_iload hx hb dL_law_895 (lv_at hl 6 rfl) ?_
    refine lv_bipush (v := 12) hx hb dL_law_897 (by decide) ?_
    refine lv_icmp_ne (tgt := 927) hx hb dL_law_899 (by decide) (fun _ => ?_) (fun z => absurd z c887)
    refine lv_iload hx hb dL_law_927 (lv_at hl 4 rfl) ?_
    refine lv_if_ne (tgt := 936) hx hb dL_law_929 (by decide) (fun c929 => ?_) (fun c929 => ?_)
    · refine lv_aload_n hx hb dL_law_936 rfl (lv_at hl 2 rfl) ?_
      refine va_get (D := D) (ci := 4) (v := .ref (am 1)) (C := RX4) (T := TX4) (N := 9) hx hb hts hinX4 hown hK.1 hP 0 rfl rfl 1 (by decide) (hts (.fieldLink RL 48 "LoafMarksLaw$Sim" "gate" "[I") (List.mem_append_left _ (List.mem_append_left _ (List.mem_append_left _ (List.mem_append_left _ (List.mem_append_left _ (List.mem_append_left _ (List.mem_append_left _ (List.mem_append_left _ (List.mem_append_left _ (List.mem_append_left _ (List.mem_of_getElem? (l := wsL_law0_r1) (i := 7) rfl)))))))))))) (fun _ h9 => h9) rfl dL_law_937 ?_
      refine lv_iload hx hb dL_law_940 (lv_at hl 6 rfl) ?_
      refine xiald hx hb hK hP (1) rfl (hq % 24) rfl (by omega) (by decide) dL_law_942 ?_
      refine W.eq (g2 := F0 m 943 ls [.int (if nS = 0 then 0 else gate (hq % 24))]) (congrArg (fun z => F0 m 943 ls [.int z]) ((if_neg (fun z => c929 (by rw [z]; rfl))).symm)) ?_
      refine lv_istore (lv' := [(27, .int (if nS = 0 then 0 else gate (hq % 24))), (0, .ref sb), (1, .ref h), (2, .ref (am 0)), (3, .int (nI t)), (5, .int (nI nS)), (6, .int (nI nB)), (7, .int (nI (hq % 24))), (8, .int (sm (fun i => v.1 i 0) nS)), (9, .int (sm (fun i => v.2.1 i 5) nB)), (10, .int (v.2.2 2)), (11, .int (v.2.2 5)), (12, .int (sm (fun i => v.1 i 2) nS)), (13, .ref (aw 0)), (15, .int (hUnfed nS nB (hq % 24) gate v)), (18, .int (sm (fun i => (hour1 nS nB (hq % 24) gate v).1 i 1) nS)), (23, .int ((hour1 nS nB (hq % 24) gate v).2.2 1)), (24, .int (sm (fun i => (hour1 nS nB (hq % 24) gate v).1 i 2) nS)), (25, .int (sm (fun i => (hour1 nS nB (hq % 24) gate v).1 i 1) nS)), (20, .int (sm (gtJ nS nB (hq % 24) gate v) nB)), (21, .int (sm (mJ nS nB (hq % 24) gate v) nB)), (22, .int (sm (soJ nS nB (hq % 24) gate v) nB))]) hx hb dL_law_943 hl (by decide) rfl (fun ls hl => ?_)
      refine lv_iload hx hb dL_law_945 (lv_at hl 8 rfl) ?_
      refine lv_iload hx hb dL_law_947 (lv_at hl 0 rfl) ?_
      refine lv_iadd hx hb dL_law_949 ?_
      refine lv_aload_n hx hb dL_law_950 rfl (lv_at hl 2 rfl) ?_
      refine lv_iconst (v := 3) hx hb dL_law_951 (by decide) ?_
      refine xcV (As := [.int 3]) (rest := [.int ((sm (fun i => v.1 i 0) nS) + (if nS = 0 then 0 else gate (hq % 24)))]) ⟨hx, hb, hml, hown, hts⟩ (c_X3_count l D cy h ad nS nB (hour1 nS nB (hq % 24) gate v).1 (hour1 nS nB (hq % 24) gate v).2.1 gate (hour1 nS nB (hq % 24) gate v).2.2 (av 0) (tw cy av tS tB ts tb tg tn) (hq + 1) 3 hI1.1.2.2.2.2.1 (by omega) (by decide) hcS hcB) (cwV 1 hts gL_law_X3_count rfl rfl rfl (by decide +kernel) ⟨Nat.le_of_ble_eq_true rfl, Nat.le_of_ble_eq_true rfl⟩) hK hP hD hS hA rfl rfl rfl (xE_wrl) rfl hl.1 rfl (Nat.le_of_ble_eq_true rfl) dL_law_952 ⟨by show C + 1 + 1 + 1 ≤ 606250; omega, by show N + 6 + 6 + 6 ≤ 7282873; omega⟩ (fun _ H locs _ hP hD hS => ?_)
      have hP : va_P D vwCl (sw cy am nS nB (hour1 nS nB (hq % 24) gate v).1 (hour1 nS nB (hq % 24) gate v).2.1 gate (hour1 nS nB (hq % 24) gate v).2.2 (xw cy h ad nS nB (hour1 nS nB (hq % 24) gate v).1 (hour1 nS nB (hq % 24) gate v).2.1 gate (hour1 nS nB (hq % 24) gate v).2.2 (av 0) (tw cy av tS tB ts tb tg tn) ++ wz cy aw nB v.2.1)) H := hP
      have hD : va_D A (sw cy am nS nB (hour1 nS nB (hq % 24) gate v).1 (hour1 nS nB (hq % 24) gate v).2.1 gate (hour1 nS nB (hq % 24) gate v).2.2 (xw cy h ad nS nB (hour1 nS nB (hq % 24) gate v).1 (hour1 nS nB (hq % 24) gate v).2.1 gate (hour1 nS nB (hq % 24) gate v).2.2 (av 0) (tw cy av tS tB ts tb tg tn) ++ wz cy aw nB v.2.1)) := hD
      refine W.eq (g2 := F0 m 955 ls [.int (sm (fun i => (hour1 nS nB (hq % 24) gate v).1 i 0) nS), .int ((sm (fun i => v.1 i 0) nS) + (if nS = 0 then 0 else gate (hq % 24)))]) rfl ?_
      refine W.cs (cells' := C + 1 + 1 + 1) (slots' := N + 6 + 6 + 6) (by first | rfl | omega) (by first | rfl | omega) ?_
      refine lv_iload hx hb dL_law_955 (lv_at hl 19 rfl) ?_
      refine lv_iadd hx hb dL_law_957 ?_
      refine lv_iload hx hb dL_law_958 (lv_at hl 17 rfl) ?_
      refine lv_iadd hx hb dL_law_960 ?_
      refine lv_iload hx hb dL_law_961 (lv_at hl 12 rfl) ?_
      refine lv_isub hx hb dL_law_963 ?_
      refine lv_aload_n hx hb dL_law_964 rfl (lv_at hl 2 rfl) ?_
      refine lv_bipush (v := 9) hx hb dL_law_965 (by decide) ?_
      refine xcV (As := [.int 9]) (rest := [.int ((((sm (fun i => (hour1 nS nB (hq % 24) gate v).1 i 0) nS) + (sm (gtJ nS nB (hq % 24) gate v) nB)) + (sm (fun i => (hour1 nS nB (hq % 24) gate v).1 i 2) nS)) - (sm (fun i => v.1 i 2) nS)), .int ((sm (fun i => v.1 i 0) nS) + (if nS = 0 then 0 else gate (hq % 24)))]) ⟨hx, hb, hml, hown, hts⟩ (c_X3_count l D cy h ad nS nB (hour1 nS nB (hq % 24) gate v).1 (hour1 nS nB (hq % 24) gate v).2.1 gate (hour1 nS nB (hq % 24) gate v).2.2 (av 0) (tw cy av tS tB ts tb tg tn) (hq + 1) 9 hI1.1.2.2.2.2.1 (by omega) (by decide) hcS hcB) (cwV 1 hts gL_law_X3_count rfl rfl rfl (by decide +kernel) ⟨Nat.le_of_ble_eq_true rfl, Nat.le_of_ble_eq_true rfl⟩) hK hP hD hS hA rfl rfl rfl (xE_wrl) rfl hl.1 rfl (Nat.le_of_ble_eq_true rfl) dL_law_967 ⟨by show C + 1 + 1 + 1 + 1 ≤ 606250; omega, by show N + 6 + 6 + 6 + 6 ≤ 7282873; omega⟩ (fun _ H locs _ hP hD hS => ?_)
      have hP : va_P D vwCl (sw cy am nS nB (hour1 nS nB (hq % 24) gate v).1 (hour1 nS nB (hq % 24) gate v).2.1 gate (hour1 nS nB (hq % 24) gate v).2.2 (xw cy h ad nS nB (hour1 nS nB (hq % 24) gate v).1 (hour1 nS nB (hq % 24) gate v).2.1 gate (hour1 nS nB (hq % 24) gate v).2.2 (av 0) (tw cy av tS tB ts tb tg tn) ++ wz cy aw nB v.2.1)) H := hP
      have hD : va_D A (sw cy am nS nB (hour1 nS nB (hq % 24) gate v).1 (hour1 nS nB (hq % 24) gate v).2.1 gate (hour1 nS nB (hq % 24) gate v).2.2 (xw cy h ad nS nB (hour1 nS nB (hq % 24) gate v).1 (hour1 nS nB (hq % 24) gate v).2.1 gate (hour1 nS nB (hq % 24) gate v).2.2 (av 0) (tw cy av tS tB ts tb tg tn) ++ wz cy aw nB v.2.1)) := hD
      refine W.eq (g2 := F0 m 970 ls [.int ((hour1 nS nB (hq % 24) gate v).2.2 5), .int ((((sm (fun i => (hour1 nS nB (hq % 24) gate v).1 i 0) nS) + (sm (gtJ nS nB (hq % 24) gate v) nB)) + (sm (fun i => (hour1 nS nB (hq % 24) gate v).1 i 2) nS)) - (sm (fun i => v.1 i 2) nS)), .int ((sm (fun i => v.1 i 0) nS) + (if nS = 0 then 0 else gate (hq % 24)))]) rfl ?_
      refine W.cs (cells' := C + 1 + 1 + 1 + 1) (slots' := N + 6 + 6 + 6 + 6) (by first | rfl | omega) (by first | rfl | omega) ?_
      refine lv_iadd hx hb dL_law_970 ?_
      refine lv_iload hx hb dL_law_971 (lv_at hl 11 rfl) ?_
      refine lv_isub hx hb dL_law_973 ?_
      refine lv_icmp_ne (tgt := 989) hx hb dL_law_974 (by decide) (fun z => absurd (e_flour (fun j hj => (hI.1.2.1 j hj).1) hcS) z) (fun _ => ?_)
      refine lv_iload hx hb dL_law_977 (lv_at hl 17 rfl) ?_
      refine lv_iload hx hb dL_law_979 (lv_at hl 12 rfl) ?_
      refine lv_icmp_eq (tgt := 991) hx hb dL_law_981 (by decide) (fun c981 => ?_) (fun c981 => ?_)
      · refine lv_iinc (v := (nI (t + 1))) (lv' := [(3, .int (nI (t + 1))), (27, .int (if nS = 0 then 0 else gate (hq % 24))), (0, .ref sb), (1, .ref h), (2, .ref (am 0)), (5, .int (nI nS)), (6, .int (nI nB)), (7, .int (nI (hq % 24))), (8, .int (sm (fun i => v.1 i 0) nS)), (9, .int (sm (fun i => v.2.1 i 5) nB)), (10, .int (v.2.2 2)), (11, .int (v.2.2 5)), (12, .int (sm (fun i => v.1 i 2) nS)), (13, .ref (aw 0)), (15, .int (hUnfed nS nB (hq % 24) gate v)), (18, .int (sm (fun i => (hour1 nS nB (hq % 24) gate v).1 i 1) nS)), (23, .int ((hour1 nS nB (hq % 24) gate v).2.2 1)), (24, .int (sm (fun i => (hour1 nS nB (hq % 24) gate v).1 i 2) nS)), (25, .int (sm (fun i => (hour1 nS nB (hq % 24) gate v).1 i 1) nS)), (20, .int (sm (gtJ nS nB (hq % 24) gate v) nB)), (21, .int (sm (mJ nS nB (hq % 24) gate v) nB)), (22, .int (sm (soJ nS nB (hq % 24) gate v) nB))]) hx hb dL_law_991 hl (k := 4) rfl ((nI_1 t)) (by decide) rfl (fun ls hl => ?_)
        refine lv_goto (tgt := 22) hx hb dL_law_994 (by decide) ?_
        refine W.widen (k := C + 10) (n := N + 60) (by omega) (by omega) ?_
        exact KK _ _ _ (sw_dropP hP) (sw_dropD hD) hS (lv_sub hl [2, 3, 4, 0] rfl)
      · refine lv_iload hx hb dL_law_984 (lv_at hl 7 rfl) ?_
        refine lv_if_eq (tgt := 991) hx hb dL_law_986 (by decide) (fun _ => ?_) (fun z => absurd (Decidable.byContradiction (fun hk => c981 (e_eaten (fun z => hk (by rw [z]; rfl))))) z)
        refine lv_iinc (v := (nI (t + 1))) (lv' := [(3, .int (nI (t + 1))), (27, .int (if nS = 0 then 0 else gate (hq % 24))), (0, .ref sb), (1, .ref h), (2, .ref (am 0)), (5, .int (nI nS)), (6, .int (nI nB)), (7, .int (nI (hq % 24))), (8, .int (sm (fun i => v.1 i 0) nS)), (9, .int (sm (fun i => v.2.1 i 5) nB)), (10, .int (v.2.2 2)), (11, .int (v.2.2 5)), (12, .int (sm (fun i => v.1 i 2) nS)), (13, .ref (aw 0)), (15, .int (hUnfed nS nB (hq % 24) gate v)), (18, .int (sm (fun i => (hour1 nS nB (hq % 24) gate v).1 i 1) nS)), (23, .int ((hour1 nS nB (hq % 24) gate v).2.2 1)), (24, .int (sm (fun i => (hour1 nS nB (hq % 24) gate v).1 i 2) nS)), (25, .int (sm (fun i => (hour1 nS nB (hq % 24) gate v).1 i 1) nS)), (20, .int (sm (gtJ nS nB (hq % 24) gate v) nB)), (21, .int (sm (mJ nS nB (hq % 24) gate v) nB)), (22, .int (sm (soJ nS nB (hq % 24) gate v) nB))]) hx hb dL_law_991 hl (k := 4) rfl ((nI_1 t)) (by decide) rfl (fun ls hl => ?_)
        refine lv_goto (tgt := 22) hx hb dL_law_994 (by decide) ?_
        refine W.widen (k := C + 10) (n := N + 60) (by omega) (by omega) ?_
        exact KK _ _ _ (sw_dropP hP) (sw_dropD hD) hS (lv_sub hl [2, 3, 4, 0] rfl)
    · refine lv_iconst (v := 0) hx hb dL_law_932 (by decide) ?_
      refine lv_goto (tgt := 943) hx hb dL_law_933 (by decide) ?_
      refine W.eq (g2 := F0 m 943 ls [.int (if nS = 0 then 0 else gate (hq % 24))]) (congrArg (fun z => F0 m 943 ls [.int z]) ((if_pos ((nI_eq (a := nS) (b := 0) (by omega) (by decide)).mp c929)).symm)) ?_
      refine lv_istore (lv' := [(27, .int (if nS = 0 then 0 else gate (hq % 24))), (0, .ref sb), (1, .ref h), (2, .ref (am 0)), (3, .int (nI t)), (5, .int (nI nS)), (6, .int (nI nB)), (7, .int (nI (hq % 24))), (8, .int (sm (fun i => v.1 i 0) nS)), (9, .int (sm (fun i => v.2.1 i 5) nB)), (10, .int (v.2.2 2)), (11, .int (v.2.2 5)), (12, .int (sm (fun i => v.1 i 2) nS)), (13, .ref (aw 0)), (15, .int (hUnfed nS nB (hq % 24) gate v)), (18, .int (sm (fun i => (hour1 nS nB (hq % 24) gate v).1 i 1) nS)), (23, .int ((hour1 nS nB (hq % 24) gate v).2.2 1)), (24, .int (sm (fun i => (hour1 nS nB (hq % 24) gate v).1 i 2) nS)), (25, .int (sm (fun i => (hour1 nS nB (hq % 24) gate v).1 i 1) nS)), (20, .int (sm (gtJ nS nB (hq % 24) gate v) nB)), (21, .int (sm (mJ nS nB (hq % 24) gate v) nB)), (22, .int (sm (soJ nS nB (hq % 24) gate v) nB))]) hx hb dL_law_943 hl (by decide) rfl (fun ls hl => ?_)
      refine lv_iload hx hb dL_law_945 (lv_at hl 8 rfl) ?_
      refine lv_iload hx hb dL_law_947 (lv_at hl 0 rfl) ?_
      refine lv_iadd hx hb dL_law_949 ?_
      refine lv_aload_n hx hb dL_law_950 rfl (lv_at hl 2 rfl) ?_
      refine lv_iconst (v := 3) hx hb dL_law_951 (by decide) ?_
      refine xcV (As := [.int 3]) (rest := [.int ((sm (fun i => v.1 i 0) nS) + (if nS = 0 then 0 else gate (hq % 24)))]) ⟨hx, hb, hml, hown, hts⟩ (c_X3_count l D cy h ad nS nB (hour1 nS nB (hq % 24) gate v).1 (hour1 nS nB (hq % 24) gate v).2.1 gate (hour1 nS nB (hq % 24) gate v).2.2 (av 0) (tw cy av tS tB ts tb tg tn) (hq + 1) 3 hI1.1.2.2.2.2.1 (by omega) (by decide) hcS hcB) (cwV 1 hts gL_law_X3_count rfl rfl rfl (by decide +kernel) ⟨Nat.le_of_ble_eq_true rfl, Nat.le_of_ble_eq_true rfl⟩) hK hP hD hS hA rfl rfl rfl (xE_wrl) rfl hl.1 rfl (Nat.le_of_ble_eq_true rfl) dL_law_952 ⟨by show C + 1 + 1 + 1 ≤ 606250; omega, by show N + 6 + 6 + 6 ≤ 7282873; omega⟩ (fun _ H locs _ hP hD hS => ?_)
      have hP : va_P D vwCl (sw cy am nS nB (hour1 nS nB (hq % 24) gate v).1 (hour1 nS nB (hq % 24) gate v).2.1 gate (hour1 nS nB (hq % 24) gate v).2.2 (xw cy h ad nS nB (hour1 nS nB (hq % 24) gate v).1 (hour1 nS nB (hq % 24) gate v).2.1 gate (hour1 nS nB (hq % 24) gate v).2.2 (av 0) (tw cy av tS tB ts tb tg tn) ++ wz cy aw nB v.2.1)) H := hP
      have hD : va_D A (sw cy am nS nB (hour1 nS nB (hq % 24) gate v).1 (hour1 nS nB (hq % 24) gate v).2.1 gate (hour1 nS nB (hq % 24) gate v).2.2 (xw cy h ad nS nB (hour1 nS nB (hq % 24) gate v).1 (hour1 nS nB (hq % 24) gate v).2.1 gate (hour1 nS nB (hq % 24) gate v).2.2 (av 0) (tw cy av tS tB ts tb tg tn) ++ wz cy aw nB v.2.1)) := hD
      refine W.eq (g2 := F0 m 955 ls [.int (sm (fun i => (hour1 nS nB (hq % 24) gate v).1 i 0) nS), .int ((sm (fun i => v.1 i 0) nS) + (if nS = 0 then 0 else gate (hq % 24)))]) rfl ?_
      refine W.cs (cells' := C + 1 + 1 + 1) (slots' := N + 6 + 6 + 6) (by first | rfl | omega) (by first | rfl | omega) ?_
      refine lv_iload hx hb dL_law_955 (lv_at hl 19 rfl) ?_
      refine lv_iadd hx hb dL_law_957 ?_
      refine lv_iload hx hb dL_law_958 (lv_at hl 17 rfl) ?_
      refine lv_iadd hx hb dL_law_960 ?_
      refine lv_iload hx hb dL_law_961 (lv_at hl 12 rfl) ?_
      refine lv_isub hx hb dL_law_963 ?_
      refine lv_aload_n hx hb dL_law_964 rfl (lv_at hl 2 rfl) ?_
      refine lv_bipush (v := 9) hx hb dL_law_965 (by decide) ?_
      refine xcV (As := [.int 9]) (rest := [.int ((((sm (fun i => (hour1 nS nB (hq % 24) gate v).1 i 0) nS) + (sm (gtJ nS nB (hq % 24) gate v) nB)) + (sm (fun i => (hour1 nS nB (hq % 24) gate v).1 i 2) nS)) - (sm (fun i => v.1 i 2) nS)), .int ((sm (fun i => v.1 i 0) nS) + (if nS = 0 then 0 else gate (hq % 24)))]) ⟨hx, hb, hml, hown, hts⟩ (c_X3_count l D cy h ad nS nB (hour1 nS nB (hq % 24) gate v).1 (hour1 nS nB (hq % 24) gate v).2.1 gate (hour1 nS nB (hq % 24) gate v).2.2 (av 0) (tw cy av tS tB ts tb tg tn) (hq + 1) 9 hI1.1.2.2.2.2.1 (by omega) (by decide) hcS hcB) (cwV 1 hts gL_law_X3_count rfl rfl rfl (by decide +kernel) ⟨Nat.le_of_ble_eq_true rfl, Nat.le_of_ble_eq_true rfl⟩) hK hP hD hS hA rfl rfl rfl (xE_wrl) rfl hl.1 rfl (Nat.le_of_ble_eq_true rfl) dL_law_967 ⟨by show C + 1 + 1 + 1 + 1 ≤ 606250; omega, by show N + 6 + 6 + 6 + 6 ≤ 7282873; omega⟩ (fun _ H locs _ hP hD hS => ?_)
      have hP : va_P D vwCl (sw cy am nS nB (hour1 nS nB (hq % 24) gate v).1 (hour1 nS nB (hq % 24) gate v).2.1 gate (hour1 nS nB (hq % 24) gate v).2.2 (xw cy h ad nS nB (hour1 nS nB (hq % 24) gate v).1 (hour1 nS nB (hq % 24) gate v).2.1 gate (hour1 nS nB (hq % 24) gate v).2.2 (av 0) (tw cy av tS tB ts tb tg tn) ++ wz cy aw nB v.2.1)) H := hP
      have hD : va_D A (sw cy am nS nB (hour1 nS nB (hq % 24) gate v).1 (hour1 nS nB (hq % 24) gate v).2.1 gate (hour1 nS nB (hq % 24) gate v).2.2 (xw cy h ad nS nB (hour1 nS nB (hq % 24) gate v).1 (hour1 nS nB (hq % 24) gate v).2.1 gate (hour1 nS nB (hq % 24) gate v).2.2 (av 0) (tw cy av tS tB ts tb tg tn) ++ wz cy aw nB v.2.1)) := hD
      refine W.eq (g2 := F0 m 970 ls [.int ((hour1 nS nB (hq % 24) gate v).2.2 5), .int ((((sm (fun i => (hour1 nS nB (hq % 24) gate v).1 i 0) nS) + (sm (gtJ nS nB (hq % 24) gate v) nB)) + (sm (fun i => (hour1 nS nB (hq % 24) gate v).1 i 2) nS)) - (sm (fun i => v.1 i 2) nS)), .int ((sm (fun i => v.1 i 0) nS) + (if nS = 0 then 0 else gate (hq % 24)))]) rfl ?_
      refine W.cs (cells' := C + 1 + 1 + 1 + 1) (slots' := N + 6 + 6 + 6 + 6) (by first | rfl | omega) (by first | rfl | omega) ?_
      refine lv_iadd hx hb dL_law_970 ?_
      refine lv_iload hx hb dL_law_971 (lv_at hl 11 rfl) ?_
      refine lv_isub hx hb dL_law_973 ?_
      refine lv_icmp_ne (tgt := 989) hx hb dL_law_974 (by decide) (fun z => absurd (e_flour (fun j hj => (hI.1.2.1 j hj).1) hcS) z) (fun _ => ?_)
      refine lv_iload hx hb dL_law_977 (lv_at hl 17 rfl) ?_
      refine lv_iload hx hb dL_law_979 (lv_at hl 12 rfl) ?_
      refine lv_icmp_eq (tgt := 991) hx hb dL_law_981 (by decide) (fun c981 => ?_) (fun c981 => ?_)
      · refine lv_iinc (v := (nI (t + 1))) (lv' := [(3, .int (nI (t + 1))), (27, .int (if nS = 0 then 0 else gate (hq % 24))), (0, .ref sb), (1, .ref h), (2, .ref (am 0)), (5, .int (nI nS)), (6, .int (nI nB)), (7, .int (nI (hq % 24))), (8, .int (sm (fun i => v.1 i 0) nS)), (9, .int (sm (fun i => v.2.1 i 5) nB)), (10, .int (v.2.2 2)), (11, .int (v.2.2 5)), (12, .int (sm (fun i => v.1 i 2) nS)), (13, .ref (aw 0)), (15, .int (hUnfed nS nB (hq % 24) gate v)), (18, .int (sm (fun i => (hour1 nS nB (hq % 24) gate v).1 i 1) nS)), (23, .int ((hour1 nS nB (hq % 24) gate v).2.2 1)), (24, .int (sm (fun i => (hour1 nS nB (hq % 24) gate v).1 i 2) nS)), (25, .int (sm (fun i => (hour1 nS nB (hq % 24) gate v).1 i 1) nS)), (20, .int (sm (gtJ nS nB (hq % 24) gate v) nB)), (21, .int (sm (mJ nS nB (hq % 24) gate v) nB)), (22, .int (sm (soJ nS nB (hq % 24) gate v) nB))]) hx hb dL_law_991 hl (k := 4) rfl ((nI_1 t)) (by decide) rfl (fun ls hl => ?_)
        refine lv_goto (tgt := 22) hx hb dL_law_994 (by decide) ?_
        refine W.widen (k := C + 10) (n := N + 60) (by omega) (by omega) ?_
        exact KK _ _ _ (sw_dropP hP) (sw_dropD hD) hS (lv_sub hl [2, 3, 4, 0] rfl)
      · refine lv_iload hx hb dL_law_984 (lv_at hl 7 rfl) ?_
        refine lv_if_eq (tgt := 991) hx hb dL_law_986 (by decide) (fun _ => ?_) (fun z => absurd (Decidable.byContradiction (fun hk => c981 (e_eaten (fun z => hk (by rw [z]; rfl))))) z)
        refine lv_iinc (v := (nI (t + 1))) (lv' := [(3, .int (nI (t + 1))), (27, .int (if nS = 0 then 0 else gate (hq % 24))), (0, .ref sb), (1, .ref h), (2, .ref (am 0)), (5, .int (nI nS)), (6, .int (nI nB)), (7, .int (nI (hq % 24))), (8, .int (sm (fun i => v.1 i 0) nS)), (9, .int (sm (fun i => v.2.1 i 5) nB)), (10, .int (v.2.2 2)), (11, .int (v.2.2 5)), (12, .int (sm (fun i => v.1 i 2) nS)), (13, .ref (aw 0)), (15, .int (hUnfed nS nB (hq % 24) gate v)), (18, .int (sm (fun i => (hour1 nS nB (hq % 24) gate v).1 i 1) nS)), (23, .int ((hour1 nS nB (hq % 24) gate v).2.2 1)), (24, .int (sm (fun i => (hour1 nS nB (hq % 24) gate v).1 i 2) nS)), (25, .int (sm (fun i => (hour1 nS nB (hq % 24) gate v).1 i 1) nS)), (20, .int (sm (gtJ nS nB (hq % 24) gate v) nB)), (21, .int (sm (mJ nS nB (hq % 24) gate v) nB)), (22, .int (sm (soJ nS nB (hq % 24) gate v) nB))]) hx hb dL_law_991 hl (k := 4) rfl ((nI_1 t)) (by decide) rfl (fun ls hl => ?_)
        refine lv_goto (tgt := 22) hx hb dL_law_994 (by decide) ?_
        refine W.widen (k := C + 10) (n := N + 60) (by omega) (by omega) ?_
        exact KK _ _ _ (sw_dropP hP) (sw_dropD hD) hS (lv_sub hl [2, 3, 4, 0] rfl)
