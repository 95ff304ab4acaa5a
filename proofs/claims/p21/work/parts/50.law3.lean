/-! ===== the law: a step and hours; its bakers (laid by g50.py) ===== -/
set_option maxHeartbeats 4000000 in
set_option maxRecDepth 100000 in
/-- a step, and maybe some hours -/
theorem s_1 {p : Program} {l : Launch} {e : Env} {s : State} {m : MethodId} {below : List Frame} {meth : Method} {c : Code} {sb L : Nat} {xs : Nat → Int32} {D : va_G} {cy : Nat → ClassId} {A : Nat → Prop} {d0 : Drawn} {h : Nat} {am ad : Nat → Nat} {nS nB : Nat} {v : TS} {gate : Iu} {hq t : Nat} {C N : Nat} {av : Nat → Nat} {tS tB : Nat} {ts tb : Nat → Iu} {tg tn : Iu} {aw : Nat → Nat} (F : lF p s m meth c sb L xs D cy A d0) (hq1 : hq ≤ 1900) (hC : C ≤ 600000) (hN : N ≤ 7000000) {a0 : Nat} {u : ST} (hu : aP hq tS tB a0 u) (ht : t < 44) (KK : ∀ (u2 : ST) (hq2 : Nat), aP hq2 tS tB a0 u2 → hq2 ≤ hq + 25 → lS p l e s m below meth c sb D A d0 111 [(0, .ref sb), (1, .ref h), (2, .ref a0), (3, .int (nI t))] (LW cy h (av 0) (tw cy av tS tB ts tb tg tn) u2) (C + 40) (N + 250)) : lS p l e s m below meth c sb D A d0 22 [(0, .ref sb), (1, .ref h), (2, .ref a0), (3, .int (nI t))] (LW cy h (av 0) (tw cy av tS tB ts tb tg tn) u) (C) (N) := by
  obtain ⟨hx, hb, hts, hown, hml, hK, hX, hbl, hL, hbA, hA⟩ := id F
  intro H locs ls hP hD hS hl
  refine lv_iload_n hx hb dL_law_22 rfl (lv_at hl 3 rfl) ?_
  refine lv_bipush (v := 44) hx hb dL_law_23 (by decide) ?_
  refine lv_icmp_ge (tgt := 997) hx hb dL_law_25 (by decide) (fun h => absurd h (nI_ge (b := 44) ht (by decide))) (fun _ => ?_)
  refine lv_aload_n hx hb dL_law_28 rfl (lv_at hl 0 rfl) ?_
  refine lv_iload_n hx hb dL_law_29 rfl (lv_at hl 3 rfl) ?_
  refine lv_bipush (v := 16) hx hb dL_law_30 (by decide) ?_
  refine lv_irem hx hb dL_law_32 (by decide) ?_
  refine W.eq (g2 := F0 m 33 ls [.int (nI (t % 16)), .ref sb]) (by first | (rw [show nI t - nI t / 16 * 16 = nI (t % 16) from pk_rem (by omega) (by decide) (by decide)]; done) | (rw [show nI t - nI t / 16 * 16 = nI (t % 16) from pk_rem (by omega) (by decide) (by decide)]; rfl)) ?_
  refine xcSs (As := [.ref sb, .int (nI (t % 16))]) (rest := []) ⟨hx, hb, hml, hown, hts⟩ (c_L_cell l D cy sb L xs hL (t % 16) (by omega)) (va_cwS 2 hts gL_law_L_cell rfl rfl rfl (by decide +kernel) ⟨Nat.le_of_ble_eq_true rfl, Nat.le_of_ble_eq_true rfl⟩) (fun _ _ => trivial) (fun _ _ _ _ _ => trivial) hX hbl hbA hK hP hD hS hA xE_nil rfl hl.1 rfl (Nat.le_of_ble_eq_true rfl) dL_law_33 ⟨by show C + 0 ≤ 606250; omega, by show N + 0 ≤ 7282873; omega⟩ (fun cv H locs _ hP hD hS => ?_)
  refine W.eq (g2 := F0 m 36 ls [.int cv]) rfl ?_
  refine W.cs (cells' := C) (slots' := N) (by first | rfl | omega) (by first | rfl | omega) ?_
  refine lv_iload_n hx hb dL_law_36 rfl (lv_at hl 3 rfl) ?_
  refine lv_bipush (v := 16) hx hb dL_law_37 (by decide) ?_
  refine lv_idiv hx hb dL_law_39 (by decide) ?_
  refine lv_iconst (v := 3) hx hb dL_law_40 (by decide) ?_
  refine lv_imul hx hb dL_law_41 ?_
  refine lv_ishr hx hb dL_law_42 ?_
  refine lv_sipush (v := 151) hx hb dL_law_43 (by decide) ?_
  refine lv_iload_n hx hb dL_law_46 rfl (lv_at hl 3 rfl) ?_
  refine lv_imul hx hb dL_law_47 ?_
  refine lv_iadd hx hb dL_law_48 ?_
  refine lv_istore (lv' := [(4, .int ((cv >>> ((((nI t) / 16) * 3) &&& 31)) + (151 * (nI t)))), (0, .ref sb), (1, .ref h), (2, .ref a0), (3, .int (nI t))]) hx hb dL_law_49 hl (by decide) rfl (fun ls hl => ?_)
  refine lv_aload_n hx hb dL_law_51 rfl (lv_at hl 2 rfl) ?_
  refine lv_aload_n hx hb dL_law_52 rfl (lv_at hl 3 rfl) ?_
  refine lv_iload hx hb dL_law_53 (lv_at hl 0 rfl) ?_
  refine xcS (As := [.ref h, .ref a0, .int ((cv >>> ((((nI t) / 16) * 3) &&& 31)) + (151 * (nI t)))]) (rest := []) ⟨hx, hb, hml, hown, hts⟩ (c_L_actu l D cy h a0 u tS tB (av 0) (tw cy av tS tB ts tb tg tn) hq ((cv >>> ((((nI t) / 16) * 3) &&& 31)) + (151 * (nI t))) hu) (va_cwS 3 hts gL_law_L_act rfl rfl rfl (by decide +kernel) ⟨Nat.le_of_ble_eq_true rfl, Nat.le_of_ble_eq_true rfl⟩) hK hP hD hS hA xE_all rfl hl.1 rfl (Nat.le_of_ble_eq_true rfl) dL_law_55 ⟨by show C + 5 ≤ 606250; omega, by show N + 40 ≤ 7282873; omega⟩ (fun u2 H locs hu2 hP hD hS => ?_)
  refine W.eq (g2 := F0 m 58 ls [.int 1]) rfl ?_
  refine W.cs (cells' := C + 5) (slots' := N + 40) (by first | rfl | omega) (by first | rfl | omega) ?_
  refine lv_if_ne (tgt := 63) hx hb dL_law_58 (by decide) (fun _ => ?_) (fun z => absurd z (by decide))
  refine lv_iload_n hx hb dL_law_63 rfl (lv_at hl 4 rfl) ?_
  refine lv_iconst (v := 4) hx hb dL_law_64 (by decide) ?_
  refine lv_irem hx hb dL_law_65 (by decide) ?_
  refine lv_iconst (v := 3) hx hb dL_law_66 (by decide) ?_
  refine lv_icmp_ne (tgt := 111) hx hb dL_law_67 (by decide) (fun c67 => ?_) (fun c67 => ?_)
  · refine W.widen (k := C + 40) (n := N + 250) (by omega) (by omega) ?_
    exact KK u2 hq hu2 (by omega) _ _ _ hP hD hS (lv_sub hl [1, 2, 3, 4] rfl)
  · obtain ⟨am, ad, nS, nB, v0, gate⟩ := u2
    have ha : am 0 = a0 := hu2.2.2.2.2.2
    subst ha
    have hP : va_P D vwCl (sw cy am nS nB v0.1 v0.2.1 gate v0.2.2 (xw cy h ad nS nB v0.1 v0.2.1 gate v0.2.2 (av 0) (tw cy av tS tB ts tb tg tn))) H := hP
    have hD : va_D A (sw cy am nS nB v0.1 v0.2.1 gate v0.2.2 (xw cy h ad nS nB v0.1 v0.2.1 gate v0.2.2 (av 0) (tw cy av tS tB ts tb tg tn))) := hD
    refine lv_iload hx hb dL_law_70 (lv_at hl 0 rfl) ?_
    refine lv_iconst (v := 4) hx hb dL_law_72 (by decide) ?_
    refine lv_ishr hx hb dL_law_73 ?_
    refine lv_bipush (v := 26) hx hb dL_law_74 (by decide) ?_
    refine xcS (As := [.int (((cv >>> ((((nI t) / 16) * 3) &&& 31)) + (151 * (nI t))) >>> 4), .int 26]) (rest := []) ⟨hx, hb, hml, hown, hts⟩ (c_L_below l D cy (((cv >>> ((((nI t) / 16) * 3) &&& 31)) + (151 * (nI t))) >>> 4) 26 (by decide) (by decide)) (va_cwS 2 hts gL_law_L_below rfl rfl rfl (by decide +kernel) ⟨Nat.le_of_ble_eq_true rfl, Nat.le_of_ble_eq_true rfl⟩) hK hP hD hS hA xE_nil rfl hl.1 rfl (Nat.le_of_ble_eq_true rfl) dL_law_76 ⟨by show C + 5 + 0 ≤ 606250; omega, by show N + 40 + 0 ≤ 7282873; omega⟩ (fun _ H locs _ hP hD hS => ?_)
    refine W.eq (g2 := F0 m 79 ls [.int (nI (blw (((cv >>> ((((nI t) / 16) * 3) &&& 31)) + (151 * (nI t))) >>> 4) 26))]) rfl ?_
    refine W.cs (cells' := C + 5) (slots' := N + 40) (by first | rfl | omega) (by first | rfl | omega) ?_
    have hg : blw (((cv >>> ((((nI t) / 16) * 3) &&& 31)) + (151 * (nI t))) >>> 4) 26 < 26 := blw_lt (by decide)
    generalize blw (((cv >>> ((((nI t) / 16) * 3) &&& 31)) + (151 * (nI t))) >>> 4) 26 = g at hg ⊢
    refine lv_istore (lv' := [(5, .int (nI g)), (4, .int ((cv >>> ((((nI t) / 16) * 3) &&& 31)) + (151 * (nI t)))), (0, .ref sb), (1, .ref h), (2, .ref (am 0)), (3, .int (nI t))]) hx hb dL_law_79 hl (by decide) rfl (fun ls hl => ?_)
    refine lv_iconst (v := 0) hx hb dL_law_81 (by decide) ?_
    refine lv_istore (lv' := [(6, .int 0), (5, .int (nI g)), (4, .int ((cv >>> ((((nI t) / 16) * 3) &&& 31)) + (151 * (nI t)))), (0, .ref sb), (1, .ref h), (2, .ref (am 0)), (3, .int (nI t))]) hx hb dL_law_82 hl (by decide) rfl (fun ls hl => ?_)
    refine W.widen (k := C + 5 + 0) (n := N + 40 + 6 * 0) (by omega) (by omega) ?_
    have loop1 : ∀ (n i : Nat) (v : TS) (H : Heap) (locs : List Loc) (ls : Array Slot), i + n = g → (aP (hq + i) tS tB (am 0) (am, ad, nS, nB, v, gate)) → va_P D vwCl (sw cy am nS nB v.1 v.2.1 gate v.2.2 (xw cy h ad nS nB v.1 v.2.1 gate v.2.2 (av 0) (tw cy av tS tB ts tb tg tn))) H → va_D A (sw cy am nS nB v.1 v.2.1 gate v.2.2 (xw cy h ad nS nB v.1 v.2.1 gate v.2.2 (av 0) (tw cy av tS tB ts tb tg tn))) → va_S A s.heap H locs → lv_has ls 32 [(0, .ref sb), (1, .ref h), (2, .ref (am 0)), (3, .int (nI t)), (5, .int (nI g)), (6, .int (nI i))] → W p l e room_1 (s.setDrawn d0) m ([.ref sb] : List Value).toArray below meth c H locs (C + 5 + i) (N + 40 + 6 * i) (lw_Z below #[Value.ref sb] s) (F0 m 84 ls []) := by
      intro n
      induction n with
      | zero =>
        intro i v H locs ls hns hinv hP hD hS hl
        have hii : i = g := by omega
        refine lv_iload hx hb dL_law_84 (lv_at hl 5 rfl) ?_
        refine lv_iload hx hb dL_law_86 (lv_at hl 4 rfl) ?_
        refine lv_icmp_ge (tgt := 111) hx hb dL_law_88 (by decide) (fun _ => ?_) (fun h => absurd (by rw [hii]; exact Int32.le_refl _) h)
        refine W.widen (k := C + 40) (n := N + 250) (by omega) (by omega) ?_
        exact KK (am, ad, nS, nB, v, gate) (hq + i) hinv (by omega) _ _ _ hP hD hS (lv_sub hl [0, 1, 2, 3] rfl)
      | succ n ih1 =>
        intro i v H locs ls hns hinv hP hD hS hl
        have hlt : i < g := by omega
        have hcS : nS ≤ 4 := hinv.2.2.2.1
        have hcB : nB ≤ 6 := hinv.2.2.2.2.1
        refine lv_iload hx hb dL_law_84 (lv_at hl 5 rfl) ?_
        refine lv_iload hx hb dL_law_86 (lv_at hl 4 rfl) ?_
        refine lv_icmp_ge (tgt := 111) hx hb dL_law_88 (by decide) (fun h => absurd h (nI_ge (b := g) hlt (by omega))) (fun _ => ?_)
        refine lv_aload_n hx hb dL_law_91 rfl (lv_at hl 1 rfl) ?_
        refine lv_iconst (v := 1) hx hb dL_law_92 (by decide) ?_
        refine xcV (As := [.int 1]) (rest := []) ⟨hx, hb, hml, hown, hts⟩ (c_X3_pass l D cy h ad nS nB v.1 v.2.1 gate v.2.2 (av 0) (tw cy av tS tB ts tb tg tn) (hq + i) 1 hinv.1.1.2.2.2.2.1 (by decide) (by decide) (by omega) hcS hcB (fun j hj => (hinv.1.1.2.1 j hj).1)) (cwV 1 hts gL_law_X3_pass rfl rfl rfl (by decide +kernel) ⟨Nat.le_of_ble_eq_true rfl, Nat.le_of_ble_eq_true rfl⟩) hK hP hD hS hA rfl rfl rfl (xE_wr) rfl hl.1 rfl (Nat.le_of_ble_eq_true rfl) dL_law_93 ⟨by show C + 5 + i + 1 ≤ 606250; omega, by show N + 40 + 6 * i + 6 ≤ 7282873; omega⟩ (fun _ H locs _ hP hD hS => ?_)
        have hP : va_P D vwCl (sw cy am nS nB v.1 v.2.1 gate v.2.2 (xw cy h ad nS nB (hour1 nS nB ((hq + i) % 24) gate v).1 (hour1 nS nB ((hq + i) % 24) gate v).2.1 gate (hour1 nS nB ((hq + i) % 24) gate v).2.2 (av 0) (tw cy av tS tB ts tb tg tn))) H := hP
        have hD : va_D A (sw cy am nS nB v.1 v.2.1 gate v.2.2 (xw cy h ad nS nB (hour1 nS nB ((hq + i) % 24) gate v).1 (hour1 nS nB ((hq + i) % 24) gate v).2.1 gate (hour1 nS nB ((hq + i) % 24) gate v).2.2 (av 0) (tw cy av tS tB ts tb tg tn))) := hD
        refine W.eq (g2 := F0 m 96 ls [.int (hUnfed nS nB ((hq + i) % 24) gate v)]) (congrArg (fun z => F0 m 96 ls (.int z :: [])) (zero_add1 _)) ?_
        refine W.cs (cells' := C + 5 + (i + 1)) (slots' := N + 40 + 6 * (i + 1)) (by first | rfl | omega) (by first | rfl | omega) ?_
        refine lv_aload_n hx hb dL_law_96 rfl (lv_at hl 2 rfl) ?_
        refine xcV (As := []) (rest := [.int (hUnfed nS nB ((hq + i) % 24) gate v)]) ⟨hx, hb, hml, hown, hts⟩ (c_X4_pass l D cy am nS nB v.1 v.2.1 gate v.2.2 (hq + i) hinv.1.1 (by omega) hcS hcB) (cwV 0 hts gL_law_X4_pass rfl rfl rfl (by decide +kernel) ⟨Nat.le_of_ble_eq_true rfl, Nat.le_of_ble_eq_true rfl⟩) hK hP hD hS hA rfl rfl rfl (xE_sw) rfl hl.1 rfl (Nat.le_of_ble_eq_true rfl) dL_law_97 ⟨by show C + 5 + (i + 1) + 0 ≤ 606250; omega, by show N + 40 + 6 * (i + 1) + 0 ≤ 7282873; omega⟩ (fun _ H locs _ hP hD hS => ?_)
        have hP : va_P D vwCl (sw cy am nS nB (hour1 nS nB ((hq + i) % 24) gate v).1 (hour1 nS nB ((hq + i) % 24) gate v).2.1 gate (hour1 nS nB ((hq + i) % 24) gate v).2.2 (xw cy h ad nS nB (hour1 nS nB ((hq + i) % 24) gate v).1 (hour1 nS nB ((hq + i) % 24) gate v).2.1 gate (hour1 nS nB ((hq + i) % 24) gate v).2.2 (av 0) (tw cy av tS tB ts tb tg tn))) H := hP
        have hD : va_D A (sw cy am nS nB (hour1 nS nB ((hq + i) % 24) gate v).1 (hour1 nS nB ((hq + i) % 24) gate v).2.1 gate (hour1 nS nB ((hq + i) % 24) gate v).2.2 (xw cy h ad nS nB (hour1 nS nB ((hq + i) % 24) gate v).1 (hour1 nS nB ((hq + i) % 24) gate v).2.1 gate (hour1 nS nB ((hq + i) % 24) gate v).2.2 (av 0) (tw cy av tS tB ts tb tg tn))) := hD
        refine W.eq (g2 := F0 m 100 ls [.int (hUnfed nS nB ((hq + i) % 24) gate v), .int (hUnfed nS nB ((hq + i) % 24) gate v)]) rfl ?_
        refine W.cs (cells' := C + 5 + (i + 1) + 0) (slots' := N + 40 + 6 * (i + 1) + 0) (by first | rfl | omega) (by first | rfl | omega) ?_
        refine lv_icmp_eq (tgt := 105) hx hb dL_law_100 (by decide) (fun _ => ?_) (fun z => absurd rfl z)
        refine lv_iinc (v := (nI (i + 1))) (lv' := [(6, .int (nI (i + 1))), (0, .ref sb), (1, .ref h), (2, .ref (am 0)), (3, .int (nI t)), (5, .int (nI g))]) hx hb dL_law_105 hl (k := 5) rfl ((nI_1 i)) (by decide) rfl (fun ls hl => ?_)
        refine lv_goto (tgt := 84) hx hb dL_law_108 (by decide) ?_
        exact ih1 (i + 1) (hour1 nS nB ((hq + i) % 24) gate v) _ _ _ (by omega) (aP_hour (hq := hq + i) hinv (by omega)) hP hD hS (lv_sub hl [1, 2, 3, 4, 5, 0] rfl)
    exact loop1 g 0 v0 _ _ _ (by omega) hu2 hP hD hS (lv_sub hl [3, 4, 5, 6, 1, 0] rfl)

set_option maxHeartbeats 4000000 in
set_option maxRecDepth 100000 in
/-- the bakers behind the hour -/
theorem s_5 {p : Program} {l : Launch} {e : Env} {s : State} {m : MethodId} {below : List Frame} {meth : Method} {c : Code} {sb L : Nat} {xs : Nat → Int32} {D : va_G} {cy : Nat → ClassId} {A : Nat → Prop} {d0 : Drawn} {h : Nat} {am ad : Nat → Nat} {nS nB : Nat} {v : TS} {gate : Iu} {hq t : Nat} {C N : Nat} {av : Nat → Nat} {tS tB : Nat} {ts tb : Nat → Iu} {tg tn : Iu} {aw : Nat → Nat} (F : lF p s m meth c sb L xs D cy A d0) (hI : jInv nS nB gate hq v) (hq1 : hq ≤ 2000) (hcS : nS ≤ 4) (hcB : nB ≤ 6) (hC : C ≤ 590000) (hN : N ≤ 6990000)  (KK : lS p l e s m below meth c sb D A d0 840 [(0, .ref sb), (1, .ref h), (2, .ref (am 0)), (3, .int (nI t)), (5, .int (nI nS)), (6, .int (nI nB)), (7, .int (nI (hq % 24))), (8, .int (sm (fun i => v.1 i 0) nS)), (9, .int (sm (fun i => v.2.1 i 5) nB)), (10, .int (v.2.2 2)), (11, .int (v.2.2 5)), (12, .int (sm (fun i => v.1 i 2) nS)), (13, .ref (aw 0)), (15, .int (hUnfed nS nB (hq % 24) gate v)), (18, .int (sm (fun i => (hour1 nS nB (hq % 24) gate v).1 i 1) nS)), (23, .int ((hour1 nS nB (hq % 24) gate v).2.2 1)), (24, .int (sm (fun i => (hour1 nS nB (hq % 24) gate v).1 i 2) nS)), (25, .int (sm (fun i => (hour1 nS nB (hq % 24) gate v).1 i 1) nS)), (20, .int (sm (gtJ nS nB (hq % 24) gate v) nB)), (21, .int (sm (mJ nS nB (hq % 24) gate v) nB)), (22, .int (sm (soJ nS nB (hq % 24) gate v) nB))] (sw cy am nS nB (hour1 nS nB (hq % 24) gate v).1 (hour1 nS nB (hq % 24) gate v).2.1 gate (hour1 nS nB (hq % 24) gate v).2.2 (xw cy h ad nS nB (hour1 nS nB (hq % 24) gate v).1 (hour1 nS nB (hq % 24) gate v).2.1 gate (hour1 nS nB (hq % 24) gate v).2.2 (av 0) (tw cy av tS tB ts tb tg tn) ++ wz cy aw nB v.2.1)) (C + 100) (N + 620)) : lS p l e s m below meth c sb D A d0 526 [(0, .ref sb), (1, .ref h), (2, .ref (am 0)), (3, .int (nI t)), (5, .int (nI nS)), (6, .int (nI nB)), (7, .int (nI (hq % 24))), (8, .int (sm (fun i => v.1 i 0) nS)), (9, .int (sm (fun i => v.2.1 i 5) nB)), (10, .int (v.2.2 2)), (11, .int (v.2.2 5)), (12, .int (sm (fun i => v.1 i 2) nS)), (13, .ref (aw 0)), (15, .int (hUnfed nS nB (hq % 24) gate v)), (18, .int (sm (fun i => (hour1 nS nB (hq % 24) gate v).1 i 1) nS)), (20, .int 0), (21, .int 0), (22, .int 0), (23, .int ((hour1 nS nB (hq % 24) gate v).2.2 1)), (24, .int (sm (fun i => (hour1 nS nB (hq % 24) gate v).1 i 2) nS)), (25, .int (sm (fun i => (hour1 nS nB (hq % 24) gate v).1 i 1) nS))] (sw cy am nS nB (hour1 nS nB (hq % 24) gate v).1 (hour1 nS nB (hq % 24) gate v).2.1 gate (hour1 nS nB (hq % 24) gate v).2.2 (xw cy h ad nS nB (hour1 nS nB (hq % 24) gate v).1 (hour1 nS nB (hq % 24) gate v).2.1 gate (hour1 nS nB (hq % 24) gate v).2.2 (av 0) (tw cy av tS tB ts tb tg tn) ++ wz cy aw nB v.2.1)) (C) (N) := by
  obtain ⟨hx, hb, hts, hown, hml, hK, hX, hbl, hL, hbA, hA⟩ := id F
  intro H locs ls hP hD hS hl
  refine lv_iconst (v := 1) hx hb dL_law_526 (by decide) ?_
  refine lv_istore (lv' := [(26, .int 1), (0, .ref sb), (1, .ref h), (2, .ref (am 0)), (3, .int (nI t)), (5, .int (nI nS)), (6, .int (nI nB)), (7, .int (nI (hq % 24))), (8, .int (sm (fun i => v.1 i 0) nS)), (9, .int (sm (fun i => v.2.1 i 5) nB)), (10, .int (v.2.2 2)), (11, .int (v.2.2 5)), (12, .int (sm (fun i => v.1 i 2) nS)), (13, .ref (aw 0)), (15, .int (hUnfed nS nB (hq % 24) gate v)), (18, .int (sm (fun i => (hour1 nS nB (hq % 24) gate v).1 i 1) nS)), (20, .int 0), (21, .int 0), (22, .int 0), (23, .int ((hour1 nS nB (hq % 24) gate v).2.2 1)), (24, .int (sm (fun i => (hour1 nS nB (hq % 24) gate v).1 i 2) nS)), (25, .int (sm (fun i => (hour1 nS nB (hq % 24) gate v).1 i 1) nS))]) hx hb dL_law_527 hl (by decide) rfl (fun ls hl => ?_)
  refine lv_iconst (v := 0) hx hb dL_law_529 (by decide) ?_
  refine lv_istore (lv' := [(27, .int 0), (26, .int 1), (0, .ref sb), (1, .ref h), (2, .ref (am 0)), (3, .int (nI t)), (5, .int (nI nS)), (6, .int (nI nB)), (7, .int (nI (hq % 24))), (8, .int (sm (fun i => v.1 i 0) nS)), (9, .int (sm (fun i => v.2.1 i 5) nB)), (10, .int (v.2.2 2)), (11, .int (v.2.2 5)), (12, .int (sm (fun i => v.1 i 2) nS)), (13, .ref (aw 0)), (15, .int (hUnfed nS nB (hq % 24) gate v)), (18, .int (sm (fun i => (hour1 nS nB (hq % 24) gate v).1 i 1) nS)), (20, .int 0), (21, .int 0), (22, .int 0), (23, .int ((hour1 nS nB (hq % 24) gate v).2.2 1)), (24, .int (sm (fun i => (hour1 nS nB (hq % 24) gate v).1 i 2) nS)), (25, .int (sm (fun i => (hour1 nS nB (hq % 24) gate v).1 i 1) nS))]) hx hb dL_law_530 hl (by decide) rfl (fun ls hl => ?_)
  refine W.widen (k := C + 16 * 0) (n := N + 100 * 0) (by omega) (by omega) ?_
  have loop1 : ∀ (n j : Nat) (fi : Int32) (H : Heap) (locs : List Loc) (ls : Array Slot), j + n = nB → ((fi = 0 → ∃ i, i < j ∧ hq % 24 = 12 ∧ ¬ (hour1 nS nB (hq % 24) gate v).2.1 i 5 = 0)) → va_P D vwCl (sw cy am nS nB (hour1 nS nB (hq % 24) gate v).1 (hour1 nS nB (hq % 24) gate v).2.1 gate (hour1 nS nB (hq % 24) gate v).2.2 (xw cy h ad nS nB (hour1 nS nB (hq % 24) gate v).1 (hour1 nS nB (hq % 24) gate v).2.1 gate (hour1 nS nB (hq % 24) gate v).2.2 (av 0) (tw cy av tS tB ts tb tg tn) ++ wz cy aw nB v.2.1)) H → va_D A (sw cy am nS nB (hour1 nS nB (hq % 24) gate v).1 (hour1 nS nB (hq % 24) gate v).2.1 gate (hour1 nS nB (hq % 24) gate v).2.2 (xw cy h ad nS nB (hour1 nS nB (hq % 24) gate v).1 (hour1 nS nB (hq % 24) gate v).2.1 gate (hour1 nS nB (hq % 24) gate v).2.2 (av 0) (tw cy av tS tB ts tb tg tn) ++ wz cy aw nB v.2.1)) → va_S A s.heap H locs → lv_has ls 32 [(0, .ref sb), (1, .ref h), (2, .ref (am 0)), (3, .int (nI t)), (5, .int (nI nS)), (6, .int (nI nB)), (7, .int (nI (hq % 24))), (8, .int (sm (fun i => v.1 i 0) nS)), (9, .int (sm (fun i => v.2.1 i 5) nB)), (10, .int (v.2.2 2)), (11, .int (v.2.2 5)), (12, .int (sm (fun i => v.1 i 2) nS)), (13, .ref (aw 0)), (15, .int (hUnfed nS nB (hq % 24) gate v)), (18, .int (sm (fun i => (hour1 nS nB (hq % 24) gate v).1 i 1) nS)), (23, .int ((hour1 nS nB (hq % 24) gate v).2.2 1)), (24, .int (sm (fun i => (hour1 nS nB (hq % 24) gate v).1 i 2) nS)), (25, .int (sm (fun i => (hour1 nS nB (hq % 24) gate v).1 i 1) nS)), (20, .int (sm (gtJ nS nB (hq % 24) gate v) j)), (21, .int (sm (mJ nS nB (hq % 24) gate v) j)), (22, .int (sm (soJ nS nB (hq % 24) gate v) j)), (26, .int fi), (27, .int (nI j))] → W p l e room_1 (s.setDrawn d0) m ([.ref sb] : List Value).toArray below meth c H locs (C + 16 * j) (N + 100 * j) (lw_Z below #[Value.ref sb] s) (F0 m 532 ls []) := by
    intro n
    induction n with
    | zero =>
      intro j fi H locs ls hns hinv hP hD hS hl
      have hij : j = nB := by omega
      refine lv_iload hx hb dL_law_532 (lv_at hl 22 rfl) ?_
      refine lv_iload hx hb dL_law_534 (lv_at hl 5 rfl) ?_
      refine lv_icmp_ge (tgt := 840) hx hb dL_law_536 (by decide) (fun _ => ?_) (fun h => absurd (by rw [hij]; exact Int32.le_refl _) h)
      rw [hij] at hl
      refine W.widen (k := C + 100) (n := N + 620) (by omega) (by omega) ?_
      exact KK _ _ _ hP hD hS (lv_sub hl [0, 1, 2, 3, 4, 5, 6, 7, 8, 9, 10, 11, 12, 13, 14, 15, 16, 17, 18, 19, 20] rfl)
    | succ n ih1 =>
      intro j fi H locs ls hns hinv hP hD hS hl
      have hlt : j < nB := by omega
      refine lv_iload hx hb dL_law_532 (lv_at hl 22 rfl) ?_
      refine lv_iload hx hb dL_law_534 (lv_at hl 5 rfl) ?_
      refine lv_icmp_ge (tgt := 840) hx hb dL_law_536 (by decide) (fun h => absurd h (nI_ge (b := nB) hlt (by omega))) (fun _ => ?_)
      refine s_5a F hI hq1 hcS hcB (by omega) (by omega) hlt (s_5b F hI hq1 hcS hcB (by omega) (by omega) hlt (s_5c F hI hq1 hcS hcB (by omega) (by omega) hlt hinv (s_5d F hI hq1 hcS hcB (by omega) (by omega) hlt hinv (fun fi2 hfi2 => s_5e F hI hq1 hcS hcB (by omega) (by omega) hlt (fun H locs ls hP hD hS hl => ?_))))) _ _ _ hP hD hS (lv_sub hl [0, 1, 2, 3, 4, 5, 6, 7, 8, 9, 10, 11, 12, 13, 14, 15, 16, 17, 18, 19, 20, 21, 22] rfl)
      refine W.widen (k := C + 16 * (j + 1)) (n := N + 100 * (j + 1)) (by omega) (by omega) ?_
      exact ih1 (j + 1) fi2 _ _ _ (by omega) hfi2 hP hD hS hl
  exact loop1 nB 0 1 _ _ _ (by omega) (fun z => absurd z (by decide)) hP hD hS (lv_sub hl [2, 3, 4, 5, 6, 7, 8, 9, 10, 11, 12, 13, 14, 15, 16, 20, 21, 22, 17, 18, 19, 1, 0] rfl)
