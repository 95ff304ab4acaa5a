/-! ===== LoafMarks: calls that change and tell (laid by gen22.py) ===== -/
set_option maxHeartbeats 4000000 in
set_option maxRecDepth 100000 in
/-- isWithin -/
theorem c_X3_isWithin (l : Launch) (D : va_G) (cy : Nat → ClassId) (n a b : Int32) : xM l D cy yX3_isWithin wsX3_isWithin ({ frames := 0, cells := 0, slots := 0, locals := 0 } : Room) [.int n, .int a, .int b] (([] : va_W)) (fun _ : Unit => some (.int (wi n a b))) (fun _ => True) (fun _ => ([] : va_W)) := by
  refine xM.of cX3_isWithin 3 (some .boolean) RX3 (by decide +kernel) rfl rfl (Nat.le_of_ble_eq_true rfl) ?_
  intro p e s m below meth c A ls hx hb hr hts hown hlocks hml hin hK hA hP hD hS hl
  have hl : lv_has ls 3 [(0, .int n), (1, .int a), (2, .int b)] := hl
  refine lv_iload_n hx hb dX3_isWithin_0 rfl (lv_at hl 0 rfl) ?_
  refine lv_iload_n hx hb dX3_isWithin_1 rfl (lv_at hl 1 rfl) ?_
  refine lv_icmp_lt (tgt := 14) hx hb dX3_isWithin_2 (by decide) (fun c2 => ?_) (fun c2 => ?_)
  · refine lv_iconst (v := 0) hx hb dX3_isWithin_14 (by decide) ?_
    exact xrz () hx hb hr hlocks hS (Nat.le_of_ble_eq_true rfl) (Nat.le_of_ble_eq_true rfl) dX3_isWithin_15 (by decide) hP hD (by show some (Value.int (wi n a b)) = _; unfold wi; rw [if_neg (fun z => absurd c2 (Int32.not_lt.mpr z.1))]) trivial
  · refine lv_iload_n hx hb dX3_isWithin_5 rfl (lv_at hl 0 rfl) ?_
    refine lv_iload_n hx hb dX3_isWithin_6 rfl (lv_at hl 2 rfl) ?_
    refine lv_icmp_gt (tgt := 14) hx hb dX3_isWithin_7 (by decide) (fun c7 => ?_) (fun c7 => ?_)
    · refine lv_iconst (v := 0) hx hb dX3_isWithin_14 (by decide) ?_
      exact xrz () hx hb hr hlocks hS (Nat.le_of_ble_eq_true rfl) (Nat.le_of_ble_eq_true rfl) dX3_isWithin_15 (by decide) hP hD (by show some (Value.int (wi n a b)) = _; unfold wi; rw [if_neg (fun z => absurd c7 (Int32.not_lt.mpr z.2))]) trivial
    · refine lv_iconst (v := 1) hx hb dX3_isWithin_10 (by decide) ?_
      refine lv_goto (tgt := 15) hx hb dX3_isWithin_11 (by decide) ?_
      exact xrz () hx hb hr hlocks hS (Nat.le_of_ble_eq_true rfl) (Nat.le_of_ble_eq_true rfl) dX3_isWithin_15 (by decide) hP hD (by show some (Value.int (wi n a b)) = _; unfold wi; rw [if_pos ⟨Int32.not_lt.mp c2, Int32.not_lt.mp c7⟩]) trivial


set_option maxHeartbeats 4000000 in
set_option maxRecDepth 100000 in
/-- setPeople -/
theorem c_X3_setPeople (l : Launch) (D : va_G) (cy : Nat → ClassId) (h : Nat) (ad : Nat → Nat) (nS nB : Nat) (st bk : Nat → Iu) (gate nu : Iu) (bt : Nat) (wt : va_W) (p0 : Int32) (h1 : (0 : Int32) ≤ p0 ∧ p0 ≤ 500) : xM l D cy yX3_setPeople wsX3_setPeople ({ frames := 6, cells := 1, slots := 6, locals := 120 } : Room) [.ref h, .int p0] (xw cy h ad nS nB st bk gate nu bt wt) (fun _ : Unit => some (.int (nu 1))) (fun _ => True) (fun _ => xw cy h ad nS nB st bk gate (upd nu 1 p0) bt wt) := by
  refine xM.of cX3_setPeople 3 (some .int) RX3 (by decide +kernel) rfl rfl (Nat.le_of_ble_eq_true rfl) ?_
  intro p e s m below meth c A ls hx hb hr hts hown hlocks hml hin hK hA hP hD hS hl
  have hl : lv_has ls 3 [(0, .ref h), (1, .int p0)] := hl
  have hinX2 : ∀ w ∈ wsX20, w ∈ wsX3_setPeople := fun _ h => List.mem_cons_of_mem _ (List.mem_append_left _ (List.mem_append_right _ h))
  have hinX3 : ∀ w ∈ wsX30, w ∈ wsX3_setPeople := fun _ h => List.mem_cons_of_mem _ (List.mem_append_left _ (List.mem_append_left _ (List.mem_append_right _ h)))
  refine lv_iload_n hx hb dX3_setPeople_0 rfl (lv_at hl 1 rfl) ?_
  refine lv_iconst (v := 0) hx hb dX3_setPeople_1 (by decide) ?_
  refine lv_sipush (v := 500) hx hb dX3_setPeople_2 (by decide) ?_
  refine xcS (As := [.int p0, .int 0, .int 500]) (rest := []) ⟨hx, hb, hml, hown, hts⟩ (c_X3_isWithin l D cy p0 0 500) (va_cwS 3 hts gX3_setPeople_X3_isWithin rfl rfl rfl (by decide +kernel) ⟨Nat.le_of_ble_eq_true rfl, Nat.le_of_ble_eq_true rfl⟩) hK hP hD hS hA (xE_nil) rfl hl.1 rfl (Nat.le_of_ble_eq_true rfl) dX3_setPeople_5 ⟨Nat.le_of_ble_eq_true rfl, Nat.le_of_ble_eq_true rfl⟩ (fun _ H locs _ hP hD hS => ?_)
  have hP : va_P D vwCl (xw cy h ad nS nB st bk gate nu bt wt) H := hP
  have hD : va_D A (xw cy h ad nS nB st bk gate nu bt wt) := hD
  refine W.eq (g2 := F0 m 8 ls [.int (wi p0 0 500)]) rfl ?_
  refine lv_if_ne (tgt := 21) hx hb dX3_setPeople_8 (by decide) (fun _ => ?_) (fun z => absurd z (wi_ok h1))
  refine lv_aload_n hx hb dX3_setPeople_21 rfl (lv_at hl 0 rfl) ?_
  refine va_get (D := D) (ci := 3) (v := .ref (ad 0)) (C := RX3) (T := TX3) (N := 2) hx hb hts hinX3 hown hK.1 hP 0 rfl rfl 0 (by decide) (hts (.fieldLink RX3 10 "LoafMarks" "town" "LLoafMarks$Town;") (List.mem_of_getElem? (i := 3) rfl)) (fun _ h9 => h9) rfl dX3_setPeople_22 ?_
  refine va_get (D := D) (ci := 2) (v := .int (nu 1)) (C := RX2) (T := TX2) (N := 9) hx hb hts hinX2 hown hK.1 hP 1 rfl rfl 4 (by decide) (hts (.fieldLink RX3 30 "LoafMarks$Town" "people" "I") (List.mem_of_getElem? (i := 4) rfl)) (fun _ h9 => h9) rfl dX3_setPeople_25 ?_
  refine lv_istore_n (lv' := [(2, .int (nu 1)), (0, .ref h), (1, .int p0)]) hx hb dX3_setPeople_28 rfl hl (by decide) rfl (fun ls hl => ?_)
  refine lv_aload_n hx hb dX3_setPeople_29 rfl (lv_at hl 1 rfl) ?_
  refine va_get (D := D) (ci := 3) (v := .ref (ad 0)) (C := RX3) (T := TX3) (N := 2) hx hb hts hinX3 hown hK.1 hP 0 rfl rfl 0 (by decide) (hts (.fieldLink RX3 10 "LoafMarks" "town" "LLoafMarks$Town;") (List.mem_of_getElem? (i := 3) rfl)) (fun _ h9 => h9) rfl dX3_setPeople_30 ?_
  refine lv_iload_n hx hb dX3_setPeople_33 rfl (lv_at hl 2 rfl) ?_
  refine va_put (D := D) (ci := 2) (v := .int p0) (ty := .int) (C := RX2) (T := TX2) (N := 9) hx hb hts hinX2 tyX2 tyX2_ok nmX2 hown hK.1 hP hD hS 1 rfl rfl 4 (by decide) (hts (.fieldLink RX3 30 "LoafMarks$Town" "people" "I") (List.mem_of_getElem? (i := 4) rfl)) (fun _ h9 => h9) rfl (by decide +kernel) rfl rfl (Nat.le_of_ble_eq_true rfl) dX3_setPeople_34 (fun H locs hP hD hS => ?_)
  have hP : va_P D vwCl (xw cy h ad nS nB st bk gate (upd nu 1 p0) bt wt) H := hP
  have hD : va_D A (xw cy h ad nS nB st bk gate (upd nu 1 p0) bt wt) := hD
  refine lv_iload_n hx hb dX3_setPeople_37 rfl (lv_at hl 0 rfl) ?_
  exact xri () hx hb hr hlocks hS (Nat.le_of_ble_eq_true rfl) (Nat.le_of_ble_eq_true rfl) dX3_setPeople_38 hP hD rfl trivial

set_option maxHeartbeats 4000000 in
set_option maxRecDepth 100000 in
theorem c_X3_setPeople_1 (l : Launch) (hst : l.stackTraces = false) (D : va_G) (cy : Nat → ClassId) (sa : Nat → Nat) (h : Nat) (ad : Nat → Nat) (nS nB : Nat) (st bk : Nat → Iu) (gate nu : Iu) (bt : Nat) (wt : va_W) (p0 : Int32) (h1 : ¬ ((0 : Int32) ≤ p0 ∧ p0 ≤ 500)) : xT l D cy sa yX3_setPeople wsX3_setPeople ({ frames := 6, cells := 1, slots := 6, locals := 120 } : Room) [.ref h, .int p0] (xw cy h ad nS nB st bk gate nu bt wt) E_A := by
  refine xT.of cX3_setPeople 3 (some .int) RX3 (by decide +kernel) rfl rfl (Nat.le_of_ble_eq_true rfl) ?_
  intro p e s m below meth c A ls hx hb hr hts hown hlocks hml hin hK hA hP hD hS hV hZ htb hl
  have hl : lv_has ls 3 [(0, .ref h), (1, .int p0)] := hl
  refine lv_iload_n hx hb dX3_setPeople_0 rfl (lv_at hl 1 rfl) ?_
  refine lv_iconst (v := 0) hx hb dX3_setPeople_1 (by decide) ?_
  refine lv_sipush (v := 500) hx hb dX3_setPeople_2 (by decide) ?_
  refine xcS (As := [.int p0, .int 0, .int 500]) (rest := []) ⟨hx, hb, hml, hown, hts⟩ (c_X3_isWithin l D cy p0 0 500) (va_cwS 3 hts gX3_setPeople_X3_isWithin rfl rfl rfl (by decide +kernel) ⟨Nat.le_of_ble_eq_true rfl, Nat.le_of_ble_eq_true rfl⟩) hK hP hD hS hA (xE_nil) rfl hl.1 rfl (Nat.le_of_ble_eq_true rfl) dX3_setPeople_5 ⟨Nat.le_of_ble_eq_true rfl, Nat.le_of_ble_eq_true rfl⟩ (fun _ H locs _ hP hD hS => ?_)
  have hP : va_P D vwCl (xw cy h ad nS nB st bk gate nu bt wt) H := hP
  have hD : va_D A (xw cy h ad nS nB st bk gate nu bt wt) := hD
  refine W.eq (g2 := F0 m 8 ls [.int (wi p0 0 500)]) rfl ?_
  refine lv_if_ne (tgt := 21) hx hb dX3_setPeople_8 (by decide) (fun z => absurd (wi_no h1) z) (fun _ => ?_)
  exact xthrow (cls := E_A) (text := "people is not 0 to 500") hx hb hst hown (by decide +kernel) (hts (.classLink RX3 23 "java/lang/IllegalArgumentException") (List.mem_of_getElem? (i := 1) rfl)) (hts (.initialized "java/lang/IllegalArgumentException") (List.mem_of_getElem? (i := 2) rfl)) (List.mem_of_getElem? (i := 0) rfl) hV hZ (fun w h => hts w (List.mem_cons_of_mem _ (List.mem_append_right _ h))) xcovA xotA hS hP (hl.1.trans hml.symm) dX3_setPeople_11 dX3_setPeople_14 dX3_setPeople_15 dX3_setPeople_17 dX3_setPeople_20 htb hlocks (Nat.le_of_ble_eq_true rfl) (Nat.le_of_ble_eq_true rfl) (Nat.le_of_ble_eq_true rfl) (Nat.le_of_ble_eq_true rfl) (Nat.le_of_ble_eq_true rfl) (Nat.le_of_ble_eq_true rfl)

set_option maxHeartbeats 4000000 in
set_option maxRecDepth 100000 in
/-- setGate -/
theorem c_X3_setGate (l : Launch) (D : va_G) (cy : Nat → ClassId) (h : Nat) (ad : Nat → Nat) (nS nB : Nat) (st bk : Nat → Iu) (gate nu : Iu) (bt : Nat) (wt : va_W) (k : Nat) (hk : k < 24) (p1 : Int32) (h2 : (0 : Int32) ≤ p1 ∧ p1 ≤ 99) : xM l D cy yX3_setGate wsX3_setGate ({ frames := 6, cells := 1, slots := 6, locals := 120 } : Room) [.ref h, .int (nI k), .int p1] (xw cy h ad nS nB st bk gate nu bt wt) (fun _ : Unit => some (.int (gate k))) (fun _ => True) (fun _ => xw cy h ad nS nB st bk (upd gate k p1) nu bt wt) := by
  refine xM.of cX3_setGate 3 (some .int) RX3 (by decide +kernel) rfl rfl (Nat.le_of_ble_eq_true rfl) ?_
  intro p e s m below meth c A ls hx hb hr hts hown hlocks hml hin hK hA hP hD hS hl
  have hl : lv_has ls 3 [(0, .ref h), (1, .int (nI k)), (2, .int p1)] := hl
  have hinX3 : ∀ w ∈ wsX30, w ∈ wsX3_setGate := fun _ h => List.mem_cons_of_mem _ (List.mem_append_left _ (List.mem_append_left _ (List.mem_append_left _ (List.mem_append_right _ h))))
  refine lv_iload_n hx hb dX3_setGate_0 rfl (lv_at hl 1 rfl) ?_
  refine lv_iconst (v := 0) hx hb dX3_setGate_1 (by decide) ?_
  refine lv_bipush (v := 23) hx hb dX3_setGate_2 (by decide) ?_
  refine xcS (As := [.int (nI k), .int 0, .int 23]) (rest := []) ⟨hx, hb, hml, hown, hts⟩ (c_X3_isWithin l D cy (nI k) 0 23) (va_cwS 3 hts gX3_setGate_X3_isWithin rfl rfl rfl (by decide +kernel) ⟨Nat.le_of_ble_eq_true rfl, Nat.le_of_ble_eq_true rfl⟩) hK hP hD hS hA (xE_nil) rfl hl.1 rfl (Nat.le_of_ble_eq_true rfl) dX3_setGate_4 ⟨Nat.le_of_ble_eq_true rfl, Nat.le_of_ble_eq_true rfl⟩ (fun _ H locs _ hP hD hS => ?_)
  have hP : va_P D vwCl (xw cy h ad nS nB st bk gate nu bt wt) H := hP
  have hD : va_D A (xw cy h ad nS nB st bk gate nu bt wt) := hD
  refine W.eq (g2 := F0 m 7 ls [.int (wi (nI k) 0 23)]) rfl ?_
  refine lv_if_ne (tgt := 20) hx hb dX3_setGate_7 (by decide) (fun _ => ?_) (fun z => absurd z (wi_ok ⟨nI_pos' (n := k) (by omega), nI_le (a := k) (b := 23) (by omega) (by decide)⟩))
  refine lv_iload_n hx hb dX3_setGate_20 rfl (lv_at hl 2 rfl) ?_
  refine lv_iconst (v := 0) hx hb dX3_setGate_21 (by decide) ?_
  refine lv_bipush (v := 99) hx hb dX3_setGate_22 (by decide) ?_
  refine xcS (As := [.int p1, .int 0, .int 99]) (rest := []) ⟨hx, hb, hml, hown, hts⟩ (c_X3_isWithin l D cy p1 0 99) (va_cwS 3 hts gX3_setGate_X3_isWithin rfl rfl rfl (by decide +kernel) ⟨Nat.le_of_ble_eq_true rfl, Nat.le_of_ble_eq_true rfl⟩) hK hP hD hS hA (xE_nil) rfl hl.1 rfl (Nat.le_of_ble_eq_true rfl) dX3_setGate_24 ⟨Nat.le_of_ble_eq_true rfl, Nat.le_of_ble_eq_true rfl⟩ (fun _ H locs _ hP hD hS => ?_)
  have hP : va_P D vwCl (xw cy h ad nS nB st bk gate nu bt wt) H := hP
  have hD : va_D A (xw cy h ad nS nB st bk gate nu bt wt) := hD
  refine W.eq (g2 := F0 m 27 ls [.int (wi p1 0 99)]) rfl ?_
  refine lv_if_ne (tgt := 40) hx hb dX3_setGate_27 (by decide) (fun _ => ?_) (fun z => absurd z (wi_ok h2))
  refine lv_aload_n hx hb dX3_setGate_40 rfl (lv_at hl 0 rfl) ?_
  refine va_get (D := D) (ci := 3) (v := .ref (ad 0)) (C := RX3) (T := TX3) (N := 2) hx hb hts hinX3 hown hK.1 hP 0 rfl rfl 0 (by decide) (hts (.fieldLink RX3 10 "LoafMarks" "town" "LLoafMarks$Town;") (List.mem_of_getElem? (i := 5) rfl)) (fun _ h9 => h9) rfl dX3_setGate_41 ?_
  refine lv_iload_n hx hb dX3_setGate_44 rfl (lv_at hl 1 rfl) ?_
  refine lv_iload_n hx hb dX3_setGate_45 rfl (lv_at hl 2 rfl) ?_
  refine xcV (As := [.int (nI k), .int p1]) (rest := []) ⟨hx, hb, hml, hown, hts⟩ (c_X2_changeGate l D cy ad nS nB st bk gate nu k (by omega) p1) (cwV 2 hts gX3_setGate_X2_changeGate rfl rfl rfl (by decide +kernel) ⟨Nat.le_of_ble_eq_true rfl, Nat.le_of_ble_eq_true rfl⟩) hK hP hD hS hA rfl rfl rfl (xE_town) rfl hl.1 rfl (Nat.le_of_ble_eq_true rfl) dX3_setGate_46 ⟨Nat.le_of_ble_eq_true rfl, Nat.le_of_ble_eq_true rfl⟩ (fun _ H locs _ hP hD hS => ?_)
  have hP : va_P D vwCl (xw cy h ad nS nB st bk (upd gate k p1) nu bt wt) H := hP
  have hD : va_D A (xw cy h ad nS nB st bk (upd gate k p1) nu bt wt) := hD
  refine W.eq (g2 := F0 m 49 ls [.int (gate k)]) rfl ?_
  exact xri () hx hb hr hlocks hS (Nat.le_of_ble_eq_true rfl) (Nat.le_of_ble_eq_true rfl) dX3_setGate_49 hP hD rfl trivial

set_option maxHeartbeats 4000000 in
set_option maxRecDepth 100000 in
theorem c_X3_setGate_1 (l : Launch) (hst : l.stackTraces = false) (D : va_G) (cy : Nat → ClassId) (sa : Nat → Nat) (h : Nat) (ad : Nat → Nat) (nS nB : Nat) (st bk : Nat → Iu) (gate nu : Iu) (bt : Nat) (wt : va_W) (p0 p1 : Int32) (h1 : ¬ ((0 : Int32) ≤ p0 ∧ p0 ≤ 23)) : xT l D cy sa yX3_setGate wsX3_setGate ({ frames := 6, cells := 1, slots := 6, locals := 120 } : Room) [.ref h, .int p0, .int p1] (xw cy h ad nS nB st bk gate nu bt wt) E_I := by
  refine xT.of cX3_setGate 3 (some .int) RX3 (by decide +kernel) rfl rfl (Nat.le_of_ble_eq_true rfl) ?_
  intro p e s m below meth c A ls hx hb hr hts hown hlocks hml hin hK hA hP hD hS hV hZ htb hl
  have hl : lv_has ls 3 [(0, .ref h), (1, .int p0), (2, .int p1)] := hl
  refine lv_iload_n hx hb dX3_setGate_0 rfl (lv_at hl 1 rfl) ?_
  refine lv_iconst (v := 0) hx hb dX3_setGate_1 (by decide) ?_
  refine lv_bipush (v := 23) hx hb dX3_setGate_2 (by decide) ?_
  refine xcS (As := [.int p0, .int 0, .int 23]) (rest := []) ⟨hx, hb, hml, hown, hts⟩ (c_X3_isWithin l D cy p0 0 23) (va_cwS 3 hts gX3_setGate_X3_isWithin rfl rfl rfl (by decide +kernel) ⟨Nat.le_of_ble_eq_true rfl, Nat.le_of_ble_eq_true rfl⟩) hK hP hD hS hA (xE_nil) rfl hl.1 rfl (Nat.le_of_ble_eq_true rfl) dX3_setGate_4 ⟨Nat.le_of_ble_eq_true rfl, Nat.le_of_ble_eq_true rfl⟩ (fun _ H locs _ hP hD hS => ?_)
  have hP : va_P D vwCl (xw cy h ad nS nB st bk gate nu bt wt) H := hP
  have hD : va_D A (xw cy h ad nS nB st bk gate nu bt wt) := hD
  refine W.eq (g2 := F0 m 7 ls [.int (wi p0 0 23)]) rfl ?_
  refine lv_if_ne (tgt := 20) hx hb dX3_setGate_7 (by decide) (fun z => absurd (wi_no h1) z) (fun _ => ?_)
  exact xthrow (cls := E_I) (text := "hour is not 0 to 23") hx hb hst hown (by decide +kernel) (hts (.classLink RX3 34 "java/lang/IndexOutOfBoundsException") (List.mem_of_getElem? (i := 1) rfl)) (hts (.initialized "java/lang/IndexOutOfBoundsException") (List.mem_of_getElem? (i := 2) rfl)) (List.mem_of_getElem? (i := 1) rfl) hV hZ (fun w h => hts w (List.mem_cons_of_mem _ (List.mem_append_left _ (List.mem_append_right _ h)))) xcovI xotI hS hP (hl.1.trans hml.symm) dX3_setGate_10 dX3_setGate_13 dX3_setGate_14 dX3_setGate_16 dX3_setGate_19 htb hlocks (Nat.le_of_ble_eq_true rfl) (Nat.le_of_ble_eq_true rfl) (Nat.le_of_ble_eq_true rfl) (Nat.le_of_ble_eq_true rfl) (Nat.le_of_ble_eq_true rfl) (Nat.le_of_ble_eq_true rfl)

set_option maxHeartbeats 4000000 in
set_option maxRecDepth 100000 in
theorem c_X3_setGate_2 (l : Launch) (hst : l.stackTraces = false) (D : va_G) (cy : Nat → ClassId) (sa : Nat → Nat) (h : Nat) (ad : Nat → Nat) (nS nB : Nat) (st bk : Nat → Iu) (gate nu : Iu) (bt : Nat) (wt : va_W) (p0 p1 : Int32) (h1 : (0 : Int32) ≤ p0 ∧ p0 ≤ 23) (h2 : ¬ ((0 : Int32) ≤ p1 ∧ p1 ≤ 99)) : xT l D cy sa yX3_setGate wsX3_setGate ({ frames := 6, cells := 1, slots := 6, locals := 120 } : Room) [.ref h, .int p0, .int p1] (xw cy h ad nS nB st bk gate nu bt wt) E_A := by
  refine xT.of cX3_setGate 3 (some .int) RX3 (by decide +kernel) rfl rfl (Nat.le_of_ble_eq_true rfl) ?_
  intro p e s m below meth c A ls hx hb hr hts hown hlocks hml hin hK hA hP hD hS hV hZ htb hl
  have hl : lv_has ls 3 [(0, .ref h), (1, .int p0), (2, .int p1)] := hl
  refine lv_iload_n hx hb dX3_setGate_0 rfl (lv_at hl 1 rfl) ?_
  refine lv_iconst (v := 0) hx hb dX3_setGate_1 (by decide) ?_
  refine lv_bipush (v := 23) hx hb dX3_setGate_2 (by decide) ?_
  refine xcS (As := [.int p0, .int 0, .int 23]) (rest := []) ⟨hx, hb, hml, hown, hts⟩ (c_X3_isWithin l D cy p0 0 23) (va_cwS 3 hts gX3_setGate_X3_isWithin rfl rfl rfl (by decide +kernel) ⟨Nat.le_of_ble_eq_true rfl, Nat.le_of_ble_eq_true rfl⟩) hK hP hD hS hA (xE_nil) rfl hl.1 rfl (Nat.le_of_ble_eq_true rfl) dX3_setGate_4 ⟨Nat.le_of_ble_eq_true rfl, Nat.le_of_ble_eq_true rfl⟩ (fun _ H locs _ hP hD hS => ?_)
  have hP : va_P D vwCl (xw cy h ad nS nB st bk gate nu bt wt) H := hP
  have hD : va_D A (xw cy h ad nS nB st bk gate nu bt wt) := hD
  refine W.eq (g2 := F0 m 7 ls [.int (wi p0 0 23)]) rfl ?_
  refine lv_if_ne (tgt := 20) hx hb dX3_setGate_7 (by decide) (fun _ => ?_) (fun z => absurd z (wi_ok h1))
  refine lv_iload_n hx hb dX3_setGate_20 rfl (lv_at hl 2 rfl) ?_
  refine lv_iconst (v := 0) hx hb dX3_setGate_21 (by decide) ?_
  refine lv_bipush (v := 99) hx hb dX3_setGate_22 (by decide) ?_
  refine xcS (As := [.int p1, .int 0, .int 99]) (rest := []) ⟨hx, hb, hml, hown, hts⟩ (c_X3_isWithin l D cy p1 0 99) (va_cwS 3 hts gX3_setGate_X3_isWithin rfl rfl rfl (by decide +kernel) ⟨Nat.le_of_ble_eq_true rfl, Nat.le_of_ble_eq_true rfl⟩) hK hP hD hS hA (xE_nil) rfl hl.1 rfl (Nat.le_of_ble_eq_true rfl) dX3_setGate_24 ⟨Nat.le_of_ble_eq_true rfl, Nat.le_of_ble_eq_true rfl⟩ (fun _ H locs _ hP hD hS => ?_)
  have hP : va_P D vwCl (xw cy h ad nS nB st bk gate nu bt wt) H := hP
  have hD : va_D A (xw cy h ad nS nB st bk gate nu bt wt) := hD
  refine W.eq (g2 := F0 m 27 ls [.int (wi p1 0 99)]) rfl ?_
  refine lv_if_ne (tgt := 40) hx hb dX3_setGate_27 (by decide) (fun z => absurd (wi_no h2) z) (fun _ => ?_)
  exact xthrow (cls := E_A) (text := "flour is not 0 to 99") hx hb hst hown (by decide +kernel) (hts (.classLink RX3 23 "java/lang/IllegalArgumentException") (List.mem_of_getElem? (i := 3) rfl)) (hts (.initialized "java/lang/IllegalArgumentException") (List.mem_of_getElem? (i := 4) rfl)) (List.mem_of_getElem? (i := 2) rfl) hV hZ (fun w h => hts w (List.mem_cons_of_mem _ (List.mem_append_right _ h))) xcovA xotA hS hP (hl.1.trans hml.symm) dX3_setGate_30 dX3_setGate_33 dX3_setGate_34 dX3_setGate_36 dX3_setGate_39 htb hlocks (Nat.le_of_ble_eq_true rfl) (Nat.le_of_ble_eq_true rfl) (Nat.le_of_ble_eq_true rfl) (Nat.le_of_ble_eq_true rfl) (Nat.le_of_ble_eq_true rfl) (Nat.le_of_ble_eq_true rfl)

set_option maxHeartbeats 4000000 in
set_option maxRecDepth 100000 in
/-- open -/
theorem c_X3_open (l : Launch) (D : va_G) (cy : Nat → ClassId) (h : Nat) (ad : Nat → Nat) (nS nB : Nat) (st bk : Nat → Iu) (gate nu : Iu) (bt : Nat) (wt : va_W) (p0 p1 : Int32) (h1 : (0 : Int32) ≤ p0 ∧ p0 ≤ 900) (h2 : (0 : Int32) ≤ p1 ∧ p1 ≤ 50) (hroom : nS < 4) : xM l D cy yX3_open wsX3_open ({ frames := 6, cells := 2, slots := 9, locals := 120 } : Room) [.ref h, .int p0, .int p1] (xw cy h ad nS nB st bk gate nu bt wt) (fun _ : Nat => some (.int (nI nS))) (fun _ => True) (fun q => xw cy h (va_up ad (4 + nS) q) (nS + 1) nB (va_up st nS (newS p0 p1)) bk gate nu bt wt) := by
  refine xM.of cX3_open 4 (some .int) RX3 (by decide +kernel) rfl rfl (Nat.le_of_ble_eq_true rfl) ?_
  intro p e s m below meth c A ls hx hb hr hts hown hlocks hml hin hK hA hP hD hS hl
  have hl : lv_has ls 4 [(0, .ref h), (1, .int p0), (2, .int p1)] := hl
  have hinX3 : ∀ w ∈ wsX30, w ∈ wsX3_open := fun _ h => List.mem_cons_of_mem _ (List.mem_append_left _ (List.mem_append_left _ (List.mem_append_left _ (List.mem_append_left _ (List.mem_append_right _ h)))))
  refine lv_iload_n hx hb dX3_open_0 rfl (lv_at hl 1 rfl) ?_
  refine lv_iconst (v := 0) hx hb dX3_open_1 (by decide) ?_
  refine lv_sipush (v := 900) hx hb dX3_open_2 (by decide) ?_
  refine xcS (As := [.int p0, .int 0, .int 900]) (rest := []) ⟨hx, hb, hml, hown, hts⟩ (c_X3_isWithin l D cy p0 0 900) (va_cwS 3 hts gX3_open_X3_isWithin rfl rfl rfl (by decide +kernel) ⟨Nat.le_of_ble_eq_true rfl, Nat.le_of_ble_eq_true rfl⟩) hK hP hD hS hA (xE_nil) rfl hl.1 rfl (Nat.le_of_ble_eq_true rfl) dX3_open_5 ⟨Nat.le_of_ble_eq_true rfl, Nat.le_of_ble_eq_true rfl⟩ (fun _ H locs _ hP hD hS => ?_)
  have hP : va_P D vwCl (xw cy h ad nS nB st bk gate nu bt wt) H := hP
  have hD : va_D A (xw cy h ad nS nB st bk gate nu bt wt) := hD
  refine W.eq (g2 := F0 m 8 ls [.int (wi p0 0 900)]) rfl ?_
  refine lv_if_ne (tgt := 21) hx hb dX3_open_8 (by decide) (fun _ => ?_) (fun z => absurd z (wi_ok h1))
  refine lv_iload_n hx hb dX3_open_21 rfl (lv_at hl 2 rfl) ?_
  refine lv_iconst (v := 0) hx hb dX3_open_22 (by decide) ?_
  refine lv_bipush (v := 50) hx hb dX3_open_23 (by decide) ?_
  refine xcS (As := [.int p1, .int 0, .int 50]) (rest := []) ⟨hx, hb, hml, hown, hts⟩ (c_X3_isWithin l D cy p1 0 50) (va_cwS 3 hts gX3_open_X3_isWithin rfl rfl rfl (by decide +kernel) ⟨Nat.le_of_ble_eq_true rfl, Nat.le_of_ble_eq_true rfl⟩) hK hP hD hS hA (xE_nil) rfl hl.1 rfl (Nat.le_of_ble_eq_true rfl) dX3_open_25 ⟨Nat.le_of_ble_eq_true rfl, Nat.le_of_ble_eq_true rfl⟩ (fun _ H locs _ hP hD hS => ?_)
  have hP : va_P D vwCl (xw cy h ad nS nB st bk gate nu bt wt) H := hP
  have hD : va_D A (xw cy h ad nS nB st bk gate nu bt wt) := hD
  refine W.eq (g2 := F0 m 28 ls [.int (wi p1 0 50)]) rfl ?_
  refine lv_if_ne (tgt := 41) hx hb dX3_open_28 (by decide) (fun _ => ?_) (fun z => absurd z (wi_ok h2))
  refine lv_aload_n hx hb dX3_open_41 rfl (lv_at hl 0 rfl) ?_
  refine va_get (D := D) (ci := 3) (v := .ref (ad 0)) (C := RX3) (T := TX3) (N := 2) hx hb hts hinX3 hown hK.1 hP 0 rfl rfl 0 (by decide) (hts (.fieldLink RX3 10 "LoafMarks" "town" "LLoafMarks$Town;") (List.mem_of_getElem? (i := 5) rfl)) (fun _ h9 => h9) rfl dX3_open_42 ?_
  refine lv_iload_n hx hb dX3_open_45 rfl (lv_at hl 1 rfl) ?_
  refine lv_iload_n hx hb dX3_open_46 rfl (lv_at hl 2 rfl) ?_
  refine xcV (As := [.int p0, .int p1]) (rest := []) ⟨hx, hb, hml, hown, hts⟩ (c_X2_addStore l D cy ad nS nB st bk gate nu p0 p1 hroom) (cwV 2 hts gX3_open_X2_addStore rfl rfl rfl (by decide +kernel) ⟨Nat.le_of_ble_eq_true rfl, Nat.le_of_ble_eq_true rfl⟩) hK hP hD hS hA rfl rfl rfl (xE_town) rfl hl.1 rfl (Nat.le_of_ble_eq_true rfl) dX3_open_47 ⟨Nat.le_of_ble_eq_true rfl, Nat.le_of_ble_eq_true rfl⟩ (fun q H locs _ hP hD hS => ?_)
  have hP : va_P D vwCl (xw cy h (va_up ad (4 + nS) q) (nS + 1) nB (va_up st nS (newS p0 p1)) bk gate nu bt wt) H := by unfold xw; rw [up_ne (by omega)]; exact hP
  have hD : va_D A (xw cy h (va_up ad (4 + nS) q) (nS + 1) nB (va_up st nS (newS p0 p1)) bk gate nu bt wt) := by unfold xw; rw [up_ne (by omega)]; exact hD
  refine W.eq (g2 := F0 m 50 ls [.int (nI nS)]) rfl ?_
  refine lv_istore_n (lv' := [(3, .int (nI nS)), (0, .ref h), (1, .int p0), (2, .int p1)]) hx hb dX3_open_50 rfl hl (by decide) rfl (fun ls hl => ?_)
  refine lv_iload_n hx hb dX3_open_51 rfl (lv_at hl 0 rfl) ?_
  refine lv_if_ge (tgt := 65) hx hb dX3_open_52 (by decide) (fun _ => ?_) (fun h => absurd (nI_pos' (by omega)) h)
  refine lv_iload_n hx hb dX3_open_65 rfl (lv_at hl 0 rfl) ?_
  exact xri q hx hb hr hlocks hS (Nat.le_of_ble_eq_true rfl) (Nat.le_of_ble_eq_true rfl) dX3_open_66 hP hD rfl trivial

set_option maxHeartbeats 4000000 in
set_option maxRecDepth 100000 in
theorem c_X3_open_1a (l : Launch) (hst : l.stackTraces = false) (D : va_G) (cy : Nat → ClassId) (sa : Nat → Nat) (h : Nat) (ad : Nat → Nat) (nS nB : Nat) (st bk : Nat → Iu) (gate nu : Iu) (bt : Nat) (wt : va_W) (p0 p1 : Int32) (h1 : ¬ ((0 : Int32) ≤ p0 ∧ p0 ≤ 900)) : xT l D cy sa yX3_open wsX3_open ({ frames := 6, cells := 2, slots := 9, locals := 120 } : Room) [.ref h, .int p0, .int p1] (xw cy h ad nS nB st bk gate nu bt wt) E_A := by
  refine xT.of cX3_open 4 (some .int) RX3 (by decide +kernel) rfl rfl (Nat.le_of_ble_eq_true rfl) ?_
  intro p e s m below meth c A ls hx hb hr hts hown hlocks hml hin hK hA hP hD hS hV hZ htb hl
  have hl : lv_has ls 4 [(0, .ref h), (1, .int p0), (2, .int p1)] := hl
  refine lv_iload_n hx hb dX3_open_0 rfl (lv_at hl 1 rfl) ?_
  refine lv_iconst (v := 0) hx hb dX3_open_1 (by decide) ?_
  refine lv_sipush (v := 900) hx hb dX3_open_2 (by decide) ?_
  refine xcS (As := [.int p0, .int 0, .int 900]) (rest := []) ⟨hx, hb, hml, hown, hts⟩ (c_X3_isWithin l D cy p0 0 900) (va_cwS 3 hts gX3_open_X3_isWithin rfl rfl rfl (by decide +kernel) ⟨Nat.le_of_ble_eq_true rfl, Nat.le_of_ble_eq_true rfl⟩) hK hP hD hS hA (xE_nil) rfl hl.1 rfl (Nat.le_of_ble_eq_true rfl) dX3_open_5 ⟨Nat.le_of_ble_eq_true rfl, Nat.le_of_ble_eq_true rfl⟩ (fun _ H locs _ hP hD hS => ?_)
  have hP : va_P D vwCl (xw cy h ad nS nB st bk gate nu bt wt) H := hP
  have hD : va_D A (xw cy h ad nS nB st bk gate nu bt wt) := hD
  refine W.eq (g2 := F0 m 8 ls [.int (wi p0 0 900)]) rfl ?_
  refine lv_if_ne (tgt := 21) hx hb dX3_open_8 (by decide) (fun z => absurd (wi_no h1) z) (fun _ => ?_)
  exact xthrow (cls := E_A) (text := "flour is not 0 to 900") hx hb hst hown (by decide +kernel) (hts (.classLink RX3 23 "java/lang/IllegalArgumentException") (List.mem_of_getElem? (i := 1) rfl)) (hts (.initialized "java/lang/IllegalArgumentException") (List.mem_of_getElem? (i := 2) rfl)) (List.mem_of_getElem? (i := 3) rfl) hV hZ (fun w h => hts w (List.mem_cons_of_mem _ (List.mem_append_left _ (List.mem_append_right _ h)))) xcovA xotA hS hP (hl.1.trans hml.symm) dX3_open_11 dX3_open_14 dX3_open_15 dX3_open_17 dX3_open_20 htb hlocks (Nat.le_of_ble_eq_true rfl) (Nat.le_of_ble_eq_true rfl) (Nat.le_of_ble_eq_true rfl) (Nat.le_of_ble_eq_true rfl) (Nat.le_of_ble_eq_true rfl) (Nat.le_of_ble_eq_true rfl)

set_option maxHeartbeats 4000000 in
set_option maxRecDepth 100000 in
theorem c_X3_open_1b (l : Launch) (hst : l.stackTraces = false) (D : va_G) (cy : Nat → ClassId) (sa : Nat → Nat) (h : Nat) (ad : Nat → Nat) (nS nB : Nat) (st bk : Nat → Iu) (gate nu : Iu) (bt : Nat) (wt : va_W) (p0 p1 : Int32) (h1 : (0 : Int32) ≤ p0 ∧ p0 ≤ 900) (h2 : ¬ ((0 : Int32) ≤ p1 ∧ p1 ≤ 50)) : xT l D cy sa yX3_open wsX3_open ({ frames := 6, cells := 2, slots := 9, locals := 120 } : Room) [.ref h, .int p0, .int p1] (xw cy h ad nS nB st bk gate nu bt wt) E_A := by
  refine xT.of cX3_open 4 (some .int) RX3 (by decide +kernel) rfl rfl (Nat.le_of_ble_eq_true rfl) ?_
  intro p e s m below meth c A ls hx hb hr hts hown hlocks hml hin hK hA hP hD hS hV hZ htb hl
  have hl : lv_has ls 4 [(0, .ref h), (1, .int p0), (2, .int p1)] := hl
  refine lv_iload_n hx hb dX3_open_0 rfl (lv_at hl 1 rfl) ?_
  refine lv_iconst (v := 0) hx hb dX3_open_1 (by decide) ?_
  refine lv_sipush (v := 900) hx hb dX3_open_2 (by decide) ?_
  refine xcS (As := [.int p0, .int 0, .int 900]) (rest := []) ⟨hx, hb, hml, hown, hts⟩ (c_X3_isWithin l D cy p0 0 900) (va_cwS 3 hts gX3_open_X3_isWithin rfl rfl rfl (by decide +kernel) ⟨Nat.le_of_ble_eq_true rfl, Nat.le_of_ble_eq_true rfl⟩) hK hP hD hS hA (xE_nil) rfl hl.1 rfl (Nat.le_of_ble_eq_true rfl) dX3_open_5 ⟨Nat.le_of_ble_eq_true rfl, Nat.le_of_ble_eq_true rfl⟩ (fun _ H locs _ hP hD hS => ?_)
  have hP : va_P D vwCl (xw cy h ad nS nB st bk gate nu bt wt) H := hP
  have hD : va_D A (xw cy h ad nS nB st bk gate nu bt wt) := hD
  refine W.eq (g2 := F0 m 8 ls [.int (wi p0 0 900)]) rfl ?_
  refine lv_if_ne (tgt := 21) hx hb dX3_open_8 (by decide) (fun _ => ?_) (fun z => absurd z (wi_ok h1))
  refine lv_iload_n hx hb dX3_open_21 rfl (lv_at hl 2 rfl) ?_
  refine lv_iconst (v := 0) hx hb dX3_open_22 (by decide) ?_
  refine lv_bipush (v := 50) hx hb dX3_open_23 (by decide) ?_
  refine xcS (As := [.int p1, .int 0, .int 50]) (rest := []) ⟨hx, hb, hml, hown, hts⟩ (c_X3_isWithin l D cy p1 0 50) (va_cwS 3 hts gX3_open_X3_isWithin rfl rfl rfl (by decide +kernel) ⟨Nat.le_of_ble_eq_true rfl, Nat.le_of_ble_eq_true rfl⟩) hK hP hD hS hA (xE_nil) rfl hl.1 rfl (Nat.le_of_ble_eq_true rfl) dX3_open_25 ⟨Nat.le_of_ble_eq_true rfl, Nat.le_of_ble_eq_true rfl⟩ (fun _ H locs _ hP hD hS => ?_)
  have hP : va_P D vwCl (xw cy h ad nS nB st bk gate nu bt wt) H := hP
  have hD : va_D A (xw cy h ad nS nB st bk gate nu bt wt) := hD
  refine W.eq (g2 := F0 m 28 ls [.int (wi p1 0 50)]) rfl ?_
  refine lv_if_ne (tgt := 41) hx hb dX3_open_28 (by decide) (fun z => absurd (wi_no h2) z) (fun _ => ?_)
  exact xthrow (cls := E_A) (text := "weevils is not 0 to 50") hx hb hst hown (by decide +kernel) (hts (.classLink RX3 23 "java/lang/IllegalArgumentException") (List.mem_of_getElem? (i := 1) rfl)) (hts (.initialized "java/lang/IllegalArgumentException") (List.mem_of_getElem? (i := 2) rfl)) (List.mem_of_getElem? (i := 4) rfl) hV hZ (fun w h => hts w (List.mem_cons_of_mem _ (List.mem_append_left _ (List.mem_append_right _ h)))) xcovA xotA hS hP (hl.1.trans hml.symm) dX3_open_31 dX3_open_34 dX3_open_35 dX3_open_37 dX3_open_40 htb hlocks (Nat.le_of_ble_eq_true rfl) (Nat.le_of_ble_eq_true rfl) (Nat.le_of_ble_eq_true rfl) (Nat.le_of_ble_eq_true rfl) (Nat.le_of_ble_eq_true rfl) (Nat.le_of_ble_eq_true rfl)

set_option maxHeartbeats 4000000 in
set_option maxRecDepth 100000 in
theorem c_X3_open_2 (l : Launch) (hst : l.stackTraces = false) (D : va_G) (cy : Nat → ClassId) (sa : Nat → Nat) (h : Nat) (ad : Nat → Nat) (nS nB : Nat) (st bk : Nat → Iu) (gate nu : Iu) (bt : Nat) (wt : va_W) (p0 p1 : Int32) (h1 : (0 : Int32) ≤ p0 ∧ p0 ≤ 900) (h2 : (0 : Int32) ≤ p1 ∧ p1 ≤ 50) (hfull : nS = 4) : xT l D cy sa yX3_open wsX3_open ({ frames := 6, cells := 2, slots := 9, locals := 120 } : Room) [.ref h, .int p0, .int p1] (xw cy h ad nS nB st bk gate nu bt wt) E_S := by
  refine xT.of cX3_open 4 (some .int) RX3 (by decide +kernel) rfl rfl (Nat.le_of_ble_eq_true rfl) ?_
  intro p e s m below meth c A ls hx hb hr hts hown hlocks hml hin hK hA hP hD hS hV hZ htb hl
  have hl : lv_has ls 4 [(0, .ref h), (1, .int p0), (2, .int p1)] := hl
  have hinX3 : ∀ w ∈ wsX30, w ∈ wsX3_open := fun _ h => List.mem_cons_of_mem _ (List.mem_append_left _ (List.mem_append_left _ (List.mem_append_left _ (List.mem_append_left _ (List.mem_append_right _ h)))))
  refine lv_iload_n hx hb dX3_open_0 rfl (lv_at hl 1 rfl) ?_
  refine lv_iconst (v := 0) hx hb dX3_open_1 (by decide) ?_
  refine lv_sipush (v := 900) hx hb dX3_open_2 (by decide) ?_
  refine xcS (As := [.int p0, .int 0, .int 900]) (rest := []) ⟨hx, hb, hml, hown, hts⟩ (c_X3_isWithin l D cy p0 0 900) (va_cwS 3 hts gX3_open_X3_isWithin rfl rfl rfl (by decide +kernel) ⟨Nat.le_of_ble_eq_true rfl, Nat.le_of_ble_eq_true rfl⟩) hK hP hD hS hA (xE_nil) rfl hl.1 rfl (Nat.le_of_ble_eq_true rfl) dX3_open_5 ⟨Nat.le_of_ble_eq_true rfl, Nat.le_of_ble_eq_true rfl⟩ (fun _ H locs _ hP hD hS => ?_)
  have hP : va_P D vwCl (xw cy h ad nS nB st bk gate nu bt wt) H := hP
  have hD : va_D A (xw cy h ad nS nB st bk gate nu bt wt) := hD
  refine W.eq (g2 := F0 m 8 ls [.int (wi p0 0 900)]) rfl ?_
  refine lv_if_ne (tgt := 21) hx hb dX3_open_8 (by decide) (fun _ => ?_) (fun z => absurd z (wi_ok h1))
  refine lv_iload_n hx hb dX3_open_21 rfl (lv_at hl 2 rfl) ?_
  refine lv_iconst (v := 0) hx hb dX3_open_22 (by decide) ?_
  refine lv_bipush (v := 50) hx hb dX3_open_23 (by decide) ?_
  refine xcS (As := [.int p1, .int 0, .int 50]) (rest := []) ⟨hx, hb, hml, hown, hts⟩ (c_X3_isWithin l D cy p1 0 50) (va_cwS 3 hts gX3_open_X3_isWithin rfl rfl rfl (by decide +kernel) ⟨Nat.le_of_ble_eq_true rfl, Nat.le_of_ble_eq_true rfl⟩) hK hP hD hS hA (xE_nil) rfl hl.1 rfl (Nat.le_of_ble_eq_true rfl) dX3_open_25 ⟨Nat.le_of_ble_eq_true rfl, Nat.le_of_ble_eq_true rfl⟩ (fun _ H locs _ hP hD hS => ?_)
  have hP : va_P D vwCl (xw cy h ad nS nB st bk gate nu bt wt) H := hP
  have hD : va_D A (xw cy h ad nS nB st bk gate nu bt wt) := hD
  refine W.eq (g2 := F0 m 28 ls [.int (wi p1 0 50)]) rfl ?_
  refine lv_if_ne (tgt := 41) hx hb dX3_open_28 (by decide) (fun _ => ?_) (fun z => absurd z (wi_ok h2))
  refine lv_aload_n hx hb dX3_open_41 rfl (lv_at hl 0 rfl) ?_
  refine va_get (D := D) (ci := 3) (v := .ref (ad 0)) (C := RX3) (T := TX3) (N := 2) hx hb hts hinX3 hown hK.1 hP 0 rfl rfl 0 (by decide) (hts (.fieldLink RX3 10 "LoafMarks" "town" "LLoafMarks$Town;") (List.mem_of_getElem? (i := 5) rfl)) (fun _ h9 => h9) rfl dX3_open_42 ?_
  refine lv_iload_n hx hb dX3_open_45 rfl (lv_at hl 1 rfl) ?_
  refine lv_iload_n hx hb dX3_open_46 rfl (lv_at hl 2 rfl) ?_
  refine xcV (As := [.int p0, .int p1]) (rest := []) ⟨hx, hb, hml, hown, hts⟩ (c_X2_addStore_full l D cy ad nS nB st bk gate nu p0 p1 hfull) (cwV 2 hts gX3_open_X2_addStore rfl rfl rfl (by decide +kernel) ⟨Nat.le_of_ble_eq_true rfl, Nat.le_of_ble_eq_true rfl⟩) hK hP hD hS hA rfl rfl rfl (xE_town) rfl hl.1 rfl (Nat.le_of_ble_eq_true rfl) dX3_open_47 ⟨Nat.le_of_ble_eq_true rfl, Nat.le_of_ble_eq_true rfl⟩ (fun _ H locs _ hP hD hS => ?_)
  have hP : va_P D vwCl (xw cy h ad nS nB st bk gate nu bt wt) H := hP
  have hD : va_D A (xw cy h ad nS nB st bk gate nu bt wt) := hD
  refine W.eq (g2 := F0 m 50 ls [.int (-1)]) rfl ?_
  refine lv_istore_n (lv' := [(3, .int (-1)), (0, .ref h), (1, .int p0), (2, .int p1)]) hx hb dX3_open_50 rfl hl (by decide) rfl (fun ls hl => ?_)
  refine lv_iload_n hx hb dX3_open_51 rfl (lv_at hl 0 rfl) ?_
  refine lv_if_ge (tgt := 65) hx hb dX3_open_52 (by decide) (fun h => absurd h (by decide)) (fun _ => ?_)
  exact xthrow (cls := E_S) (text := "there are 4 stores") hx hb hst hown (by decide +kernel) (hts (.classLink RX3 52 "java/lang/IllegalStateException") (List.mem_of_getElem? (i := 3) rfl)) (hts (.initialized "java/lang/IllegalStateException") (List.mem_of_getElem? (i := 4) rfl)) (List.mem_of_getElem? (i := 5) rfl) hV hZ (fun w h => hts w (List.mem_cons_of_mem _ (List.mem_append_right _ h))) xcovS xotS hS hP (hl.1.trans hml.symm) dX3_open_55 dX3_open_58 dX3_open_59 dX3_open_61 dX3_open_64 htb hlocks (Nat.le_of_ble_eq_true rfl) (Nat.le_of_ble_eq_true rfl) (Nat.le_of_ble_eq_true rfl) (Nat.le_of_ble_eq_true rfl) (Nat.le_of_ble_eq_true rfl) (Nat.le_of_ble_eq_true rfl)

set_option maxHeartbeats 4000000 in
set_option maxRecDepth 100000 in
/-- smoke -/
theorem c_X3_smoke (l : Launch) (D : va_G) (cy : Nat → ClassId) (h : Nat) (ad : Nat → Nat) (nS nB : Nat) (st bk : Nat → Iu) (gate nu : Iu) (bt : Nat) (wt : va_W) (i : Nat) (hi : i < nS) (hcS : nS ≤ 4) (hcB : nB ≤ 6) : xM l D cy yX3_smoke wsX3_smoke ({ frames := 6, cells := 1, slots := 6, locals := 120 } : Room) [.ref h, .int (nI i)] (xw cy h ad nS nB st bk gate nu bt wt) (fun _ : Unit => some (.int (st i 1))) (fun _ => True) (fun _ => xw cy h ad nS nB (va_up st i (sSmoke (st i))) bk gate nu bt wt) := by
  refine xM.of cX3_smoke 3 (some .int) RX3 (by decide +kernel) rfl rfl (Nat.le_of_ble_eq_true rfl) ?_
  intro p e s m below meth c A ls hx hb hr hts hown hlocks hml hin hK hA hP hD hS hl
  have hl : lv_has ls 3 [(0, .ref h), (1, .int (nI i))] := hl
  have hinX3 : ∀ w ∈ wsX30, w ∈ wsX3_smoke := fun _ h => List.mem_cons_of_mem _ (List.mem_append_left _ (List.mem_append_left _ (List.mem_append_left _ (List.mem_append_right _ h))))
  refine lv_aload_n hx hb dX3_smoke_0 rfl (lv_at hl 0 rfl) ?_
  refine va_get (D := D) (ci := 3) (v := .ref (ad 0)) (C := RX3) (T := TX3) (N := 2) hx hb hts hinX3 hown hK.1 hP 0 rfl rfl 0 (by decide) (hts (.fieldLink RX3 10 "LoafMarks" "town" "LLoafMarks$Town;") (List.mem_of_getElem? (i := 3) rfl)) (fun _ h9 => h9) rfl dX3_smoke_1 ?_
  refine lv_iload_n hx hb dX3_smoke_4 rfl (lv_at hl 1 rfl) ?_
  refine xcV (As := [.int (nI i)]) (rest := []) ⟨hx, hb, hml, hown, hts⟩ (c_X2_storeAt l D cy ad nS nB st bk gate nu (nI i) (by omega)) (cwV 1 hts gX3_smoke_X2_storeAt rfl rfl rfl (by decide +kernel) ⟨Nat.le_of_ble_eq_true rfl, Nat.le_of_ble_eq_true rfl⟩) hK hP hD hS hA rfl rfl rfl (xE_town) rfl hl.1 rfl (Nat.le_of_ble_eq_true rfl) dX3_smoke_5 ⟨Nat.le_of_ble_eq_true rfl, Nat.le_of_ble_eq_true rfl⟩ (fun _ H locs _ hP hD hS => ?_)
  have hP : va_P D vwCl (xw cy h ad nS nB st bk gate nu bt wt) H := hP
  have hD : va_D A (xw cy h ad nS nB st bk gate nu bt wt) := hD
  refine W.eq (g2 := F0 m 8 ls [va_rf (sAt ad nS (nI i))]) rfl ?_
  refine W.eq (g2 := F0 m 8 ls [.ref (ad (4 + i))]) (by show F0 m 8 ls (va_rf (sAt ad nS (nI i)) :: _) = _; rw [sAt_nI hi hcS]) ?_
  refine lv_astore_n (lv' := [(2, .ref (ad (4 + i))), (0, .ref h), (1, .int (nI i))]) hx hb dX3_smoke_8 rfl hl (by decide) rfl (fun ls hl => ?_)
  refine lv_aload_n hx hb dX3_smoke_9 rfl (lv_at hl 0 rfl) ?_
  refine lv_ifnonnull (tgt := 23) hx hb dX3_smoke_10 (by decide) ?_
  refine lv_aload_n hx hb dX3_smoke_23 rfl (lv_at hl 0 rfl) ?_
  refine xcV (As := []) (rest := []) ⟨hx, hb, hml, hown, hts⟩ (c_X1_smokeOut l D cy (ad (4 + i)) (st i) ) (cwV 0 hts gX3_smoke_X1_smokeOut rfl rfl rfl (by decide +kernel) ⟨Nat.le_of_ble_eq_true rfl, Nat.le_of_ble_eq_true rfl⟩) hK hP hD hS hA rfl rfl rfl (xE_xst (sSmoke (st i)) hi) rfl hl.1 rfl (Nat.le_of_ble_eq_true rfl) dX3_smoke_24 ⟨Nat.le_of_ble_eq_true rfl, Nat.le_of_ble_eq_true rfl⟩ (fun _ H locs _ hP hD hS => ?_)
  have hP : va_P D vwCl (xw cy h ad nS nB (va_up st i (sSmoke (st i))) bk gate nu bt wt) H := hP
  have hD : va_D A (xw cy h ad nS nB (va_up st i (sSmoke (st i))) bk gate nu bt wt) := hD
  refine W.eq (g2 := F0 m 27 ls [.int ((st i) 1)]) rfl ?_
  exact xri () hx hb hr hlocks hS (Nat.le_of_ble_eq_true rfl) (Nat.le_of_ble_eq_true rfl) dX3_smoke_27 hP hD rfl trivial

set_option maxHeartbeats 4000000 in
set_option maxRecDepth 100000 in
theorem c_X3_smoke_1 (l : Launch) (hst : l.stackTraces = false) (D : va_G) (cy : Nat → ClassId) (sa : Nat → Nat) (h : Nat) (ad : Nat → Nat) (nS nB : Nat) (st bk : Nat → Iu) (gate nu : Iu) (bt : Nat) (wt : va_W) (p0 : Int32) (hv : ¬ vp_in p0 nS) (hcS : nS ≤ 4) (hcB : nB ≤ 6) : xT l D cy sa yX3_smoke wsX3_smoke ({ frames := 6, cells := 1, slots := 6, locals := 120 } : Room) [.ref h, .int p0] (xw cy h ad nS nB st bk gate nu bt wt) E_I := by
  refine xT.of cX3_smoke 3 (some .int) RX3 (by decide +kernel) rfl rfl (Nat.le_of_ble_eq_true rfl) ?_
  intro p e s m below meth c A ls hx hb hr hts hown hlocks hml hin hK hA hP hD hS hV hZ htb hl
  have hl : lv_has ls 3 [(0, .ref h), (1, .int p0)] := hl
  have hinX3 : ∀ w ∈ wsX30, w ∈ wsX3_smoke := fun _ h => List.mem_cons_of_mem _ (List.mem_append_left _ (List.mem_append_left _ (List.mem_append_left _ (List.mem_append_right _ h))))
  refine lv_aload_n hx hb dX3_smoke_0 rfl (lv_at hl 0 rfl) ?_
  refine va_get (D := D) (ci := 3) (v := .ref (ad 0)) (C := RX3) (T := TX3) (N := 2) hx hb hts hinX3 hown hK.1 hP 0 rfl rfl 0 (by decide) (hts (.fieldLink RX3 10 "LoafMarks" "town" "LLoafMarks$Town;") (List.mem_of_getElem? (i := 3) rfl)) (fun _ h9 => h9) rfl dX3_smoke_1 ?_
  refine lv_iload_n hx hb dX3_smoke_4 rfl (lv_at hl 1 rfl) ?_
  refine xcV (As := [.int p0]) (rest := []) ⟨hx, hb, hml, hown, hts⟩ (c_X2_storeAt l D cy ad nS nB st bk gate nu p0 (by omega)) (cwV 1 hts gX3_smoke_X2_storeAt rfl rfl rfl (by decide +kernel) ⟨Nat.le_of_ble_eq_true rfl, Nat.le_of_ble_eq_true rfl⟩) hK hP hD hS hA rfl rfl rfl (xE_town) rfl hl.1 rfl (Nat.le_of_ble_eq_true rfl) dX3_smoke_5 ⟨Nat.le_of_ble_eq_true rfl, Nat.le_of_ble_eq_true rfl⟩ (fun _ H locs _ hP hD hS => ?_)
  have hP : va_P D vwCl (xw cy h ad nS nB st bk gate nu bt wt) H := hP
  have hD : va_D A (xw cy h ad nS nB st bk gate nu bt wt) := hD
  refine W.eq (g2 := F0 m 8 ls [va_rf (sAt ad nS p0)]) rfl ?_
  refine W.eq (g2 := F0 m 8 ls [.null]) (by show F0 m 8 ls (va_rf (sAt ad nS p0) :: _) = _; rw [sAt_none hv]) ?_
  refine lv_astore_nN (lv' := [(2, .null), (0, .ref h), (1, .int p0)]) hx hb dX3_smoke_8 rfl hl (by decide) rfl (fun ls hl => ?_)
  refine lv_aload_nN hx hb dX3_smoke_9 rfl (lv_at hl 0 rfl) ?_
  refine lv_ifnonnullN hx hb dX3_smoke_10 ?_
  exact xthrow (cls := E_I) (text := "there is no such store") hx hb hst hown (by decide +kernel) (hts (.classLink RX3 34 "java/lang/IndexOutOfBoundsException") (List.mem_of_getElem? (i := 1) rfl)) (hts (.initialized "java/lang/IndexOutOfBoundsException") (List.mem_of_getElem? (i := 2) rfl)) (List.mem_of_getElem? (i := 6) rfl) hV hZ (fun w h => hts w (List.mem_cons_of_mem _ (List.mem_append_right _ h))) xcovI xotI hS hP (hl.1.trans hml.symm) dX3_smoke_13 dX3_smoke_16 dX3_smoke_17 dX3_smoke_19 dX3_smoke_22 htb hlocks (Nat.le_of_ble_eq_true rfl) (Nat.le_of_ble_eq_true rfl) (Nat.le_of_ble_eq_true rfl) (Nat.le_of_ble_eq_true rfl) (Nat.le_of_ble_eq_true rfl) (Nat.le_of_ble_eq_true rfl)

set_option maxHeartbeats 4000000 in
set_option maxRecDepth 100000 in
/-- swear -/
theorem c_X3_swear (l : Launch) (D : va_G) (cy : Nat → ClassId) (h : Nat) (ad : Nat → Nat) (nS nB : Nat) (st bk : Nat → Iu) (gate nu : Iu) (bt : Nat) (wt : va_W) (i : Nat) (hi : i < nS) (p1 p2 p3 : Int32) (h1 : (0 : Int32) ≤ p1 ∧ p1 ≤ 25) (h2 : (5 : Int32) ≤ p2 ∧ p2 ≤ 12) (h3 : (0 : Int32) ≤ p3 ∧ p3 ≤ 90) (hno : ownF bk p1 nB 0 < 0) (hroom : nB < 6) (hcS : nS ≤ 4) (hcB : nB ≤ 6) : xM l D cy yX3_swear wsX3_swear ({ frames := 6, cells := 2, slots := 14, locals := 120 } : Room) [.ref h, .int (nI i), .int p1, .int p2, .int p3] (xw cy h ad nS nB st bk gate nu bt wt) (fun _ : Nat => some (.int (nI nB))) (fun _ => True) (fun q => xw cy h (va_up ad (8 + nB) q) nS (nB + 1) st (va_up bk nB (newB (nI i) p1 p2 p3)) gate nu bt wt) := by
  refine xM.of cX3_swear 6 (some .int) RX3 (by decide +kernel) rfl rfl (Nat.le_of_ble_eq_true rfl) ?_
  intro p e s m below meth c A ls hx hb hr hts hown hlocks hml hin hK hA hP hD hS hl
  have hl : lv_has ls 6 [(0, .ref h), (1, .int (nI i)), (2, .int p1), (3, .int p2), (4, .int p3)] := hl
  have hinX3 : ∀ w ∈ wsX30, w ∈ wsX3_swear := fun _ h => List.mem_cons_of_mem _ (List.mem_append_left _ (List.mem_append_left _ (List.mem_append_left _ (List.mem_append_left _ (List.mem_append_left _ (List.mem_append_right _ h))))))
  refine lv_aload_n hx hb dX3_swear_0 rfl (lv_at hl 0 rfl) ?_
  refine va_get (D := D) (ci := 3) (v := .ref (ad 0)) (C := RX3) (T := TX3) (N := 2) hx hb hts hinX3 hown hK.1 hP 0 rfl rfl 0 (by decide) (hts (.fieldLink RX3 10 "LoafMarks" "town" "LLoafMarks$Town;") (List.mem_of_getElem? (i := 7) rfl)) (fun _ h9 => h9) rfl dX3_swear_1 ?_
  refine lv_iload_n hx hb dX3_swear_4 rfl (lv_at hl 1 rfl) ?_
  refine xcV (As := [.int (nI i)]) (rest := []) ⟨hx, hb, hml, hown, hts⟩ (c_X2_storeAt l D cy ad nS nB st bk gate nu (nI i) (by omega)) (cwV 1 hts gX3_swear_X2_storeAt rfl rfl rfl (by decide +kernel) ⟨Nat.le_of_ble_eq_true rfl, Nat.le_of_ble_eq_true rfl⟩) hK hP hD hS hA rfl rfl rfl (xE_town) rfl hl.1 rfl (Nat.le_of_ble_eq_true rfl) dX3_swear_5 ⟨Nat.le_of_ble_eq_true rfl, Nat.le_of_ble_eq_true rfl⟩ (fun _ H locs _ hP hD hS => ?_)
  have hP : va_P D vwCl (xw cy h ad nS nB st bk gate nu bt wt) H := hP
  have hD : va_D A (xw cy h ad nS nB st bk gate nu bt wt) := hD
  refine W.eq (g2 := F0 m 8 ls [va_rf (sAt ad nS (nI i))]) rfl ?_
  refine W.eq (g2 := F0 m 8 ls [.ref (ad (4 + i))]) (by show F0 m 8 ls (va_rf (sAt ad nS (nI i)) :: _) = _; rw [sAt_nI hi hcS]) ?_
  refine lv_ifnonnull (tgt := 21) hx hb dX3_swear_8 (by decide) ?_
  refine lv_iload_n hx hb dX3_swear_21 rfl (lv_at hl 2 rfl) ?_
  refine lv_iconst (v := 0) hx hb dX3_swear_22 (by decide) ?_
  refine lv_bipush (v := 25) hx hb dX3_swear_23 (by decide) ?_
  refine xcS (As := [.int p1, .int 0, .int 25]) (rest := []) ⟨hx, hb, hml, hown, hts⟩ (c_X3_isWithin l D cy p1 0 25) (va_cwS 3 hts gX3_swear_X3_isWithin rfl rfl rfl (by decide +kernel) ⟨Nat.le_of_ble_eq_true rfl, Nat.le_of_ble_eq_true rfl⟩) hK hP hD hS hA (xE_nil) rfl hl.1 rfl (Nat.le_of_ble_eq_true rfl) dX3_swear_25 ⟨Nat.le_of_ble_eq_true rfl, Nat.le_of_ble_eq_true rfl⟩ (fun _ H locs _ hP hD hS => ?_)
  have hP : va_P D vwCl (xw cy h ad nS nB st bk gate nu bt wt) H := hP
  have hD : va_D A (xw cy h ad nS nB st bk gate nu bt wt) := hD
  refine W.eq (g2 := F0 m 28 ls [.int (wi p1 0 25)]) rfl ?_
  refine lv_if_ne (tgt := 41) hx hb dX3_swear_28 (by decide) (fun _ => ?_) (fun z => absurd z (wi_ok h1))
  refine lv_iload_n hx hb dX3_swear_41 rfl (lv_at hl 3 rfl) ?_
  refine lv_iconst (v := 5) hx hb dX3_swear_42 (by decide) ?_
  refine lv_bipush (v := 12) hx hb dX3_swear_43 (by decide) ?_
  refine xcS (As := [.int p2, .int 5, .int 12]) (rest := []) ⟨hx, hb, hml, hown, hts⟩ (c_X3_isWithin l D cy p2 5 12) (va_cwS 3 hts gX3_swear_X3_isWithin rfl rfl rfl (by decide +kernel) ⟨Nat.le_of_ble_eq_true rfl, Nat.le_of_ble_eq_true rfl⟩) hK hP hD hS hA (xE_nil) rfl hl.1 rfl (Nat.le_of_ble_eq_true rfl) dX3_swear_45 ⟨Nat.le_of_ble_eq_true rfl, Nat.le_of_ble_eq_true rfl⟩ (fun _ H locs _ hP hD hS => ?_)
  have hP : va_P D vwCl (xw cy h ad nS nB st bk gate nu bt wt) H := hP
  have hD : va_D A (xw cy h ad nS nB st bk gate nu bt wt) := hD
  refine W.eq (g2 := F0 m 48 ls [.int (wi p2 5 12)]) rfl ?_
  refine lv_if_ne (tgt := 61) hx hb dX3_swear_48 (by decide) (fun _ => ?_) (fun z => absurd z (wi_ok h2))
  refine lv_iload hx hb dX3_swear_61 (lv_at hl 4 rfl) ?_
  refine lv_iconst (v := 0) hx hb dX3_swear_63 (by decide) ?_
  refine lv_bipush (v := 90) hx hb dX3_swear_64 (by decide) ?_
  refine xcS (As := [.int p3, .int 0, .int 90]) (rest := []) ⟨hx, hb, hml, hown, hts⟩ (c_X3_isWithin l D cy p3 0 90) (va_cwS 3 hts gX3_swear_X3_isWithin rfl rfl rfl (by decide +kernel) ⟨Nat.le_of_ble_eq_true rfl, Nat.le_of_ble_eq_true rfl⟩) hK hP hD hS hA (xE_nil) rfl hl.1 rfl (Nat.le_of_ble_eq_true rfl) dX3_swear_66 ⟨Nat.le_of_ble_eq_true rfl, Nat.le_of_ble_eq_true rfl⟩ (fun _ H locs _ hP hD hS => ?_)
  have hP : va_P D vwCl (xw cy h ad nS nB st bk gate nu bt wt) H := hP
  have hD : va_D A (xw cy h ad nS nB st bk gate nu bt wt) := hD
  refine W.eq (g2 := F0 m 69 ls [.int (wi p3 0 90)]) rfl ?_
  refine lv_if_ne (tgt := 82) hx hb dX3_swear_69 (by decide) (fun _ => ?_) (fun z => absurd z (wi_ok h3))
  refine lv_aload_n hx hb dX3_swear_82 rfl (lv_at hl 0 rfl) ?_
  refine va_get (D := D) (ci := 3) (v := .ref (ad 0)) (C := RX3) (T := TX3) (N := 2) hx hb hts hinX3 hown hK.1 hP 0 rfl rfl 0 (by decide) (hts (.fieldLink RX3 10 "LoafMarks" "town" "LLoafMarks$Town;") (List.mem_of_getElem? (i := 7) rfl)) (fun _ h9 => h9) rfl dX3_swear_83 ?_
  refine lv_iload_n hx hb dX3_swear_86 rfl (lv_at hl 2 rfl) ?_
  refine xcV (As := [.int p1]) (rest := []) ⟨hx, hb, hml, hown, hts⟩ (c_X2_bakerWithMark l D cy ad nS nB st bk gate nu p1 (by omega)) (cwV 1 hts gX3_swear_X2_bakerWithMark rfl rfl rfl (by decide +kernel) ⟨Nat.le_of_ble_eq_true rfl, Nat.le_of_ble_eq_true rfl⟩) hK hP hD hS hA rfl rfl rfl (xE_town) rfl hl.1 rfl (Nat.le_of_ble_eq_true rfl) dX3_swear_87 ⟨Nat.le_of_ble_eq_true rfl, Nat.le_of_ble_eq_true rfl⟩ (fun _ H locs _ hP hD hS => ?_)
  have hP : va_P D vwCl (xw cy h ad nS nB st bk gate nu bt wt) H := hP
  have hD : va_D A (xw cy h ad nS nB st bk gate nu bt wt) := hD
  refine W.eq (g2 := F0 m 90 ls [.int (ownF bk p1 nB 0)]) rfl ?_
  refine lv_if_lt (tgt := 103) hx hb dX3_swear_90 (by decide) (fun _ => ?_) (fun h => absurd hno h)
  refine lv_aload_n hx hb dX3_swear_103 rfl (lv_at hl 0 rfl) ?_
  refine va_get (D := D) (ci := 3) (v := .ref (ad 0)) (C := RX3) (T := TX3) (N := 2) hx hb hts hinX3 hown hK.1 hP 0 rfl rfl 0 (by decide) (hts (.fieldLink RX3 10 "LoafMarks" "town" "LLoafMarks$Town;") (List.mem_of_getElem? (i := 7) rfl)) (fun _ h9 => h9) rfl dX3_swear_104 ?_
  refine lv_iload_n hx hb dX3_swear_107 rfl (lv_at hl 1 rfl) ?_
  refine lv_iload_n hx hb dX3_swear_108 rfl (lv_at hl 2 rfl) ?_
  refine lv_iload_n hx hb dX3_swear_109 rfl (lv_at hl 3 rfl) ?_
  refine lv_iload hx hb dX3_swear_110 (lv_at hl 4 rfl) ?_
  refine xcV (As := [.int (nI i), .int p1, .int p2, .int p3]) (rest := []) ⟨hx, hb, hml, hown, hts⟩ (c_X2_addBaker l D cy ad nS nB st bk gate nu (nI i) p1 p2 p3 hroom hcS) (cwV 4 hts gX3_swear_X2_addBaker rfl rfl rfl (by decide +kernel) ⟨Nat.le_of_ble_eq_true rfl, Nat.le_of_ble_eq_true rfl⟩) hK hP hD hS hA rfl rfl rfl (xE_town) rfl hl.1 rfl (Nat.le_of_ble_eq_true rfl) dX3_swear_112 ⟨Nat.le_of_ble_eq_true rfl, Nat.le_of_ble_eq_true rfl⟩ (fun q H locs _ hP hD hS => ?_)
  have hP : va_P D vwCl (xw cy h (va_up ad (8 + nB) q) nS (nB + 1) st (va_up bk nB (newB (nI i) p1 p2 p3)) gate nu bt wt) H := by unfold xw; rw [up_ne (by omega)]; exact hP
  have hD : va_D A (xw cy h (va_up ad (8 + nB) q) nS (nB + 1) st (va_up bk nB (newB (nI i) p1 p2 p3)) gate nu bt wt) := by unfold xw; rw [up_ne (by omega)]; exact hD
  refine W.eq (g2 := F0 m 115 ls [.int (nI nB)]) rfl ?_
  refine lv_istore (lv' := [(5, .int (nI nB)), (0, .ref h), (1, .int (nI i)), (2, .int p1), (3, .int p2), (4, .int p3)]) hx hb dX3_swear_115 hl (by decide) rfl (fun ls hl => ?_)
  refine lv_iload hx hb dX3_swear_117 (lv_at hl 0 rfl) ?_
  refine lv_if_ge (tgt := 132) hx hb dX3_swear_119 (by decide) (fun _ => ?_) (fun h => absurd (nI_pos' (by omega)) h)
  refine lv_iload hx hb dX3_swear_132 (lv_at hl 0 rfl) ?_
  exact xri q hx hb hr hlocks hS (Nat.le_of_ble_eq_true rfl) (Nat.le_of_ble_eq_true rfl) dX3_swear_134 hP hD rfl trivial

set_option maxHeartbeats 4000000 in
set_option maxRecDepth 100000 in
theorem c_X3_swear_1 (l : Launch) (hst : l.stackTraces = false) (D : va_G) (cy : Nat → ClassId) (sa : Nat → Nat) (h : Nat) (ad : Nat → Nat) (nS nB : Nat) (st bk : Nat → Iu) (gate nu : Iu) (bt : Nat) (wt : va_W) (p0 : Int32) (p1 p2 p3 : Int32) (hv : ¬ vp_in p0 nS) (hcS : nS ≤ 4) (hcB : nB ≤ 6) : xT l D cy sa yX3_swear wsX3_swear ({ frames := 6, cells := 2, slots := 14, locals := 120 } : Room) [.ref h, .int p0, .int p1, .int p2, .int p3] (xw cy h ad nS nB st bk gate nu bt wt) E_I := by
  refine xT.of cX3_swear 6 (some .int) RX3 (by decide +kernel) rfl rfl (Nat.le_of_ble_eq_true rfl) ?_
  intro p e s m below meth c A ls hx hb hr hts hown hlocks hml hin hK hA hP hD hS hV hZ htb hl
  have hl : lv_has ls 6 [(0, .ref h), (1, .int p0), (2, .int p1), (3, .int p2), (4, .int p3)] := hl
  have hinX3 : ∀ w ∈ wsX30, w ∈ wsX3_swear := fun _ h => List.mem_cons_of_mem _ (List.mem_append_left _ (List.mem_append_left _ (List.mem_append_left _ (List.mem_append_left _ (List.mem_append_left _ (List.mem_append_right _ h))))))
  refine lv_aload_n hx hb dX3_swear_0 rfl (lv_at hl 0 rfl) ?_
  refine va_get (D := D) (ci := 3) (v := .ref (ad 0)) (C := RX3) (T := TX3) (N := 2) hx hb hts hinX3 hown hK.1 hP 0 rfl rfl 0 (by decide) (hts (.fieldLink RX3 10 "LoafMarks" "town" "LLoafMarks$Town;") (List.mem_of_getElem? (i := 7) rfl)) (fun _ h9 => h9) rfl dX3_swear_1 ?_
  refine lv_iload_n hx hb dX3_swear_4 rfl (lv_at hl 1 rfl) ?_
  refine xcV (As := [.int p0]) (rest := []) ⟨hx, hb, hml, hown, hts⟩ (c_X2_storeAt l D cy ad nS nB st bk gate nu p0 (by omega)) (cwV 1 hts gX3_swear_X2_storeAt rfl rfl rfl (by decide +kernel) ⟨Nat.le_of_ble_eq_true rfl, Nat.le_of_ble_eq_true rfl⟩) hK hP hD hS hA rfl rfl rfl (xE_town) rfl hl.1 rfl (Nat.le_of_ble_eq_true rfl) dX3_swear_5 ⟨Nat.le_of_ble_eq_true rfl, Nat.le_of_ble_eq_true rfl⟩ (fun _ H locs _ hP hD hS => ?_)
  have hP : va_P D vwCl (xw cy h ad nS nB st bk gate nu bt wt) H := hP
  have hD : va_D A (xw cy h ad nS nB st bk gate nu bt wt) := hD
  refine W.eq (g2 := F0 m 8 ls [va_rf (sAt ad nS p0)]) rfl ?_
  refine W.eq (g2 := F0 m 8 ls [.null]) (by show F0 m 8 ls (va_rf (sAt ad nS p0) :: _) = _; rw [sAt_none hv]) ?_
  refine lv_ifnonnullN hx hb dX3_swear_8 ?_
  exact xthrow (cls := E_I) (text := "there is no such store") hx hb hst hown (by decide +kernel) (hts (.classLink RX3 34 "java/lang/IndexOutOfBoundsException") (List.mem_of_getElem? (i := 1) rfl)) (hts (.initialized "java/lang/IndexOutOfBoundsException") (List.mem_of_getElem? (i := 2) rfl)) (List.mem_of_getElem? (i := 6) rfl) hV hZ (fun w h => hts w (List.mem_cons_of_mem _ (List.mem_append_left _ (List.mem_append_left _ (List.mem_append_right _ h))))) xcovI xotI hS hP (hl.1.trans hml.symm) dX3_swear_11 dX3_swear_14 dX3_swear_15 dX3_swear_17 dX3_swear_20 htb hlocks (Nat.le_of_ble_eq_true rfl) (Nat.le_of_ble_eq_true rfl) (Nat.le_of_ble_eq_true rfl) (Nat.le_of_ble_eq_true rfl) (Nat.le_of_ble_eq_true rfl) (Nat.le_of_ble_eq_true rfl)

set_option maxHeartbeats 4000000 in
set_option maxRecDepth 100000 in
theorem c_X3_swear_2a (l : Launch) (hst : l.stackTraces = false) (D : va_G) (cy : Nat → ClassId) (sa : Nat → Nat) (h : Nat) (ad : Nat → Nat) (nS nB : Nat) (st bk : Nat → Iu) (gate nu : Iu) (bt : Nat) (wt : va_W) (i : Nat) (hi : i < nS) (p1 p2 p3 : Int32) (h1 : ¬ ((0 : Int32) ≤ p1 ∧ p1 ≤ 25)) (hcS : nS ≤ 4) (hcB : nB ≤ 6) : xT l D cy sa yX3_swear wsX3_swear ({ frames := 6, cells := 2, slots := 14, locals := 120 } : Room) [.ref h, .int (nI i), .int p1, .int p2, .int p3] (xw cy h ad nS nB st bk gate nu bt wt) E_A := by
  refine xT.of cX3_swear 6 (some .int) RX3 (by decide +kernel) rfl rfl (Nat.le_of_ble_eq_true rfl) ?_
  intro p e s m below meth c A ls hx hb hr hts hown hlocks hml hin hK hA hP hD hS hV hZ htb hl
  have hl : lv_has ls 6 [(0, .ref h), (1, .int (nI i)), (2, .int p1), (3, .int p2), (4, .int p3)] := hl
  have hinX3 : ∀ w ∈ wsX30, w ∈ wsX3_swear := fun _ h => List.mem_cons_of_mem _ (List.mem_append_left _ (List.mem_append_left _ (List.mem_append_left _ (List.mem_append_left _ (List.mem_append_left _ (List.mem_append_right _ h))))))
  refine lv_aload_n hx hb dX3_swear_0 rfl (lv_at hl 0 rfl) ?_
  refine va_get (D := D) (ci := 3) (v := .ref (ad 0)) (C := RX3) (T := TX3) (N := 2) hx hb hts hinX3 hown hK.1 hP 0 rfl rfl 0 (by decide) (hts (.fieldLink RX3 10 "LoafMarks" "town" "LLoafMarks$Town;") (List.mem_of_getElem? (i := 7) rfl)) (fun _ h9 => h9) rfl dX3_swear_1 ?_
  refine lv_iload_n hx hb dX3_swear_4 rfl (lv_at hl 1 rfl) ?_
  refine xcV (As := [.int (nI i)]) (rest := []) ⟨hx, hb, hml, hown, hts⟩ (c_X2_storeAt l D cy ad nS nB st bk gate nu (nI i) (by omega)) (cwV 1 hts gX3_swear_X2_storeAt rfl rfl rfl (by decide +kernel) ⟨Nat.le_of_ble_eq_true rfl, Nat.le_of_ble_eq_true rfl⟩) hK hP hD hS hA rfl rfl rfl (xE_town) rfl hl.1 rfl (Nat.le_of_ble_eq_true rfl) dX3_swear_5 ⟨Nat.le_of_ble_eq_true rfl, Nat.le_of_ble_eq_true rfl⟩ (fun _ H locs _ hP hD hS => ?_)
  have hP : va_P D vwCl (xw cy h ad nS nB st bk gate nu bt wt) H := hP
  have hD : va_D A (xw cy h ad nS nB st bk gate nu bt wt) := hD
  refine W.eq (g2 := F0 m 8 ls [va_rf (sAt ad nS (nI i))]) rfl ?_
  refine W.eq (g2 := F0 m 8 ls [.ref (ad (4 + i))]) (by show F0 m 8 ls (va_rf (sAt ad nS (nI i)) :: _) = _; rw [sAt_nI hi hcS]) ?_
  refine lv_ifnonnull (tgt := 21) hx hb dX3_swear_8 (by decide) ?_
  refine lv_iload_n hx hb dX3_swear_21 rfl (lv_at hl 2 rfl) ?_
  refine lv_iconst (v := 0) hx hb dX3_swear_22 (by decide) ?_
  refine lv_bipush (v := 25) hx hb dX3_swear_23 (by decide) ?_
  refine xcS (As := [.int p1, .int 0, .int 25]) (rest := []) ⟨hx, hb, hml, hown, hts⟩ (c_X3_isWithin l D cy p1 0 25) (va_cwS 3 hts gX3_swear_X3_isWithin rfl rfl rfl (by decide +kernel) ⟨Nat.le_of_ble_eq_true rfl, Nat.le_of_ble_eq_true rfl⟩) hK hP hD hS hA (xE_nil) rfl hl.1 rfl (Nat.le_of_ble_eq_true rfl) dX3_swear_25 ⟨Nat.le_of_ble_eq_true rfl, Nat.le_of_ble_eq_true rfl⟩ (fun _ H locs _ hP hD hS => ?_)
  have hP : va_P D vwCl (xw cy h ad nS nB st bk gate nu bt wt) H := hP
  have hD : va_D A (xw cy h ad nS nB st bk gate nu bt wt) := hD
  refine W.eq (g2 := F0 m 28 ls [.int (wi p1 0 25)]) rfl ?_
  refine lv_if_ne (tgt := 41) hx hb dX3_swear_28 (by decide) (fun z => absurd (wi_no h1) z) (fun _ => ?_)
  exact xthrow (cls := E_A) (text := "mark is not 0 to 25") hx hb hst hown (by decide +kernel) (hts (.classLink RX3 23 "java/lang/IllegalArgumentException") (List.mem_of_getElem? (i := 3) rfl)) (hts (.initialized "java/lang/IllegalArgumentException") (List.mem_of_getElem? (i := 4) rfl)) (List.mem_of_getElem? (i := 7) rfl) hV hZ (fun w h => hts w (List.mem_cons_of_mem _ (List.mem_append_left _ (List.mem_append_right _ h)))) xcovA xotA hS hP (hl.1.trans hml.symm) dX3_swear_31 dX3_swear_34 dX3_swear_35 dX3_swear_37 dX3_swear_40 htb hlocks (Nat.le_of_ble_eq_true rfl) (Nat.le_of_ble_eq_true rfl) (Nat.le_of_ble_eq_true rfl) (Nat.le_of_ble_eq_true rfl) (Nat.le_of_ble_eq_true rfl) (Nat.le_of_ble_eq_true rfl)

set_option maxHeartbeats 4000000 in
set_option maxRecDepth 100000 in
theorem c_X3_swear_2b (l : Launch) (hst : l.stackTraces = false) (D : va_G) (cy : Nat → ClassId) (sa : Nat → Nat) (h : Nat) (ad : Nat → Nat) (nS nB : Nat) (st bk : Nat → Iu) (gate nu : Iu) (bt : Nat) (wt : va_W) (i : Nat) (hi : i < nS) (p1 p2 p3 : Int32) (h1 : (0 : Int32) ≤ p1 ∧ p1 ≤ 25) (h2 : ¬ ((5 : Int32) ≤ p2 ∧ p2 ≤ 12)) (hcS : nS ≤ 4) (hcB : nB ≤ 6) : xT l D cy sa yX3_swear wsX3_swear ({ frames := 6, cells := 2, slots := 14, locals := 120 } : Room) [.ref h, .int (nI i), .int p1, .int p2, .int p3] (xw cy h ad nS nB st bk gate nu bt wt) E_A := by
  refine xT.of cX3_swear 6 (some .int) RX3 (by decide +kernel) rfl rfl (Nat.le_of_ble_eq_true rfl) ?_
  intro p e s m below meth c A ls hx hb hr hts hown hlocks hml hin hK hA hP hD hS hV hZ htb hl
  have hl : lv_has ls 6 [(0, .ref h), (1, .int (nI i)), (2, .int p1), (3, .int p2), (4, .int p3)] := hl
  have hinX3 : ∀ w ∈ wsX30, w ∈ wsX3_swear := fun _ h => List.mem_cons_of_mem _ (List.mem_append_left _ (List.mem_append_left _ (List.mem_append_left _ (List.mem_append_left _ (List.mem_append_left _ (List.mem_append_right _ h))))))
  refine lv_aload_n hx hb dX3_swear_0 rfl (lv_at hl 0 rfl) ?_
  refine va_get (D := D) (ci := 3) (v := .ref (ad 0)) (C := RX3) (T := TX3) (N := 2) hx hb hts hinX3 hown hK.1 hP 0 rfl rfl 0 (by decide) (hts (.fieldLink RX3 10 "LoafMarks" "town" "LLoafMarks$Town;") (List.mem_of_getElem? (i := 7) rfl)) (fun _ h9 => h9) rfl dX3_swear_1 ?_
  refine lv_iload_n hx hb dX3_swear_4 rfl (lv_at hl 1 rfl) ?_
  refine xcV (As := [.int (nI i)]) (rest := []) ⟨hx, hb, hml, hown, hts⟩ (c_X2_storeAt l D cy ad nS nB st bk gate nu (nI i) (by omega)) (cwV 1 hts gX3_swear_X2_storeAt rfl rfl rfl (by decide +kernel) ⟨Nat.le_of_ble_eq_true rfl, Nat.le_of_ble_eq_true rfl⟩) hK hP hD hS hA rfl rfl rfl (xE_town) rfl hl.1 rfl (Nat.le_of_ble_eq_true rfl) dX3_swear_5 ⟨Nat.le_of_ble_eq_true rfl, Nat.le_of_ble_eq_true rfl⟩ (fun _ H locs _ hP hD hS => ?_)
  have hP : va_P D vwCl (xw cy h ad nS nB st bk gate nu bt wt) H := hP
  have hD : va_D A (xw cy h ad nS nB st bk gate nu bt wt) := hD
  refine W.eq (g2 := F0 m 8 ls [va_rf (sAt ad nS (nI i))]) rfl ?_
  refine W.eq (g2 := F0 m 8 ls [.ref (ad (4 + i))]) (by show F0 m 8 ls (va_rf (sAt ad nS (nI i)) :: _) = _; rw [sAt_nI hi hcS]) ?_
  refine lv_ifnonnull (tgt := 21) hx hb dX3_swear_8 (by decide) ?_
  refine lv_iload_n hx hb dX3_swear_21 rfl (lv_at hl 2 rfl) ?_
  refine lv_iconst (v := 0) hx hb dX3_swear_22 (by decide) ?_
  refine lv_bipush (v := 25) hx hb dX3_swear_23 (by decide) ?_
  refine xcS (As := [.int p1, .int 0, .int 25]) (rest := []) ⟨hx, hb, hml, hown, hts⟩ (c_X3_isWithin l D cy p1 0 25) (va_cwS 3 hts gX3_swear_X3_isWithin rfl rfl rfl (by decide +kernel) ⟨Nat.le_of_ble_eq_true rfl, Nat.le_of_ble_eq_true rfl⟩) hK hP hD hS hA (xE_nil) rfl hl.1 rfl (Nat.le_of_ble_eq_true rfl) dX3_swear_25 ⟨Nat.le_of_ble_eq_true rfl, Nat.le_of_ble_eq_true rfl⟩ (fun _ H locs _ hP hD hS => ?_)
  have hP : va_P D vwCl (xw cy h ad nS nB st bk gate nu bt wt) H := hP
  have hD : va_D A (xw cy h ad nS nB st bk gate nu bt wt) := hD
  refine W.eq (g2 := F0 m 28 ls [.int (wi p1 0 25)]) rfl ?_
  refine lv_if_ne (tgt := 41) hx hb dX3_swear_28 (by decide) (fun _ => ?_) (fun z => absurd z (wi_ok h1))
  refine lv_iload_n hx hb dX3_swear_41 rfl (lv_at hl 3 rfl) ?_
  refine lv_iconst (v := 5) hx hb dX3_swear_42 (by decide) ?_
  refine lv_bipush (v := 12) hx hb dX3_swear_43 (by decide) ?_
  refine xcS (As := [.int p2, .int 5, .int 12]) (rest := []) ⟨hx, hb, hml, hown, hts⟩ (c_X3_isWithin l D cy p2 5 12) (va_cwS 3 hts gX3_swear_X3_isWithin rfl rfl rfl (by decide +kernel) ⟨Nat.le_of_ble_eq_true rfl, Nat.le_of_ble_eq_true rfl⟩) hK hP hD hS hA (xE_nil) rfl hl.1 rfl (Nat.le_of_ble_eq_true rfl) dX3_swear_45 ⟨Nat.le_of_ble_eq_true rfl, Nat.le_of_ble_eq_true rfl⟩ (fun _ H locs _ hP hD hS => ?_)
  have hP : va_P D vwCl (xw cy h ad nS nB st bk gate nu bt wt) H := hP
  have hD : va_D A (xw cy h ad nS nB st bk gate nu bt wt) := hD
  refine W.eq (g2 := F0 m 48 ls [.int (wi p2 5 12)]) rfl ?_
  refine lv_if_ne (tgt := 61) hx hb dX3_swear_48 (by decide) (fun z => absurd (wi_no h2) z) (fun _ => ?_)
  exact xthrow (cls := E_A) (text := "weight is not 5 to 12") hx hb hst hown (by decide +kernel) (hts (.classLink RX3 23 "java/lang/IllegalArgumentException") (List.mem_of_getElem? (i := 3) rfl)) (hts (.initialized "java/lang/IllegalArgumentException") (List.mem_of_getElem? (i := 4) rfl)) (List.mem_of_getElem? (i := 8) rfl) hV hZ (fun w h => hts w (List.mem_cons_of_mem _ (List.mem_append_left _ (List.mem_append_right _ h)))) xcovA xotA hS hP (hl.1.trans hml.symm) dX3_swear_51 dX3_swear_54 dX3_swear_55 dX3_swear_57 dX3_swear_60 htb hlocks (Nat.le_of_ble_eq_true rfl) (Nat.le_of_ble_eq_true rfl) (Nat.le_of_ble_eq_true rfl) (Nat.le_of_ble_eq_true rfl) (Nat.le_of_ble_eq_true rfl) (Nat.le_of_ble_eq_true rfl)

set_option maxHeartbeats 4000000 in
set_option maxRecDepth 100000 in
theorem c_X3_swear_2c (l : Launch) (hst : l.stackTraces = false) (D : va_G) (cy : Nat → ClassId) (sa : Nat → Nat) (h : Nat) (ad : Nat → Nat) (nS nB : Nat) (st bk : Nat → Iu) (gate nu : Iu) (bt : Nat) (wt : va_W) (i : Nat) (hi : i < nS) (p1 p2 p3 : Int32) (h1 : (0 : Int32) ≤ p1 ∧ p1 ≤ 25) (h2 : (5 : Int32) ≤ p2 ∧ p2 ≤ 12) (h3 : ¬ ((0 : Int32) ≤ p3 ∧ p3 ≤ 90)) (hcS : nS ≤ 4) (hcB : nB ≤ 6) : xT l D cy sa yX3_swear wsX3_swear ({ frames := 6, cells := 2, slots := 14, locals := 120 } : Room) [.ref h, .int (nI i), .int p1, .int p2, .int p3] (xw cy h ad nS nB st bk gate nu bt wt) E_A := by
  refine xT.of cX3_swear 6 (some .int) RX3 (by decide +kernel) rfl rfl (Nat.le_of_ble_eq_true rfl) ?_
  intro p e s m below meth c A ls hx hb hr hts hown hlocks hml hin hK hA hP hD hS hV hZ htb hl
  have hl : lv_has ls 6 [(0, .ref h), (1, .int (nI i)), (2, .int p1), (3, .int p2), (4, .int p3)] := hl
  have hinX3 : ∀ w ∈ wsX30, w ∈ wsX3_swear := fun _ h => List.mem_cons_of_mem _ (List.mem_append_left _ (List.mem_append_left _ (List.mem_append_left _ (List.mem_append_left _ (List.mem_append_left _ (List.mem_append_right _ h))))))
  refine lv_aload_n hx hb dX3_swear_0 rfl (lv_at hl 0 rfl) ?_
  refine va_get (D := D) (ci := 3) (v := .ref (ad 0)) (C := RX3) (T := TX3) (N := 2) hx hb hts hinX3 hown hK.1 hP 0 rfl rfl 0 (by decide) (hts (.fieldLink RX3 10 "LoafMarks" "town" "LLoafMarks$Town;") (List.mem_of_getElem? (i := 7) rfl)) (fun _ h9 => h9) rfl dX3_swear_1 ?_
  refine lv_iload_n hx hb dX3_swear_4 rfl (lv_at hl 1 rfl) ?_
  refine xcV (As := [.int (nI i)]) (rest := []) ⟨hx, hb, hml, hown, hts⟩ (c_X2_storeAt l D cy ad nS nB st bk gate nu (nI i) (by omega)) (cwV 1 hts gX3_swear_X2_storeAt rfl rfl rfl (by decide +kernel) ⟨Nat.le_of_ble_eq_true rfl, Nat.le_of_ble_eq_true rfl⟩) hK hP hD hS hA rfl rfl rfl (xE_town) rfl hl.1 rfl (Nat.le_of_ble_eq_true rfl) dX3_swear_5 ⟨Nat.le_of_ble_eq_true rfl, Nat.le_of_ble_eq_true rfl⟩ (fun _ H locs _ hP hD hS => ?_)
  have hP : va_P D vwCl (xw cy h ad nS nB st bk gate nu bt wt) H := hP
  have hD : va_D A (xw cy h ad nS nB st bk gate nu bt wt) := hD
  refine W.eq (g2 := F0 m 8 ls [va_rf (sAt ad nS (nI i))]) rfl ?_
  refine W.eq (g2 := F0 m 8 ls [.ref (ad (4 + i))]) (by show F0 m 8 ls (va_rf (sAt ad nS (nI i)) :: _) = _; rw [sAt_nI hi hcS]) ?_
  refine lv_ifnonnull (tgt := 21) hx hb dX3_swear_8 (by decide) ?_
  refine lv_iload_n hx hb dX3_swear_21 rfl (lv_at hl 2 rfl) ?_
  refine lv_iconst (v := 0) hx hb dX3_swear_22 (by decide) ?_
  refine lv_bipush (v := 25) hx hb dX3_swear_23 (by decide) ?_
  refine xcS (As := [.int p1, .int 0, .int 25]) (rest := []) ⟨hx, hb, hml, hown, hts⟩ (c_X3_isWithin l D cy p1 0 25) (va_cwS 3 hts gX3_swear_X3_isWithin rfl rfl rfl (by decide +kernel) ⟨Nat.le_of_ble_eq_true rfl, Nat.le_of_ble_eq_true rfl⟩) hK hP hD hS hA (xE_nil) rfl hl.1 rfl (Nat.le_of_ble_eq_true rfl) dX3_swear_25 ⟨Nat.le_of_ble_eq_true rfl, Nat.le_of_ble_eq_true rfl⟩ (fun _ H locs _ hP hD hS => ?_)
  have hP : va_P D vwCl (xw cy h ad nS nB st bk gate nu bt wt) H := hP
  have hD : va_D A (xw cy h ad nS nB st bk gate nu bt wt) := hD
  refine W.eq (g2 := F0 m 28 ls [.int (wi p1 0 25)]) rfl ?_
  refine lv_if_ne (tgt := 41) hx hb dX3_swear_28 (by decide) (fun _ => ?_) (fun z => absurd z (wi_ok h1))
  refine lv_iload_n hx hb dX3_swear_41 rfl (lv_at hl 3 rfl) ?_
  refine lv_iconst (v := 5) hx hb dX3_swear_42 (by decide) ?_
  refine lv_bipush (v := 12) hx hb dX3_swear_43 (by decide) ?_
  refine xcS (As := [.int p2, .int 5, .int 12]) (rest := []) ⟨hx, hb, hml, hown, hts⟩ (c_X3_isWithin l D cy p2 5 12) (va_cwS 3 hts gX3_swear_X3_isWithin rfl rfl rfl (by decide +kernel) ⟨Nat.le_of_ble_eq_true rfl, Nat.le_of_ble_eq_true rfl⟩) hK hP hD hS hA (xE_nil) rfl hl.1 rfl (Nat.le_of_ble_eq_true rfl) dX3_swear_45 ⟨Nat.le_of_ble_eq_true rfl, Nat.le_of_ble_eq_true rfl⟩ (fun _ H locs _ hP hD hS => ?_)
  have hP : va_P D vwCl (xw cy h ad nS nB st bk gate nu bt wt) H := hP
  have hD : va_D A (xw cy h ad nS nB st bk gate nu bt wt) := hD
  refine W.eq (g2 := F0 m 48 ls [.int (wi p2 5 12)]) rfl ?_
  refine lv_if_ne (tgt := 61) hx hb dX3_swear_48 (by decide) (fun _ => ?_) (fun z => absurd z (wi_ok h2))
  refine lv_iload hx hb dX3_swear_61 (lv_at hl 4 rfl) ?_
  refine lv_iconst (v := 0) hx hb dX3_swear_63 (by decide) ?_
  refine lv_bipush (v := 90) hx hb dX3_swear_64 (by decide) ?_
  refine xcS (As := [.int p3, .int 0, .int 90]) (rest := []) ⟨hx, hb, hml, hown, hts⟩ (c_X3_isWithin l D cy p3 0 90) (va_cwS 3 hts gX3_swear_X3_isWithin rfl rfl rfl (by decide +kernel) ⟨Nat.le_of_ble_eq_true rfl, Nat.le_of_ble_eq_true rfl⟩) hK hP hD hS hA (xE_nil) rfl hl.1 rfl (Nat.le_of_ble_eq_true rfl) dX3_swear_66 ⟨Nat.le_of_ble_eq_true rfl, Nat.le_of_ble_eq_true rfl⟩ (fun _ H locs _ hP hD hS => ?_)
  have hP : va_P D vwCl (xw cy h ad nS nB st bk gate nu bt wt) H := hP
  have hD : va_D A (xw cy h ad nS nB st bk gate nu bt wt) := hD
  refine W.eq (g2 := F0 m 69 ls [.int (wi p3 0 90)]) rfl ?_
  refine lv_if_ne (tgt := 82) hx hb dX3_swear_69 (by decide) (fun z => absurd (wi_no h3) z) (fun _ => ?_)
  exact xthrow (cls := E_A) (text := "ration is not 0 to 90") hx hb hst hown (by decide +kernel) (hts (.classLink RX3 23 "java/lang/IllegalArgumentException") (List.mem_of_getElem? (i := 3) rfl)) (hts (.initialized "java/lang/IllegalArgumentException") (List.mem_of_getElem? (i := 4) rfl)) (List.mem_of_getElem? (i := 9) rfl) hV hZ (fun w h => hts w (List.mem_cons_of_mem _ (List.mem_append_left _ (List.mem_append_right _ h)))) xcovA xotA hS hP (hl.1.trans hml.symm) dX3_swear_72 dX3_swear_75 dX3_swear_76 dX3_swear_78 dX3_swear_81 htb hlocks (Nat.le_of_ble_eq_true rfl) (Nat.le_of_ble_eq_true rfl) (Nat.le_of_ble_eq_true rfl) (Nat.le_of_ble_eq_true rfl) (Nat.le_of_ble_eq_true rfl) (Nat.le_of_ble_eq_true rfl)

set_option maxHeartbeats 4000000 in
set_option maxRecDepth 100000 in
theorem c_X3_swear_3a (l : Launch) (hst : l.stackTraces = false) (D : va_G) (cy : Nat → ClassId) (sa : Nat → Nat) (h : Nat) (ad : Nat → Nat) (nS nB : Nat) (st bk : Nat → Iu) (gate nu : Iu) (bt : Nat) (wt : va_W) (i : Nat) (hi : i < nS) (p1 p2 p3 : Int32) (h1 : (0 : Int32) ≤ p1 ∧ p1 ≤ 25) (h2 : (5 : Int32) ≤ p2 ∧ p2 ≤ 12) (h3 : (0 : Int32) ≤ p3 ∧ p3 ≤ 90) (hno : ¬ ownF bk p1 nB 0 < 0) (hcS : nS ≤ 4) (hcB : nB ≤ 6) : xT l D cy sa yX3_swear wsX3_swear ({ frames := 6, cells := 2, slots := 14, locals := 120 } : Room) [.ref h, .int (nI i), .int p1, .int p2, .int p3] (xw cy h ad nS nB st bk gate nu bt wt) E_S := by
  refine xT.of cX3_swear 6 (some .int) RX3 (by decide +kernel) rfl rfl (Nat.le_of_ble_eq_true rfl) ?_
  intro p e s m below meth c A ls hx hb hr hts hown hlocks hml hin hK hA hP hD hS hV hZ htb hl
  have hl : lv_has ls 6 [(0, .ref h), (1, .int (nI i)), (2, .int p1), (3, .int p2), (4, .int p3)] := hl
  have hinX3 : ∀ w ∈ wsX30, w ∈ wsX3_swear := fun _ h => List.mem_cons_of_mem _ (List.mem_append_left _ (List.mem_append_left _ (List.mem_append_left _ (List.mem_append_left _ (List.mem_append_left _ (List.mem_append_right _ h))))))
  refine lv_aload_n hx hb dX3_swear_0 rfl (lv_at hl 0 rfl) ?_
  refine va_get (D := D) (ci := 3) (v := .ref (ad 0)) (C := RX3) (T := TX3) (N := 2) hx hb hts hinX3 hown hK.1 hP 0 rfl rfl 0 (by decide) (hts (.fieldLink RX3 10 "LoafMarks" "town" "LLoafMarks$Town;") (List.mem_of_getElem? (i := 7) rfl)) (fun _ h9 => h9) rfl dX3_swear_1 ?_
  refine lv_iload_n hx hb dX3_swear_4 rfl (lv_at hl 1 rfl) ?_
  refine xcV (As := [.int (nI i)]) (rest := []) ⟨hx, hb, hml, hown, hts⟩ (c_X2_storeAt l D cy ad nS nB st bk gate nu (nI i) (by omega)) (cwV 1 hts gX3_swear_X2_storeAt rfl rfl rfl (by decide +kernel) ⟨Nat.le_of_ble_eq_true rfl, Nat.le_of_ble_eq_true rfl⟩) hK hP hD hS hA rfl rfl rfl (xE_town) rfl hl.1 rfl (Nat.le_of_ble_eq_true rfl) dX3_swear_5 ⟨Nat.le_of_ble_eq_true rfl, Nat.le_of_ble_eq_true rfl⟩ (fun _ H locs _ hP hD hS => ?_)
  have hP : va_P D vwCl (xw cy h ad nS nB st bk gate nu bt wt) H := hP
  have hD : va_D A (xw cy h ad nS nB st bk gate nu bt wt) := hD
  refine W.eq (g2 := F0 m 8 ls [va_rf (sAt ad nS (nI i))]) rfl ?_
  refine W.eq (g2 := F0 m 8 ls [.ref (ad (4 + i))]) (by show F0 m 8 ls (va_rf (sAt ad nS (nI i)) :: _) = _; rw [sAt_nI hi hcS]) ?_
  refine lv_ifnonnull (tgt := 21) hx hb dX3_swear_8 (by decide) ?_
  refine lv_iload_n hx hb dX3_swear_21 rfl (lv_at hl 2 rfl) ?_
  refine lv_iconst (v := 0) hx hb dX3_swear_22 (by decide) ?_
  refine lv_bipush (v := 25) hx hb dX3_swear_23 (by decide) ?_
  refine xcS (As := [.int p1, .int 0, .int 25]) (rest := []) ⟨hx, hb, hml, hown, hts⟩ (c_X3_isWithin l D cy p1 0 25) (va_cwS 3 hts gX3_swear_X3_isWithin rfl rfl rfl (by decide +kernel) ⟨Nat.le_of_ble_eq_true rfl, Nat.le_of_ble_eq_true rfl⟩) hK hP hD hS hA (xE_nil) rfl hl.1 rfl (Nat.le_of_ble_eq_true rfl) dX3_swear_25 ⟨Nat.le_of_ble_eq_true rfl, Nat.le_of_ble_eq_true rfl⟩ (fun _ H locs _ hP hD hS => ?_)
  have hP : va_P D vwCl (xw cy h ad nS nB st bk gate nu bt wt) H := hP
  have hD : va_D A (xw cy h ad nS nB st bk gate nu bt wt) := hD
  refine W.eq (g2 := F0 m 28 ls [.int (wi p1 0 25)]) rfl ?_
  refine lv_if_ne (tgt := 41) hx hb dX3_swear_28 (by decide) (fun _ => ?_) (fun z => absurd z (wi_ok h1))
  refine lv_iload_n hx hb dX3_swear_41 rfl (lv_at hl 3 rfl) ?_
  refine lv_iconst (v := 5) hx hb dX3_swear_42 (by decide) ?_
  refine lv_bipush (v := 12) hx hb dX3_swear_43 (by decide) ?_
  refine xcS (As := [.int p2, .int 5, .int 12]) (rest := []) ⟨hx, hb, hml, hown, hts⟩ (c_X3_isWithin l D cy p2 5 12) (va_cwS 3 hts gX3_swear_X3_isWithin rfl rfl rfl (by decide +kernel) ⟨Nat.le_of_ble_eq_true rfl, Nat.le_of_ble_eq_true rfl⟩) hK hP hD hS hA (xE_nil) rfl hl.1 rfl (Nat.le_of_ble_eq_true rfl) dX3_swear_45 ⟨Nat.le_of_ble_eq_true rfl, Nat.le_of_ble_eq_true rfl⟩ (fun _ H locs _ hP hD hS => ?_)
  have hP : va_P D vwCl (xw cy h ad nS nB st bk gate nu bt wt) H := hP
  have hD : va_D A (xw cy h ad nS nB st bk gate nu bt wt) := hD
  refine W.eq (g2 := F0 m 48 ls [.int (wi p2 5 12)]) rfl ?_
  refine lv_if_ne (tgt := 61) hx hb dX3_swear_48 (by decide) (fun _ => ?_) (fun z => absurd z (wi_ok h2))
  refine lv_iload hx hb dX3_swear_61 (lv_at hl 4 rfl) ?_
  refine lv_iconst (v := 0) hx hb dX3_swear_63 (by decide) ?_
  refine lv_bipush (v := 90) hx hb dX3_swear_64 (by decide) ?_
  refine xcS (As := [.int p3, .int 0, .int 90]) (rest := []) ⟨hx, hb, hml, hown, hts⟩ (c_X3_isWithin l D cy p3 0 90) (va_cwS 3 hts gX3_swear_X3_isWithin rfl rfl rfl (by decide +kernel) ⟨Nat.le_of_ble_eq_true rfl, Nat.le_of_ble_eq_true rfl⟩) hK hP hD hS hA (xE_nil) rfl hl.1 rfl (Nat.le_of_ble_eq_true rfl) dX3_swear_66 ⟨Nat.le_of_ble_eq_true rfl, Nat.le_of_ble_eq_true rfl⟩ (fun _ H locs _ hP hD hS => ?_)
  have hP : va_P D vwCl (xw cy h ad nS nB st bk gate nu bt wt) H := hP
  have hD : va_D A (xw cy h ad nS nB st bk gate nu bt wt) := hD
  refine W.eq (g2 := F0 m 69 ls [.int (wi p3 0 90)]) rfl ?_
  refine lv_if_ne (tgt := 82) hx hb dX3_swear_69 (by decide) (fun _ => ?_) (fun z => absurd z (wi_ok h3))
  refine lv_aload_n hx hb dX3_swear_82 rfl (lv_at hl 0 rfl) ?_
  refine va_get (D := D) (ci := 3) (v := .ref (ad 0)) (C := RX3) (T := TX3) (N := 2) hx hb hts hinX3 hown hK.1 hP 0 rfl rfl 0 (by decide) (hts (.fieldLink RX3 10 "LoafMarks" "town" "LLoafMarks$Town;") (List.mem_of_getElem? (i := 7) rfl)) (fun _ h9 => h9) rfl dX3_swear_83 ?_
  refine lv_iload_n hx hb dX3_swear_86 rfl (lv_at hl 2 rfl) ?_
  refine xcV (As := [.int p1]) (rest := []) ⟨hx, hb, hml, hown, hts⟩ (c_X2_bakerWithMark l D cy ad nS nB st bk gate nu p1 (by omega)) (cwV 1 hts gX3_swear_X2_bakerWithMark rfl rfl rfl (by decide +kernel) ⟨Nat.le_of_ble_eq_true rfl, Nat.le_of_ble_eq_true rfl⟩) hK hP hD hS hA rfl rfl rfl (xE_town) rfl hl.1 rfl (Nat.le_of_ble_eq_true rfl) dX3_swear_87 ⟨Nat.le_of_ble_eq_true rfl, Nat.le_of_ble_eq_true rfl⟩ (fun _ H locs _ hP hD hS => ?_)
  have hP : va_P D vwCl (xw cy h ad nS nB st bk gate nu bt wt) H := hP
  have hD : va_D A (xw cy h ad nS nB st bk gate nu bt wt) := hD
  refine W.eq (g2 := F0 m 90 ls [.int (ownF bk p1 nB 0)]) rfl ?_
  refine lv_if_lt (tgt := 103) hx hb dX3_swear_90 (by decide) (fun h => absurd h hno) (fun _ => ?_)
  exact xthrow (cls := E_S) (text := "another baker has this mark") hx hb hst hown (by decide +kernel) (hts (.classLink RX3 52 "java/lang/IllegalStateException") (List.mem_of_getElem? (i := 5) rfl)) (hts (.initialized "java/lang/IllegalStateException") (List.mem_of_getElem? (i := 6) rfl)) (List.mem_of_getElem? (i := 10) rfl) hV hZ (fun w h => hts w (List.mem_cons_of_mem _ (List.mem_append_right _ h))) xcovS xotS hS hP (hl.1.trans hml.symm) dX3_swear_93 dX3_swear_96 dX3_swear_97 dX3_swear_99 dX3_swear_102 htb hlocks (Nat.le_of_ble_eq_true rfl) (Nat.le_of_ble_eq_true rfl) (Nat.le_of_ble_eq_true rfl) (Nat.le_of_ble_eq_true rfl) (Nat.le_of_ble_eq_true rfl) (Nat.le_of_ble_eq_true rfl)

set_option maxHeartbeats 4000000 in
set_option maxRecDepth 100000 in
theorem c_X3_swear_3b (l : Launch) (hst : l.stackTraces = false) (D : va_G) (cy : Nat → ClassId) (sa : Nat → Nat) (h : Nat) (ad : Nat → Nat) (nS nB : Nat) (st bk : Nat → Iu) (gate nu : Iu) (bt : Nat) (wt : va_W) (i : Nat) (hi : i < nS) (p1 p2 p3 : Int32) (h1 : (0 : Int32) ≤ p1 ∧ p1 ≤ 25) (h2 : (5 : Int32) ≤ p2 ∧ p2 ≤ 12) (h3 : (0 : Int32) ≤ p3 ∧ p3 ≤ 90) (hno : ownF bk p1 nB 0 < 0) (hfull : nB = 6) (hcS : nS ≤ 4) (hcB : nB ≤ 6) : xT l D cy sa yX3_swear wsX3_swear ({ frames := 6, cells := 2, slots := 14, locals := 120 } : Room) [.ref h, .int (nI i), .int p1, .int p2, .int p3] (xw cy h ad nS nB st bk gate nu bt wt) E_S := by
  refine xT.of cX3_swear 6 (some .int) RX3 (by decide +kernel) rfl rfl (Nat.le_of_ble_eq_true rfl) ?_
  intro p e s m below meth c A ls hx hb hr hts hown hlocks hml hin hK hA hP hD hS hV hZ htb hl
  have hl : lv_has ls 6 [(0, .ref h), (1, .int (nI i)), (2, .int p1), (3, .int p2), (4, .int p3)] := hl
  have hinX3 : ∀ w ∈ wsX30, w ∈ wsX3_swear := fun _ h => List.mem_cons_of_mem _ (List.mem_append_left _ (List.mem_append_left _ (List.mem_append_left _ (List.mem_append_left _ (List.mem_append_left _ (List.mem_append_right _ h))))))
  refine lv_aload_n hx hb dX3_swear_0 rfl (lv_at hl 0 rfl) ?_
  refine va_get (D := D) (ci := 3) (v := .ref (ad 0)) (C := RX3) (T := TX3) (N := 2) hx hb hts hinX3 hown hK.1 hP 0 rfl rfl 0 (by decide) (hts (.fieldLink RX3 10 "LoafMarks" "town" "LLoafMarks$Town;") (List.mem_of_getElem? (i := 7) rfl)) (fun _ h9 => h9) rfl dX3_swear_1 ?_
  refine lv_iload_n hx hb dX3_swear_4 rfl (lv_at hl 1 rfl) ?_
  refine xcV (As := [.int (nI i)]) (rest := []) ⟨hx, hb, hml, hown, hts⟩ (c_X2_storeAt l D cy ad nS nB st bk gate nu (nI i) (by omega)) (cwV 1 hts gX3_swear_X2_storeAt rfl rfl rfl (by decide +kernel) ⟨Nat.le_of_ble_eq_true rfl, Nat.le_of_ble_eq_true rfl⟩) hK hP hD hS hA rfl rfl rfl (xE_town) rfl hl.1 rfl (Nat.le_of_ble_eq_true rfl) dX3_swear_5 ⟨Nat.le_of_ble_eq_true rfl, Nat.le_of_ble_eq_true rfl⟩ (fun _ H locs _ hP hD hS => ?_)
  have hP : va_P D vwCl (xw cy h ad nS nB st bk gate nu bt wt) H := hP
  have hD : va_D A (xw cy h ad nS nB st bk gate nu bt wt) := hD
  refine W.eq (g2 := F0 m 8 ls [va_rf (sAt ad nS (nI i))]) rfl ?_
  refine W.eq (g2 := F0 m 8 ls [.ref (ad (4 + i))]) (by show F0 m 8 ls (va_rf (sAt ad nS (nI i)) :: _) = _; rw [sAt_nI hi hcS]) ?_
  refine lv_ifnonnull (tgt := 21) hx hb dX3_swear_8 (by decide) ?_
  refine lv_iload_n hx hb dX3_swear_21 rfl (lv_at hl 2 rfl) ?_
  refine lv_iconst (v := 0) hx hb dX3_swear_22 (by decide) ?_
  refine lv_bipush (v := 25) hx hb dX3_swear_23 (by decide) ?_
  refine xcS (As := [.int p1, .int 0, .int 25]) (rest := []) ⟨hx, hb, hml, hown, hts⟩ (c_X3_isWithin l D cy p1 0 25) (va_cwS 3 hts gX3_swear_X3_isWithin rfl rfl rfl (by decide +kernel) ⟨Nat.le_of_ble_eq_true rfl, Nat.le_of_ble_eq_true rfl⟩) hK hP hD hS hA (xE_nil) rfl hl.1 rfl (Nat.le_of_ble_eq_true rfl) dX3_swear_25 ⟨Nat.le_of_ble_eq_true rfl, Nat.le_of_ble_eq_true rfl⟩ (fun _ H locs _ hP hD hS => ?_)
  have hP : va_P D vwCl (xw cy h ad nS nB st bk gate nu bt wt) H := hP
  have hD : va_D A (xw cy h ad nS nB st bk gate nu bt wt) := hD
  refine W.eq (g2 := F0 m 28 ls [.int (wi p1 0 25)]) rfl ?_
  refine lv_if_ne (tgt := 41) hx hb dX3_swear_28 (by decide) (fun _ => ?_) (fun z => absurd z (wi_ok h1))
  refine lv_iload_n hx hb dX3_swear_41 rfl (lv_at hl 3 rfl) ?_
  refine lv_iconst (v := 5) hx hb dX3_swear_42 (by decide) ?_
  refine lv_bipush (v := 12) hx hb dX3_swear_43 (by decide) ?_
  refine xcS (As := [.int p2, .int 5, .int 12]) (rest := []) ⟨hx, hb, hml, hown, hts⟩ (c_X3_isWithin l D cy p2 5 12) (va_cwS 3 hts gX3_swear_X3_isWithin rfl rfl rfl (by decide +kernel) ⟨Nat.le_of_ble_eq_true rfl, Nat.le_of_ble_eq_true rfl⟩) hK hP hD hS hA (xE_nil) rfl hl.1 rfl (Nat.le_of_ble_eq_true rfl) dX3_swear_45 ⟨Nat.le_of_ble_eq_true rfl, Nat.le_of_ble_eq_true rfl⟩ (fun _ H locs _ hP hD hS => ?_)
  have hP : va_P D vwCl (xw cy h ad nS nB st bk gate nu bt wt) H := hP
  have hD : va_D A (xw cy h ad nS nB st bk gate nu bt wt) := hD
  refine W.eq (g2 := F0 m 48 ls [.int (wi p2 5 12)]) rfl ?_
  refine lv_if_ne (tgt := 61) hx hb dX3_swear_48 (by decide) (fun _ => ?_) (fun z => absurd z (wi_ok h2))
  refine lv_iload hx hb dX3_swear_61 (lv_at hl 4 rfl) ?_
  refine lv_iconst (v := 0) hx hb dX3_swear_63 (by decide) ?_
  refine lv_bipush (v := 90) hx hb dX3_swear_64 (by decide) ?_
  refine xcS (As := [.int p3, .int 0, .int 90]) (rest := []) ⟨hx, hb, hml, hown, hts⟩ (c_X3_isWithin l D cy p3 0 90) (va_cwS 3 hts gX3_swear_X3_isWithin rfl rfl rfl (by decide +kernel) ⟨Nat.le_of_ble_eq_true rfl, Nat.le_of_ble_eq_true rfl⟩) hK hP hD hS hA (xE_nil) rfl hl.1 rfl (Nat.le_of_ble_eq_true rfl) dX3_swear_66 ⟨Nat.le_of_ble_eq_true rfl, Nat.le_of_ble_eq_true rfl⟩ (fun _ H locs _ hP hD hS => ?_)
  have hP : va_P D vwCl (xw cy h ad nS nB st bk gate nu bt wt) H := hP
  have hD : va_D A (xw cy h ad nS nB st bk gate nu bt wt) := hD
  refine W.eq (g2 := F0 m 69 ls [.int (wi p3 0 90)]) rfl ?_
  refine lv_if_ne (tgt := 82) hx hb dX3_swear_69 (by decide) (fun _ => ?_) (fun z => absurd z (wi_ok h3))
  refine lv_aload_n hx hb dX3_swear_82 rfl (lv_at hl 0 rfl) ?_
  refine va_get (D := D) (ci := 3) (v := .ref (ad 0)) (C := RX3) (T := TX3) (N := 2) hx hb hts hinX3 hown hK.1 hP 0 rfl rfl 0 (by decide) (hts (.fieldLink RX3 10 "LoafMarks" "town" "LLoafMarks$Town;") (List.mem_of_getElem? (i := 7) rfl)) (fun _ h9 => h9) rfl dX3_swear_83 ?_
  refine lv_iload_n hx hb dX3_swear_86 rfl (lv_at hl 2 rfl) ?_
  refine xcV (As := [.int p1]) (rest := []) ⟨hx, hb, hml, hown, hts⟩ (c_X2_bakerWithMark l D cy ad nS nB st bk gate nu p1 (by omega)) (cwV 1 hts gX3_swear_X2_bakerWithMark rfl rfl rfl (by decide +kernel) ⟨Nat.le_of_ble_eq_true rfl, Nat.le_of_ble_eq_true rfl⟩) hK hP hD hS hA rfl rfl rfl (xE_town) rfl hl.1 rfl (Nat.le_of_ble_eq_true rfl) dX3_swear_87 ⟨Nat.le_of_ble_eq_true rfl, Nat.le_of_ble_eq_true rfl⟩ (fun _ H locs _ hP hD hS => ?_)
  have hP : va_P D vwCl (xw cy h ad nS nB st bk gate nu bt wt) H := hP
  have hD : va_D A (xw cy h ad nS nB st bk gate nu bt wt) := hD
  refine W.eq (g2 := F0 m 90 ls [.int (ownF bk p1 nB 0)]) rfl ?_
  refine lv_if_lt (tgt := 103) hx hb dX3_swear_90 (by decide) (fun _ => ?_) (fun h => absurd hno h)
  refine lv_aload_n hx hb dX3_swear_103 rfl (lv_at hl 0 rfl) ?_
  refine va_get (D := D) (ci := 3) (v := .ref (ad 0)) (C := RX3) (T := TX3) (N := 2) hx hb hts hinX3 hown hK.1 hP 0 rfl rfl 0 (by decide) (hts (.fieldLink RX3 10 "LoafMarks" "town" "LLoafMarks$Town;") (List.mem_of_getElem? (i := 7) rfl)) (fun _ h9 => h9) rfl dX3_swear_104 ?_
  refine lv_iload_n hx hb dX3_swear_107 rfl (lv_at hl 1 rfl) ?_
  refine lv_iload_n hx hb dX3_swear_108 rfl (lv_at hl 2 rfl) ?_
  refine lv_iload_n hx hb dX3_swear_109 rfl (lv_at hl 3 rfl) ?_
  refine lv_iload hx hb dX3_swear_110 (lv_at hl 4 rfl) ?_
  refine xcV (As := [.int (nI i), .int p1, .int p2, .int p3]) (rest := []) ⟨hx, hb, hml, hown, hts⟩ (c_X2_addBaker_full l D cy ad nS nB st bk gate nu (nI i) p1 p2 p3 hfull) (cwV 4 hts gX3_swear_X2_addBaker rfl rfl rfl (by decide +kernel) ⟨Nat.le_of_ble_eq_true rfl, Nat.le_of_ble_eq_true rfl⟩) hK hP hD hS hA rfl rfl rfl (xE_town) rfl hl.1 rfl (Nat.le_of_ble_eq_true rfl) dX3_swear_112 ⟨Nat.le_of_ble_eq_true rfl, Nat.le_of_ble_eq_true rfl⟩ (fun _ H locs _ hP hD hS => ?_)
  have hP : va_P D vwCl (xw cy h ad nS nB st bk gate nu bt wt) H := hP
  have hD : va_D A (xw cy h ad nS nB st bk gate nu bt wt) := hD
  refine W.eq (g2 := F0 m 115 ls [.int (-1)]) rfl ?_
  refine lv_istore (lv' := [(5, .int (-1)), (0, .ref h), (1, .int (nI i)), (2, .int p1), (3, .int p2), (4, .int p3)]) hx hb dX3_swear_115 hl (by decide) rfl (fun ls hl => ?_)
  refine lv_iload hx hb dX3_swear_117 (lv_at hl 0 rfl) ?_
  refine lv_if_ge (tgt := 132) hx hb dX3_swear_119 (by decide) (fun h => absurd h (by decide)) (fun _ => ?_)
  exact xthrow (cls := E_S) (text := "there are 6 bakers") hx hb hst hown (by decide +kernel) (hts (.classLink RX3 52 "java/lang/IllegalStateException") (List.mem_of_getElem? (i := 5) rfl)) (hts (.initialized "java/lang/IllegalStateException") (List.mem_of_getElem? (i := 6) rfl)) (List.mem_of_getElem? (i := 11) rfl) hV hZ (fun w h => hts w (List.mem_cons_of_mem _ (List.mem_append_right _ h))) xcovS xotS hS hP (hl.1.trans hml.symm) dX3_swear_122 dX3_swear_125 dX3_swear_126 dX3_swear_128 dX3_swear_131 htb hlocks (Nat.le_of_ble_eq_true rfl) (Nat.le_of_ble_eq_true rfl) (Nat.le_of_ble_eq_true rfl) (Nat.le_of_ble_eq_true rfl) (Nat.le_of_ble_eq_true rfl) (Nat.le_of_ble_eq_true rfl)

set_option maxHeartbeats 4000000 in
set_option maxRecDepth 100000 in
/-- deal -/
theorem c_X3_deal (l : Launch) (D : va_G) (cy : Nat → ClassId) (h : Nat) (ad : Nat → Nat) (nS nB : Nat) (st bk : Nat → Iu) (gate nu : Iu) (bt : Nat) (wt : va_W) (j : Nat) (hj : j < nB) (p1 : Int32) (h2 : (0 : Int32) ≤ p1 ∧ p1 ≤ 90) (hcS : nS ≤ 4) (hcB : nB ≤ 6) : xM l D cy yX3_deal wsX3_deal ({ frames := 6, cells := 1, slots := 6, locals := 120 } : Room) [.ref h, .int (nI j), .int p1] (xw cy h ad nS nB st bk gate nu bt wt) (fun _ : Unit => some (.int (bk j 2))) (fun _ => True) (fun _ => xw cy h ad nS nB st (va_up bk j (upd (bk j) 2 p1)) gate nu bt wt) := by
  refine xM.of cX3_deal 5 (some .int) RX3 (by decide +kernel) rfl rfl (Nat.le_of_ble_eq_true rfl) ?_
  intro p e s m below meth c A ls hx hb hr hts hown hlocks hml hin hK hA hP hD hS hl
  have hl : lv_has ls 5 [(0, .ref h), (1, .int (nI j)), (2, .int p1)] := hl
  have hinX0 : ∀ w ∈ wsX00, w ∈ wsX3_deal := fun _ h => List.mem_cons_of_mem _ (List.mem_append_left _ (List.mem_append_left _ (List.mem_append_left _ (List.mem_append_right _ h))))
  have hinX3 : ∀ w ∈ wsX30, w ∈ wsX3_deal := fun _ h => List.mem_cons_of_mem _ (List.mem_append_left _ (List.mem_append_left _ (List.mem_append_left _ (List.mem_append_left _ (List.mem_append_right _ h)))))
  refine lv_aload_n hx hb dX3_deal_0 rfl (lv_at hl 0 rfl) ?_
  refine va_get (D := D) (ci := 3) (v := .ref (ad 0)) (C := RX3) (T := TX3) (N := 2) hx hb hts hinX3 hown hK.1 hP 0 rfl rfl 0 (by decide) (hts (.fieldLink RX3 10 "LoafMarks" "town" "LLoafMarks$Town;") (List.mem_of_getElem? (i := 5) rfl)) (fun _ h9 => h9) rfl dX3_deal_1 ?_
  refine lv_iload_n hx hb dX3_deal_4 rfl (lv_at hl 1 rfl) ?_
  refine xcV (As := [.int (nI j)]) (rest := []) ⟨hx, hb, hml, hown, hts⟩ (c_X2_bakerAt l D cy ad nS nB st bk gate nu (nI j) (by omega)) (cwV 1 hts gX3_deal_X2_bakerAt rfl rfl rfl (by decide +kernel) ⟨Nat.le_of_ble_eq_true rfl, Nat.le_of_ble_eq_true rfl⟩) hK hP hD hS hA rfl rfl rfl (xE_town) rfl hl.1 rfl (Nat.le_of_ble_eq_true rfl) dX3_deal_5 ⟨Nat.le_of_ble_eq_true rfl, Nat.le_of_ble_eq_true rfl⟩ (fun _ H locs _ hP hD hS => ?_)
  have hP : va_P D vwCl (xw cy h ad nS nB st bk gate nu bt wt) H := hP
  have hD : va_D A (xw cy h ad nS nB st bk gate nu bt wt) := hD
  refine W.eq (g2 := F0 m 8 ls [va_rf (bAt ad nB (nI j))]) rfl ?_
  refine W.eq (g2 := F0 m 8 ls [.ref (ad (8 + j))]) (by show F0 m 8 ls (va_rf (bAt ad nB (nI j)) :: _) = _; rw [bAt_nI hj hcB]) ?_
  refine lv_astore_n (lv' := [(3, .ref (ad (8 + j))), (0, .ref h), (1, .int (nI j)), (2, .int p1)]) hx hb dX3_deal_8 rfl hl (by decide) rfl (fun ls hl => ?_)
  refine lv_aload_n hx hb dX3_deal_9 rfl (lv_at hl 0 rfl) ?_
  refine lv_ifnonnull (tgt := 23) hx hb dX3_deal_10 (by decide) ?_
  refine lv_iload_n hx hb dX3_deal_23 rfl (lv_at hl 3 rfl) ?_
  refine lv_iconst (v := 0) hx hb dX3_deal_24 (by decide) ?_
  refine lv_bipush (v := 90) hx hb dX3_deal_25 (by decide) ?_
  refine xcS (As := [.int p1, .int 0, .int 90]) (rest := []) ⟨hx, hb, hml, hown, hts⟩ (c_X3_isWithin l D cy p1 0 90) (va_cwS 3 hts gX3_deal_X3_isWithin rfl rfl rfl (by decide +kernel) ⟨Nat.le_of_ble_eq_true rfl, Nat.le_of_ble_eq_true rfl⟩) hK hP hD hS hA (xE_nil) rfl hl.1 rfl (Nat.le_of_ble_eq_true rfl) dX3_deal_27 ⟨Nat.le_of_ble_eq_true rfl, Nat.le_of_ble_eq_true rfl⟩ (fun _ H locs _ hP hD hS => ?_)
  have hP : va_P D vwCl (xw cy h ad nS nB st bk gate nu bt wt) H := hP
  have hD : va_D A (xw cy h ad nS nB st bk gate nu bt wt) := hD
  refine W.eq (g2 := F0 m 30 ls [.int (wi p1 0 90)]) rfl ?_
  refine lv_if_ne (tgt := 43) hx hb dX3_deal_30 (by decide) (fun _ => ?_) (fun z => absurd z (wi_ok h2))
  refine lv_aload_n hx hb dX3_deal_43 rfl (lv_at hl 0 rfl) ?_
  refine va_get (D := D) (ci := 0) (v := .int (bk j 2)) (C := RX0) (T := TX0) (N := 8) hx hb hts hinX0 hown hK.1 hP (4 + nS + j + 1) (xw_at (tw_bk hj)) rfl 2 (by decide) (hts (.fieldLink RX3 93 "LoafMarks$Baker" "ration" "I") (List.mem_of_getElem? (i := 6) rfl)) (fun _ h9 => h9) rfl dX3_deal_44 ?_
  refine lv_istore (lv' := [(4, .int (bk j 2)), (3, .ref (ad (8 + j))), (0, .ref h), (1, .int (nI j)), (2, .int p1)]) hx hb dX3_deal_47 hl (by decide) rfl (fun ls hl => ?_)
  refine lv_aload_n hx hb dX3_deal_49 rfl (lv_at hl 1 rfl) ?_
  refine lv_iload_n hx hb dX3_deal_50 rfl (lv_at hl 4 rfl) ?_
  refine va_put (D := D) (ci := 0) (v := .int p1) (ty := .int) (C := RX0) (T := TX0) (N := 8) hx hb hts hinX0 tyX0 tyX0_ok nmX0 hown hK.1 hP hD hS (4 + nS + j + 1) (xw_at (tw_bk hj)) rfl 2 (by decide) (hts (.fieldLink RX3 93 "LoafMarks$Baker" "ration" "I") (List.mem_of_getElem? (i := 6) rfl)) (fun _ h9 => h9) rfl (by decide +kernel) rfl rfl (Nat.le_of_ble_eq_true rfl) dX3_deal_51 (fun H locs hP hD hS => ?_)
  have hP : va_P D vwCl (xw cy h ad nS nB st (va_up bk j (upd (bk j) 2 p1)) gate nu bt wt) H := (xw_set_bk hj) ▸ hP
  have hD : va_D A (xw cy h ad nS nB st (va_up bk j (upd (bk j) 2 p1)) gate nu bt wt) := (xw_set_bk hj) ▸ hD
  refine lv_iload hx hb dX3_deal_54 (lv_at hl 0 rfl) ?_
  exact xri () hx hb hr hlocks hS (Nat.le_of_ble_eq_true rfl) (Nat.le_of_ble_eq_true rfl) dX3_deal_56 hP hD rfl trivial

set_option maxHeartbeats 4000000 in
set_option maxRecDepth 100000 in
theorem c_X3_deal_1 (l : Launch) (hst : l.stackTraces = false) (D : va_G) (cy : Nat → ClassId) (sa : Nat → Nat) (h : Nat) (ad : Nat → Nat) (nS nB : Nat) (st bk : Nat → Iu) (gate nu : Iu) (bt : Nat) (wt : va_W) (p0 p1 : Int32) (hv : ¬ vp_in p0 nB) (hcS : nS ≤ 4) (hcB : nB ≤ 6) : xT l D cy sa yX3_deal wsX3_deal ({ frames := 6, cells := 1, slots := 6, locals := 120 } : Room) [.ref h, .int p0, .int p1] (xw cy h ad nS nB st bk gate nu bt wt) E_I := by
  refine xT.of cX3_deal 5 (some .int) RX3 (by decide +kernel) rfl rfl (Nat.le_of_ble_eq_true rfl) ?_
  intro p e s m below meth c A ls hx hb hr hts hown hlocks hml hin hK hA hP hD hS hV hZ htb hl
  have hl : lv_has ls 5 [(0, .ref h), (1, .int p0), (2, .int p1)] := hl
  have hinX3 : ∀ w ∈ wsX30, w ∈ wsX3_deal := fun _ h => List.mem_cons_of_mem _ (List.mem_append_left _ (List.mem_append_left _ (List.mem_append_left _ (List.mem_append_left _ (List.mem_append_right _ h)))))
  refine lv_aload_n hx hb dX3_deal_0 rfl (lv_at hl 0 rfl) ?_
  refine va_get (D := D) (ci := 3) (v := .ref (ad 0)) (C := RX3) (T := TX3) (N := 2) hx hb hts hinX3 hown hK.1 hP 0 rfl rfl 0 (by decide) (hts (.fieldLink RX3 10 "LoafMarks" "town" "LLoafMarks$Town;") (List.mem_of_getElem? (i := 5) rfl)) (fun _ h9 => h9) rfl dX3_deal_1 ?_
  refine lv_iload_n hx hb dX3_deal_4 rfl (lv_at hl 1 rfl) ?_
  refine xcV (As := [.int p0]) (rest := []) ⟨hx, hb, hml, hown, hts⟩ (c_X2_bakerAt l D cy ad nS nB st bk gate nu p0 (by omega)) (cwV 1 hts gX3_deal_X2_bakerAt rfl rfl rfl (by decide +kernel) ⟨Nat.le_of_ble_eq_true rfl, Nat.le_of_ble_eq_true rfl⟩) hK hP hD hS hA rfl rfl rfl (xE_town) rfl hl.1 rfl (Nat.le_of_ble_eq_true rfl) dX3_deal_5 ⟨Nat.le_of_ble_eq_true rfl, Nat.le_of_ble_eq_true rfl⟩ (fun _ H locs _ hP hD hS => ?_)
  have hP : va_P D vwCl (xw cy h ad nS nB st bk gate nu bt wt) H := hP
  have hD : va_D A (xw cy h ad nS nB st bk gate nu bt wt) := hD
  refine W.eq (g2 := F0 m 8 ls [va_rf (bAt ad nB p0)]) rfl ?_
  refine W.eq (g2 := F0 m 8 ls [.null]) (by show F0 m 8 ls (va_rf (bAt ad nB p0) :: _) = _; rw [bAt_none hv]) ?_
  refine lv_astore_nN (lv' := [(3, .null), (0, .ref h), (1, .int p0), (2, .int p1)]) hx hb dX3_deal_8 rfl hl (by decide) rfl (fun ls hl => ?_)
  refine lv_aload_nN hx hb dX3_deal_9 rfl (lv_at hl 0 rfl) ?_
  refine lv_ifnonnullN hx hb dX3_deal_10 ?_
  exact xthrow (cls := E_I) (text := "there is no such baker") hx hb hst hown (by decide +kernel) (hts (.classLink RX3 34 "java/lang/IndexOutOfBoundsException") (List.mem_of_getElem? (i := 1) rfl)) (hts (.initialized "java/lang/IndexOutOfBoundsException") (List.mem_of_getElem? (i := 2) rfl)) (List.mem_of_getElem? (i := 12) rfl) hV hZ (fun w h => hts w (List.mem_cons_of_mem _ (List.mem_append_left _ (List.mem_append_right _ h)))) xcovI xotI hS hP (hl.1.trans hml.symm) dX3_deal_13 dX3_deal_16 dX3_deal_17 dX3_deal_19 dX3_deal_22 htb hlocks (Nat.le_of_ble_eq_true rfl) (Nat.le_of_ble_eq_true rfl) (Nat.le_of_ble_eq_true rfl) (Nat.le_of_ble_eq_true rfl) (Nat.le_of_ble_eq_true rfl) (Nat.le_of_ble_eq_true rfl)

set_option maxHeartbeats 4000000 in
set_option maxRecDepth 100000 in
theorem c_X3_deal_2 (l : Launch) (hst : l.stackTraces = false) (D : va_G) (cy : Nat → ClassId) (sa : Nat → Nat) (h : Nat) (ad : Nat → Nat) (nS nB : Nat) (st bk : Nat → Iu) (gate nu : Iu) (bt : Nat) (wt : va_W) (j : Nat) (hj : j < nB) (p1 : Int32) (h2 : ¬ ((0 : Int32) ≤ p1 ∧ p1 ≤ 90)) (hcS : nS ≤ 4) (hcB : nB ≤ 6) : xT l D cy sa yX3_deal wsX3_deal ({ frames := 6, cells := 1, slots := 6, locals := 120 } : Room) [.ref h, .int (nI j), .int p1] (xw cy h ad nS nB st bk gate nu bt wt) E_A := by
  refine xT.of cX3_deal 5 (some .int) RX3 (by decide +kernel) rfl rfl (Nat.le_of_ble_eq_true rfl) ?_
  intro p e s m below meth c A ls hx hb hr hts hown hlocks hml hin hK hA hP hD hS hV hZ htb hl
  have hl : lv_has ls 5 [(0, .ref h), (1, .int (nI j)), (2, .int p1)] := hl
  have hinX3 : ∀ w ∈ wsX30, w ∈ wsX3_deal := fun _ h => List.mem_cons_of_mem _ (List.mem_append_left _ (List.mem_append_left _ (List.mem_append_left _ (List.mem_append_left _ (List.mem_append_right _ h)))))
  refine lv_aload_n hx hb dX3_deal_0 rfl (lv_at hl 0 rfl) ?_
  refine va_get (D := D) (ci := 3) (v := .ref (ad 0)) (C := RX3) (T := TX3) (N := 2) hx hb hts hinX3 hown hK.1 hP 0 rfl rfl 0 (by decide) (hts (.fieldLink RX3 10 "LoafMarks" "town" "LLoafMarks$Town;") (List.mem_of_getElem? (i := 5) rfl)) (fun _ h9 => h9) rfl dX3_deal_1 ?_
  refine lv_iload_n hx hb dX3_deal_4 rfl (lv_at hl 1 rfl) ?_
  refine xcV (As := [.int (nI j)]) (rest := []) ⟨hx, hb, hml, hown, hts⟩ (c_X2_bakerAt l D cy ad nS nB st bk gate nu (nI j) (by omega)) (cwV 1 hts gX3_deal_X2_bakerAt rfl rfl rfl (by decide +kernel) ⟨Nat.le_of_ble_eq_true rfl, Nat.le_of_ble_eq_true rfl⟩) hK hP hD hS hA rfl rfl rfl (xE_town) rfl hl.1 rfl (Nat.le_of_ble_eq_true rfl) dX3_deal_5 ⟨Nat.le_of_ble_eq_true rfl, Nat.le_of_ble_eq_true rfl⟩ (fun _ H locs _ hP hD hS => ?_)
  have hP : va_P D vwCl (xw cy h ad nS nB st bk gate nu bt wt) H := hP
  have hD : va_D A (xw cy h ad nS nB st bk gate nu bt wt) := hD
  refine W.eq (g2 := F0 m 8 ls [va_rf (bAt ad nB (nI j))]) rfl ?_
  refine W.eq (g2 := F0 m 8 ls [.ref (ad (8 + j))]) (by show F0 m 8 ls (va_rf (bAt ad nB (nI j)) :: _) = _; rw [bAt_nI hj hcB]) ?_
  refine lv_astore_n (lv' := [(3, .ref (ad (8 + j))), (0, .ref h), (1, .int (nI j)), (2, .int p1)]) hx hb dX3_deal_8 rfl hl (by decide) rfl (fun ls hl => ?_)
  refine lv_aload_n hx hb dX3_deal_9 rfl (lv_at hl 0 rfl) ?_
  refine lv_ifnonnull (tgt := 23) hx hb dX3_deal_10 (by decide) ?_
  refine lv_iload_n hx hb dX3_deal_23 rfl (lv_at hl 3 rfl) ?_
  refine lv_iconst (v := 0) hx hb dX3_deal_24 (by decide) ?_
  refine lv_bipush (v := 90) hx hb dX3_deal_25 (by decide) ?_
  refine xcS (As := [.int p1, .int 0, .int 90]) (rest := []) ⟨hx, hb, hml, hown, hts⟩ (c_X3_isWithin l D cy p1 0 90) (va_cwS 3 hts gX3_deal_X3_isWithin rfl rfl rfl (by decide +kernel) ⟨Nat.le_of_ble_eq_true rfl, Nat.le_of_ble_eq_true rfl⟩) hK hP hD hS hA (xE_nil) rfl hl.1 rfl (Nat.le_of_ble_eq_true rfl) dX3_deal_27 ⟨Nat.le_of_ble_eq_true rfl, Nat.le_of_ble_eq_true rfl⟩ (fun _ H locs _ hP hD hS => ?_)
  have hP : va_P D vwCl (xw cy h ad nS nB st bk gate nu bt wt) H := hP
  have hD : va_D A (xw cy h ad nS nB st bk gate nu bt wt) := hD
  refine W.eq (g2 := F0 m 30 ls [.int (wi p1 0 90)]) rfl ?_
  refine lv_if_ne (tgt := 43) hx hb dX3_deal_30 (by decide) (fun z => absurd (wi_no h2) z) (fun _ => ?_)
  exact xthrow (cls := E_A) (text := "ration is not 0 to 90") hx hb hst hown (by decide +kernel) (hts (.classLink RX3 23 "java/lang/IllegalArgumentException") (List.mem_of_getElem? (i := 3) rfl)) (hts (.initialized "java/lang/IllegalArgumentException") (List.mem_of_getElem? (i := 4) rfl)) (List.mem_of_getElem? (i := 9) rfl) hV hZ (fun w h => hts w (List.mem_cons_of_mem _ (List.mem_append_right _ h))) xcovA xotA hS hP (hl.1.trans hml.symm) dX3_deal_33 dX3_deal_36 dX3_deal_37 dX3_deal_39 dX3_deal_42 htb hlocks (Nat.le_of_ble_eq_true rfl) (Nat.le_of_ble_eq_true rfl) (Nat.le_of_ble_eq_true rfl) (Nat.le_of_ble_eq_true rfl) (Nat.le_of_ble_eq_true rfl) (Nat.le_of_ble_eq_true rfl)

set_option maxHeartbeats 4000000 in
set_option maxRecDepth 100000 in
/-- weigh -/
theorem c_X3_weigh (l : Launch) (D : va_G) (cy : Nat → ClassId) (h : Nat) (ad : Nat → Nat) (nS nB : Nat) (st bk : Nat → Iu) (gate nu : Iu) (bt : Nat) (wt : va_W) (j : Nat) (hj : j < nB) (h2 : (0 : Int32) < bk j 5) (hcS : nS ≤ 4) (hcB : nB ≤ 6) : xM l D cy yX3_weigh wsX3_weigh ({ frames := 6, cells := 1, slots := 6, locals := 120 } : Room) [.ref h, .int (nI j)] (xw cy h ad nS nB st bk gate nu bt wt) (fun _ : Unit => some (.int (bk j 4))) (fun _ => True) (fun _ => xw cy h ad nS nB st (va_up bk j (bInspect (bk j))) gate nu bt wt) := by
  refine xM.of cX3_weigh 3 (some .int) RX3 (by decide +kernel) rfl rfl (Nat.le_of_ble_eq_true rfl) ?_
  intro p e s m below meth c A ls hx hb hr hts hown hlocks hml hin hK hA hP hD hS hl
  have hl : lv_has ls 3 [(0, .ref h), (1, .int (nI j))] := hl
  have hinX0 : ∀ w ∈ wsX00, w ∈ wsX3_weigh := fun _ h => List.mem_cons_of_mem _ (List.mem_append_left _ (List.mem_append_left _ (List.mem_append_left _ (List.mem_append_right _ h))))
  have hinX3 : ∀ w ∈ wsX30, w ∈ wsX3_weigh := fun _ h => List.mem_cons_of_mem _ (List.mem_append_left _ (List.mem_append_left _ (List.mem_append_left _ (List.mem_append_left _ (List.mem_append_right _ h)))))
  refine lv_aload_n hx hb dX3_weigh_0 rfl (lv_at hl 0 rfl) ?_
  refine va_get (D := D) (ci := 3) (v := .ref (ad 0)) (C := RX3) (T := TX3) (N := 2) hx hb hts hinX3 hown hK.1 hP 0 rfl rfl 0 (by decide) (hts (.fieldLink RX3 10 "LoafMarks" "town" "LLoafMarks$Town;") (List.mem_of_getElem? (i := 5) rfl)) (fun _ h9 => h9) rfl dX3_weigh_1 ?_
  refine lv_iload_n hx hb dX3_weigh_4 rfl (lv_at hl 1 rfl) ?_
  refine xcV (As := [.int (nI j)]) (rest := []) ⟨hx, hb, hml, hown, hts⟩ (c_X2_bakerAt l D cy ad nS nB st bk gate nu (nI j) (by omega)) (cwV 1 hts gX3_weigh_X2_bakerAt rfl rfl rfl (by decide +kernel) ⟨Nat.le_of_ble_eq_true rfl, Nat.le_of_ble_eq_true rfl⟩) hK hP hD hS hA rfl rfl rfl (xE_town) rfl hl.1 rfl (Nat.le_of_ble_eq_true rfl) dX3_weigh_5 ⟨Nat.le_of_ble_eq_true rfl, Nat.le_of_ble_eq_true rfl⟩ (fun _ H locs _ hP hD hS => ?_)
  have hP : va_P D vwCl (xw cy h ad nS nB st bk gate nu bt wt) H := hP
  have hD : va_D A (xw cy h ad nS nB st bk gate nu bt wt) := hD
  refine W.eq (g2 := F0 m 8 ls [va_rf (bAt ad nB (nI j))]) rfl ?_
  refine W.eq (g2 := F0 m 8 ls [.ref (ad (8 + j))]) (by show F0 m 8 ls (va_rf (bAt ad nB (nI j)) :: _) = _; rw [bAt_nI hj hcB]) ?_
  refine lv_astore_n (lv' := [(2, .ref (ad (8 + j))), (0, .ref h), (1, .int (nI j))]) hx hb dX3_weigh_8 rfl hl (by decide) rfl (fun ls hl => ?_)
  refine lv_aload_n hx hb dX3_weigh_9 rfl (lv_at hl 0 rfl) ?_
  refine lv_ifnonnull (tgt := 23) hx hb dX3_weigh_10 (by decide) ?_
  refine lv_aload_n hx hb dX3_weigh_23 rfl (lv_at hl 0 rfl) ?_
  refine va_get (D := D) (ci := 0) (v := .int (bk j 5)) (C := RX0) (T := TX0) (N := 8) hx hb hts hinX0 hown hK.1 hP (4 + nS + j + 1) (xw_at (tw_bk hj)) rfl 5 (by decide) (hts (.fieldLink RX3 98 "LoafMarks$Baker" "shelf" "I") (List.mem_of_getElem? (i := 6) rfl)) (fun _ h9 => h9) rfl dX3_weigh_24 ?_
  refine lv_if_gt (tgt := 40) hx hb dX3_weigh_27 (by decide) (fun _ => ?_) (fun h => absurd h2 h)
  refine lv_aload_n hx hb dX3_weigh_40 rfl (lv_at hl 0 rfl) ?_
  refine xcV (As := []) (rest := []) ⟨hx, hb, hml, hown, hts⟩ (c_X0_inspect l D cy (ad (8 + j)) (bk j) ) (cwV 0 hts gX3_weigh_X0_inspect rfl rfl rfl (by decide +kernel) ⟨Nat.le_of_ble_eq_true rfl, Nat.le_of_ble_eq_true rfl⟩) hK hP hD hS hA rfl rfl rfl (xE_xbk (bInspect (bk j)) hj) rfl hl.1 rfl (Nat.le_of_ble_eq_true rfl) dX3_weigh_41 ⟨Nat.le_of_ble_eq_true rfl, Nat.le_of_ble_eq_true rfl⟩ (fun _ H locs _ hP hD hS => ?_)
  have hP : va_P D vwCl (xw cy h ad nS nB st (va_up bk j (bInspect (bk j))) gate nu bt wt) H := hP
  have hD : va_D A (xw cy h ad nS nB st (va_up bk j (bInspect (bk j))) gate nu bt wt) := hD
  refine W.eq (g2 := F0 m 44 ls [.int ((bk j) 4)]) rfl ?_
  exact xri () hx hb hr hlocks hS (Nat.le_of_ble_eq_true rfl) (Nat.le_of_ble_eq_true rfl) dX3_weigh_44 hP hD rfl trivial

set_option maxHeartbeats 4000000 in
set_option maxRecDepth 100000 in
theorem c_X3_weigh_1 (l : Launch) (hst : l.stackTraces = false) (D : va_G) (cy : Nat → ClassId) (sa : Nat → Nat) (h : Nat) (ad : Nat → Nat) (nS nB : Nat) (st bk : Nat → Iu) (gate nu : Iu) (bt : Nat) (wt : va_W) (p0 : Int32) (hv : ¬ vp_in p0 nB) (hcS : nS ≤ 4) (hcB : nB ≤ 6) : xT l D cy sa yX3_weigh wsX3_weigh ({ frames := 6, cells := 1, slots := 6, locals := 120 } : Room) [.ref h, .int p0] (xw cy h ad nS nB st bk gate nu bt wt) E_I := by
  refine xT.of cX3_weigh 3 (some .int) RX3 (by decide +kernel) rfl rfl (Nat.le_of_ble_eq_true rfl) ?_
  intro p e s m below meth c A ls hx hb hr hts hown hlocks hml hin hK hA hP hD hS hV hZ htb hl
  have hl : lv_has ls 3 [(0, .ref h), (1, .int p0)] := hl
  have hinX3 : ∀ w ∈ wsX30, w ∈ wsX3_weigh := fun _ h => List.mem_cons_of_mem _ (List.mem_append_left _ (List.mem_append_left _ (List.mem_append_left _ (List.mem_append_left _ (List.mem_append_right _ h)))))
  refine lv_aload_n hx hb dX3_weigh_0 rfl (lv_at hl 0 rfl) ?_
  refine va_get (D := D) (ci := 3) (v := .ref (ad 0)) (C := RX3) (T := TX3) (N := 2) hx hb hts hinX3 hown hK.1 hP 0 rfl rfl 0 (by decide) (hts (.fieldLink RX3 10 "LoafMarks" "town" "LLoafMarks$Town;") (List.mem_of_getElem? (i := 5) rfl)) (fun _ h9 => h9) rfl dX3_weigh_1 ?_
  refine lv_iload_n hx hb dX3_weigh_4 rfl (lv_at hl 1 rfl) ?_
  refine xcV (As := [.int p0]) (rest := []) ⟨hx, hb, hml, hown, hts⟩ (c_X2_bakerAt l D cy ad nS nB st bk gate nu p0 (by omega)) (cwV 1 hts gX3_weigh_X2_bakerAt rfl rfl rfl (by decide +kernel) ⟨Nat.le_of_ble_eq_true rfl, Nat.le_of_ble_eq_true rfl⟩) hK hP hD hS hA rfl rfl rfl (xE_town) rfl hl.1 rfl (Nat.le_of_ble_eq_true rfl) dX3_weigh_5 ⟨Nat.le_of_ble_eq_true rfl, Nat.le_of_ble_eq_true rfl⟩ (fun _ H locs _ hP hD hS => ?_)
  have hP : va_P D vwCl (xw cy h ad nS nB st bk gate nu bt wt) H := hP
  have hD : va_D A (xw cy h ad nS nB st bk gate nu bt wt) := hD
  refine W.eq (g2 := F0 m 8 ls [va_rf (bAt ad nB p0)]) rfl ?_
  refine W.eq (g2 := F0 m 8 ls [.null]) (by show F0 m 8 ls (va_rf (bAt ad nB p0) :: _) = _; rw [bAt_none hv]) ?_
  refine lv_astore_nN (lv' := [(2, .null), (0, .ref h), (1, .int p0)]) hx hb dX3_weigh_8 rfl hl (by decide) rfl (fun ls hl => ?_)
  refine lv_aload_nN hx hb dX3_weigh_9 rfl (lv_at hl 0 rfl) ?_
  refine lv_ifnonnullN hx hb dX3_weigh_10 ?_
  exact xthrow (cls := E_I) (text := "there is no such baker") hx hb hst hown (by decide +kernel) (hts (.classLink RX3 34 "java/lang/IndexOutOfBoundsException") (List.mem_of_getElem? (i := 1) rfl)) (hts (.initialized "java/lang/IndexOutOfBoundsException") (List.mem_of_getElem? (i := 2) rfl)) (List.mem_of_getElem? (i := 12) rfl) hV hZ (fun w h => hts w (List.mem_cons_of_mem _ (List.mem_append_left _ (List.mem_append_right _ h)))) xcovI xotI hS hP (hl.1.trans hml.symm) dX3_weigh_13 dX3_weigh_16 dX3_weigh_17 dX3_weigh_19 dX3_weigh_22 htb hlocks (Nat.le_of_ble_eq_true rfl) (Nat.le_of_ble_eq_true rfl) (Nat.le_of_ble_eq_true rfl) (Nat.le_of_ble_eq_true rfl) (Nat.le_of_ble_eq_true rfl) (Nat.le_of_ble_eq_true rfl)

set_option maxHeartbeats 4000000 in
set_option maxRecDepth 100000 in
theorem c_X3_weigh_2 (l : Launch) (hst : l.stackTraces = false) (D : va_G) (cy : Nat → ClassId) (sa : Nat → Nat) (h : Nat) (ad : Nat → Nat) (nS nB : Nat) (st bk : Nat → Iu) (gate nu : Iu) (bt : Nat) (wt : va_W) (j : Nat) (hj : j < nB) (h2 : ¬ (0 : Int32) < bk j 5) (hcS : nS ≤ 4) (hcB : nB ≤ 6) : xT l D cy sa yX3_weigh wsX3_weigh ({ frames := 6, cells := 1, slots := 6, locals := 120 } : Room) [.ref h, .int (nI j)] (xw cy h ad nS nB st bk gate nu bt wt) E_S := by
  refine xT.of cX3_weigh 3 (some .int) RX3 (by decide +kernel) rfl rfl (Nat.le_of_ble_eq_true rfl) ?_
  intro p e s m below meth c A ls hx hb hr hts hown hlocks hml hin hK hA hP hD hS hV hZ htb hl
  have hl : lv_has ls 3 [(0, .ref h), (1, .int (nI j))] := hl
  have hinX0 : ∀ w ∈ wsX00, w ∈ wsX3_weigh := fun _ h => List.mem_cons_of_mem _ (List.mem_append_left _ (List.mem_append_left _ (List.mem_append_left _ (List.mem_append_right _ h))))
  have hinX3 : ∀ w ∈ wsX30, w ∈ wsX3_weigh := fun _ h => List.mem_cons_of_mem _ (List.mem_append_left _ (List.mem_append_left _ (List.mem_append_left _ (List.mem_append_left _ (List.mem_append_right _ h)))))
  refine lv_aload_n hx hb dX3_weigh_0 rfl (lv_at hl 0 rfl) ?_
  refine va_get (D := D) (ci := 3) (v := .ref (ad 0)) (C := RX3) (T := TX3) (N := 2) hx hb hts hinX3 hown hK.1 hP 0 rfl rfl 0 (by decide) (hts (.fieldLink RX3 10 "LoafMarks" "town" "LLoafMarks$Town;") (List.mem_of_getElem? (i := 5) rfl)) (fun _ h9 => h9) rfl dX3_weigh_1 ?_
  refine lv_iload_n hx hb dX3_weigh_4 rfl (lv_at hl 1 rfl) ?_
  refine xcV (As := [.int (nI j)]) (rest := []) ⟨hx, hb, hml, hown, hts⟩ (c_X2_bakerAt l D cy ad nS nB st bk gate nu (nI j) (by omega)) (cwV 1 hts gX3_weigh_X2_bakerAt rfl rfl rfl (by decide +kernel) ⟨Nat.le_of_ble_eq_true rfl, Nat.le_of_ble_eq_true rfl⟩) hK hP hD hS hA rfl rfl rfl (xE_town) rfl hl.1 rfl (Nat.le_of_ble_eq_true rfl) dX3_weigh_5 ⟨Nat.le_of_ble_eq_true rfl, Nat.le_of_ble_eq_true rfl⟩ (fun _ H locs _ hP hD hS => ?_)
  have hP : va_P D vwCl (xw cy h ad nS nB st bk gate nu bt wt) H := hP
  have hD : va_D A (xw cy h ad nS nB st bk gate nu bt wt) := hD
  refine W.eq (g2 := F0 m 8 ls [va_rf (bAt ad nB (nI j))]) rfl ?_
  refine W.eq (g2 := F0 m 8 ls [.ref (ad (8 + j))]) (by show F0 m 8 ls (va_rf (bAt ad nB (nI j)) :: _) = _; rw [bAt_nI hj hcB]) ?_
  refine lv_astore_n (lv' := [(2, .ref (ad (8 + j))), (0, .ref h), (1, .int (nI j))]) hx hb dX3_weigh_8 rfl hl (by decide) rfl (fun ls hl => ?_)
  refine lv_aload_n hx hb dX3_weigh_9 rfl (lv_at hl 0 rfl) ?_
  refine lv_ifnonnull (tgt := 23) hx hb dX3_weigh_10 (by decide) ?_
  refine lv_aload_n hx hb dX3_weigh_23 rfl (lv_at hl 0 rfl) ?_
  refine va_get (D := D) (ci := 0) (v := .int (bk j 5)) (C := RX0) (T := TX0) (N := 8) hx hb hts hinX0 hown hK.1 hP (4 + nS + j + 1) (xw_at (tw_bk hj)) rfl 5 (by decide) (hts (.fieldLink RX3 98 "LoafMarks$Baker" "shelf" "I") (List.mem_of_getElem? (i := 6) rfl)) (fun _ h9 => h9) rfl dX3_weigh_24 ?_
  refine lv_if_gt (tgt := 40) hx hb dX3_weigh_27 (by decide) (fun h => absurd h h2) (fun _ => ?_)
  exact xthrow (cls := E_S) (text := "there is no loaf on the shelf") hx hb hst hown (by decide +kernel) (hts (.classLink RX3 52 "java/lang/IllegalStateException") (List.mem_of_getElem? (i := 3) rfl)) (hts (.initialized "java/lang/IllegalStateException") (List.mem_of_getElem? (i := 4) rfl)) (List.mem_of_getElem? (i := 13) rfl) hV hZ (fun w h => hts w (List.mem_cons_of_mem _ (List.mem_append_right _ h))) xcovS xotS hS hP (hl.1.trans hml.symm) dX3_weigh_30 dX3_weigh_33 dX3_weigh_34 dX3_weigh_36 dX3_weigh_39 htb hlocks (Nat.le_of_ble_eq_true rfl) (Nat.le_of_ble_eq_true rfl) (Nat.le_of_ble_eq_true rfl) (Nat.le_of_ble_eq_true rfl) (Nat.le_of_ble_eq_true rfl) (Nat.le_of_ble_eq_true rfl)

set_option maxHeartbeats 4000000 in
set_option maxRecDepth 100000 in
/-- pardon -/
theorem c_X3_pardon (l : Launch) (D : va_G) (cy : Nat → ClassId) (h : Nat) (ad : Nat → Nat) (nS nB : Nat) (st bk : Nat → Iu) (gate nu : Iu) (bt : Nat) (wt : va_W) (j : Nat) (hj : j < nB) (hg : bk j 7 = 0 ∨ bk j 7 = 1) (hcS : nS ≤ 4) (hcB : nB ≤ 6) : xM l D cy yX3_pardon wsX3_pardon ({ frames := 6, cells := 1, slots := 6, locals := 120 } : Room) [.ref h, .int (nI j)] (xw cy h ad nS nB st bk gate nu bt wt) (fun _ : Unit => some (.int (bk j 7))) (fun _ => True) (fun _ => xw cy h ad nS nB st (va_up bk j (bForgive (bk j))) gate nu bt wt) := by
  refine xM.of cX3_pardon 3 (some .boolean) RX3 (by decide +kernel) rfl rfl (Nat.le_of_ble_eq_true rfl) ?_
  intro p e s m below meth c A ls hx hb hr hts hown hlocks hml hin hK hA hP hD hS hl
  have hl : lv_has ls 3 [(0, .ref h), (1, .int (nI j))] := hl
  have hinX3 : ∀ w ∈ wsX30, w ∈ wsX3_pardon := fun _ h => List.mem_cons_of_mem _ (List.mem_append_left _ (List.mem_append_left _ (List.mem_append_left _ (List.mem_append_right _ h))))
  refine lv_aload_n hx hb dX3_pardon_0 rfl (lv_at hl 0 rfl) ?_
  refine va_get (D := D) (ci := 3) (v := .ref (ad 0)) (C := RX3) (T := TX3) (N := 2) hx hb hts hinX3 hown hK.1 hP 0 rfl rfl 0 (by decide) (hts (.fieldLink RX3 10 "LoafMarks" "town" "LLoafMarks$Town;") (List.mem_of_getElem? (i := 3) rfl)) (fun _ h9 => h9) rfl dX3_pardon_1 ?_
  refine lv_iload_n hx hb dX3_pardon_4 rfl (lv_at hl 1 rfl) ?_
  refine xcV (As := [.int (nI j)]) (rest := []) ⟨hx, hb, hml, hown, hts⟩ (c_X2_bakerAt l D cy ad nS nB st bk gate nu (nI j) (by omega)) (cwV 1 hts gX3_pardon_X2_bakerAt rfl rfl rfl (by decide +kernel) ⟨Nat.le_of_ble_eq_true rfl, Nat.le_of_ble_eq_true rfl⟩) hK hP hD hS hA rfl rfl rfl (xE_town) rfl hl.1 rfl (Nat.le_of_ble_eq_true rfl) dX3_pardon_5 ⟨Nat.le_of_ble_eq_true rfl, Nat.le_of_ble_eq_true rfl⟩ (fun _ H locs _ hP hD hS => ?_)
  have hP : va_P D vwCl (xw cy h ad nS nB st bk gate nu bt wt) H := hP
  have hD : va_D A (xw cy h ad nS nB st bk gate nu bt wt) := hD
  refine W.eq (g2 := F0 m 8 ls [va_rf (bAt ad nB (nI j))]) rfl ?_
  refine W.eq (g2 := F0 m 8 ls [.ref (ad (8 + j))]) (by show F0 m 8 ls (va_rf (bAt ad nB (nI j)) :: _) = _; rw [bAt_nI hj hcB]) ?_
  refine lv_astore_n (lv' := [(2, .ref (ad (8 + j))), (0, .ref h), (1, .int (nI j))]) hx hb dX3_pardon_8 rfl hl (by decide) rfl (fun ls hl => ?_)
  refine lv_aload_n hx hb dX3_pardon_9 rfl (lv_at hl 0 rfl) ?_
  refine lv_ifnonnull (tgt := 23) hx hb dX3_pardon_10 (by decide) ?_
  refine lv_aload_n hx hb dX3_pardon_23 rfl (lv_at hl 0 rfl) ?_
  refine xcV (As := []) (rest := []) ⟨hx, hb, hml, hown, hts⟩ (c_X0_forgive l D cy (ad (8 + j)) (bk j) hg) (cwV 0 hts gX3_pardon_X0_forgive rfl rfl rfl (by decide +kernel) ⟨Nat.le_of_ble_eq_true rfl, Nat.le_of_ble_eq_true rfl⟩) hK hP hD hS hA rfl rfl rfl (xE_xbk (bForgive (bk j)) hj) rfl hl.1 rfl (Nat.le_of_ble_eq_true rfl) dX3_pardon_24 ⟨Nat.le_of_ble_eq_true rfl, Nat.le_of_ble_eq_true rfl⟩ (fun _ H locs _ hP hD hS => ?_)
  have hP : va_P D vwCl (xw cy h ad nS nB st (va_up bk j (bForgive (bk j))) gate nu bt wt) H := hP
  have hD : va_D A (xw cy h ad nS nB st (va_up bk j (bForgive (bk j))) gate nu bt wt) := hD
  refine W.eq (g2 := F0 m 27 ls [.int (bk j 7)]) rfl ?_
  exact xrz () hx hb hr hlocks hS (Nat.le_of_ble_eq_true rfl) (Nat.le_of_ble_eq_true rfl) dX3_pardon_27 (n_bool hg).1 hP hD rfl trivial

set_option maxHeartbeats 4000000 in
set_option maxRecDepth 100000 in
theorem c_X3_pardon_1 (l : Launch) (hst : l.stackTraces = false) (D : va_G) (cy : Nat → ClassId) (sa : Nat → Nat) (h : Nat) (ad : Nat → Nat) (nS nB : Nat) (st bk : Nat → Iu) (gate nu : Iu) (bt : Nat) (wt : va_W) (p0 : Int32) (hv : ¬ vp_in p0 nB) (hcS : nS ≤ 4) (hcB : nB ≤ 6) : xT l D cy sa yX3_pardon wsX3_pardon ({ frames := 6, cells := 1, slots := 6, locals := 120 } : Room) [.ref h, .int p0] (xw cy h ad nS nB st bk gate nu bt wt) E_I := by
  refine xT.of cX3_pardon 3 (some .boolean) RX3 (by decide +kernel) rfl rfl (Nat.le_of_ble_eq_true rfl) ?_
  intro p e s m below meth c A ls hx hb hr hts hown hlocks hml hin hK hA hP hD hS hV hZ htb hl
  have hl : lv_has ls 3 [(0, .ref h), (1, .int p0)] := hl
  have hinX3 : ∀ w ∈ wsX30, w ∈ wsX3_pardon := fun _ h => List.mem_cons_of_mem _ (List.mem_append_left _ (List.mem_append_left _ (List.mem_append_left _ (List.mem_append_right _ h))))
  refine lv_aload_n hx hb dX3_pardon_0 rfl (lv_at hl 0 rfl) ?_
  refine va_get (D := D) (ci := 3) (v := .ref (ad 0)) (C := RX3) (T := TX3) (N := 2) hx hb hts hinX3 hown hK.1 hP 0 rfl rfl 0 (by decide) (hts (.fieldLink RX3 10 "LoafMarks" "town" "LLoafMarks$Town;") (List.mem_of_getElem? (i := 3) rfl)) (fun _ h9 => h9) rfl dX3_pardon_1 ?_
  refine lv_iload_n hx hb dX3_pardon_4 rfl (lv_at hl 1 rfl) ?_
  refine xcV (As := [.int p0]) (rest := []) ⟨hx, hb, hml, hown, hts⟩ (c_X2_bakerAt l D cy ad nS nB st bk gate nu p0 (by omega)) (cwV 1 hts gX3_pardon_X2_bakerAt rfl rfl rfl (by decide +kernel) ⟨Nat.le_of_ble_eq_true rfl, Nat.le_of_ble_eq_true rfl⟩) hK hP hD hS hA rfl rfl rfl (xE_town) rfl hl.1 rfl (Nat.le_of_ble_eq_true rfl) dX3_pardon_5 ⟨Nat.le_of_ble_eq_true rfl, Nat.le_of_ble_eq_true rfl⟩ (fun _ H locs _ hP hD hS => ?_)
  have hP : va_P D vwCl (xw cy h ad nS nB st bk gate nu bt wt) H := hP
  have hD : va_D A (xw cy h ad nS nB st bk gate nu bt wt) := hD
  refine W.eq (g2 := F0 m 8 ls [va_rf (bAt ad nB p0)]) rfl ?_
  refine W.eq (g2 := F0 m 8 ls [.null]) (by show F0 m 8 ls (va_rf (bAt ad nB p0) :: _) = _; rw [bAt_none hv]) ?_
  refine lv_astore_nN (lv' := [(2, .null), (0, .ref h), (1, .int p0)]) hx hb dX3_pardon_8 rfl hl (by decide) rfl (fun ls hl => ?_)
  refine lv_aload_nN hx hb dX3_pardon_9 rfl (lv_at hl 0 rfl) ?_
  refine lv_ifnonnullN hx hb dX3_pardon_10 ?_
  exact xthrow (cls := E_I) (text := "there is no such baker") hx hb hst hown (by decide +kernel) (hts (.classLink RX3 34 "java/lang/IndexOutOfBoundsException") (List.mem_of_getElem? (i := 1) rfl)) (hts (.initialized "java/lang/IndexOutOfBoundsException") (List.mem_of_getElem? (i := 2) rfl)) (List.mem_of_getElem? (i := 12) rfl) hV hZ (fun w h => hts w (List.mem_cons_of_mem _ (List.mem_append_right _ h))) xcovI xotI hS hP (hl.1.trans hml.symm) dX3_pardon_13 dX3_pardon_16 dX3_pardon_17 dX3_pardon_19 dX3_pardon_22 htb hlocks (Nat.le_of_ble_eq_true rfl) (Nat.le_of_ble_eq_true rfl) (Nat.le_of_ble_eq_true rfl) (Nat.le_of_ble_eq_true rfl) (Nat.le_of_ble_eq_true rfl) (Nat.le_of_ble_eq_true rfl)

set_option maxHeartbeats 4000000 in
set_option maxRecDepth 100000 in
/-- store -/
theorem c_X3_store (l : Launch) (D : va_G) (cy : Nat → ClassId) (h : Nat) (ad : Nat → Nat) (nS nB : Nat) (st bk : Nat → Iu) (gate nu : Iu) (bt : Nat) (wt : va_W) (i : Nat) (hi : i < nS) (k : Nat) (hk : k < 4) (hcS : nS ≤ 4) (hcB : nB ≤ 6) : xM l D cy yX3_store wsX3_store ({ frames := 6, cells := 1, slots := 6, locals := 120 } : Room) [.ref h, .int (nI i), .int (nI k)] (xw cy h ad nS nB st bk gate nu bt wt) (fun _ : Unit => some (.int (stFact st bk nB i k))) (fun _ => True) (fun _ => xw cy h ad nS nB st bk gate nu bt wt) := by
  refine xM.of cX3_store 3 (some .int) RX3 (by decide +kernel) rfl rfl (Nat.le_of_ble_eq_true rfl) ?_
  intro p e s m below meth c A ls hx hb hr hts hown hlocks hml hin hK hA hP hD hS hl
  have hl : lv_has ls 3 [(0, .ref h), (1, .int (nI i)), (2, .int (nI k))] := hl
  have hinX3 : ∀ w ∈ wsX30, w ∈ wsX3_store := fun _ h => List.mem_cons_of_mem _ (List.mem_append_left _ (List.mem_append_left _ (List.mem_append_left _ (List.mem_append_left _ (List.mem_append_right _ h)))))
  refine lv_aload_n hx hb dX3_store_0 rfl (lv_at hl 0 rfl) ?_
  refine va_get (D := D) (ci := 3) (v := .ref (ad 0)) (C := RX3) (T := TX3) (N := 2) hx hb hts hinX3 hown hK.1 hP 0 rfl rfl 0 (by decide) (hts (.fieldLink RX3 10 "LoafMarks" "town" "LLoafMarks$Town;") (List.mem_of_getElem? (i := 3) rfl)) (fun _ h9 => h9) rfl dX3_store_1 ?_
  refine lv_iload_n hx hb dX3_store_4 rfl (lv_at hl 1 rfl) ?_
  refine xcV (As := [.int (nI i)]) (rest := []) ⟨hx, hb, hml, hown, hts⟩ (c_X2_storeAt l D cy ad nS nB st bk gate nu (nI i) (by omega)) (cwV 1 hts gX3_store_X2_storeAt rfl rfl rfl (by decide +kernel) ⟨Nat.le_of_ble_eq_true rfl, Nat.le_of_ble_eq_true rfl⟩) hK hP hD hS hA rfl rfl rfl (xE_town) rfl hl.1 rfl (Nat.le_of_ble_eq_true rfl) dX3_store_5 ⟨Nat.le_of_ble_eq_true rfl, Nat.le_of_ble_eq_true rfl⟩ (fun _ H locs _ hP hD hS => ?_)
  have hP : va_P D vwCl (xw cy h ad nS nB st bk gate nu bt wt) H := hP
  have hD : va_D A (xw cy h ad nS nB st bk gate nu bt wt) := hD
  refine W.eq (g2 := F0 m 8 ls [va_rf (sAt ad nS (nI i))]) rfl ?_
  refine W.eq (g2 := F0 m 8 ls [.ref (ad (4 + i))]) (by show F0 m 8 ls (va_rf (sAt ad nS (nI i)) :: _) = _; rw [sAt_nI hi hcS]) ?_
  refine lv_ifnonnull (tgt := 21) hx hb dX3_store_8 (by decide) ?_
  refine lv_iload_n hx hb dX3_store_21 rfl (lv_at hl 2 rfl) ?_
  refine lv_iconst (v := 0) hx hb dX3_store_22 (by decide) ?_
  refine lv_iconst (v := 3) hx hb dX3_store_23 (by decide) ?_
  refine xcS (As := [.int (nI k), .int 0, .int 3]) (rest := []) ⟨hx, hb, hml, hown, hts⟩ (c_X3_isWithin l D cy (nI k) 0 3) (va_cwS 3 hts gX3_store_X3_isWithin rfl rfl rfl (by decide +kernel) ⟨Nat.le_of_ble_eq_true rfl, Nat.le_of_ble_eq_true rfl⟩) hK hP hD hS hA (xE_nil) rfl hl.1 rfl (Nat.le_of_ble_eq_true rfl) dX3_store_24 ⟨Nat.le_of_ble_eq_true rfl, Nat.le_of_ble_eq_true rfl⟩ (fun _ H locs _ hP hD hS => ?_)
  have hP : va_P D vwCl (xw cy h ad nS nB st bk gate nu bt wt) H := hP
  have hD : va_D A (xw cy h ad nS nB st bk gate nu bt wt) := hD
  refine W.eq (g2 := F0 m 27 ls [.int (wi (nI k) 0 3)]) rfl ?_
  refine lv_if_ne (tgt := 40) hx hb dX3_store_27 (by decide) (fun _ => ?_) (fun z => absurd z (wi_ok ⟨nI_pos' (n := k) (by omega), nI_le (a := k) (b := 3) (by omega) (by decide)⟩))
  refine lv_aload_n hx hb dX3_store_40 rfl (lv_at hl 0 rfl) ?_
  refine va_get (D := D) (ci := 3) (v := .ref (ad 0)) (C := RX3) (T := TX3) (N := 2) hx hb hts hinX3 hown hK.1 hP 0 rfl rfl 0 (by decide) (hts (.fieldLink RX3 10 "LoafMarks" "town" "LLoafMarks$Town;") (List.mem_of_getElem? (i := 3) rfl)) (fun _ h9 => h9) rfl dX3_store_41 ?_
  refine lv_iload_n hx hb dX3_store_44 rfl (lv_at hl 1 rfl) ?_
  refine lv_iload_n hx hb dX3_store_45 rfl (lv_at hl 2 rfl) ?_
  refine xcV (As := [.int (nI i), .int (nI k)]) (rest := []) ⟨hx, hb, hml, hown, hts⟩ (c_X2_storeFact l D cy ad nS nB st bk gate nu i k (by omega) (by omega) (by omega) (by omega)) (cwV 2 hts gX3_store_X2_storeFact rfl rfl rfl (by decide +kernel) ⟨Nat.le_of_ble_eq_true rfl, Nat.le_of_ble_eq_true rfl⟩) hK hP hD hS hA rfl rfl rfl (xE_town) rfl hl.1 rfl (Nat.le_of_ble_eq_true rfl) dX3_store_46 ⟨Nat.le_of_ble_eq_true rfl, Nat.le_of_ble_eq_true rfl⟩ (fun _ H locs _ hP hD hS => ?_)
  have hP : va_P D vwCl (xw cy h ad nS nB st bk gate nu bt wt) H := hP
  have hD : va_D A (xw cy h ad nS nB st bk gate nu bt wt) := hD
  refine W.eq (g2 := F0 m 49 ls [.int (stFact st bk nB i k)]) rfl ?_
  exact xri () hx hb hr hlocks hS (Nat.le_of_ble_eq_true rfl) (Nat.le_of_ble_eq_true rfl) dX3_store_49 hP hD rfl trivial

set_option maxHeartbeats 4000000 in
set_option maxRecDepth 100000 in
theorem c_X3_store_1a (l : Launch) (hst : l.stackTraces = false) (D : va_G) (cy : Nat → ClassId) (sa : Nat → Nat) (h : Nat) (ad : Nat → Nat) (nS nB : Nat) (st bk : Nat → Iu) (gate nu : Iu) (bt : Nat) (wt : va_W) (p0 p1 : Int32) (hv : ¬ vp_in p0 nS) (hcS : nS ≤ 4) (hcB : nB ≤ 6) : xT l D cy sa yX3_store wsX3_store ({ frames := 6, cells := 1, slots := 6, locals := 120 } : Room) [.ref h, .int p0, .int p1] (xw cy h ad nS nB st bk gate nu bt wt) E_I := by
  refine xT.of cX3_store 3 (some .int) RX3 (by decide +kernel) rfl rfl (Nat.le_of_ble_eq_true rfl) ?_
  intro p e s m below meth c A ls hx hb hr hts hown hlocks hml hin hK hA hP hD hS hV hZ htb hl
  have hl : lv_has ls 3 [(0, .ref h), (1, .int p0), (2, .int p1)] := hl
  have hinX3 : ∀ w ∈ wsX30, w ∈ wsX3_store := fun _ h => List.mem_cons_of_mem _ (List.mem_append_left _ (List.mem_append_left _ (List.mem_append_left _ (List.mem_append_left _ (List.mem_append_right _ h)))))
  refine lv_aload_n hx hb dX3_store_0 rfl (lv_at hl 0 rfl) ?_
  refine va_get (D := D) (ci := 3) (v := .ref (ad 0)) (C := RX3) (T := TX3) (N := 2) hx hb hts hinX3 hown hK.1 hP 0 rfl rfl 0 (by decide) (hts (.fieldLink RX3 10 "LoafMarks" "town" "LLoafMarks$Town;") (List.mem_of_getElem? (i := 3) rfl)) (fun _ h9 => h9) rfl dX3_store_1 ?_
  refine lv_iload_n hx hb dX3_store_4 rfl (lv_at hl 1 rfl) ?_
  refine xcV (As := [.int p0]) (rest := []) ⟨hx, hb, hml, hown, hts⟩ (c_X2_storeAt l D cy ad nS nB st bk gate nu p0 (by omega)) (cwV 1 hts gX3_store_X2_storeAt rfl rfl rfl (by decide +kernel) ⟨Nat.le_of_ble_eq_true rfl, Nat.le_of_ble_eq_true rfl⟩) hK hP hD hS hA rfl rfl rfl (xE_town) rfl hl.1 rfl (Nat.le_of_ble_eq_true rfl) dX3_store_5 ⟨Nat.le_of_ble_eq_true rfl, Nat.le_of_ble_eq_true rfl⟩ (fun _ H locs _ hP hD hS => ?_)
  have hP : va_P D vwCl (xw cy h ad nS nB st bk gate nu bt wt) H := hP
  have hD : va_D A (xw cy h ad nS nB st bk gate nu bt wt) := hD
  refine W.eq (g2 := F0 m 8 ls [va_rf (sAt ad nS p0)]) rfl ?_
  refine W.eq (g2 := F0 m 8 ls [.null]) (by show F0 m 8 ls (va_rf (sAt ad nS p0) :: _) = _; rw [sAt_none hv]) ?_
  refine lv_ifnonnullN hx hb dX3_store_8 ?_
  exact xthrow (cls := E_I) (text := "there is no such store") hx hb hst hown (by decide +kernel) (hts (.classLink RX3 34 "java/lang/IndexOutOfBoundsException") (List.mem_of_getElem? (i := 1) rfl)) (hts (.initialized "java/lang/IndexOutOfBoundsException") (List.mem_of_getElem? (i := 2) rfl)) (List.mem_of_getElem? (i := 6) rfl) hV hZ (fun w h => hts w (List.mem_cons_of_mem _ (List.mem_append_right _ h))) xcovI xotI hS hP (hl.1.trans hml.symm) dX3_store_11 dX3_store_14 dX3_store_15 dX3_store_17 dX3_store_20 htb hlocks (Nat.le_of_ble_eq_true rfl) (Nat.le_of_ble_eq_true rfl) (Nat.le_of_ble_eq_true rfl) (Nat.le_of_ble_eq_true rfl) (Nat.le_of_ble_eq_true rfl) (Nat.le_of_ble_eq_true rfl)

set_option maxHeartbeats 4000000 in
set_option maxRecDepth 100000 in
theorem c_X3_store_1b (l : Launch) (hst : l.stackTraces = false) (D : va_G) (cy : Nat → ClassId) (sa : Nat → Nat) (h : Nat) (ad : Nat → Nat) (nS nB : Nat) (st bk : Nat → Iu) (gate nu : Iu) (bt : Nat) (wt : va_W) (i : Nat) (hi : i < nS) (p1 : Int32) (h2 : ¬ ((0 : Int32) ≤ p1 ∧ p1 ≤ 3)) (hcS : nS ≤ 4) (hcB : nB ≤ 6) : xT l D cy sa yX3_store wsX3_store ({ frames := 6, cells := 1, slots := 6, locals := 120 } : Room) [.ref h, .int (nI i), .int p1] (xw cy h ad nS nB st bk gate nu bt wt) E_I := by
  refine xT.of cX3_store 3 (some .int) RX3 (by decide +kernel) rfl rfl (Nat.le_of_ble_eq_true rfl) ?_
  intro p e s m below meth c A ls hx hb hr hts hown hlocks hml hin hK hA hP hD hS hV hZ htb hl
  have hl : lv_has ls 3 [(0, .ref h), (1, .int (nI i)), (2, .int p1)] := hl
  have hinX3 : ∀ w ∈ wsX30, w ∈ wsX3_store := fun _ h => List.mem_cons_of_mem _ (List.mem_append_left _ (List.mem_append_left _ (List.mem_append_left _ (List.mem_append_left _ (List.mem_append_right _ h)))))
  refine lv_aload_n hx hb dX3_store_0 rfl (lv_at hl 0 rfl) ?_
  refine va_get (D := D) (ci := 3) (v := .ref (ad 0)) (C := RX3) (T := TX3) (N := 2) hx hb hts hinX3 hown hK.1 hP 0 rfl rfl 0 (by decide) (hts (.fieldLink RX3 10 "LoafMarks" "town" "LLoafMarks$Town;") (List.mem_of_getElem? (i := 3) rfl)) (fun _ h9 => h9) rfl dX3_store_1 ?_
  refine lv_iload_n hx hb dX3_store_4 rfl (lv_at hl 1 rfl) ?_
  refine xcV (As := [.int (nI i)]) (rest := []) ⟨hx, hb, hml, hown, hts⟩ (c_X2_storeAt l D cy ad nS nB st bk gate nu (nI i) (by omega)) (cwV 1 hts gX3_store_X2_storeAt rfl rfl rfl (by decide +kernel) ⟨Nat.le_of_ble_eq_true rfl, Nat.le_of_ble_eq_true rfl⟩) hK hP hD hS hA rfl rfl rfl (xE_town) rfl hl.1 rfl (Nat.le_of_ble_eq_true rfl) dX3_store_5 ⟨Nat.le_of_ble_eq_true rfl, Nat.le_of_ble_eq_true rfl⟩ (fun _ H locs _ hP hD hS => ?_)
  have hP : va_P D vwCl (xw cy h ad nS nB st bk gate nu bt wt) H := hP
  have hD : va_D A (xw cy h ad nS nB st bk gate nu bt wt) := hD
  refine W.eq (g2 := F0 m 8 ls [va_rf (sAt ad nS (nI i))]) rfl ?_
  refine W.eq (g2 := F0 m 8 ls [.ref (ad (4 + i))]) (by show F0 m 8 ls (va_rf (sAt ad nS (nI i)) :: _) = _; rw [sAt_nI hi hcS]) ?_
  refine lv_ifnonnull (tgt := 21) hx hb dX3_store_8 (by decide) ?_
  refine lv_iload_n hx hb dX3_store_21 rfl (lv_at hl 2 rfl) ?_
  refine lv_iconst (v := 0) hx hb dX3_store_22 (by decide) ?_
  refine lv_iconst (v := 3) hx hb dX3_store_23 (by decide) ?_
  refine xcS (As := [.int p1, .int 0, .int 3]) (rest := []) ⟨hx, hb, hml, hown, hts⟩ (c_X3_isWithin l D cy p1 0 3) (va_cwS 3 hts gX3_store_X3_isWithin rfl rfl rfl (by decide +kernel) ⟨Nat.le_of_ble_eq_true rfl, Nat.le_of_ble_eq_true rfl⟩) hK hP hD hS hA (xE_nil) rfl hl.1 rfl (Nat.le_of_ble_eq_true rfl) dX3_store_24 ⟨Nat.le_of_ble_eq_true rfl, Nat.le_of_ble_eq_true rfl⟩ (fun _ H locs _ hP hD hS => ?_)
  have hP : va_P D vwCl (xw cy h ad nS nB st bk gate nu bt wt) H := hP
  have hD : va_D A (xw cy h ad nS nB st bk gate nu bt wt) := hD
  refine W.eq (g2 := F0 m 27 ls [.int (wi p1 0 3)]) rfl ?_
  refine lv_if_ne (tgt := 40) hx hb dX3_store_27 (by decide) (fun z => absurd (wi_no h2) z) (fun _ => ?_)
  exact xthrow (cls := E_I) (text := "what is not 0 to 3") hx hb hst hown (by decide +kernel) (hts (.classLink RX3 34 "java/lang/IndexOutOfBoundsException") (List.mem_of_getElem? (i := 1) rfl)) (hts (.initialized "java/lang/IndexOutOfBoundsException") (List.mem_of_getElem? (i := 2) rfl)) (List.mem_of_getElem? (i := 14) rfl) hV hZ (fun w h => hts w (List.mem_cons_of_mem _ (List.mem_append_right _ h))) xcovI xotI hS hP (hl.1.trans hml.symm) dX3_store_30 dX3_store_33 dX3_store_34 dX3_store_36 dX3_store_39 htb hlocks (Nat.le_of_ble_eq_true rfl) (Nat.le_of_ble_eq_true rfl) (Nat.le_of_ble_eq_true rfl) (Nat.le_of_ble_eq_true rfl) (Nat.le_of_ble_eq_true rfl) (Nat.le_of_ble_eq_true rfl)

set_option maxHeartbeats 4000000 in
set_option maxRecDepth 100000 in
/-- baker -/
theorem c_X3_baker (l : Launch) (D : va_G) (cy : Nat → ClassId) (h : Nat) (ad : Nat → Nat) (nS nB : Nat) (st bk : Nat → Iu) (gate nu : Iu) (bt : Nat) (wt : va_W) (j : Nat) (hj : j < nB) (k : Nat) (hk : k < 8) (hcS : nS ≤ 4) (hcB : nB ≤ 6) : xM l D cy yX3_baker wsX3_baker ({ frames := 6, cells := 1, slots := 6, locals := 120 } : Room) [.ref h, .int (nI j), .int (nI k)] (xw cy h ad nS nB st bk gate nu bt wt) (fun _ : Unit => some (.int (bFact (bk j) k))) (fun _ => True) (fun _ => xw cy h ad nS nB st bk gate nu bt wt) := by
  refine xM.of cX3_baker 4 (some .int) RX3 (by decide +kernel) rfl rfl (Nat.le_of_ble_eq_true rfl) ?_
  intro p e s m below meth c A ls hx hb hr hts hown hlocks hml hin hK hA hP hD hS hl
  have hl : lv_has ls 4 [(0, .ref h), (1, .int (nI j)), (2, .int (nI k))] := hl
  have hinX3 : ∀ w ∈ wsX30, w ∈ wsX3_baker := fun _ h => List.mem_cons_of_mem _ (List.mem_append_left _ (List.mem_append_left _ (List.mem_append_left _ (List.mem_append_right _ h))))
  refine lv_aload_n hx hb dX3_baker_0 rfl (lv_at hl 0 rfl) ?_
  refine va_get (D := D) (ci := 3) (v := .ref (ad 0)) (C := RX3) (T := TX3) (N := 2) hx hb hts hinX3 hown hK.1 hP 0 rfl rfl 0 (by decide) (hts (.fieldLink RX3 10 "LoafMarks" "town" "LLoafMarks$Town;") (List.mem_of_getElem? (i := 3) rfl)) (fun _ h9 => h9) rfl dX3_baker_1 ?_
  refine lv_iload_n hx hb dX3_baker_4 rfl (lv_at hl 1 rfl) ?_
  refine xcV (As := [.int (nI j)]) (rest := []) ⟨hx, hb, hml, hown, hts⟩ (c_X2_bakerAt l D cy ad nS nB st bk gate nu (nI j) (by omega)) (cwV 1 hts gX3_baker_X2_bakerAt rfl rfl rfl (by decide +kernel) ⟨Nat.le_of_ble_eq_true rfl, Nat.le_of_ble_eq_true rfl⟩) hK hP hD hS hA rfl rfl rfl (xE_town) rfl hl.1 rfl (Nat.le_of_ble_eq_true rfl) dX3_baker_5 ⟨Nat.le_of_ble_eq_true rfl, Nat.le_of_ble_eq_true rfl⟩ (fun _ H locs _ hP hD hS => ?_)
  have hP : va_P D vwCl (xw cy h ad nS nB st bk gate nu bt wt) H := hP
  have hD : va_D A (xw cy h ad nS nB st bk gate nu bt wt) := hD
  refine W.eq (g2 := F0 m 8 ls [va_rf (bAt ad nB (nI j))]) rfl ?_
  refine W.eq (g2 := F0 m 8 ls [.ref (ad (8 + j))]) (by show F0 m 8 ls (va_rf (bAt ad nB (nI j)) :: _) = _; rw [bAt_nI hj hcB]) ?_
  refine lv_astore_n (lv' := [(3, .ref (ad (8 + j))), (0, .ref h), (1, .int (nI j)), (2, .int (nI k))]) hx hb dX3_baker_8 rfl hl (by decide) rfl (fun ls hl => ?_)
  refine lv_aload_n hx hb dX3_baker_9 rfl (lv_at hl 0 rfl) ?_
  refine lv_ifnonnull (tgt := 23) hx hb dX3_baker_10 (by decide) ?_
  refine lv_iload_n hx hb dX3_baker_23 rfl (lv_at hl 3 rfl) ?_
  refine lv_iconst (v := 0) hx hb dX3_baker_24 (by decide) ?_
  refine lv_bipush (v := 7) hx hb dX3_baker_25 (by decide) ?_
  refine xcS (As := [.int (nI k), .int 0, .int 7]) (rest := []) ⟨hx, hb, hml, hown, hts⟩ (c_X3_isWithin l D cy (nI k) 0 7) (va_cwS 3 hts gX3_baker_X3_isWithin rfl rfl rfl (by decide +kernel) ⟨Nat.le_of_ble_eq_true rfl, Nat.le_of_ble_eq_true rfl⟩) hK hP hD hS hA (xE_nil) rfl hl.1 rfl (Nat.le_of_ble_eq_true rfl) dX3_baker_27 ⟨Nat.le_of_ble_eq_true rfl, Nat.le_of_ble_eq_true rfl⟩ (fun _ H locs _ hP hD hS => ?_)
  have hP : va_P D vwCl (xw cy h ad nS nB st bk gate nu bt wt) H := hP
  have hD : va_D A (xw cy h ad nS nB st bk gate nu bt wt) := hD
  refine W.eq (g2 := F0 m 30 ls [.int (wi (nI k) 0 7)]) rfl ?_
  refine lv_if_ne (tgt := 43) hx hb dX3_baker_30 (by decide) (fun _ => ?_) (fun z => absurd z (wi_ok ⟨nI_pos' (n := k) (by omega), nI_le (a := k) (b := 7) (by omega) (by decide)⟩))
  refine lv_aload_n hx hb dX3_baker_43 rfl (lv_at hl 0 rfl) ?_
  refine lv_iload_n hx hb dX3_baker_44 rfl (lv_at hl 3 rfl) ?_
  refine xcV (As := [.int (nI k)]) (rest := []) ⟨hx, hb, hml, hown, hts⟩ (c_X0_fact l D cy (ad (8 + j)) (bk j) k (by omega)) (cwV 1 hts gX3_baker_X0_fact rfl rfl rfl (by decide +kernel) ⟨Nat.le_of_ble_eq_true rfl, Nat.le_of_ble_eq_true rfl⟩) hK hP hD hS hA rfl rfl rfl (xE_xbk (bk j) hj) rfl hl.1 rfl (Nat.le_of_ble_eq_true rfl) dX3_baker_45 ⟨Nat.le_of_ble_eq_true rfl, Nat.le_of_ble_eq_true rfl⟩ (fun _ H locs _ hP hD hS => ?_)
  refine W.eq (g2 := F0 m 48 ls [.int (bFact (bk j) k)]) rfl ?_
  rw [up_self] at hP hD
  exact xri () hx hb hr hlocks hS (Nat.le_of_ble_eq_true rfl) (Nat.le_of_ble_eq_true rfl) dX3_baker_48 hP hD rfl trivial

set_option maxHeartbeats 4000000 in
set_option maxRecDepth 100000 in
theorem c_X3_baker_1a (l : Launch) (hst : l.stackTraces = false) (D : va_G) (cy : Nat → ClassId) (sa : Nat → Nat) (h : Nat) (ad : Nat → Nat) (nS nB : Nat) (st bk : Nat → Iu) (gate nu : Iu) (bt : Nat) (wt : va_W) (p0 p1 : Int32) (hv : ¬ vp_in p0 nB) (hcS : nS ≤ 4) (hcB : nB ≤ 6) : xT l D cy sa yX3_baker wsX3_baker ({ frames := 6, cells := 1, slots := 6, locals := 120 } : Room) [.ref h, .int p0, .int p1] (xw cy h ad nS nB st bk gate nu bt wt) E_I := by
  refine xT.of cX3_baker 4 (some .int) RX3 (by decide +kernel) rfl rfl (Nat.le_of_ble_eq_true rfl) ?_
  intro p e s m below meth c A ls hx hb hr hts hown hlocks hml hin hK hA hP hD hS hV hZ htb hl
  have hl : lv_has ls 4 [(0, .ref h), (1, .int p0), (2, .int p1)] := hl
  have hinX3 : ∀ w ∈ wsX30, w ∈ wsX3_baker := fun _ h => List.mem_cons_of_mem _ (List.mem_append_left _ (List.mem_append_left _ (List.mem_append_left _ (List.mem_append_right _ h))))
  refine lv_aload_n hx hb dX3_baker_0 rfl (lv_at hl 0 rfl) ?_
  refine va_get (D := D) (ci := 3) (v := .ref (ad 0)) (C := RX3) (T := TX3) (N := 2) hx hb hts hinX3 hown hK.1 hP 0 rfl rfl 0 (by decide) (hts (.fieldLink RX3 10 "LoafMarks" "town" "LLoafMarks$Town;") (List.mem_of_getElem? (i := 3) rfl)) (fun _ h9 => h9) rfl dX3_baker_1 ?_
  refine lv_iload_n hx hb dX3_baker_4 rfl (lv_at hl 1 rfl) ?_
  refine xcV (As := [.int p0]) (rest := []) ⟨hx, hb, hml, hown, hts⟩ (c_X2_bakerAt l D cy ad nS nB st bk gate nu p0 (by omega)) (cwV 1 hts gX3_baker_X2_bakerAt rfl rfl rfl (by decide +kernel) ⟨Nat.le_of_ble_eq_true rfl, Nat.le_of_ble_eq_true rfl⟩) hK hP hD hS hA rfl rfl rfl (xE_town) rfl hl.1 rfl (Nat.le_of_ble_eq_true rfl) dX3_baker_5 ⟨Nat.le_of_ble_eq_true rfl, Nat.le_of_ble_eq_true rfl⟩ (fun _ H locs _ hP hD hS => ?_)
  have hP : va_P D vwCl (xw cy h ad nS nB st bk gate nu bt wt) H := hP
  have hD : va_D A (xw cy h ad nS nB st bk gate nu bt wt) := hD
  refine W.eq (g2 := F0 m 8 ls [va_rf (bAt ad nB p0)]) rfl ?_
  refine W.eq (g2 := F0 m 8 ls [.null]) (by show F0 m 8 ls (va_rf (bAt ad nB p0) :: _) = _; rw [bAt_none hv]) ?_
  refine lv_astore_nN (lv' := [(3, .null), (0, .ref h), (1, .int p0), (2, .int p1)]) hx hb dX3_baker_8 rfl hl (by decide) rfl (fun ls hl => ?_)
  refine lv_aload_nN hx hb dX3_baker_9 rfl (lv_at hl 0 rfl) ?_
  refine lv_ifnonnullN hx hb dX3_baker_10 ?_
  exact xthrow (cls := E_I) (text := "there is no such baker") hx hb hst hown (by decide +kernel) (hts (.classLink RX3 34 "java/lang/IndexOutOfBoundsException") (List.mem_of_getElem? (i := 1) rfl)) (hts (.initialized "java/lang/IndexOutOfBoundsException") (List.mem_of_getElem? (i := 2) rfl)) (List.mem_of_getElem? (i := 12) rfl) hV hZ (fun w h => hts w (List.mem_cons_of_mem _ (List.mem_append_right _ h))) xcovI xotI hS hP (hl.1.trans hml.symm) dX3_baker_13 dX3_baker_16 dX3_baker_17 dX3_baker_19 dX3_baker_22 htb hlocks (Nat.le_of_ble_eq_true rfl) (Nat.le_of_ble_eq_true rfl) (Nat.le_of_ble_eq_true rfl) (Nat.le_of_ble_eq_true rfl) (Nat.le_of_ble_eq_true rfl) (Nat.le_of_ble_eq_true rfl)

set_option maxHeartbeats 4000000 in
set_option maxRecDepth 100000 in
theorem c_X3_baker_1b (l : Launch) (hst : l.stackTraces = false) (D : va_G) (cy : Nat → ClassId) (sa : Nat → Nat) (h : Nat) (ad : Nat → Nat) (nS nB : Nat) (st bk : Nat → Iu) (gate nu : Iu) (bt : Nat) (wt : va_W) (j : Nat) (hj : j < nB) (p1 : Int32) (h2 : ¬ ((0 : Int32) ≤ p1 ∧ p1 ≤ 7)) (hcS : nS ≤ 4) (hcB : nB ≤ 6) : xT l D cy sa yX3_baker wsX3_baker ({ frames := 6, cells := 1, slots := 6, locals := 120 } : Room) [.ref h, .int (nI j), .int p1] (xw cy h ad nS nB st bk gate nu bt wt) E_I := by
  refine xT.of cX3_baker 4 (some .int) RX3 (by decide +kernel) rfl rfl (Nat.le_of_ble_eq_true rfl) ?_
  intro p e s m below meth c A ls hx hb hr hts hown hlocks hml hin hK hA hP hD hS hV hZ htb hl
  have hl : lv_has ls 4 [(0, .ref h), (1, .int (nI j)), (2, .int p1)] := hl
  have hinX3 : ∀ w ∈ wsX30, w ∈ wsX3_baker := fun _ h => List.mem_cons_of_mem _ (List.mem_append_left _ (List.mem_append_left _ (List.mem_append_left _ (List.mem_append_right _ h))))
  refine lv_aload_n hx hb dX3_baker_0 rfl (lv_at hl 0 rfl) ?_
  refine va_get (D := D) (ci := 3) (v := .ref (ad 0)) (C := RX3) (T := TX3) (N := 2) hx hb hts hinX3 hown hK.1 hP 0 rfl rfl 0 (by decide) (hts (.fieldLink RX3 10 "LoafMarks" "town" "LLoafMarks$Town;") (List.mem_of_getElem? (i := 3) rfl)) (fun _ h9 => h9) rfl dX3_baker_1 ?_
  refine lv_iload_n hx hb dX3_baker_4 rfl (lv_at hl 1 rfl) ?_
  refine xcV (As := [.int (nI j)]) (rest := []) ⟨hx, hb, hml, hown, hts⟩ (c_X2_bakerAt l D cy ad nS nB st bk gate nu (nI j) (by omega)) (cwV 1 hts gX3_baker_X2_bakerAt rfl rfl rfl (by decide +kernel) ⟨Nat.le_of_ble_eq_true rfl, Nat.le_of_ble_eq_true rfl⟩) hK hP hD hS hA rfl rfl rfl (xE_town) rfl hl.1 rfl (Nat.le_of_ble_eq_true rfl) dX3_baker_5 ⟨Nat.le_of_ble_eq_true rfl, Nat.le_of_ble_eq_true rfl⟩ (fun _ H locs _ hP hD hS => ?_)
  have hP : va_P D vwCl (xw cy h ad nS nB st bk gate nu bt wt) H := hP
  have hD : va_D A (xw cy h ad nS nB st bk gate nu bt wt) := hD
  refine W.eq (g2 := F0 m 8 ls [va_rf (bAt ad nB (nI j))]) rfl ?_
  refine W.eq (g2 := F0 m 8 ls [.ref (ad (8 + j))]) (by show F0 m 8 ls (va_rf (bAt ad nB (nI j)) :: _) = _; rw [bAt_nI hj hcB]) ?_
  refine lv_astore_n (lv' := [(3, .ref (ad (8 + j))), (0, .ref h), (1, .int (nI j)), (2, .int p1)]) hx hb dX3_baker_8 rfl hl (by decide) rfl (fun ls hl => ?_)
  refine lv_aload_n hx hb dX3_baker_9 rfl (lv_at hl 0 rfl) ?_
  refine lv_ifnonnull (tgt := 23) hx hb dX3_baker_10 (by decide) ?_
  refine lv_iload_n hx hb dX3_baker_23 rfl (lv_at hl 3 rfl) ?_
  refine lv_iconst (v := 0) hx hb dX3_baker_24 (by decide) ?_
  refine lv_bipush (v := 7) hx hb dX3_baker_25 (by decide) ?_
  refine xcS (As := [.int p1, .int 0, .int 7]) (rest := []) ⟨hx, hb, hml, hown, hts⟩ (c_X3_isWithin l D cy p1 0 7) (va_cwS 3 hts gX3_baker_X3_isWithin rfl rfl rfl (by decide +kernel) ⟨Nat.le_of_ble_eq_true rfl, Nat.le_of_ble_eq_true rfl⟩) hK hP hD hS hA (xE_nil) rfl hl.1 rfl (Nat.le_of_ble_eq_true rfl) dX3_baker_27 ⟨Nat.le_of_ble_eq_true rfl, Nat.le_of_ble_eq_true rfl⟩ (fun _ H locs _ hP hD hS => ?_)
  have hP : va_P D vwCl (xw cy h ad nS nB st bk gate nu bt wt) H := hP
  have hD : va_D A (xw cy h ad nS nB st bk gate nu bt wt) := hD
  refine W.eq (g2 := F0 m 30 ls [.int (wi p1 0 7)]) rfl ?_
  refine lv_if_ne (tgt := 43) hx hb dX3_baker_30 (by decide) (fun z => absurd (wi_no h2) z) (fun _ => ?_)
  exact xthrow (cls := E_I) (text := "what is not 0 to 7") hx hb hst hown (by decide +kernel) (hts (.classLink RX3 34 "java/lang/IndexOutOfBoundsException") (List.mem_of_getElem? (i := 1) rfl)) (hts (.initialized "java/lang/IndexOutOfBoundsException") (List.mem_of_getElem? (i := 2) rfl)) (List.mem_of_getElem? (i := 15) rfl) hV hZ (fun w h => hts w (List.mem_cons_of_mem _ (List.mem_append_right _ h))) xcovI xotI hS hP (hl.1.trans hml.symm) dX3_baker_33 dX3_baker_36 dX3_baker_37 dX3_baker_39 dX3_baker_42 htb hlocks (Nat.le_of_ble_eq_true rfl) (Nat.le_of_ble_eq_true rfl) (Nat.le_of_ble_eq_true rfl) (Nat.le_of_ble_eq_true rfl) (Nat.le_of_ble_eq_true rfl) (Nat.le_of_ble_eq_true rfl)

set_option maxHeartbeats 4000000 in
set_option maxRecDepth 100000 in
/-- whose -/
theorem c_X3_whose (l : Launch) (D : va_G) (cy : Nat → ClassId) (h : Nat) (ad : Nat → Nat) (nS nB : Nat) (st bk : Nat → Iu) (gate nu : Iu) (bt : Nat) (wt : va_W) (p0 : Int32) (h1 : (0 : Int32) ≤ p0 ∧ p0 ≤ 25) (hcS : nS ≤ 4) (hcB : nB ≤ 6) : xM l D cy yX3_whose wsX3_whose ({ frames := 6, cells := 1, slots := 6, locals := 120 } : Room) [.ref h, .int p0] (xw cy h ad nS nB st bk gate nu bt wt) (fun _ : Unit => some (.int (ownF bk p0 nB 0))) (fun _ => True) (fun _ => xw cy h ad nS nB st bk gate nu bt wt) := by
  refine xM.of cX3_whose 2 (some .int) RX3 (by decide +kernel) rfl rfl (Nat.le_of_ble_eq_true rfl) ?_
  intro p e s m below meth c A ls hx hb hr hts hown hlocks hml hin hK hA hP hD hS hl
  have hl : lv_has ls 2 [(0, .ref h), (1, .int p0)] := hl
  have hinX3 : ∀ w ∈ wsX30, w ∈ wsX3_whose := fun _ h => List.mem_cons_of_mem _ (List.mem_append_left _ (List.mem_append_left _ (List.mem_append_left _ (List.mem_append_right _ h))))
  refine lv_iload_n hx hb dX3_whose_0 rfl (lv_at hl 1 rfl) ?_
  refine lv_iconst (v := 0) hx hb dX3_whose_1 (by decide) ?_
  refine lv_bipush (v := 25) hx hb dX3_whose_2 (by decide) ?_
  refine xcS (As := [.int p0, .int 0, .int 25]) (rest := []) ⟨hx, hb, hml, hown, hts⟩ (c_X3_isWithin l D cy p0 0 25) (va_cwS 3 hts gX3_whose_X3_isWithin rfl rfl rfl (by decide +kernel) ⟨Nat.le_of_ble_eq_true rfl, Nat.le_of_ble_eq_true rfl⟩) hK hP hD hS hA (xE_nil) rfl hl.1 rfl (Nat.le_of_ble_eq_true rfl) dX3_whose_4 ⟨Nat.le_of_ble_eq_true rfl, Nat.le_of_ble_eq_true rfl⟩ (fun _ H locs _ hP hD hS => ?_)
  have hP : va_P D vwCl (xw cy h ad nS nB st bk gate nu bt wt) H := hP
  have hD : va_D A (xw cy h ad nS nB st bk gate nu bt wt) := hD
  refine W.eq (g2 := F0 m 7 ls [.int (wi p0 0 25)]) rfl ?_
  refine lv_if_ne (tgt := 20) hx hb dX3_whose_7 (by decide) (fun _ => ?_) (fun z => absurd z (wi_ok h1))
  refine lv_aload_n hx hb dX3_whose_20 rfl (lv_at hl 0 rfl) ?_
  refine va_get (D := D) (ci := 3) (v := .ref (ad 0)) (C := RX3) (T := TX3) (N := 2) hx hb hts hinX3 hown hK.1 hP 0 rfl rfl 0 (by decide) (hts (.fieldLink RX3 10 "LoafMarks" "town" "LLoafMarks$Town;") (List.mem_of_getElem? (i := 3) rfl)) (fun _ h9 => h9) rfl dX3_whose_21 ?_
  refine lv_iload_n hx hb dX3_whose_24 rfl (lv_at hl 1 rfl) ?_
  refine xcV (As := [.int p0]) (rest := []) ⟨hx, hb, hml, hown, hts⟩ (c_X2_bakerWithMark l D cy ad nS nB st bk gate nu p0 (by omega)) (cwV 1 hts gX3_whose_X2_bakerWithMark rfl rfl rfl (by decide +kernel) ⟨Nat.le_of_ble_eq_true rfl, Nat.le_of_ble_eq_true rfl⟩) hK hP hD hS hA rfl rfl rfl (xE_town) rfl hl.1 rfl (Nat.le_of_ble_eq_true rfl) dX3_whose_25 ⟨Nat.le_of_ble_eq_true rfl, Nat.le_of_ble_eq_true rfl⟩ (fun _ H locs _ hP hD hS => ?_)
  have hP : va_P D vwCl (xw cy h ad nS nB st bk gate nu bt wt) H := hP
  have hD : va_D A (xw cy h ad nS nB st bk gate nu bt wt) := hD
  refine W.eq (g2 := F0 m 28 ls [.int (ownF bk p0 nB 0)]) rfl ?_
  exact xri () hx hb hr hlocks hS (Nat.le_of_ble_eq_true rfl) (Nat.le_of_ble_eq_true rfl) dX3_whose_28 hP hD rfl trivial

set_option maxHeartbeats 4000000 in
set_option maxRecDepth 100000 in
theorem c_X3_whose_1 (l : Launch) (hst : l.stackTraces = false) (D : va_G) (cy : Nat → ClassId) (sa : Nat → Nat) (h : Nat) (ad : Nat → Nat) (nS nB : Nat) (st bk : Nat → Iu) (gate nu : Iu) (bt : Nat) (wt : va_W) (p0 : Int32) (h1 : ¬ ((0 : Int32) ≤ p0 ∧ p0 ≤ 25)) : xT l D cy sa yX3_whose wsX3_whose ({ frames := 6, cells := 1, slots := 6, locals := 120 } : Room) [.ref h, .int p0] (xw cy h ad nS nB st bk gate nu bt wt) E_A := by
  refine xT.of cX3_whose 2 (some .int) RX3 (by decide +kernel) rfl rfl (Nat.le_of_ble_eq_true rfl) ?_
  intro p e s m below meth c A ls hx hb hr hts hown hlocks hml hin hK hA hP hD hS hV hZ htb hl
  have hl : lv_has ls 2 [(0, .ref h), (1, .int p0)] := hl
  refine lv_iload_n hx hb dX3_whose_0 rfl (lv_at hl 1 rfl) ?_
  refine lv_iconst (v := 0) hx hb dX3_whose_1 (by decide) ?_
  refine lv_bipush (v := 25) hx hb dX3_whose_2 (by decide) ?_
  refine xcS (As := [.int p0, .int 0, .int 25]) (rest := []) ⟨hx, hb, hml, hown, hts⟩ (c_X3_isWithin l D cy p0 0 25) (va_cwS 3 hts gX3_whose_X3_isWithin rfl rfl rfl (by decide +kernel) ⟨Nat.le_of_ble_eq_true rfl, Nat.le_of_ble_eq_true rfl⟩) hK hP hD hS hA (xE_nil) rfl hl.1 rfl (Nat.le_of_ble_eq_true rfl) dX3_whose_4 ⟨Nat.le_of_ble_eq_true rfl, Nat.le_of_ble_eq_true rfl⟩ (fun _ H locs _ hP hD hS => ?_)
  have hP : va_P D vwCl (xw cy h ad nS nB st bk gate nu bt wt) H := hP
  have hD : va_D A (xw cy h ad nS nB st bk gate nu bt wt) := hD
  refine W.eq (g2 := F0 m 7 ls [.int (wi p0 0 25)]) rfl ?_
  refine lv_if_ne (tgt := 20) hx hb dX3_whose_7 (by decide) (fun z => absurd (wi_no h1) z) (fun _ => ?_)
  exact xthrow (cls := E_A) (text := "mark is not 0 to 25") hx hb hst hown (by decide +kernel) (hts (.classLink RX3 23 "java/lang/IllegalArgumentException") (List.mem_of_getElem? (i := 1) rfl)) (hts (.initialized "java/lang/IllegalArgumentException") (List.mem_of_getElem? (i := 2) rfl)) (List.mem_of_getElem? (i := 7) rfl) hV hZ (fun w h => hts w (List.mem_cons_of_mem _ (List.mem_append_right _ h))) xcovA xotA hS hP (hl.1.trans hml.symm) dX3_whose_10 dX3_whose_13 dX3_whose_14 dX3_whose_16 dX3_whose_19 htb hlocks (Nat.le_of_ble_eq_true rfl) (Nat.le_of_ble_eq_true rfl) (Nat.le_of_ble_eq_true rfl) (Nat.le_of_ble_eq_true rfl) (Nat.le_of_ble_eq_true rfl) (Nat.le_of_ble_eq_true rfl)

set_option maxHeartbeats 4000000 in
set_option maxRecDepth 100000 in
/-- count -/
theorem c_X3_count (l : Launch) (D : va_G) (cy : Nat → ClassId) (h : Nat) (ad : Nat → Nat) (nS nB : Nat) (st bk : Nat → Iu) (gate nu : Iu) (bt : Nat) (wt : va_W) (hq k : Nat) (eh : nu 0 = nI hq) (hh : hq < 2 ^ 31) (hk : k < 10) (hcS : nS ≤ 4) (hcB : nB ≤ 6) : xM l D cy yX3_count wsX3_count ({ frames := 6, cells := 1, slots := 6, locals := 120 } : Room) [.ref h, .int (nI k)] (xw cy h ad nS nB st bk gate nu bt wt) (fun _ : Unit => some (.int (tFact nS nB st bk nu hq k))) (fun _ => True) (fun _ => xw cy h ad nS nB st bk gate nu bt wt) := by
  refine xM.of cX3_count 2 (some .int) RX3 (by decide +kernel) rfl rfl (Nat.le_of_ble_eq_true rfl) ?_
  intro p e s m below meth c A ls hx hb hr hts hown hlocks hml hin hK hA hP hD hS hl
  have hl : lv_has ls 2 [(0, .ref h), (1, .int (nI k))] := hl
  have hinX3 : ∀ w ∈ wsX30, w ∈ wsX3_count := fun _ h => List.mem_cons_of_mem _ (List.mem_append_left _ (List.mem_append_left _ (List.mem_append_left _ (List.mem_append_left _ (List.mem_append_right _ h)))))
  refine lv_iload_n hx hb dX3_count_0 rfl (lv_at hl 1 rfl) ?_
  refine lv_iconst (v := 0) hx hb dX3_count_1 (by decide) ?_
  refine lv_bipush (v := 9) hx hb dX3_count_2 (by decide) ?_
  refine xcS (As := [.int (nI k), .int 0, .int 9]) (rest := []) ⟨hx, hb, hml, hown, hts⟩ (c_X3_isWithin l D cy (nI k) 0 9) (va_cwS 3 hts gX3_count_X3_isWithin rfl rfl rfl (by decide +kernel) ⟨Nat.le_of_ble_eq_true rfl, Nat.le_of_ble_eq_true rfl⟩) hK hP hD hS hA (xE_nil) rfl hl.1 rfl (Nat.le_of_ble_eq_true rfl) dX3_count_4 ⟨Nat.le_of_ble_eq_true rfl, Nat.le_of_ble_eq_true rfl⟩ (fun _ H locs _ hP hD hS => ?_)
  have hP : va_P D vwCl (xw cy h ad nS nB st bk gate nu bt wt) H := hP
  have hD : va_D A (xw cy h ad nS nB st bk gate nu bt wt) := hD
  refine W.eq (g2 := F0 m 7 ls [.int (wi (nI k) 0 9)]) rfl ?_
  refine lv_if_ne (tgt := 20) hx hb dX3_count_7 (by decide) (fun _ => ?_) (fun z => absurd z (wi_ok ⟨nI_pos' (n := k) (by omega), nI_le (a := k) (b := 9) (by omega) (by decide)⟩))
  refine lv_aload_n hx hb dX3_count_20 rfl (lv_at hl 0 rfl) ?_
  refine va_get (D := D) (ci := 3) (v := .ref (ad 0)) (C := RX3) (T := TX3) (N := 2) hx hb hts hinX3 hown hK.1 hP 0 rfl rfl 0 (by decide) (hts (.fieldLink RX3 10 "LoafMarks" "town" "LLoafMarks$Town;") (List.mem_of_getElem? (i := 3) rfl)) (fun _ h9 => h9) rfl dX3_count_21 ?_
  refine lv_iload_n hx hb dX3_count_24 rfl (lv_at hl 1 rfl) ?_
  refine xcV (As := [.int (nI k)]) (rest := []) ⟨hx, hb, hml, hown, hts⟩ (c_X2_fact l D cy ad nS nB st bk gate nu hq k eh hh hk hcS hcB) (cwV 1 hts gX3_count_X2_fact rfl rfl rfl (by decide +kernel) ⟨Nat.le_of_ble_eq_true rfl, Nat.le_of_ble_eq_true rfl⟩) hK hP hD hS hA rfl rfl rfl (xE_town) rfl hl.1 rfl (Nat.le_of_ble_eq_true rfl) dX3_count_25 ⟨Nat.le_of_ble_eq_true rfl, Nat.le_of_ble_eq_true rfl⟩ (fun _ H locs _ hP hD hS => ?_)
  have hP : va_P D vwCl (xw cy h ad nS nB st bk gate nu bt wt) H := hP
  have hD : va_D A (xw cy h ad nS nB st bk gate nu bt wt) := hD
  refine W.eq (g2 := F0 m 28 ls [.int (tFact nS nB st bk nu hq k)]) rfl ?_
  exact xri () hx hb hr hlocks hS (Nat.le_of_ble_eq_true rfl) (Nat.le_of_ble_eq_true rfl) dX3_count_28 hP hD rfl trivial

set_option maxHeartbeats 4000000 in
set_option maxRecDepth 100000 in
theorem c_X3_count_1 (l : Launch) (hst : l.stackTraces = false) (D : va_G) (cy : Nat → ClassId) (sa : Nat → Nat) (h : Nat) (ad : Nat → Nat) (nS nB : Nat) (st bk : Nat → Iu) (gate nu : Iu) (bt : Nat) (wt : va_W) (p0 : Int32) (h1 : ¬ ((0 : Int32) ≤ p0 ∧ p0 ≤ 9)) : xT l D cy sa yX3_count wsX3_count ({ frames := 6, cells := 1, slots := 6, locals := 120 } : Room) [.ref h, .int p0] (xw cy h ad nS nB st bk gate nu bt wt) E_I := by
  refine xT.of cX3_count 2 (some .int) RX3 (by decide +kernel) rfl rfl (Nat.le_of_ble_eq_true rfl) ?_
  intro p e s m below meth c A ls hx hb hr hts hown hlocks hml hin hK hA hP hD hS hV hZ htb hl
  have hl : lv_has ls 2 [(0, .ref h), (1, .int p0)] := hl
  refine lv_iload_n hx hb dX3_count_0 rfl (lv_at hl 1 rfl) ?_
  refine lv_iconst (v := 0) hx hb dX3_count_1 (by decide) ?_
  refine lv_bipush (v := 9) hx hb dX3_count_2 (by decide) ?_
  refine xcS (As := [.int p0, .int 0, .int 9]) (rest := []) ⟨hx, hb, hml, hown, hts⟩ (c_X3_isWithin l D cy p0 0 9) (va_cwS 3 hts gX3_count_X3_isWithin rfl rfl rfl (by decide +kernel) ⟨Nat.le_of_ble_eq_true rfl, Nat.le_of_ble_eq_true rfl⟩) hK hP hD hS hA (xE_nil) rfl hl.1 rfl (Nat.le_of_ble_eq_true rfl) dX3_count_4 ⟨Nat.le_of_ble_eq_true rfl, Nat.le_of_ble_eq_true rfl⟩ (fun _ H locs _ hP hD hS => ?_)
  have hP : va_P D vwCl (xw cy h ad nS nB st bk gate nu bt wt) H := hP
  have hD : va_D A (xw cy h ad nS nB st bk gate nu bt wt) := hD
  refine W.eq (g2 := F0 m 7 ls [.int (wi p0 0 9)]) rfl ?_
  refine lv_if_ne (tgt := 20) hx hb dX3_count_7 (by decide) (fun z => absurd (wi_no h1) z) (fun _ => ?_)
  exact xthrow (cls := E_I) (text := "what is not 0 to 9") hx hb hst hown (by decide +kernel) (hts (.classLink RX3 34 "java/lang/IndexOutOfBoundsException") (List.mem_of_getElem? (i := 1) rfl)) (hts (.initialized "java/lang/IndexOutOfBoundsException") (List.mem_of_getElem? (i := 2) rfl)) (List.mem_of_getElem? (i := 16) rfl) hV hZ (fun w h => hts w (List.mem_cons_of_mem _ (List.mem_append_right _ h))) xcovI xotI hS hP (hl.1.trans hml.symm) dX3_count_10 dX3_count_13 dX3_count_14 dX3_count_16 dX3_count_19 htb hlocks (Nat.le_of_ble_eq_true rfl) (Nat.le_of_ble_eq_true rfl) (Nat.le_of_ble_eq_true rfl) (Nat.le_of_ble_eq_true rfl) (Nat.le_of_ble_eq_true rfl) (Nat.le_of_ble_eq_true rfl)

set_option maxHeartbeats 4000000 in
set_option maxRecDepth 100000 in
/-- pass -/
theorem c_X3_pass (l : Launch) (D : va_G) (cy : Nat → ClassId) (h : Nat) (ad : Nat → Nat) (nS nB : Nat) (st bk : Nat → Iu) (gate nu : Iu) (bt : Nat) (wt : va_W) (hq n : Nat) (eh : nu 0 = nI hq) (hn1 : 1 ≤ n) (hn2 : n ≤ 240) (hh : hq + n < 2 ^ 31) (hcS : nS ≤ 4) (hcB : nB ≤ 6) (hof : ∀ j, j < nB → ∃ i, i < nS ∧ bk j 0 = nI i) : xM l D cy yX3_pass wsX3_pass ({ frames := 6, cells := 1, slots := 6, locals := 180 } : Room) [.ref h, .int (nI n)] (xw cy h ad nS nB st bk gate nu bt wt) (fun _ : Unit => some (.int (unf nS nB hq gate (st, bk, nu) n))) (fun _ => True) (fun _ => xw cy h ad nS nB (hrs nS nB hq gate (st, bk, nu) n).1 (hrs nS nB hq gate (st, bk, nu) n).2.1 gate (hrs nS nB hq gate (st, bk, nu) n).2.2 bt wt) := by
  refine xM.of cX3_pass 2 (some .int) RX3 (by decide +kernel) rfl rfl (Nat.le_of_ble_eq_true rfl) ?_
  intro p e s m below meth c A ls hx hb hr hts hown hlocks hml hin hK hA hP hD hS hl
  have hl : lv_has ls 2 [(0, .ref h), (1, .int (nI n))] := hl
  have hinX3 : ∀ w ∈ wsX30, w ∈ wsX3_pass := fun _ h => List.mem_cons_of_mem _ (List.mem_append_left _ (List.mem_append_left _ (List.mem_append_left _ (List.mem_append_left _ (List.mem_append_right _ h)))))
  refine lv_iload_n hx hb dX3_pass_0 rfl (lv_at hl 1 rfl) ?_
  refine lv_iconst (v := 1) hx hb dX3_pass_1 (by decide) ?_
  refine lv_sipush (v := 240) hx hb dX3_pass_2 (by decide) ?_
  refine xcS (As := [.int (nI n), .int 1, .int 240]) (rest := []) ⟨hx, hb, hml, hown, hts⟩ (c_X3_isWithin l D cy (nI n) 1 240) (va_cwS 3 hts gX3_pass_X3_isWithin rfl rfl rfl (by decide +kernel) ⟨Nat.le_of_ble_eq_true rfl, Nat.le_of_ble_eq_true rfl⟩) hK hP hD hS hA (xE_nil) rfl hl.1 rfl (Nat.le_of_ble_eq_true rfl) dX3_pass_5 ⟨Nat.le_of_ble_eq_true rfl, Nat.le_of_ble_eq_true rfl⟩ (fun _ H locs _ hP hD hS => ?_)
  have hP : va_P D vwCl (xw cy h ad nS nB st bk gate nu bt wt) H := hP
  have hD : va_D A (xw cy h ad nS nB st bk gate nu bt wt) := hD
  refine W.eq (g2 := F0 m 8 ls [.int (wi (nI n) 1 240)]) rfl ?_
  refine lv_if_ne (tgt := 21) hx hb dX3_pass_8 (by decide) (fun _ => ?_) (fun z => absurd z (wi_ok ⟨nI_le (a := 1) (b := n) (by omega) (by omega), nI_le (a := n) (b := 240) (by omega) (by decide)⟩))
  refine lv_aload_n hx hb dX3_pass_21 rfl (lv_at hl 0 rfl) ?_
  refine va_get (D := D) (ci := 3) (v := .ref (ad 0)) (C := RX3) (T := TX3) (N := 2) hx hb hts hinX3 hown hK.1 hP 0 rfl rfl 0 (by decide) (hts (.fieldLink RX3 10 "LoafMarks" "town" "LLoafMarks$Town;") (List.mem_of_getElem? (i := 3) rfl)) (fun _ h9 => h9) rfl dX3_pass_22 ?_
  refine lv_iload_n hx hb dX3_pass_25 rfl (lv_at hl 1 rfl) ?_
  refine xcV (As := [.int (nI n)]) (rest := []) ⟨hx, hb, hml, hown, hts⟩ (c_X2_goThrough l D cy ad nS nB (st, bk, nu) gate hq n eh hh hcS hcB hof) (cwV 1 hts gX3_pass_X2_goThrough rfl rfl rfl (by decide +kernel) ⟨Nat.le_of_ble_eq_true rfl, Nat.le_of_ble_eq_true rfl⟩) hK hP hD hS hA rfl rfl rfl (xE_town) rfl hl.1 rfl (Nat.le_of_ble_eq_true rfl) dX3_pass_26 ⟨Nat.le_of_ble_eq_true rfl, Nat.le_of_ble_eq_true rfl⟩ (fun _ H locs _ hP hD hS => ?_)
  have hP : va_P D vwCl (xw cy h ad nS nB ((hrs nS nB hq gate (st, bk, nu) n).1) ((hrs nS nB hq gate (st, bk, nu) n).2.1) gate ((hrs nS nB hq gate (st, bk, nu) n).2.2) bt wt) H := hP
  have hD : va_D A (xw cy h ad nS nB ((hrs nS nB hq gate (st, bk, nu) n).1) ((hrs nS nB hq gate (st, bk, nu) n).2.1) gate ((hrs nS nB hq gate (st, bk, nu) n).2.2) bt wt) := hD
  refine W.eq (g2 := F0 m 29 ls [.int (unf nS nB hq gate (st, bk, nu) n)]) rfl ?_
  exact xri () hx hb hr hlocks hS (Nat.le_of_ble_eq_true rfl) (Nat.le_of_ble_eq_true rfl) dX3_pass_29 hP hD rfl trivial

set_option maxHeartbeats 4000000 in
set_option maxRecDepth 100000 in
theorem c_X3_pass_1 (l : Launch) (hst : l.stackTraces = false) (D : va_G) (cy : Nat → ClassId) (sa : Nat → Nat) (h : Nat) (ad : Nat → Nat) (nS nB : Nat) (st bk : Nat → Iu) (gate nu : Iu) (bt : Nat) (wt : va_W) (p0 : Int32) (h1 : ¬ ((1 : Int32) ≤ p0 ∧ p0 ≤ 240)) : xT l D cy sa yX3_pass wsX3_pass ({ frames := 6, cells := 1, slots := 6, locals := 180 } : Room) [.ref h, .int p0] (xw cy h ad nS nB st bk gate nu bt wt) E_A := by
  refine xT.of cX3_pass 2 (some .int) RX3 (by decide +kernel) rfl rfl (Nat.le_of_ble_eq_true rfl) ?_
  intro p e s m below meth c A ls hx hb hr hts hown hlocks hml hin hK hA hP hD hS hV hZ htb hl
  have hl : lv_has ls 2 [(0, .ref h), (1, .int p0)] := hl
  refine lv_iload_n hx hb dX3_pass_0 rfl (lv_at hl 1 rfl) ?_
  refine lv_iconst (v := 1) hx hb dX3_pass_1 (by decide) ?_
  refine lv_sipush (v := 240) hx hb dX3_pass_2 (by decide) ?_
  refine xcS (As := [.int p0, .int 1, .int 240]) (rest := []) ⟨hx, hb, hml, hown, hts⟩ (c_X3_isWithin l D cy p0 1 240) (va_cwS 3 hts gX3_pass_X3_isWithin rfl rfl rfl (by decide +kernel) ⟨Nat.le_of_ble_eq_true rfl, Nat.le_of_ble_eq_true rfl⟩) hK hP hD hS hA (xE_nil) rfl hl.1 rfl (Nat.le_of_ble_eq_true rfl) dX3_pass_5 ⟨Nat.le_of_ble_eq_true rfl, Nat.le_of_ble_eq_true rfl⟩ (fun _ H locs _ hP hD hS => ?_)
  have hP : va_P D vwCl (xw cy h ad nS nB st bk gate nu bt wt) H := hP
  have hD : va_D A (xw cy h ad nS nB st bk gate nu bt wt) := hD
  refine W.eq (g2 := F0 m 8 ls [.int (wi p0 1 240)]) rfl ?_
  refine lv_if_ne (tgt := 21) hx hb dX3_pass_8 (by decide) (fun z => absurd (wi_no h1) z) (fun _ => ?_)
  exact xthrow (cls := E_A) (text := "hours is not 1 to 240") hx hb hst hown (by decide +kernel) (hts (.classLink RX3 23 "java/lang/IllegalArgumentException") (List.mem_of_getElem? (i := 1) rfl)) (hts (.initialized "java/lang/IllegalArgumentException") (List.mem_of_getElem? (i := 2) rfl)) (List.mem_of_getElem? (i := 17) rfl) hV hZ (fun w h => hts w (List.mem_cons_of_mem _ (List.mem_append_right _ h))) xcovA xotA hS hP (hl.1.trans hml.symm) dX3_pass_11 dX3_pass_14 dX3_pass_15 dX3_pass_17 dX3_pass_20 htb hlocks (Nat.le_of_ble_eq_true rfl) (Nat.le_of_ble_eq_true rfl) (Nat.le_of_ble_eq_true rfl) (Nat.le_of_ble_eq_true rfl) (Nat.le_of_ble_eq_true rfl) (Nat.le_of_ble_eq_true rfl)
