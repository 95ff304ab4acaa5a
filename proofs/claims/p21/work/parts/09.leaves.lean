/-! ===== Store and Baker: a contract a method (laid by gen09.py) ===== -/
set_option maxHeartbeats 4000000 in
set_option maxRecDepth 100000 in
/-- Store(flour, weevils) -/
theorem c_X1_init (l : Launch) (D : va_G) (cy : Nat → ClassId) (h : Nat) (p0 p1 : Int32) : xM l D cy yX1_init wsX1_init ({ frames := 1, cells := 0, slots := 0, locals := 12 } : Room) [.ref h, .int p0, .int p1] ([(h, cSt (fun _ => 0))]) (fun _ : Unit => none) (fun _ => True) (fun _ => [(h, cSt (upd (upd (fun _ => 0) 0 p0) 1 p1))]) := by
  refine xM.of cX1_init 3 none RX1 (by decide +kernel) rfl rfl (Nat.le_of_ble_eq_true rfl) ?_
  intro p e s m below meth c A ls hx hb hr hts hown hlocks hml hin hK hA hP hD hS hl
  have hl : lv_has ls 3 [(0, .ref h), (1, .int p0), (2, .int p1)] := hl
  have hinX1 : ∀ w ∈ wsX10, w ∈ wsX1_init := fun _ h => List.mem_cons_of_mem _ (List.mem_append_right _ h)
  refine lv_aload_n hx hb dX1_init_0 rfl (lv_at hl 0 rfl) ?_
  refine W.objInit hx hb hown (hts (.methodLink RX1 3 objectInit) (List.mem_of_getElem? (i := 1) rfl)) (hts (.instanceMethod objectInit) (List.mem_of_getElem? (i := 2) rfl)) (hts (.code objectInit ⟨#[0xb1]⟩ 1 none) (List.mem_of_getElem? (i := 3) rfl)) rfl (by rw [hml]; exact hl.1) rfl dX1_init_1 (Nat.le_of_ble_eq_true rfl) (Nat.le_of_ble_eq_true rfl) ?_
  refine W.eq (g2 := F0 m 4 ls []) rfl ?_
  refine lv_aload_n hx hb dX1_init_4 rfl (lv_at hl 0 rfl) ?_
  refine lv_iload_n hx hb dX1_init_5 rfl (lv_at hl 1 rfl) ?_
  refine va_put (D := D) (ci := 1) (v := .int p0) (ty := .int) (C := RX1) (T := TX1) (N := 3) hx hb hts hinX1 tyX1 tyX1_ok nmX1 hown hK.1 hP hD hS 0 rfl rfl 0 (by decide) (hts (.fieldLink RX1 9 "LoafMarks$Store" "flour" "I") (List.mem_of_getElem? (i := 4) rfl)) (fun _ h9 => h9) rfl (by decide +kernel) rfl rfl (Nat.le_of_ble_eq_true rfl) dX1_init_6 (fun H locs hP hD hS => ?_)
  have hP : va_P D vwCl ([(h, cSt (upd (fun _ => 0) 0 p0))]) H := hP
  have hD : va_D A ([(h, cSt (upd (fun _ => 0) 0 p0))]) := hD
  refine lv_aload_n hx hb dX1_init_9 rfl (lv_at hl 0 rfl) ?_
  refine lv_iload_n hx hb dX1_init_10 rfl (lv_at hl 2 rfl) ?_
  refine va_put (D := D) (ci := 1) (v := .int p1) (ty := .int) (C := RX1) (T := TX1) (N := 3) hx hb hts hinX1 tyX1 tyX1_ok nmX1 hown hK.1 hP hD hS 0 rfl rfl 1 (by decide) (hts (.fieldLink RX1 15 "LoafMarks$Store" "weevils" "I") (List.mem_of_getElem? (i := 5) rfl)) (fun _ h9 => h9) rfl (by decide +kernel) rfl rfl (Nat.le_of_ble_eq_true rfl) dX1_init_11 (fun H locs hP hD hS => ?_)
  have hP : va_P D vwCl ([(h, cSt (upd (upd (fun _ => 0) 0 p0) 1 p1))]) H := hP
  have hD : va_D A ([(h, cSt (upd (upd (fun _ => 0) 0 p0) 1 p1))]) := hD
  exact xrv () hx hb hr hlocks hS (Nat.le_of_ble_eq_true rfl) (Nat.le_of_ble_eq_true rfl) dX1_init_14 hP hD rfl trivial

set_option maxHeartbeats 4000000 in
set_option maxRecDepth 100000 in
/-- Baker(store, mark, weight, ration) -/
theorem c_X0_init (l : Launch) (D : va_G) (cy : Nat → ClassId) (h : Nat) (p0 p1 p2 p3 : Int32) : xM l D cy yX0_init wsX0_init ({ frames := 1, cells := 0, slots := 0, locals := 12 } : Room) [.ref h, .int p0, .int p1, .int p2, .int p3] ([(h, cBk (fun _ => 0))]) (fun _ : Unit => none) (fun _ => True) (fun _ => [(h, cBk (upd (upd (upd (upd (fun _ => 0) 0 p0) 1 p1) 4 p2) 2 p3))]) := by
  refine xM.of cX0_init 5 none RX0 (by decide +kernel) rfl rfl (Nat.le_of_ble_eq_true rfl) ?_
  intro p e s m below meth c A ls hx hb hr hts hown hlocks hml hin hK hA hP hD hS hl
  have hl : lv_has ls 5 [(0, .ref h), (1, .int p0), (2, .int p1), (3, .int p2), (4, .int p3)] := hl
  have hinX0 : ∀ w ∈ wsX00, w ∈ wsX0_init := fun _ h => List.mem_cons_of_mem _ (List.mem_append_right _ h)
  refine lv_aload_n hx hb dX0_init_0 rfl (lv_at hl 0 rfl) ?_
  refine W.objInit hx hb hown (hts (.methodLink RX0 3 objectInit) (List.mem_of_getElem? (i := 1) rfl)) (hts (.instanceMethod objectInit) (List.mem_of_getElem? (i := 2) rfl)) (hts (.code objectInit ⟨#[0xb1]⟩ 1 none) (List.mem_of_getElem? (i := 3) rfl)) rfl (by rw [hml]; exact hl.1) rfl dX0_init_1 (Nat.le_of_ble_eq_true rfl) (Nat.le_of_ble_eq_true rfl) ?_
  refine W.eq (g2 := F0 m 4 ls []) rfl ?_
  refine lv_aload_n hx hb dX0_init_4 rfl (lv_at hl 0 rfl) ?_
  refine lv_iload_n hx hb dX0_init_5 rfl (lv_at hl 1 rfl) ?_
  refine va_put (D := D) (ci := 0) (v := .int p0) (ty := .int) (C := RX0) (T := TX0) (N := 8) hx hb hts hinX0 tyX0 tyX0_ok nmX0 hown hK.1 hP hD hS 0 rfl rfl 0 (by decide) (hts (.fieldLink RX0 9 "LoafMarks$Baker" "storeNumber" "I") (List.mem_of_getElem? (i := 4) rfl)) (fun _ h9 => h9) rfl (by decide +kernel) rfl rfl (Nat.le_of_ble_eq_true rfl) dX0_init_6 (fun H locs hP hD hS => ?_)
  have hP : va_P D vwCl ([(h, cBk (upd (fun _ => 0) 0 p0))]) H := hP
  have hD : va_D A ([(h, cBk (upd (fun _ => 0) 0 p0))]) := hD
  refine lv_aload_n hx hb dX0_init_9 rfl (lv_at hl 0 rfl) ?_
  refine lv_iload_n hx hb dX0_init_10 rfl (lv_at hl 2 rfl) ?_
  refine va_put (D := D) (ci := 0) (v := .int p1) (ty := .int) (C := RX0) (T := TX0) (N := 8) hx hb hts hinX0 tyX0 tyX0_ok nmX0 hown hK.1 hP hD hS 0 rfl rfl 1 (by decide) (hts (.fieldLink RX0 15 "LoafMarks$Baker" "mark" "I") (List.mem_of_getElem? (i := 5) rfl)) (fun _ h9 => h9) rfl (by decide +kernel) rfl rfl (Nat.le_of_ble_eq_true rfl) dX0_init_11 (fun H locs hP hD hS => ?_)
  have hP : va_P D vwCl ([(h, cBk (upd (upd (fun _ => 0) 0 p0) 1 p1))]) H := hP
  have hD : va_D A ([(h, cBk (upd (upd (fun _ => 0) 0 p0) 1 p1))]) := hD
  refine lv_aload_n hx hb dX0_init_14 rfl (lv_at hl 0 rfl) ?_
  refine lv_iload_n hx hb dX0_init_15 rfl (lv_at hl 3 rfl) ?_
  refine va_put (D := D) (ci := 0) (v := .int p2) (ty := .int) (C := RX0) (T := TX0) (N := 8) hx hb hts hinX0 tyX0 tyX0_ok nmX0 hown hK.1 hP hD hS 0 rfl rfl 4 (by decide) (hts (.fieldLink RX0 18 "LoafMarks$Baker" "weight" "I") (List.mem_of_getElem? (i := 6) rfl)) (fun _ h9 => h9) rfl (by decide +kernel) rfl rfl (Nat.le_of_ble_eq_true rfl) dX0_init_16 (fun H locs hP hD hS => ?_)
  have hP : va_P D vwCl ([(h, cBk (upd (upd (upd (fun _ => 0) 0 p0) 1 p1) 4 p2))]) H := hP
  have hD : va_D A ([(h, cBk (upd (upd (upd (fun _ => 0) 0 p0) 1 p1) 4 p2))]) := hD
  refine lv_aload_n hx hb dX0_init_19 rfl (lv_at hl 0 rfl) ?_
  refine lv_iload hx hb dX0_init_20 (lv_at hl 4 rfl) ?_
  refine va_put (D := D) (ci := 0) (v := .int p3) (ty := .int) (C := RX0) (T := TX0) (N := 8) hx hb hts hinX0 tyX0 tyX0_ok nmX0 hown hK.1 hP hD hS 0 rfl rfl 2 (by decide) (hts (.fieldLink RX0 21 "LoafMarks$Baker" "ration" "I") (List.mem_of_getElem? (i := 7) rfl)) (fun _ h9 => h9) rfl (by decide +kernel) rfl rfl (Nat.le_of_ble_eq_true rfl) dX0_init_22 (fun H locs hP hD hS => ?_)
  have hP : va_P D vwCl ([(h, cBk (upd (upd (upd (upd (fun _ => 0) 0 p0) 1 p1) 4 p2) 2 p3))]) H := hP
  have hD : va_D A ([(h, cBk (upd (upd (upd (upd (fun _ => 0) 0 p0) 1 p1) 4 p2) 2 p3))]) := hD
  exact xrv () hx hb hr hlocks hS (Nat.le_of_ble_eq_true rfl) (Nat.le_of_ble_eq_true rfl) dX0_init_25 hP hD rfl trivial

set_option maxHeartbeats 4000000 in
set_option maxRecDepth 100000 in
/-- becomeLike: the fields are the other one's -/
theorem c_X1_becomeLike (l : Launch) (D : va_G) (cy : Nat → ClassId) (h o : Nat) (f g : Iu) : xM l D cy yX1_becomeLike wsX1_becomeLike ({ frames := 0, cells := 0, slots := 0, locals := 0 } : Room) [.ref h, .ref o] ([(h, cSt f), (o, cSt g)]) (fun _ : Unit => none) (fun _ => True) (fun _ => [(h, cSt g), (o, cSt g)]) := by
  refine xM.of cX1_becomeLike 2 none RX1 (by decide +kernel) rfl rfl (Nat.le_of_ble_eq_true rfl) ?_
  intro p e s m below meth c A ls hx hb hr hts hown hlocks hml hin hK hA hP hD hS hl
  have hl : lv_has ls 2 [(0, .ref h), (1, .ref o)] := hl
  have hinX1 : ∀ w ∈ wsX10, w ∈ wsX1_becomeLike := fun _ h => List.mem_cons_of_mem _ (List.mem_append_right _ h)
  refine lv_aload_n hx hb dX1_becomeLike_0 rfl (lv_at hl 0 rfl) ?_
  refine lv_aload_n hx hb dX1_becomeLike_1 rfl (lv_at hl 1 rfl) ?_
  refine va_get (D := D) (ci := 1) (v := .int (g 0)) (C := RX1) (T := TX1) (N := 3) hx hb hts hinX1 hown hK.1 hP 1 rfl rfl 0 (by decide) (hts (.fieldLink RX1 9 "LoafMarks$Store" "flour" "I") (List.mem_of_getElem? (i := 1) rfl)) (fun _ h9 => h9) rfl dX1_becomeLike_2 ?_
  refine va_put (D := D) (ci := 1) (v := .int (g 0)) (ty := .int) (C := RX1) (T := TX1) (N := 3) hx hb hts hinX1 tyX1 tyX1_ok nmX1 hown hK.1 hP hD hS 0 rfl rfl 0 (by decide) (hts (.fieldLink RX1 9 "LoafMarks$Store" "flour" "I") (List.mem_of_getElem? (i := 1) rfl)) (fun _ h9 => h9) rfl (by decide +kernel) rfl rfl (Nat.le_of_ble_eq_true rfl) dX1_becomeLike_5 (fun H locs hP hD hS => ?_)
  have hP : va_P D vwCl ([(h, cSt (upd f 0 (g 0))), (o, cSt g)]) H := hP
  have hD : va_D A ([(h, cSt (upd f 0 (g 0))), (o, cSt g)]) := hD
  refine lv_aload_n hx hb dX1_becomeLike_8 rfl (lv_at hl 0 rfl) ?_
  refine lv_aload_n hx hb dX1_becomeLike_9 rfl (lv_at hl 1 rfl) ?_
  refine va_get (D := D) (ci := 1) (v := .int (g 1)) (C := RX1) (T := TX1) (N := 3) hx hb hts hinX1 hown hK.1 hP 1 rfl rfl 1 (by decide) (hts (.fieldLink RX1 15 "LoafMarks$Store" "weevils" "I") (List.mem_of_getElem? (i := 2) rfl)) (fun _ h9 => h9) rfl dX1_becomeLike_10 ?_
  refine va_put (D := D) (ci := 1) (v := .int (g 1)) (ty := .int) (C := RX1) (T := TX1) (N := 3) hx hb hts hinX1 tyX1 tyX1_ok nmX1 hown hK.1 hP hD hS 0 rfl rfl 1 (by decide) (hts (.fieldLink RX1 15 "LoafMarks$Store" "weevils" "I") (List.mem_of_getElem? (i := 2) rfl)) (fun _ h9 => h9) rfl (by decide +kernel) rfl rfl (Nat.le_of_ble_eq_true rfl) dX1_becomeLike_13 (fun H locs hP hD hS => ?_)
  have hP : va_P D vwCl ([(h, cSt (upd (upd f 0 (g 0)) 1 (g 1))), (o, cSt g)]) H := hP
  have hD : va_D A ([(h, cSt (upd (upd f 0 (g 0)) 1 (g 1))), (o, cSt g)]) := hD
  refine lv_aload_n hx hb dX1_becomeLike_16 rfl (lv_at hl 0 rfl) ?_
  refine lv_aload_n hx hb dX1_becomeLike_17 rfl (lv_at hl 1 rfl) ?_
  refine va_get (D := D) (ci := 1) (v := .int (g 2)) (C := RX1) (T := TX1) (N := 3) hx hb hts hinX1 hown hK.1 hP 1 rfl rfl 2 (by decide) (hts (.fieldLink RX1 18 "LoafMarks$Store" "eaten" "I") (List.mem_of_getElem? (i := 3) rfl)) (fun _ h9 => h9) rfl dX1_becomeLike_18 ?_
  refine va_put (D := D) (ci := 1) (v := .int (g 2)) (ty := .int) (C := RX1) (T := TX1) (N := 3) hx hb hts hinX1 tyX1 tyX1_ok nmX1 hown hK.1 hP hD hS 0 rfl rfl 2 (by decide) (hts (.fieldLink RX1 18 "LoafMarks$Store" "eaten" "I") (List.mem_of_getElem? (i := 3) rfl)) (fun _ h9 => h9) rfl (by decide +kernel) rfl rfl (Nat.le_of_ble_eq_true rfl) dX1_becomeLike_21 (fun H locs hP hD hS => ?_)
  have hP : va_P D vwCl ([(h, cSt (upd (upd (upd f 0 (g 0)) 1 (g 1)) 2 (g 2))), (o, cSt g)]) H := hP
  have hD : va_D A ([(h, cSt (upd (upd (upd f 0 (g 0)) 1 (g 1)) 2 (g 2))), (o, cSt g)]) := hD
  exact xrv () hx hb hr hlocks hS (Nat.le_of_ble_eq_true rfl) (Nat.le_of_ble_eq_true rfl) dX1_becomeLike_24 hP hD rfl trivial

set_option maxHeartbeats 4000000 in
set_option maxRecDepth 100000 in
/-- becomeLike: the fields are the other one's -/
theorem c_X0_becomeLike (l : Launch) (D : va_G) (cy : Nat → ClassId) (h o : Nat) (f g : Iu) (hg : g 7 = 0 ∨ g 7 = 1) : xM l D cy yX0_becomeLike wsX0_becomeLike ({ frames := 0, cells := 0, slots := 0, locals := 0 } : Room) [.ref h, .ref o] ([(h, cBk f), (o, cBk g)]) (fun _ : Unit => none) (fun _ => True) (fun _ => [(h, cBk g), (o, cBk g)]) := by
  refine xM.of cX0_becomeLike 2 none RX0 (by decide +kernel) rfl rfl (Nat.le_of_ble_eq_true rfl) ?_
  intro p e s m below meth c A ls hx hb hr hts hown hlocks hml hin hK hA hP hD hS hl
  have hl : lv_has ls 2 [(0, .ref h), (1, .ref o)] := hl
  have hinX0 : ∀ w ∈ wsX00, w ∈ wsX0_becomeLike := fun _ h => List.mem_cons_of_mem _ (List.mem_append_right _ h)
  refine lv_aload_n hx hb dX0_becomeLike_0 rfl (lv_at hl 0 rfl) ?_
  refine lv_aload_n hx hb dX0_becomeLike_1 rfl (lv_at hl 1 rfl) ?_
  refine va_get (D := D) (ci := 0) (v := .int (g 0)) (C := RX0) (T := TX0) (N := 8) hx hb hts hinX0 hown hK.1 hP 1 rfl rfl 0 (by decide) (hts (.fieldLink RX0 9 "LoafMarks$Baker" "storeNumber" "I") (List.mem_of_getElem? (i := 1) rfl)) (fun _ h9 => h9) rfl dX0_becomeLike_2 ?_
  refine va_put (D := D) (ci := 0) (v := .int (g 0)) (ty := .int) (C := RX0) (T := TX0) (N := 8) hx hb hts hinX0 tyX0 tyX0_ok nmX0 hown hK.1 hP hD hS 0 rfl rfl 0 (by decide) (hts (.fieldLink RX0 9 "LoafMarks$Baker" "storeNumber" "I") (List.mem_of_getElem? (i := 1) rfl)) (fun _ h9 => h9) rfl (by decide +kernel) rfl rfl (Nat.le_of_ble_eq_true rfl) dX0_becomeLike_5 (fun H locs hP hD hS => ?_)
  have hP : va_P D vwCl ([(h, cBk (upd f 0 (g 0))), (o, cBk g)]) H := hP
  have hD : va_D A ([(h, cBk (upd f 0 (g 0))), (o, cBk g)]) := hD
  refine lv_aload_n hx hb dX0_becomeLike_8 rfl (lv_at hl 0 rfl) ?_
  refine lv_aload_n hx hb dX0_becomeLike_9 rfl (lv_at hl 1 rfl) ?_
  refine va_get (D := D) (ci := 0) (v := .int (g 1)) (C := RX0) (T := TX0) (N := 8) hx hb hts hinX0 hown hK.1 hP 1 rfl rfl 1 (by decide) (hts (.fieldLink RX0 15 "LoafMarks$Baker" "mark" "I") (List.mem_of_getElem? (i := 2) rfl)) (fun _ h9 => h9) rfl dX0_becomeLike_10 ?_
  refine va_put (D := D) (ci := 0) (v := .int (g 1)) (ty := .int) (C := RX0) (T := TX0) (N := 8) hx hb hts hinX0 tyX0 tyX0_ok nmX0 hown hK.1 hP hD hS 0 rfl rfl 1 (by decide) (hts (.fieldLink RX0 15 "LoafMarks$Baker" "mark" "I") (List.mem_of_getElem? (i := 2) rfl)) (fun _ h9 => h9) rfl (by decide +kernel) rfl rfl (Nat.le_of_ble_eq_true rfl) dX0_becomeLike_13 (fun H locs hP hD hS => ?_)
  have hP : va_P D vwCl ([(h, cBk (upd (upd f 0 (g 0)) 1 (g 1))), (o, cBk g)]) H := hP
  have hD : va_D A ([(h, cBk (upd (upd f 0 (g 0)) 1 (g 1))), (o, cBk g)]) := hD
  refine lv_aload_n hx hb dX0_becomeLike_16 rfl (lv_at hl 0 rfl) ?_
  refine lv_aload_n hx hb dX0_becomeLike_17 rfl (lv_at hl 1 rfl) ?_
  refine va_get (D := D) (ci := 0) (v := .int (g 2)) (C := RX0) (T := TX0) (N := 8) hx hb hts hinX0 hown hK.1 hP 1 rfl rfl 2 (by decide) (hts (.fieldLink RX0 21 "LoafMarks$Baker" "ration" "I") (List.mem_of_getElem? (i := 3) rfl)) (fun _ h9 => h9) rfl dX0_becomeLike_18 ?_
  refine va_put (D := D) (ci := 0) (v := .int (g 2)) (ty := .int) (C := RX0) (T := TX0) (N := 8) hx hb hts hinX0 tyX0 tyX0_ok nmX0 hown hK.1 hP hD hS 0 rfl rfl 2 (by decide) (hts (.fieldLink RX0 21 "LoafMarks$Baker" "ration" "I") (List.mem_of_getElem? (i := 3) rfl)) (fun _ h9 => h9) rfl (by decide +kernel) rfl rfl (Nat.le_of_ble_eq_true rfl) dX0_becomeLike_21 (fun H locs hP hD hS => ?_)
  have hP : va_P D vwCl ([(h, cBk (upd (upd (upd f 0 (g 0)) 1 (g 1)) 2 (g 2))), (o, cBk g)]) H := hP
  have hD : va_D A ([(h, cBk (upd (upd (upd f 0 (g 0)) 1 (g 1)) 2 (g 2))), (o, cBk g)]) := hD
  refine lv_aload_n hx hb dX0_becomeLike_24 rfl (lv_at hl 0 rfl) ?_
  refine lv_aload_n hx hb dX0_becomeLike_25 rfl (lv_at hl 1 rfl) ?_
  refine va_get (D := D) (ci := 0) (v := .int (g 3)) (C := RX0) (T := TX0) (N := 8) hx hb hts hinX0 hown hK.1 hP 1 rfl rfl 3 (by decide) (hts (.fieldLink RX0 24 "LoafMarks$Baker" "atHand" "I") (List.mem_of_getElem? (i := 4) rfl)) (fun _ h9 => h9) rfl dX0_becomeLike_26 ?_
  refine va_put (D := D) (ci := 0) (v := .int (g 3)) (ty := .int) (C := RX0) (T := TX0) (N := 8) hx hb hts hinX0 tyX0 tyX0_ok nmX0 hown hK.1 hP hD hS 0 rfl rfl 3 (by decide) (hts (.fieldLink RX0 24 "LoafMarks$Baker" "atHand" "I") (List.mem_of_getElem? (i := 4) rfl)) (fun _ h9 => h9) rfl (by decide +kernel) rfl rfl (Nat.le_of_ble_eq_true rfl) dX0_becomeLike_29 (fun H locs hP hD hS => ?_)
  have hP : va_P D vwCl ([(h, cBk (upd (upd (upd (upd f 0 (g 0)) 1 (g 1)) 2 (g 2)) 3 (g 3))), (o, cBk g)]) H := hP
  have hD : va_D A ([(h, cBk (upd (upd (upd (upd f 0 (g 0)) 1 (g 1)) 2 (g 2)) 3 (g 3))), (o, cBk g)]) := hD
  refine lv_aload_n hx hb dX0_becomeLike_32 rfl (lv_at hl 0 rfl) ?_
  refine lv_aload_n hx hb dX0_becomeLike_33 rfl (lv_at hl 1 rfl) ?_
  refine va_get (D := D) (ci := 0) (v := .int (g 4)) (C := RX0) (T := TX0) (N := 8) hx hb hts hinX0 hown hK.1 hP 1 rfl rfl 4 (by decide) (hts (.fieldLink RX0 18 "LoafMarks$Baker" "weight" "I") (List.mem_of_getElem? (i := 5) rfl)) (fun _ h9 => h9) rfl dX0_becomeLike_34 ?_
  refine va_put (D := D) (ci := 0) (v := .int (g 4)) (ty := .int) (C := RX0) (T := TX0) (N := 8) hx hb hts hinX0 tyX0 tyX0_ok nmX0 hown hK.1 hP hD hS 0 rfl rfl 4 (by decide) (hts (.fieldLink RX0 18 "LoafMarks$Baker" "weight" "I") (List.mem_of_getElem? (i := 5) rfl)) (fun _ h9 => h9) rfl (by decide +kernel) rfl rfl (Nat.le_of_ble_eq_true rfl) dX0_becomeLike_37 (fun H locs hP hD hS => ?_)
  have hP : va_P D vwCl ([(h, cBk (upd (upd (upd (upd (upd f 0 (g 0)) 1 (g 1)) 2 (g 2)) 3 (g 3)) 4 (g 4))), (o, cBk g)]) H := hP
  have hD : va_D A ([(h, cBk (upd (upd (upd (upd (upd f 0 (g 0)) 1 (g 1)) 2 (g 2)) 3 (g 3)) 4 (g 4))), (o, cBk g)]) := hD
  refine lv_aload_n hx hb dX0_becomeLike_40 rfl (lv_at hl 0 rfl) ?_
  refine lv_aload_n hx hb dX0_becomeLike_41 rfl (lv_at hl 1 rfl) ?_
  refine va_get (D := D) (ci := 0) (v := .int (g 5)) (C := RX0) (T := TX0) (N := 8) hx hb hts hinX0 hown hK.1 hP 1 rfl rfl 5 (by decide) (hts (.fieldLink RX0 27 "LoafMarks$Baker" "shelf" "I") (List.mem_of_getElem? (i := 6) rfl)) (fun _ h9 => h9) rfl dX0_becomeLike_42 ?_
  refine va_put (D := D) (ci := 0) (v := .int (g 5)) (ty := .int) (C := RX0) (T := TX0) (N := 8) hx hb hts hinX0 tyX0 tyX0_ok nmX0 hown hK.1 hP hD hS 0 rfl rfl 5 (by decide) (hts (.fieldLink RX0 27 "LoafMarks$Baker" "shelf" "I") (List.mem_of_getElem? (i := 6) rfl)) (fun _ h9 => h9) rfl (by decide +kernel) rfl rfl (Nat.le_of_ble_eq_true rfl) dX0_becomeLike_45 (fun H locs hP hD hS => ?_)
  have hP : va_P D vwCl ([(h, cBk (upd (upd (upd (upd (upd (upd f 0 (g 0)) 1 (g 1)) 2 (g 2)) 3 (g 3)) 4 (g 4)) 5 (g 5))), (o, cBk g)]) H := hP
  have hD : va_D A ([(h, cBk (upd (upd (upd (upd (upd (upd f 0 (g 0)) 1 (g 1)) 2 (g 2)) 3 (g 3)) 4 (g 4)) 5 (g 5))), (o, cBk g)]) := hD
  refine lv_aload_n hx hb dX0_becomeLike_48 rfl (lv_at hl 0 rfl) ?_
  refine lv_aload_n hx hb dX0_becomeLike_49 rfl (lv_at hl 1 rfl) ?_
  refine va_get (D := D) (ci := 0) (v := .int (g 6)) (C := RX0) (T := TX0) (N := 8) hx hb hts hinX0 hown hK.1 hP 1 rfl rfl 6 (by decide) (hts (.fieldLink RX0 30 "LoafMarks$Baker" "sold" "I") (List.mem_of_getElem? (i := 7) rfl)) (fun _ h9 => h9) rfl dX0_becomeLike_50 ?_
  refine va_put (D := D) (ci := 0) (v := .int (g 6)) (ty := .int) (C := RX0) (T := TX0) (N := 8) hx hb hts hinX0 tyX0 tyX0_ok nmX0 hown hK.1 hP hD hS 0 rfl rfl 6 (by decide) (hts (.fieldLink RX0 30 "LoafMarks$Baker" "sold" "I") (List.mem_of_getElem? (i := 7) rfl)) (fun _ h9 => h9) rfl (by decide +kernel) rfl rfl (Nat.le_of_ble_eq_true rfl) dX0_becomeLike_53 (fun H locs hP hD hS => ?_)
  have hP : va_P D vwCl ([(h, cBk (upd (upd (upd (upd (upd (upd (upd f 0 (g 0)) 1 (g 1)) 2 (g 2)) 3 (g 3)) 4 (g 4)) 5 (g 5)) 6 (g 6))), (o, cBk g)]) H := hP
  have hD : va_D A ([(h, cBk (upd (upd (upd (upd (upd (upd (upd f 0 (g 0)) 1 (g 1)) 2 (g 2)) 3 (g 3)) 4 (g 4)) 5 (g 5)) 6 (g 6))), (o, cBk g)]) := hD
  refine lv_aload_n hx hb dX0_becomeLike_56 rfl (lv_at hl 0 rfl) ?_
  refine lv_aload_n hx hb dX0_becomeLike_57 rfl (lv_at hl 1 rfl) ?_
  refine va_get (D := D) (ci := 0) (v := .int (g 7)) (C := RX0) (T := TX0) (N := 8) hx hb hts hinX0 hown hK.1 hP 1 rfl rfl 7 (by decide) (hts (.fieldLink RX0 33 "LoafMarks$Baker" "barred" "Z") (List.mem_of_getElem? (i := 8) rfl)) (fun _ h9 => h9) rfl dX0_becomeLike_58 ?_
  refine va_put (D := D) (ci := 0) (v := .int (g 7)) (ty := .boolean) (C := RX0) (T := TX0) (N := 8) hx hb hts hinX0 tyX0 tyX0_ok nmX0 hown hK.1 hP hD hS 0 rfl rfl 7 (by decide) (hts (.fieldLink RX0 33 "LoafMarks$Baker" "barred" "Z") (List.mem_of_getElem? (i := 8) rfl)) (fun _ h9 => h9) rfl (by decide +kernel) (n_bool hg).1 (n_bool hg).2 (Nat.le_of_ble_eq_true rfl) dX0_becomeLike_61 (fun H locs hP hD hS => ?_)
  have hP : va_P D vwCl ([(h, cBk (upd (upd (upd (upd (upd (upd (upd (upd f 0 (g 0)) 1 (g 1)) 2 (g 2)) 3 (g 3)) 4 (g 4)) 5 (g 5)) 6 (g 6)) 7 (g 7))), (o, cBk g)]) H := hP
  have hD : va_D A ([(h, cBk (upd (upd (upd (upd (upd (upd (upd (upd f 0 (g 0)) 1 (g 1)) 2 (g 2)) 3 (g 3)) 4 (g 4)) 5 (g 5)) 6 (g 6)) 7 (g 7))), (o, cBk g)]) := hD
  exact xrv () hx hb hr hlocks hS (Nat.le_of_ble_eq_true rfl) (Nat.le_of_ble_eq_true rfl) dX0_becomeLike_64 hP hD rfl trivial

set_option maxHeartbeats 4000000 in
set_option maxRecDepth 100000 in
/-- takeIn: what there is room for -/
theorem c_X1_takeIn (l : Launch) (D : va_G) (cy : Nat → ClassId) (h : Nat) (f : Iu) (p0 : Int32) : xM l D cy yX1_takeIn wsX1_takeIn ({ frames := 1, cells := 0, slots := 0, locals := 20 } : Room) [.ref h, .int p0] ([(h, cSt f)]) (fun _ : Unit => some (.int (p0 - mn p0 (900 - f 0)))) (fun _ => True) (fun _ => [(h, cSt (sTake f p0))]) := by
  refine xM.of cX1_takeIn 3 (some .int) RX1 (by decide +kernel) rfl rfl (Nat.le_of_ble_eq_true rfl) ?_
  intro p e s m below meth c A ls hx hb hr hts hown hlocks hml hin hK hA hP hD hS hl
  have hl : lv_has ls 3 [(0, .ref h), (1, .int p0)] := hl
  have hinX1 : ∀ w ∈ wsX10, w ∈ wsX1_takeIn := fun _ h => List.mem_cons_of_mem _ (List.mem_append_right _ h)
  refine lv_iload_n hx hb dX1_takeIn_0 rfl (lv_at hl 1 rfl) ?_
  refine lv_sipush (v := 900) hx hb dX1_takeIn_1 (by decide) ?_
  refine lv_aload_n hx hb dX1_takeIn_4 rfl (lv_at hl 0 rfl) ?_
  refine va_get (D := D) (ci := 1) (v := .int (f 0)) (C := RX1) (T := TX1) (N := 3) hx hb hts hinX1 hown hK.1 hP 0 rfl rfl 0 (by decide) (hts (.fieldLink RX1 9 "LoafMarks$Store" "flour" "I") (List.mem_of_getElem? (i := 1) rfl)) (fun _ h9 => h9) rfl dX1_takeIn_5 ?_
  refine lv_isub hx hb dX1_takeIn_8 ?_
  refine va_mmin hx hb (hml.trans hl.1.symm) hown (hts (.methodLink RX1 21 Lib.Math.min.name) (List.mem_of_getElem? (i := 2) rfl)) (hts (.static Lib.Math.min.name) (List.mem_of_getElem? (i := 3) rfl)) (hts (.initialized "java/lang/Math") (List.mem_of_getElem? (i := 4) rfl)) (hts (.code Lib.Math.min.name Lib.Math.min.code 2 (some .int)) (List.mem_of_getElem? (i := 5) rfl)) (Nat.le_of_ble_eq_true rfl) (Nat.le_of_ble_eq_true rfl) (Nat.le_of_ble_eq_true rfl) (Nat.le_of_ble_eq_true rfl) dX1_takeIn_9 ?_
  refine W.eq (g2 := F0 m 12 ls [.int (mn p0 (900 - (f 0)))]) rfl ?_
  refine lv_istore_n (lv' := [(2, .int (mn p0 (900 - (f 0)))), (0, .ref h), (1, .int p0)]) hx hb dX1_takeIn_12 rfl hl (by decide) rfl (fun ls hl => ?_)
  refine lv_aload_n hx hb dX1_takeIn_13 rfl (lv_at hl 1 rfl) ?_
  refine lv_dup hx hb dX1_takeIn_14 rfl ?_
  refine va_get (D := D) (ci := 1) (v := .int (f 0)) (C := RX1) (T := TX1) (N := 3) hx hb hts hinX1 hown hK.1 hP 0 rfl rfl 0 (by decide) (hts (.fieldLink RX1 9 "LoafMarks$Store" "flour" "I") (List.mem_of_getElem? (i := 1) rfl)) (fun _ h9 => h9) rfl dX1_takeIn_15 ?_
  refine lv_iload_n hx hb dX1_takeIn_18 rfl (lv_at hl 0 rfl) ?_
  refine lv_iadd hx hb dX1_takeIn_19 ?_
  refine va_put (D := D) (ci := 1) (v := .int ((f 0) + (mn p0 (900 - (f 0))))) (ty := .int) (C := RX1) (T := TX1) (N := 3) hx hb hts hinX1 tyX1 tyX1_ok nmX1 hown hK.1 hP hD hS 0 rfl rfl 0 (by decide) (hts (.fieldLink RX1 9 "LoafMarks$Store" "flour" "I") (List.mem_of_getElem? (i := 1) rfl)) (fun _ h9 => h9) rfl (by decide +kernel) rfl rfl (Nat.le_of_ble_eq_true rfl) dX1_takeIn_20 (fun H locs hP hD hS => ?_)
  have hP : va_P D vwCl ([(h, cSt (upd f 0 ((f 0) + (mn p0 (900 - (f 0))))))]) H := hP
  have hD : va_D A ([(h, cSt (upd f 0 ((f 0) + (mn p0 (900 - (f 0))))))]) := hD
  refine lv_iload_n hx hb dX1_takeIn_23 rfl (lv_at hl 2 rfl) ?_
  refine lv_iload_n hx hb dX1_takeIn_24 rfl (lv_at hl 0 rfl) ?_
  refine lv_isub hx hb dX1_takeIn_25 ?_
  exact xri () hx hb hr hlocks hS (Nat.le_of_ble_eq_true rfl) (Nat.le_of_ble_eq_true rfl) dX1_takeIn_26 hP hD rfl trivial

set_option maxHeartbeats 4000000 in
set_option maxRecDepth 100000 in
/-- giveOut: as far as there is flour -/
theorem c_X1_giveOut (l : Launch) (D : va_G) (cy : Nat → ClassId) (h : Nat) (f : Iu) (p0 : Int32) : xM l D cy yX1_giveOut wsX1_giveOut ({ frames := 1, cells := 0, slots := 0, locals := 20 } : Room) [.ref h, .int p0] ([(h, cSt f)]) (fun _ : Unit => some (.int (mn p0 (f 0)))) (fun _ => True) (fun _ => [(h, cSt (sGive f p0))]) := by
  refine xM.of cX1_giveOut 3 (some .int) RX1 (by decide +kernel) rfl rfl (Nat.le_of_ble_eq_true rfl) ?_
  intro p e s m below meth c A ls hx hb hr hts hown hlocks hml hin hK hA hP hD hS hl
  have hl : lv_has ls 3 [(0, .ref h), (1, .int p0)] := hl
  have hinX1 : ∀ w ∈ wsX10, w ∈ wsX1_giveOut := fun _ h => List.mem_cons_of_mem _ (List.mem_append_right _ h)
  refine lv_iload_n hx hb dX1_giveOut_0 rfl (lv_at hl 1 rfl) ?_
  refine lv_aload_n hx hb dX1_giveOut_1 rfl (lv_at hl 0 rfl) ?_
  refine va_get (D := D) (ci := 1) (v := .int (f 0)) (C := RX1) (T := TX1) (N := 3) hx hb hts hinX1 hown hK.1 hP 0 rfl rfl 0 (by decide) (hts (.fieldLink RX1 9 "LoafMarks$Store" "flour" "I") (List.mem_of_getElem? (i := 1) rfl)) (fun _ h9 => h9) rfl dX1_giveOut_2 ?_
  refine va_mmin hx hb (hml.trans hl.1.symm) hown (hts (.methodLink RX1 21 Lib.Math.min.name) (List.mem_of_getElem? (i := 2) rfl)) (hts (.static Lib.Math.min.name) (List.mem_of_getElem? (i := 3) rfl)) (hts (.initialized "java/lang/Math") (List.mem_of_getElem? (i := 4) rfl)) (hts (.code Lib.Math.min.name Lib.Math.min.code 2 (some .int)) (List.mem_of_getElem? (i := 5) rfl)) (Nat.le_of_ble_eq_true rfl) (Nat.le_of_ble_eq_true rfl) (Nat.le_of_ble_eq_true rfl) (Nat.le_of_ble_eq_true rfl) dX1_giveOut_5 ?_
  refine W.eq (g2 := F0 m 8 ls [.int (mn p0 (f 0))]) rfl ?_
  refine lv_istore_n (lv' := [(2, .int (mn p0 (f 0))), (0, .ref h), (1, .int p0)]) hx hb dX1_giveOut_8 rfl hl (by decide) rfl (fun ls hl => ?_)
  refine lv_aload_n hx hb dX1_giveOut_9 rfl (lv_at hl 1 rfl) ?_
  refine lv_dup hx hb dX1_giveOut_10 rfl ?_
  refine va_get (D := D) (ci := 1) (v := .int (f 0)) (C := RX1) (T := TX1) (N := 3) hx hb hts hinX1 hown hK.1 hP 0 rfl rfl 0 (by decide) (hts (.fieldLink RX1 9 "LoafMarks$Store" "flour" "I") (List.mem_of_getElem? (i := 1) rfl)) (fun _ h9 => h9) rfl dX1_giveOut_11 ?_
  refine lv_iload_n hx hb dX1_giveOut_14 rfl (lv_at hl 0 rfl) ?_
  refine lv_isub hx hb dX1_giveOut_15 ?_
  refine va_put (D := D) (ci := 1) (v := .int ((f 0) - (mn p0 (f 0)))) (ty := .int) (C := RX1) (T := TX1) (N := 3) hx hb hts hinX1 tyX1 tyX1_ok nmX1 hown hK.1 hP hD hS 0 rfl rfl 0 (by decide) (hts (.fieldLink RX1 9 "LoafMarks$Store" "flour" "I") (List.mem_of_getElem? (i := 1) rfl)) (fun _ h9 => h9) rfl (by decide +kernel) rfl rfl (Nat.le_of_ble_eq_true rfl) dX1_giveOut_16 (fun H locs hP hD hS => ?_)
  have hP : va_P D vwCl ([(h, cSt (upd f 0 ((f 0) - (mn p0 (f 0)))))]) H := hP
  have hD : va_D A ([(h, cSt (upd f 0 ((f 0) - (mn p0 (f 0)))))]) := hD
  refine lv_iload_n hx hb dX1_giveOut_19 rfl (lv_at hl 0 rfl) ?_
  exact xri () hx hb hr hlocks hS (Nat.le_of_ble_eq_true rfl) (Nat.le_of_ble_eq_true rfl) dX1_giveOut_20 hP hD rfl trivial

set_option maxHeartbeats 4000000 in
set_option maxRecDepth 100000 in
/-- feedWeevils -/
theorem c_X1_feedWeevils (l : Launch) (D : va_G) (cy : Nat → ClassId) (h : Nat) (f : Iu) : xM l D cy yX1_feedWeevils wsX1_feedWeevils ({ frames := 2, cells := 0, slots := 0, locals := 50 } : Room) [.ref h] ([(h, cSt f)]) (fun _ : Unit => none) (fun _ => True) (fun _ => [(h, cSt (sFeed f))]) := by
  refine xM.of cX1_feedWeevils 1 none RX1 (by decide +kernel) rfl rfl (Nat.le_of_ble_eq_true rfl) ?_
  intro p e s m below meth c A ls hx hb hr hts hown hlocks hml hin hK hA hP hD hS hl
  have hl : lv_has ls 1 [(0, .ref h)] := hl
  have hinX1 : ∀ w ∈ wsX10, w ∈ wsX1_feedWeevils := fun _ h => List.mem_cons_of_mem _ (List.mem_append_right _ h)
  refine lv_aload_n hx hb dX1_feedWeevils_0 rfl (lv_at hl 0 rfl) ?_
  refine lv_dup hx hb dX1_feedWeevils_1 rfl ?_
  refine va_get (D := D) (ci := 1) (v := .int (f 2)) (C := RX1) (T := TX1) (N := 3) hx hb hts hinX1 hown hK.1 hP 0 rfl rfl 2 (by decide) (hts (.fieldLink RX1 18 "LoafMarks$Store" "eaten" "I") (List.mem_of_getElem? (i := 1) rfl)) (fun _ h9 => h9) rfl dX1_feedWeevils_2 ?_
  refine lv_aload_n hx hb dX1_feedWeevils_5 rfl (lv_at hl 0 rfl) ?_
  refine lv_aload_n hx hb dX1_feedWeevils_6 rfl (lv_at hl 0 rfl) ?_
  refine va_get (D := D) (ci := 1) (v := .int (f 1)) (C := RX1) (T := TX1) (N := 3) hx hb hts hinX1 hown hK.1 hP 0 rfl rfl 1 (by decide) (hts (.fieldLink RX1 15 "LoafMarks$Store" "weevils" "I") (List.mem_of_getElem? (i := 2) rfl)) (fun _ h9 => h9) rfl dX1_feedWeevils_7 ?_
  refine xcV (As := [.int (f 1)]) (rest := [.int (f 2), .ref h]) ⟨hx, hb, hml, hown, hts⟩ (c_X1_giveOut l D cy h f (f 1)) (cwV 1 hts gX1_feedWeevils_X1_giveOut rfl rfl rfl (by decide +kernel) ⟨Nat.le_of_ble_eq_true rfl, Nat.le_of_ble_eq_true rfl⟩) hK hP hD hS hA rfl rfl rfl (xE_all) rfl hl.1 rfl (Nat.le_of_ble_eq_true rfl) dX1_feedWeevils_10 ⟨Nat.le_of_ble_eq_true rfl, Nat.le_of_ble_eq_true rfl⟩ (fun _ H locs _ hP hD hS => ?_)
  have hP : va_P D vwCl ([(h, cSt (upd f 0 (f 0 - mn (f 1) (f 0))))]) H := hP
  have hD : va_D A ([(h, cSt (upd f 0 (f 0 - mn (f 1) (f 0))))]) := hD
  refine W.eq (g2 := F0 m 13 ls [.int (mn (f 1) (f 0)), .int (f 2), .ref h]) rfl ?_
  refine lv_iadd hx hb dX1_feedWeevils_13 ?_
  refine va_put (D := D) (ci := 1) (v := .int ((f 2) + (mn (f 1) (f 0)))) (ty := .int) (C := RX1) (T := TX1) (N := 3) hx hb hts hinX1 tyX1 tyX1_ok nmX1 hown hK.1 hP hD hS 0 rfl rfl 2 (by decide) (hts (.fieldLink RX1 18 "LoafMarks$Store" "eaten" "I") (List.mem_of_getElem? (i := 1) rfl)) (fun _ h9 => h9) rfl (by decide +kernel) rfl rfl (Nat.le_of_ble_eq_true rfl) dX1_feedWeevils_14 (fun H locs hP hD hS => ?_)
  have hP : va_P D vwCl ([(h, cSt (upd (upd f 0 (f 0 - mn (f 1) (f 0))) 2 ((f 2) + (mn (f 1) (f 0)))))]) H := hP
  have hD : va_D A ([(h, cSt (upd (upd f 0 (f 0 - mn (f 1) (f 0))) 2 ((f 2) + (mn (f 1) (f 0)))))]) := hD
  refine lv_aload_n hx hb dX1_feedWeevils_17 rfl (lv_at hl 0 rfl) ?_
  refine va_get (D := D) (ci := 1) (v := .int (f 0 - mn (f 1) (f 0))) (C := RX1) (T := TX1) (N := 3) hx hb hts hinX1 hown hK.1 hP 0 rfl rfl 0 (by decide) (hts (.fieldLink RX1 9 "LoafMarks$Store" "flour" "I") (List.mem_of_getElem? (i := 3) rfl)) (fun _ h9 => h9) rfl dX1_feedWeevils_18 ?_
  refine lv_if_le (tgt := 49) hx hb dX1_feedWeevils_21 (by decide) (fun c21 => ?_) (fun c21 => ?_)
  · refine lv_aload_n hx hb dX1_feedWeevils_49 rfl (lv_at hl 0 rfl) ?_
    refine lv_aload_n hx hb dX1_feedWeevils_50 rfl (lv_at hl 0 rfl) ?_
    refine va_get (D := D) (ci := 1) (v := .int (f 1)) (C := RX1) (T := TX1) (N := 3) hx hb hts hinX1 hown hK.1 hP 0 rfl rfl 1 (by decide) (hts (.fieldLink RX1 15 "LoafMarks$Store" "weevils" "I") (List.mem_of_getElem? (i := 2) rfl)) (fun _ h9 => h9) rfl dX1_feedWeevils_51 ?_
    refine lv_iconst (v := 2) hx hb dX1_feedWeevils_54 (by decide) ?_
    refine lv_idiv hx hb dX1_feedWeevils_55 (by decide) ?_
    refine va_put (D := D) (ci := 1) (v := .int ((f 1) / 2)) (ty := .int) (C := RX1) (T := TX1) (N := 3) hx hb hts hinX1 tyX1 tyX1_ok nmX1 hown hK.1 hP hD hS 0 rfl rfl 1 (by decide) (hts (.fieldLink RX1 15 "LoafMarks$Store" "weevils" "I") (List.mem_of_getElem? (i := 2) rfl)) (fun _ h9 => h9) rfl (by decide +kernel) rfl rfl (Nat.le_of_ble_eq_true rfl) dX1_feedWeevils_56 (fun H locs hP hD hS => ?_)
    have hP : va_P D vwCl ([(h, cSt (upd (upd (upd f 0 (f 0 - mn (f 1) (f 0))) 2 ((f 2) + (mn (f 1) (f 0)))) 1 ((f 1) / 2)))]) H := hP
    have hD : va_D A ([(h, cSt (upd (upd (upd f 0 (f 0 - mn (f 1) (f 0))) 2 ((f 2) + (mn (f 1) (f 0)))) 1 ((f 1) / 2)))]) := hD
    have e : sFeed f = upd (upd (upd f 0 (f 0 - mn (f 1) (f 0))) 2 ((f 2) + (mn (f 1) (f 0)))) 1 ((f 1) / 2) := by unfold sFeed; rw [if_neg (Int32.not_lt.mpr c21)]; rfl
    exact xrv () hx hb hr hlocks hS (Nat.le_of_ble_eq_true rfl) (Nat.le_of_ble_eq_true rfl) dX1_feedWeevils_59 (by rw [e]; exact hP) (by rw [e]; exact hD) rfl trivial
  · refine lv_aload_n hx hb dX1_feedWeevils_24 rfl (lv_at hl 0 rfl) ?_
    refine lv_aload_n hx hb dX1_feedWeevils_25 rfl (lv_at hl 0 rfl) ?_
    refine va_get (D := D) (ci := 1) (v := .int (f 1)) (C := RX1) (T := TX1) (N := 3) hx hb hts hinX1 hown hK.1 hP 0 rfl rfl 1 (by decide) (hts (.fieldLink RX1 15 "LoafMarks$Store" "weevils" "I") (List.mem_of_getElem? (i := 2) rfl)) (fun _ h9 => h9) rfl dX1_feedWeevils_26 ?_
    refine lv_aload_n hx hb dX1_feedWeevils_29 rfl (lv_at hl 0 rfl) ?_
    refine va_get (D := D) (ci := 1) (v := .int (f 1)) (C := RX1) (T := TX1) (N := 3) hx hb hts hinX1 hown hK.1 hP 0 rfl rfl 1 (by decide) (hts (.fieldLink RX1 15 "LoafMarks$Store" "weevils" "I") (List.mem_of_getElem? (i := 2) rfl)) (fun _ h9 => h9) rfl dX1_feedWeevils_30 ?_
    refine lv_iconst (v := 4) hx hb dX1_feedWeevils_33 (by decide) ?_
    refine lv_idiv hx hb dX1_feedWeevils_34 (by decide) ?_
    refine lv_iadd hx hb dX1_feedWeevils_35 ?_
    refine lv_iconst (v := 1) hx hb dX1_feedWeevils_36 (by decide) ?_
    refine lv_iadd hx hb dX1_feedWeevils_37 ?_
    refine lv_bipush (v := 50) hx hb dX1_feedWeevils_38 (by decide) ?_
    refine va_mmin hx hb (hml.trans hl.1.symm) hown (hts (.methodLink RX1 21 Lib.Math.min.name) (List.mem_of_getElem? (i := 4) rfl)) (hts (.static Lib.Math.min.name) (List.mem_of_getElem? (i := 5) rfl)) (hts (.initialized "java/lang/Math") (List.mem_of_getElem? (i := 6) rfl)) (hts (.code Lib.Math.min.name Lib.Math.min.code 2 (some .int)) (List.mem_of_getElem? (i := 7) rfl)) (Nat.le_of_ble_eq_true rfl) (Nat.le_of_ble_eq_true rfl) (Nat.le_of_ble_eq_true rfl) (Nat.le_of_ble_eq_true rfl) dX1_feedWeevils_40 ?_
    refine W.eq (g2 := F0 m 43 ls [.int (mn (((f 1) + ((f 1) / 4)) + 1) 50), .ref h]) rfl ?_
    refine va_put (D := D) (ci := 1) (v := .int (mn (((f 1) + ((f 1) / 4)) + 1) 50)) (ty := .int) (C := RX1) (T := TX1) (N := 3) hx hb hts hinX1 tyX1 tyX1_ok nmX1 hown hK.1 hP hD hS 0 rfl rfl 1 (by decide) (hts (.fieldLink RX1 15 "LoafMarks$Store" "weevils" "I") (List.mem_of_getElem? (i := 2) rfl)) (fun _ h9 => h9) rfl (by decide +kernel) rfl rfl (Nat.le_of_ble_eq_true rfl) dX1_feedWeevils_43 (fun H locs hP hD hS => ?_)
    have hP : va_P D vwCl ([(h, cSt (upd (upd (upd f 0 (f 0 - mn (f 1) (f 0))) 2 ((f 2) + (mn (f 1) (f 0)))) 1 (mn (((f 1) + ((f 1) / 4)) + 1) 50)))]) H := hP
    have hD : va_D A ([(h, cSt (upd (upd (upd f 0 (f 0 - mn (f 1) (f 0))) 2 ((f 2) + (mn (f 1) (f 0)))) 1 (mn (((f 1) + ((f 1) / 4)) + 1) 50)))]) := hD
    refine lv_goto (tgt := 59) hx hb dX1_feedWeevils_46 (by decide) ?_
    have e : sFeed f = upd (upd (upd f 0 (f 0 - mn (f 1) (f 0))) 2 ((f 2) + (mn (f 1) (f 0)))) 1 (mn (((f 1) + ((f 1) / 4)) + 1) 50) := by unfold sFeed; rw [if_pos (Int32.not_le.mp c21)]; rfl
    exact xrv () hx hb hr hlocks hS (Nat.le_of_ble_eq_true rfl) (Nat.le_of_ble_eq_true rfl) dX1_feedWeevils_59 (by rw [e]; exact hP) (by rw [e]; exact hD) rfl trivial

set_option maxHeartbeats 4000000 in
set_option maxRecDepth 100000 in
/-- smokeOut -/
theorem c_X1_smokeOut (l : Launch) (D : va_G) (cy : Nat → ClassId) (h : Nat) (f : Iu) : xM l D cy yX1_smokeOut wsX1_smokeOut ({ frames := 0, cells := 0, slots := 0, locals := 0 } : Room) [.ref h] ([(h, cSt f)]) (fun _ : Unit => some (.int (f 1))) (fun _ => True) (fun _ => [(h, cSt (sSmoke f))]) := by
  refine xM.of cX1_smokeOut 2 (some .int) RX1 (by decide +kernel) rfl rfl (Nat.le_of_ble_eq_true rfl) ?_
  intro p e s m below meth c A ls hx hb hr hts hown hlocks hml hin hK hA hP hD hS hl
  have hl : lv_has ls 2 [(0, .ref h)] := hl
  have hinX1 : ∀ w ∈ wsX10, w ∈ wsX1_smokeOut := fun _ h => List.mem_cons_of_mem _ (List.mem_append_right _ h)
  refine lv_aload_n hx hb dX1_smokeOut_0 rfl (lv_at hl 0 rfl) ?_
  refine va_get (D := D) (ci := 1) (v := .int (f 1)) (C := RX1) (T := TX1) (N := 3) hx hb hts hinX1 hown hK.1 hP 0 rfl rfl 1 (by decide) (hts (.fieldLink RX1 15 "LoafMarks$Store" "weevils" "I") (List.mem_of_getElem? (i := 1) rfl)) (fun _ h9 => h9) rfl dX1_smokeOut_1 ?_
  refine lv_istore_n (lv' := [(1, .int (f 1)), (0, .ref h)]) hx hb dX1_smokeOut_4 rfl hl (by decide) rfl (fun ls hl => ?_)
  refine lv_aload_n hx hb dX1_smokeOut_5 rfl (lv_at hl 1 rfl) ?_
  refine lv_iconst (v := 0) hx hb dX1_smokeOut_6 (by decide) ?_
  refine va_put (D := D) (ci := 1) (v := .int 0) (ty := .int) (C := RX1) (T := TX1) (N := 3) hx hb hts hinX1 tyX1 tyX1_ok nmX1 hown hK.1 hP hD hS 0 rfl rfl 1 (by decide) (hts (.fieldLink RX1 15 "LoafMarks$Store" "weevils" "I") (List.mem_of_getElem? (i := 1) rfl)) (fun _ h9 => h9) rfl (by decide +kernel) rfl rfl (Nat.le_of_ble_eq_true rfl) dX1_smokeOut_7 (fun H locs hP hD hS => ?_)
  have hP : va_P D vwCl ([(h, cSt (upd f 1 0))]) H := hP
  have hD : va_D A ([(h, cSt (upd f 1 0))]) := hD
  refine lv_aload_n hx hb dX1_smokeOut_10 rfl (lv_at hl 1 rfl) ?_
  refine lv_dup hx hb dX1_smokeOut_11 rfl ?_
  refine va_get (D := D) (ci := 1) (v := .int (f 0)) (C := RX1) (T := TX1) (N := 3) hx hb hts hinX1 hown hK.1 hP 0 rfl rfl 0 (by decide) (hts (.fieldLink RX1 9 "LoafMarks$Store" "flour" "I") (List.mem_of_getElem? (i := 2) rfl)) (fun _ h9 => h9) rfl dX1_smokeOut_12 ?_
  refine lv_aload_n hx hb dX1_smokeOut_15 rfl (lv_at hl 1 rfl) ?_
  refine va_get (D := D) (ci := 1) (v := .int (f 0)) (C := RX1) (T := TX1) (N := 3) hx hb hts hinX1 hown hK.1 hP 0 rfl rfl 0 (by decide) (hts (.fieldLink RX1 9 "LoafMarks$Store" "flour" "I") (List.mem_of_getElem? (i := 2) rfl)) (fun _ h9 => h9) rfl dX1_smokeOut_16 ?_
  refine lv_bipush (v := 10) hx hb dX1_smokeOut_19 (by decide) ?_
  refine lv_idiv hx hb dX1_smokeOut_21 (by decide) ?_
  refine lv_isub hx hb dX1_smokeOut_22 ?_
  refine va_put (D := D) (ci := 1) (v := .int ((f 0) - ((f 0) / 10))) (ty := .int) (C := RX1) (T := TX1) (N := 3) hx hb hts hinX1 tyX1 tyX1_ok nmX1 hown hK.1 hP hD hS 0 rfl rfl 0 (by decide) (hts (.fieldLink RX1 9 "LoafMarks$Store" "flour" "I") (List.mem_of_getElem? (i := 2) rfl)) (fun _ h9 => h9) rfl (by decide +kernel) rfl rfl (Nat.le_of_ble_eq_true rfl) dX1_smokeOut_23 (fun H locs hP hD hS => ?_)
  have hP : va_P D vwCl ([(h, cSt (upd (upd f 1 0) 0 ((f 0) - ((f 0) / 10))))]) H := hP
  have hD : va_D A ([(h, cSt (upd (upd f 1 0) 0 ((f 0) - ((f 0) / 10))))]) := hD
  refine lv_iload_n hx hb dX1_smokeOut_26 rfl (lv_at hl 0 rfl) ?_
  exact xri () hx hb hr hlocks hS (Nat.le_of_ble_eq_true rfl) (Nat.le_of_ble_eq_true rfl) dX1_smokeOut_27 hP hD rfl trivial

set_option maxHeartbeats 4000000 in
set_option maxRecDepth 100000 in
/-- bakesLight -/
theorem c_X0_bakesLight (l : Launch) (D : va_G) (cy : Nat → ClassId) (h : Nat) (f : Iu) : xM l D cy yX0_bakesLight wsX0_bakesLight ({ frames := 0, cells := 0, slots := 0, locals := 0 } : Room) [.ref h] ([(h, cBk f)]) (fun _ : Unit => some (.int (bLight f))) (fun _ => True) (fun _ => [(h, cBk (f))]) := by
  refine xM.of cX0_bakesLight 1 (some .boolean) RX0 (by decide +kernel) rfl rfl (Nat.le_of_ble_eq_true rfl) ?_
  intro p e s m below meth c A ls hx hb hr hts hown hlocks hml hin hK hA hP hD hS hl
  have hl : lv_has ls 1 [(0, .ref h)] := hl
  have hinX0 : ∀ w ∈ wsX00, w ∈ wsX0_bakesLight := fun _ h => List.mem_cons_of_mem _ (List.mem_append_right _ h)
  refine lv_aload_n hx hb dX0_bakesLight_0 rfl (lv_at hl 0 rfl) ?_
  refine va_get (D := D) (ci := 0) (v := .int (f 4)) (C := RX0) (T := TX0) (N := 8) hx hb hts hinX0 hown hK.1 hP 0 rfl rfl 4 (by decide) (hts (.fieldLink RX0 18 "LoafMarks$Baker" "weight" "I") (List.mem_of_getElem? (i := 1) rfl)) (fun _ h9 => h9) rfl dX0_bakesLight_1 ?_
  refine lv_bipush (v := 10) hx hb dX0_bakesLight_4 (by decide) ?_
  refine lv_icmp_ge (tgt := 13) hx hb dX0_bakesLight_6 (by decide) (fun c6 => ?_) (fun c6 => ?_)
  · refine lv_iconst (v := 0) hx hb dX0_bakesLight_13 (by decide) ?_
    exact xrz () hx hb hr hlocks hS (Nat.le_of_ble_eq_true rfl) (Nat.le_of_ble_eq_true rfl) dX0_bakesLight_14 (by decide) hP hD (by show some (Value.int (bLight f)) = _; unfold bLight; rw [if_neg (Int32.not_lt.mpr c6)]) trivial
  · refine lv_iconst (v := 1) hx hb dX0_bakesLight_9 (by decide) ?_
    refine lv_goto (tgt := 14) hx hb dX0_bakesLight_10 (by decide) ?_
    exact xrz () hx hb hr hlocks hS (Nat.le_of_ble_eq_true rfl) (Nat.le_of_ble_eq_true rfl) dX0_bakesLight_14 (by decide) hP hD (by show some (Value.int (bLight f)) = _; unfold bLight; rw [if_pos (Int32.not_le.mp c6)]) trivial

set_option maxHeartbeats 4000000 in
set_option maxRecDepth 100000 in
/-- bake -/
theorem c_X0_bake (l : Launch) (D : va_G) (cy : Nat → ClassId) (h : Nat) (f : Iu) : xM l D cy yX0_bake wsX0_bake ({ frames := 1, cells := 0, slots := 0, locals := 20 } : Room) [.ref h] ([(h, cBk f)]) (fun _ : Unit => none) (fun _ => True) (fun _ => [(h, cBk (bBake f))]) := by
  refine xM.of cX0_bake 2 none RX0 (by decide +kernel) rfl rfl (Nat.le_of_ble_eq_true rfl) ?_
  intro p e s m below meth c A ls hx hb hr hts hown hlocks hml hin hK hA hP hD hS hl
  have hl : lv_has ls 2 [(0, .ref h)] := hl
  have hinX0 : ∀ w ∈ wsX00, w ∈ wsX0_bake := fun _ h => List.mem_cons_of_mem _ (List.mem_append_right _ h)
  refine lv_aload_n hx hb dX0_bake_0 rfl (lv_at hl 0 rfl) ?_
  refine va_get (D := D) (ci := 0) (v := .int (f 7)) (C := RX0) (T := TX0) (N := 8) hx hb hts hinX0 hown hK.1 hP 0 rfl rfl 7 (by decide) (hts (.fieldLink RX0 33 "LoafMarks$Baker" "barred" "Z") (List.mem_of_getElem? (i := 1) rfl)) (fun _ h9 => h9) rfl dX0_bake_1 ?_
  refine lv_if_ne (tgt := 14) hx hb dX0_bake_4 (by decide) (fun c4 => ?_) (fun c4 => ?_)
  · have e : bBake f = f := by unfold bBake; rw [if_neg (fun h => c4 h.1)]
    exact xrv () hx hb hr hlocks hS (Nat.le_of_ble_eq_true rfl) (Nat.le_of_ble_eq_true rfl) dX0_bake_14 (by rw [e]; exact hP) (by rw [e]; exact hD) rfl trivial
  · refine lv_aload_n hx hb dX0_bake_7 rfl (lv_at hl 0 rfl) ?_
    refine va_get (D := D) (ci := 0) (v := .int (f 4)) (C := RX0) (T := TX0) (N := 8) hx hb hts hinX0 hown hK.1 hP 0 rfl rfl 4 (by decide) (hts (.fieldLink RX0 18 "LoafMarks$Baker" "weight" "I") (List.mem_of_getElem? (i := 2) rfl)) (fun _ h9 => h9) rfl dX0_bake_8 ?_
    refine lv_if_gt (tgt := 15) hx hb dX0_bake_11 (by decide) (fun c11 => ?_) (fun c11 => ?_)
    · refine lv_aload_n hx hb dX0_bake_15 rfl (lv_at hl 0 rfl) ?_
      refine va_get (D := D) (ci := 0) (v := .int (f 3)) (C := RX0) (T := TX0) (N := 8) hx hb hts hinX0 hown hK.1 hP 0 rfl rfl 3 (by decide) (hts (.fieldLink RX0 24 "LoafMarks$Baker" "atHand" "I") (List.mem_of_getElem? (i := 3) rfl)) (fun _ h9 => h9) rfl dX0_bake_16 ?_
      refine lv_aload_n hx hb dX0_bake_19 rfl (lv_at hl 0 rfl) ?_
      refine va_get (D := D) (ci := 0) (v := .int (f 4)) (C := RX0) (T := TX0) (N := 8) hx hb hts hinX0 hown hK.1 hP 0 rfl rfl 4 (by decide) (hts (.fieldLink RX0 18 "LoafMarks$Baker" "weight" "I") (List.mem_of_getElem? (i := 2) rfl)) (fun _ h9 => h9) rfl dX0_bake_20 ?_
      refine lv_idiv hx hb dX0_bake_23 (fun h => by rw [h] at c11; exact absurd c11 (by decide)) ?_
      refine lv_iconst (v := 4) hx hb dX0_bake_24 (by decide) ?_
      refine va_mmin hx hb (hml.trans hl.1.symm) hown (hts (.methodLink RX0 37 Lib.Math.min.name) (List.mem_of_getElem? (i := 4) rfl)) (hts (.static Lib.Math.min.name) (List.mem_of_getElem? (i := 5) rfl)) (hts (.initialized "java/lang/Math") (List.mem_of_getElem? (i := 6) rfl)) (hts (.code Lib.Math.min.name Lib.Math.min.code 2 (some .int)) (List.mem_of_getElem? (i := 7) rfl)) (Nat.le_of_ble_eq_true rfl) (Nat.le_of_ble_eq_true rfl) (Nat.le_of_ble_eq_true rfl) (Nat.le_of_ble_eq_true rfl) dX0_bake_25 ?_
      refine W.eq (g2 := F0 m 28 ls [.int (mn ((f 3) / (f 4)) 4)]) rfl ?_
      refine lv_istore_n (lv' := [(1, .int (mn ((f 3) / (f 4)) 4)), (0, .ref h)]) hx hb dX0_bake_28 rfl hl (by decide) rfl (fun ls hl => ?_)
      refine lv_aload_n hx hb dX0_bake_29 rfl (lv_at hl 1 rfl) ?_
      refine lv_dup hx hb dX0_bake_30 rfl ?_
      refine va_get (D := D) (ci := 0) (v := .int (f 3)) (C := RX0) (T := TX0) (N := 8) hx hb hts hinX0 hown hK.1 hP 0 rfl rfl 3 (by decide) (hts (.fieldLink RX0 24 "LoafMarks$Baker" "atHand" "I") (List.mem_of_getElem? (i := 3) rfl)) (fun _ h9 => h9) rfl dX0_bake_31 ?_
      refine lv_iload_n hx hb dX0_bake_34 rfl (lv_at hl 0 rfl) ?_
      refine lv_aload_n hx hb dX0_bake_35 rfl (lv_at hl 1 rfl) ?_
      refine va_get (D := D) (ci := 0) (v := .int (f 4)) (C := RX0) (T := TX0) (N := 8) hx hb hts hinX0 hown hK.1 hP 0 rfl rfl 4 (by decide) (hts (.fieldLink RX0 18 "LoafMarks$Baker" "weight" "I") (List.mem_of_getElem? (i := 2) rfl)) (fun _ h9 => h9) rfl dX0_bake_36 ?_
      refine lv_imul hx hb dX0_bake_39 ?_
      refine lv_isub hx hb dX0_bake_40 ?_
      refine va_put (D := D) (ci := 0) (v := .int ((f 3) - ((mn ((f 3) / (f 4)) 4) * (f 4)))) (ty := .int) (C := RX0) (T := TX0) (N := 8) hx hb hts hinX0 tyX0 tyX0_ok nmX0 hown hK.1 hP hD hS 0 rfl rfl 3 (by decide) (hts (.fieldLink RX0 24 "LoafMarks$Baker" "atHand" "I") (List.mem_of_getElem? (i := 3) rfl)) (fun _ h9 => h9) rfl (by decide +kernel) rfl rfl (Nat.le_of_ble_eq_true rfl) dX0_bake_41 (fun H locs hP hD hS => ?_)
      have hP : va_P D vwCl ([(h, cBk (upd f 3 ((f 3) - ((mn ((f 3) / (f 4)) 4) * (f 4)))))]) H := hP
      have hD : va_D A ([(h, cBk (upd f 3 ((f 3) - ((mn ((f 3) / (f 4)) 4) * (f 4)))))]) := hD
      refine lv_aload_n hx hb dX0_bake_44 rfl (lv_at hl 1 rfl) ?_
      refine lv_dup hx hb dX0_bake_45 rfl ?_
      refine va_get (D := D) (ci := 0) (v := .int (f 5)) (C := RX0) (T := TX0) (N := 8) hx hb hts hinX0 hown hK.1 hP 0 rfl rfl 5 (by decide) (hts (.fieldLink RX0 27 "LoafMarks$Baker" "shelf" "I") (List.mem_of_getElem? (i := 8) rfl)) (fun _ h9 => h9) rfl dX0_bake_46 ?_
      refine lv_iload_n hx hb dX0_bake_49 rfl (lv_at hl 0 rfl) ?_
      refine lv_iadd hx hb dX0_bake_50 ?_
      refine va_put (D := D) (ci := 0) (v := .int ((f 5) + (mn ((f 3) / (f 4)) 4))) (ty := .int) (C := RX0) (T := TX0) (N := 8) hx hb hts hinX0 tyX0 tyX0_ok nmX0 hown hK.1 hP hD hS 0 rfl rfl 5 (by decide) (hts (.fieldLink RX0 27 "LoafMarks$Baker" "shelf" "I") (List.mem_of_getElem? (i := 8) rfl)) (fun _ h9 => h9) rfl (by decide +kernel) rfl rfl (Nat.le_of_ble_eq_true rfl) dX0_bake_51 (fun H locs hP hD hS => ?_)
      have hP : va_P D vwCl ([(h, cBk (upd (upd f 3 ((f 3) - ((mn ((f 3) / (f 4)) 4) * (f 4)))) 5 ((f 5) + (mn ((f 3) / (f 4)) 4))))]) H := hP
      have hD : va_D A ([(h, cBk (upd (upd f 3 ((f 3) - ((mn ((f 3) / (f 4)) 4) * (f 4)))) 5 ((f 5) + (mn ((f 3) / (f 4)) 4))))]) := hD
      have e : bBake f = upd (upd f 3 ((f 3) - ((mn ((f 3) / (f 4)) 4) * (f 4)))) 5 ((f 5) + (mn ((f 3) / (f 4)) 4)) := by unfold bBake; rw [if_pos ⟨c4, c11⟩]; rfl
      exact xrv () hx hb hr hlocks hS (Nat.le_of_ble_eq_true rfl) (Nat.le_of_ble_eq_true rfl) dX0_bake_54 (by rw [e]; exact hP) (by rw [e]; exact hD) rfl trivial
    · have e : bBake f = f := by unfold bBake; rw [if_neg (fun h => c11 h.2)]
      exact xrv () hx hb hr hlocks hS (Nat.le_of_ble_eq_true rfl) (Nat.le_of_ble_eq_true rfl) dX0_bake_14 (by rw [e]; exact hP) (by rw [e]; exact hD) rfl trivial

set_option maxHeartbeats 4000000 in
set_option maxRecDepth 100000 in
/-- sell -/
theorem c_X0_sell (l : Launch) (D : va_G) (cy : Nat → ClassId) (h : Nat) (f : Iu) (p0 : Int32) : xM l D cy yX0_sell wsX0_sell ({ frames := 1, cells := 0, slots := 0, locals := 20 } : Room) [.ref h, .int p0] ([(h, cBk f)]) (fun _ : Unit => some (.int (mn p0 (f 5)))) (fun _ => True) (fun _ => [(h, cBk (bSell f p0))]) := by
  refine xM.of cX0_sell 3 (some .int) RX0 (by decide +kernel) rfl rfl (Nat.le_of_ble_eq_true rfl) ?_
  intro p e s m below meth c A ls hx hb hr hts hown hlocks hml hin hK hA hP hD hS hl
  have hl : lv_has ls 3 [(0, .ref h), (1, .int p0)] := hl
  have hinX0 : ∀ w ∈ wsX00, w ∈ wsX0_sell := fun _ h => List.mem_cons_of_mem _ (List.mem_append_right _ h)
  refine lv_iload_n hx hb dX0_sell_0 rfl (lv_at hl 1 rfl) ?_
  refine lv_aload_n hx hb dX0_sell_1 rfl (lv_at hl 0 rfl) ?_
  refine va_get (D := D) (ci := 0) (v := .int (f 5)) (C := RX0) (T := TX0) (N := 8) hx hb hts hinX0 hown hK.1 hP 0 rfl rfl 5 (by decide) (hts (.fieldLink RX0 27 "LoafMarks$Baker" "shelf" "I") (List.mem_of_getElem? (i := 1) rfl)) (fun _ h9 => h9) rfl dX0_sell_2 ?_
  refine va_mmin hx hb (hml.trans hl.1.symm) hown (hts (.methodLink RX0 37 Lib.Math.min.name) (List.mem_of_getElem? (i := 2) rfl)) (hts (.static Lib.Math.min.name) (List.mem_of_getElem? (i := 3) rfl)) (hts (.initialized "java/lang/Math") (List.mem_of_getElem? (i := 4) rfl)) (hts (.code Lib.Math.min.name Lib.Math.min.code 2 (some .int)) (List.mem_of_getElem? (i := 5) rfl)) (Nat.le_of_ble_eq_true rfl) (Nat.le_of_ble_eq_true rfl) (Nat.le_of_ble_eq_true rfl) (Nat.le_of_ble_eq_true rfl) dX0_sell_5 ?_
  refine W.eq (g2 := F0 m 8 ls [.int (mn p0 (f 5))]) rfl ?_
  refine lv_istore_n (lv' := [(2, .int (mn p0 (f 5))), (0, .ref h), (1, .int p0)]) hx hb dX0_sell_8 rfl hl (by decide) rfl (fun ls hl => ?_)
  refine lv_aload_n hx hb dX0_sell_9 rfl (lv_at hl 1 rfl) ?_
  refine lv_dup hx hb dX0_sell_10 rfl ?_
  refine va_get (D := D) (ci := 0) (v := .int (f 5)) (C := RX0) (T := TX0) (N := 8) hx hb hts hinX0 hown hK.1 hP 0 rfl rfl 5 (by decide) (hts (.fieldLink RX0 27 "LoafMarks$Baker" "shelf" "I") (List.mem_of_getElem? (i := 1) rfl)) (fun _ h9 => h9) rfl dX0_sell_11 ?_
  refine lv_iload_n hx hb dX0_sell_14 rfl (lv_at hl 0 rfl) ?_
  refine lv_isub hx hb dX0_sell_15 ?_
  refine va_put (D := D) (ci := 0) (v := .int ((f 5) - (mn p0 (f 5)))) (ty := .int) (C := RX0) (T := TX0) (N := 8) hx hb hts hinX0 tyX0 tyX0_ok nmX0 hown hK.1 hP hD hS 0 rfl rfl 5 (by decide) (hts (.fieldLink RX0 27 "LoafMarks$Baker" "shelf" "I") (List.mem_of_getElem? (i := 1) rfl)) (fun _ h9 => h9) rfl (by decide +kernel) rfl rfl (Nat.le_of_ble_eq_true rfl) dX0_sell_16 (fun H locs hP hD hS => ?_)
  have hP : va_P D vwCl ([(h, cBk (upd f 5 ((f 5) - (mn p0 (f 5)))))]) H := hP
  have hD : va_D A ([(h, cBk (upd f 5 ((f 5) - (mn p0 (f 5)))))]) := hD
  refine lv_aload_n hx hb dX0_sell_19 rfl (lv_at hl 1 rfl) ?_
  refine lv_dup hx hb dX0_sell_20 rfl ?_
  refine va_get (D := D) (ci := 0) (v := .int (f 6)) (C := RX0) (T := TX0) (N := 8) hx hb hts hinX0 hown hK.1 hP 0 rfl rfl 6 (by decide) (hts (.fieldLink RX0 30 "LoafMarks$Baker" "sold" "I") (List.mem_of_getElem? (i := 6) rfl)) (fun _ h9 => h9) rfl dX0_sell_21 ?_
  refine lv_iload_n hx hb dX0_sell_24 rfl (lv_at hl 0 rfl) ?_
  refine lv_iadd hx hb dX0_sell_25 ?_
  refine va_put (D := D) (ci := 0) (v := .int ((f 6) + (mn p0 (f 5)))) (ty := .int) (C := RX0) (T := TX0) (N := 8) hx hb hts hinX0 tyX0 tyX0_ok nmX0 hown hK.1 hP hD hS 0 rfl rfl 6 (by decide) (hts (.fieldLink RX0 30 "LoafMarks$Baker" "sold" "I") (List.mem_of_getElem? (i := 6) rfl)) (fun _ h9 => h9) rfl (by decide +kernel) rfl rfl (Nat.le_of_ble_eq_true rfl) dX0_sell_26 (fun H locs hP hD hS => ?_)
  have hP : va_P D vwCl ([(h, cBk (upd (upd f 5 ((f 5) - (mn p0 (f 5)))) 6 ((f 6) + (mn p0 (f 5)))))]) H := hP
  have hD : va_D A ([(h, cBk (upd (upd f 5 ((f 5) - (mn p0 (f 5)))) 6 ((f 6) + (mn p0 (f 5)))))]) := hD
  refine lv_iload_n hx hb dX0_sell_29 rfl (lv_at hl 0 rfl) ?_
  exact xri () hx hb hr hlocks hS (Nat.le_of_ble_eq_true rfl) (Nat.le_of_ble_eq_true rfl) dX0_sell_30 hP hD rfl trivial

set_option maxHeartbeats 4000000 in
set_option maxRecDepth 100000 in
/-- inspect -/
theorem c_X0_inspect (l : Launch) (D : va_G) (cy : Nat → ClassId) (h : Nat) (f : Iu) : xM l D cy yX0_inspect wsX0_inspect ({ frames := 1, cells := 0, slots := 0, locals := 30 } : Room) [.ref h] ([(h, cBk f)]) (fun _ : Unit => some (.int (f 4))) (fun _ => True) (fun _ => [(h, cBk (bInspect f))]) := by
  refine xM.of cX0_inspect 1 (some .int) RX0 (by decide +kernel) rfl rfl (Nat.le_of_ble_eq_true rfl) ?_
  intro p e s m below meth c A ls hx hb hr hts hown hlocks hml hin hK hA hP hD hS hl
  have hl : lv_has ls 1 [(0, .ref h)] := hl
  have hinX0 : ∀ w ∈ wsX00, w ∈ wsX0_inspect := fun _ h => List.mem_cons_of_mem _ (List.mem_append_right _ h)
  refine lv_aload_n hx hb dX0_inspect_0 rfl (lv_at hl 0 rfl) ?_
  refine lv_dup hx hb dX0_inspect_1 rfl ?_
  refine va_get (D := D) (ci := 0) (v := .int (f 5)) (C := RX0) (T := TX0) (N := 8) hx hb hts hinX0 hown hK.1 hP 0 rfl rfl 5 (by decide) (hts (.fieldLink RX0 27 "LoafMarks$Baker" "shelf" "I") (List.mem_of_getElem? (i := 1) rfl)) (fun _ h9 => h9) rfl dX0_inspect_2 ?_
  refine lv_iconst (v := 1) hx hb dX0_inspect_5 (by decide) ?_
  refine lv_isub hx hb dX0_inspect_6 ?_
  refine va_put (D := D) (ci := 0) (v := .int ((f 5) - 1)) (ty := .int) (C := RX0) (T := TX0) (N := 8) hx hb hts hinX0 tyX0 tyX0_ok nmX0 hown hK.1 hP hD hS 0 rfl rfl 5 (by decide) (hts (.fieldLink RX0 27 "LoafMarks$Baker" "shelf" "I") (List.mem_of_getElem? (i := 1) rfl)) (fun _ h9 => h9) rfl (by decide +kernel) rfl rfl (Nat.le_of_ble_eq_true rfl) dX0_inspect_7 (fun H locs hP hD hS => ?_)
  have hP : va_P D vwCl ([(h, cBk (upd f 5 ((f 5) - 1)))]) H := hP
  have hD : va_D A ([(h, cBk (upd f 5 ((f 5) - 1)))]) := hD
  refine lv_aload_n hx hb dX0_inspect_10 rfl (lv_at hl 0 rfl) ?_
  refine xcV (As := []) (rest := []) ⟨hx, hb, hml, hown, hts⟩ (c_X0_bakesLight l D cy h (upd f 5 ((f 5) - 1))) (cwV 0 hts gX0_inspect_X0_bakesLight rfl rfl rfl (by decide +kernel) ⟨Nat.le_of_ble_eq_true rfl, Nat.le_of_ble_eq_true rfl⟩) hK hP hD hS hA rfl rfl rfl (xE_all) rfl hl.1 rfl (Nat.le_of_ble_eq_true rfl) dX0_inspect_11 ⟨Nat.le_of_ble_eq_true rfl, Nat.le_of_ble_eq_true rfl⟩ (fun _ H locs _ hP hD hS => ?_)
  have hP : va_P D vwCl ([(h, cBk (upd f 5 ((f 5) - 1)))]) H := hP
  have hD : va_D A ([(h, cBk (upd f 5 ((f 5) - 1)))]) := hD
  refine W.eq (g2 := F0 m 14 ls [.int (bLight f)]) rfl ?_
  refine lv_if_eq (tgt := 22) hx hb dX0_inspect_14 (by decide) (fun c14 => ?_) (fun c14 => ?_)
  · have c14 : ¬ f 4 < 10 := fun h => by unfold bLight at c14; rw [if_pos h] at c14; exact absurd c14 (by decide)
    refine lv_aload_n hx hb dX0_inspect_22 rfl (lv_at hl 0 rfl) ?_
    refine va_get (D := D) (ci := 0) (v := .int (f 4)) (C := RX0) (T := TX0) (N := 8) hx hb hts hinX0 hown hK.1 hP 0 rfl rfl 4 (by decide) (hts (.fieldLink RX0 18 "LoafMarks$Baker" "weight" "I") (List.mem_of_getElem? (i := 3) rfl)) (fun _ h9 => h9) rfl dX0_inspect_23 ?_
    have e : bInspect f = upd f 5 ((f 5) - 1) := by unfold bInspect; rw [if_neg c14]
    exact xri () hx hb hr hlocks hS (Nat.le_of_ble_eq_true rfl) (Nat.le_of_ble_eq_true rfl) dX0_inspect_26 (by rw [e]; exact hP) (by rw [e]; exact hD) rfl trivial
  · have c14 : f 4 < 10 := Decidable.byContradiction fun h => c14 (by unfold bLight; rw [if_neg h])
    refine lv_aload_n hx hb dX0_inspect_17 rfl (lv_at hl 0 rfl) ?_
    refine lv_iconst (v := 1) hx hb dX0_inspect_18 (by decide) ?_
    refine va_put (D := D) (ci := 0) (v := .int 1) (ty := .boolean) (C := RX0) (T := TX0) (N := 8) hx hb hts hinX0 tyX0 tyX0_ok nmX0 hown hK.1 hP hD hS 0 rfl rfl 7 (by decide) (hts (.fieldLink RX0 33 "LoafMarks$Baker" "barred" "Z") (List.mem_of_getElem? (i := 2) rfl)) (fun _ h9 => h9) rfl (by decide +kernel) rfl rfl (Nat.le_of_ble_eq_true rfl) dX0_inspect_19 (fun H locs hP hD hS => ?_)
    have hP : va_P D vwCl ([(h, cBk (upd (upd f 5 ((f 5) - 1)) 7 1))]) H := hP
    have hD : va_D A ([(h, cBk (upd (upd f 5 ((f 5) - 1)) 7 1))]) := hD
    refine lv_aload_n hx hb dX0_inspect_22 rfl (lv_at hl 0 rfl) ?_
    refine va_get (D := D) (ci := 0) (v := .int (f 4)) (C := RX0) (T := TX0) (N := 8) hx hb hts hinX0 hown hK.1 hP 0 rfl rfl 4 (by decide) (hts (.fieldLink RX0 18 "LoafMarks$Baker" "weight" "I") (List.mem_of_getElem? (i := 3) rfl)) (fun _ h9 => h9) rfl dX0_inspect_23 ?_
    have e : bInspect f = upd (upd f 5 ((f 5) - 1)) 7 1 := by unfold bInspect; rw [if_pos c14]
    exact xri () hx hb hr hlocks hS (Nat.le_of_ble_eq_true rfl) (Nat.le_of_ble_eq_true rfl) dX0_inspect_26 (by rw [e]; exact hP) (by rw [e]; exact hD) rfl trivial

set_option maxHeartbeats 4000000 in
set_option maxRecDepth 100000 in
/-- forgive -/
theorem c_X0_forgive (l : Launch) (D : va_G) (cy : Nat → ClassId) (h : Nat) (f : Iu) (hg : f 7 = 0 ∨ f 7 = 1) : xM l D cy yX0_forgive wsX0_forgive ({ frames := 1, cells := 0, slots := 0, locals := 20 } : Room) [.ref h] ([(h, cBk f)]) (fun _ : Unit => some (.int (f 7))) (fun _ => True) (fun _ => [(h, cBk (bForgive f))]) := by
  refine xM.of cX0_forgive 2 (some .boolean) RX0 (by decide +kernel) rfl rfl (Nat.le_of_ble_eq_true rfl) ?_
  intro p e s m below meth c A ls hx hb hr hts hown hlocks hml hin hK hA hP hD hS hl
  have hl : lv_has ls 2 [(0, .ref h)] := hl
  have hinX0 : ∀ w ∈ wsX00, w ∈ wsX0_forgive := fun _ h => List.mem_cons_of_mem _ (List.mem_append_right _ h)
  refine lv_aload_n hx hb dX0_forgive_0 rfl (lv_at hl 0 rfl) ?_
  refine va_get (D := D) (ci := 0) (v := .int (f 7)) (C := RX0) (T := TX0) (N := 8) hx hb hts hinX0 hown hK.1 hP 0 rfl rfl 7 (by decide) (hts (.fieldLink RX0 33 "LoafMarks$Baker" "barred" "Z") (List.mem_of_getElem? (i := 1) rfl)) (fun _ h9 => h9) rfl dX0_forgive_1 ?_
  refine lv_istore_n (lv' := [(1, .int (f 7)), (0, .ref h)]) hx hb dX0_forgive_4 rfl hl (by decide) rfl (fun ls hl => ?_)
  refine lv_aload_n hx hb dX0_forgive_5 rfl (lv_at hl 1 rfl) ?_
  refine lv_iconst (v := 0) hx hb dX0_forgive_6 (by decide) ?_
  refine va_put (D := D) (ci := 0) (v := .int 0) (ty := .boolean) (C := RX0) (T := TX0) (N := 8) hx hb hts hinX0 tyX0 tyX0_ok nmX0 hown hK.1 hP hD hS 0 rfl rfl 7 (by decide) (hts (.fieldLink RX0 33 "LoafMarks$Baker" "barred" "Z") (List.mem_of_getElem? (i := 1) rfl)) (fun _ h9 => h9) rfl (by decide +kernel) rfl rfl (Nat.le_of_ble_eq_true rfl) dX0_forgive_7 (fun H locs hP hD hS => ?_)
  have hP : va_P D vwCl ([(h, cBk (upd f 7 0))]) H := hP
  have hD : va_D A ([(h, cBk (upd f 7 0))]) := hD
  refine lv_aload_n hx hb dX0_forgive_10 rfl (lv_at hl 1 rfl) ?_
  refine lv_aload_n hx hb dX0_forgive_11 rfl (lv_at hl 1 rfl) ?_
  refine va_get (D := D) (ci := 0) (v := .int (f 4)) (C := RX0) (T := TX0) (N := 8) hx hb hts hinX0 hown hK.1 hP 0 rfl rfl 4 (by decide) (hts (.fieldLink RX0 18 "LoafMarks$Baker" "weight" "I") (List.mem_of_getElem? (i := 2) rfl)) (fun _ h9 => h9) rfl dX0_forgive_12 ?_
  refine lv_bipush (v := 10) hx hb dX0_forgive_15 (by decide) ?_
  refine va_mmax hx hb (hml.trans hl.1.symm) hown (hts (.methodLink RX0 47 Lib.Math.max.name) (List.mem_of_getElem? (i := 3) rfl)) (hts (.static Lib.Math.max.name) (List.mem_of_getElem? (i := 4) rfl)) (hts (.initialized "java/lang/Math") (List.mem_of_getElem? (i := 5) rfl)) (hts (.code Lib.Math.max.name Lib.Math.max.code 2 (some .int)) (List.mem_of_getElem? (i := 6) rfl)) (Nat.le_of_ble_eq_true rfl) (Nat.le_of_ble_eq_true rfl) (Nat.le_of_ble_eq_true rfl) (Nat.le_of_ble_eq_true rfl) dX0_forgive_17 ?_
  refine W.eq (g2 := F0 m 20 ls [.int (mx (f 4) 10), .ref h]) rfl ?_
  refine va_put (D := D) (ci := 0) (v := .int (mx (f 4) 10)) (ty := .int) (C := RX0) (T := TX0) (N := 8) hx hb hts hinX0 tyX0 tyX0_ok nmX0 hown hK.1 hP hD hS 0 rfl rfl 4 (by decide) (hts (.fieldLink RX0 18 "LoafMarks$Baker" "weight" "I") (List.mem_of_getElem? (i := 2) rfl)) (fun _ h9 => h9) rfl (by decide +kernel) rfl rfl (Nat.le_of_ble_eq_true rfl) dX0_forgive_20 (fun H locs hP hD hS => ?_)
  have hP : va_P D vwCl ([(h, cBk (upd (upd f 7 0) 4 (mx (f 4) 10)))]) H := hP
  have hD : va_D A ([(h, cBk (upd (upd f 7 0) 4 (mx (f 4) 10)))]) := hD
  refine lv_iload_n hx hb dX0_forgive_23 rfl (lv_at hl 0 rfl) ?_
  exact xrz () hx hb hr hlocks hS (Nat.le_of_ble_eq_true rfl) (Nat.le_of_ble_eq_true rfl) dX0_forgive_24 (n_bool hg).1 hP hD rfl trivial

set_option maxHeartbeats 4000000 in
set_option maxRecDepth 100000 in
/-- fact -/
theorem c_X0_fact (l : Launch) (D : va_G) (cy : Nat → ClassId) (h : Nat) (f : Iu) (k : Nat) (hk : k < 8) : xM l D cy yX0_fact wsX0_fact ({ frames := 0, cells := 0, slots := 0, locals := 0 } : Room) [.ref h, .int (nI k)] ([(h, cBk f)]) (fun _ : Unit => some (.int (bFact f k))) (fun _ => True) (fun _ => [(h, cBk f)]) := by
  refine xM.of cX0_fact 2 (some .int) RX0 (by decide +kernel) rfl rfl (Nat.le_of_ble_eq_true rfl) ?_
  intro p e s m below meth c A ls hx hb hr hts hown hlocks hml hin hK hA hP hD hS hl
  have hl : lv_has ls 2 [(0, .ref h), (1, .int (nI k))] := hl
  have hinX0 : ∀ w ∈ wsX00, w ∈ wsX0_fact := fun _ h => List.mem_cons_of_mem _ (List.mem_append_right _ h)
  refine lv_iload_n hx hb dX0_fact_0 rfl (lv_at hl 1 rfl) ?_
  have hcase : k = 0 ∨ k = 1 ∨ k = 2 ∨ k = 3 ∨ k = 4 ∨ k = 5 ∨ k = 6 ∨ k = 7 := by omega
  rcases hcase with rfl | rfl | rfl | rfl | rfl | rfl | rfl | rfl
  · refine lv_tableIn (off := 43) (tgt := 44) hx hb dX0_fact_1 (by decide) (by decide) (by rfl) (by decide) ?_
    refine lv_aload_n hx hb dX0_fact_44 rfl (lv_at hl 0 rfl) ?_
    refine va_get (D := D) (ci := 0) (v := .int (f 0)) (C := RX0) (T := TX0) (N := 8) hx hb hts hinX0 hown hK.1 hP 0 rfl rfl 0 (by decide) (hts (.fieldLink RX0 9 "LoafMarks$Baker" "storeNumber" "I") (List.mem_of_getElem? (i := 1) rfl)) (fun _ h9 => h9) rfl dX0_fact_45 ?_
    exact xri () hx hb hr hlocks hS (Nat.le_of_ble_eq_true rfl) (Nat.le_of_ble_eq_true rfl) dX0_fact_48 hP hD rfl trivial
  · refine lv_tableIn (off := 48) (tgt := 49) hx hb dX0_fact_1 (by decide) (by decide) (by rfl) (by decide) ?_
    refine lv_aload_n hx hb dX0_fact_49 rfl (lv_at hl 0 rfl) ?_
    refine va_get (D := D) (ci := 0) (v := .int (f 1)) (C := RX0) (T := TX0) (N := 8) hx hb hts hinX0 hown hK.1 hP 0 rfl rfl 1 (by decide) (hts (.fieldLink RX0 15 "LoafMarks$Baker" "mark" "I") (List.mem_of_getElem? (i := 2) rfl)) (fun _ h9 => h9) rfl dX0_fact_50 ?_
    exact xri () hx hb hr hlocks hS (Nat.le_of_ble_eq_true rfl) (Nat.le_of_ble_eq_true rfl) dX0_fact_53 hP hD rfl trivial
  · refine lv_tableIn (off := 53) (tgt := 54) hx hb dX0_fact_1 (by decide) (by decide) (by rfl) (by decide) ?_
    refine lv_aload_n hx hb dX0_fact_54 rfl (lv_at hl 0 rfl) ?_
    refine va_get (D := D) (ci := 0) (v := .int (f 2)) (C := RX0) (T := TX0) (N := 8) hx hb hts hinX0 hown hK.1 hP 0 rfl rfl 2 (by decide) (hts (.fieldLink RX0 21 "LoafMarks$Baker" "ration" "I") (List.mem_of_getElem? (i := 3) rfl)) (fun _ h9 => h9) rfl dX0_fact_55 ?_
    exact xri () hx hb hr hlocks hS (Nat.le_of_ble_eq_true rfl) (Nat.le_of_ble_eq_true rfl) dX0_fact_58 hP hD rfl trivial
  · refine lv_tableIn (off := 58) (tgt := 59) hx hb dX0_fact_1 (by decide) (by decide) (by rfl) (by decide) ?_
    refine lv_aload_n hx hb dX0_fact_59 rfl (lv_at hl 0 rfl) ?_
    refine va_get (D := D) (ci := 0) (v := .int (f 3)) (C := RX0) (T := TX0) (N := 8) hx hb hts hinX0 hown hK.1 hP 0 rfl rfl 3 (by decide) (hts (.fieldLink RX0 24 "LoafMarks$Baker" "atHand" "I") (List.mem_of_getElem? (i := 4) rfl)) (fun _ h9 => h9) rfl dX0_fact_60 ?_
    exact xri () hx hb hr hlocks hS (Nat.le_of_ble_eq_true rfl) (Nat.le_of_ble_eq_true rfl) dX0_fact_63 hP hD rfl trivial
  · refine lv_tableIn (off := 63) (tgt := 64) hx hb dX0_fact_1 (by decide) (by decide) (by rfl) (by decide) ?_
    refine lv_aload_n hx hb dX0_fact_64 rfl (lv_at hl 0 rfl) ?_
    refine va_get (D := D) (ci := 0) (v := .int (f 4)) (C := RX0) (T := TX0) (N := 8) hx hb hts hinX0 hown hK.1 hP 0 rfl rfl 4 (by decide) (hts (.fieldLink RX0 18 "LoafMarks$Baker" "weight" "I") (List.mem_of_getElem? (i := 5) rfl)) (fun _ h9 => h9) rfl dX0_fact_65 ?_
    exact xri () hx hb hr hlocks hS (Nat.le_of_ble_eq_true rfl) (Nat.le_of_ble_eq_true rfl) dX0_fact_68 hP hD rfl trivial
  · refine lv_tableIn (off := 68) (tgt := 69) hx hb dX0_fact_1 (by decide) (by decide) (by rfl) (by decide) ?_
    refine lv_aload_n hx hb dX0_fact_69 rfl (lv_at hl 0 rfl) ?_
    refine va_get (D := D) (ci := 0) (v := .int (f 5)) (C := RX0) (T := TX0) (N := 8) hx hb hts hinX0 hown hK.1 hP 0 rfl rfl 5 (by decide) (hts (.fieldLink RX0 27 "LoafMarks$Baker" "shelf" "I") (List.mem_of_getElem? (i := 6) rfl)) (fun _ h9 => h9) rfl dX0_fact_70 ?_
    exact xri () hx hb hr hlocks hS (Nat.le_of_ble_eq_true rfl) (Nat.le_of_ble_eq_true rfl) dX0_fact_73 hP hD rfl trivial
  · refine lv_tableIn (off := 73) (tgt := 74) hx hb dX0_fact_1 (by decide) (by decide) (by rfl) (by decide) ?_
    refine lv_aload_n hx hb dX0_fact_74 rfl (lv_at hl 0 rfl) ?_
    refine va_get (D := D) (ci := 0) (v := .int (f 6)) (C := RX0) (T := TX0) (N := 8) hx hb hts hinX0 hown hK.1 hP 0 rfl rfl 6 (by decide) (hts (.fieldLink RX0 30 "LoafMarks$Baker" "sold" "I") (List.mem_of_getElem? (i := 7) rfl)) (fun _ h9 => h9) rfl dX0_fact_75 ?_
    exact xri () hx hb hr hlocks hS (Nat.le_of_ble_eq_true rfl) (Nat.le_of_ble_eq_true rfl) dX0_fact_78 hP hD rfl trivial
  · refine lv_tableOut (tgt := 79) hx hb dX0_fact_1 (by decide) (by decide) ?_
    refine lv_aload_n hx hb dX0_fact_79 rfl (lv_at hl 0 rfl) ?_
    refine va_get (D := D) (ci := 0) (v := .int (f 7)) (C := RX0) (T := TX0) (N := 8) hx hb hts hinX0 hown hK.1 hP 0 rfl rfl 7 (by decide) (hts (.fieldLink RX0 33 "LoafMarks$Baker" "barred" "Z") (List.mem_of_getElem? (i := 8) rfl)) (fun _ h9 => h9) rfl dX0_fact_80 ?_
    refine lv_if_eq (tgt := 90) hx hb dX0_fact_83 (by decide) (fun c83 => ?_) (fun c83 => ?_)
    · refine lv_iconst (v := 0) hx hb dX0_fact_90 (by decide) ?_
      exact xri () hx hb hr hlocks hS (Nat.le_of_ble_eq_true rfl) (Nat.le_of_ble_eq_true rfl) dX0_fact_91 hP hD (by show some (Value.int (bFact f 7)) = _; unfold bFact; rw [if_pos rfl, if_pos c83]) trivial
    · refine lv_iconst (v := 1) hx hb dX0_fact_86 (by decide) ?_
      refine lv_goto (tgt := 91) hx hb dX0_fact_87 (by decide) ?_
      exact xri () hx hb hr hlocks hS (Nat.le_of_ble_eq_true rfl) (Nat.le_of_ble_eq_true rfl) dX0_fact_91 hP hD (by show some (Value.int (bFact f 7)) = _; unfold bFact; rw [if_pos rfl, if_neg c83]) trivial
