/-! ===== the reference: its small methods (laid by gen32.py) ===== -/
theorem wi_bool (n a b : Int32) : narrow .boolean (.int (wi n a b)) = .int (wi n a b) := by
  unfold wi
  split <;> decide
set_option maxHeartbeats 4000000 in
set_option maxRecDepth 100000 in
/-- isIn -/
theorem c_X4_isIn (l : Launch) (D : va_G) (cy : Nat → ClassId) (n a b : Int32) : xM l D cy yX4_isIn wsX4_isIn ({ frames := 0, cells := 0, slots := 0, locals := 0 } : Room) [.int n, .int a, .int b] (([] : va_W)) (fun _ : Unit => some (.int (wi n a b))) (fun _ => True) (fun _ => ([] : va_W)) := by
  refine xM.of cX4_isIn 3 (some .boolean) RX4 (by decide +kernel) rfl rfl (Nat.le_of_ble_eq_true rfl) ?_
  intro p e s m below meth c A ls hx hb hr hts hown hlocks hml hin hK hA hP hD hS hl
  have hl : lv_has ls 3 [(0, .int n), (1, .int a), (2, .int b)] := hl
  refine lv_iload_n hx hb dX4_isIn_0 rfl (lv_at hl 0 rfl) ?_
  refine lv_iload_n hx hb dX4_isIn_1 rfl (lv_at hl 1 rfl) ?_
  refine lv_icmp_lt (tgt := 14) hx hb dX4_isIn_2 (by decide) (fun c2 => ?_) (fun c2 => ?_)
  · refine lv_iconst (v := 0) hx hb dX4_isIn_14 (by decide) ?_
    exact xrz () hx hb hr hlocks hS (Nat.le_of_ble_eq_true rfl) (Nat.le_of_ble_eq_true rfl) dX4_isIn_15 (by decide) hP hD (by show some (Value.int (wi n a b)) = _; unfold wi; rw [if_neg (fun z => absurd c2 (Int32.not_lt.mpr z.1))]) trivial
  · refine lv_iload_n hx hb dX4_isIn_5 rfl (lv_at hl 0 rfl) ?_
    refine lv_iload_n hx hb dX4_isIn_6 rfl (lv_at hl 2 rfl) ?_
    refine lv_icmp_gt (tgt := 14) hx hb dX4_isIn_7 (by decide) (fun c7 => ?_) (fun c7 => ?_)
    · refine lv_iconst (v := 0) hx hb dX4_isIn_14 (by decide) ?_
      exact xrz () hx hb hr hlocks hS (Nat.le_of_ble_eq_true rfl) (Nat.le_of_ble_eq_true rfl) dX4_isIn_15 (by decide) hP hD (by show some (Value.int (wi n a b)) = _; unfold wi; rw [if_neg (fun z => absurd c7 (Int32.not_lt.mpr z.2))]) trivial
    · refine lv_iconst (v := 1) hx hb dX4_isIn_10 (by decide) ?_
      refine lv_goto (tgt := 15) hx hb dX4_isIn_11 (by decide) ?_
      exact xrz () hx hb hr hlocks hS (Nat.le_of_ble_eq_true rfl) (Nat.le_of_ble_eq_true rfl) dX4_isIn_15 (by decide) hP hD (by show some (Value.int (wi n a b)) = _; unfold wi; rw [if_pos ⟨Int32.not_lt.mp c2, Int32.not_lt.mp c7⟩]) trivial

set_option maxHeartbeats 4000000 in
set_option maxRecDepth 100000 in
/-- fail -/
theorem c_X4_fail (l : Launch) (D : va_G) (cy : Nat → ClassId) (b : Nat) (am : Nat → Nat) (thr : Int32) (nS nB : Nat) (st bk : Nat → Iu) (gate nu : Iu) (p0 : Int32) : xM l D cy yX4_fail wsX4_fail ({ frames := 0, cells := 0, slots := 0, locals := 0 } : Room) [.ref b, .int p0] (mw cy b am thr nS nB st bk gate nu) (fun _ : Unit => some (.int 0)) (fun _ => True) (fun _ => mw cy b am p0 nS nB st bk gate nu) := by
  refine xM.of cX4_fail 2 (some .int) RX4 (by decide +kernel) rfl rfl (Nat.le_of_ble_eq_true rfl) ?_
  intro p e s m below meth c A ls hx hb hr hts hown hlocks hml hin hK hA hP hD hS hl
  have hl : lv_has ls 2 [(0, .ref b), (1, .int p0)] := hl
  have hinX4 : ∀ w ∈ wsX40, w ∈ wsX4_fail := fun _ h => List.mem_cons_of_mem _ (List.mem_append_right _ h)
  refine lv_aload_n hx hb dX4_fail_0 rfl (lv_at hl 0 rfl) ?_
  refine lv_iload_n hx hb dX4_fail_1 rfl (lv_at hl 1 rfl) ?_
  refine va_put (D := D) (ci := 4) (v := .int p0) (ty := .int) (C := RX4) (T := TX4) (N := 8) hx hb hts hinX4 tyX4 tyX4_ok nmX4 hown hK.1 hP hD hS 0 rfl rfl 0 (by decide) (hts (.fieldLink RX4 26 "LoafMarksModel" "thrown" "I") (List.mem_of_getElem? (i := 1) rfl)) (fun _ h9 => h9) rfl (by decide +kernel) rfl rfl (Nat.le_of_ble_eq_true rfl) dX4_fail_2 (fun H locs hP hD hS => ?_)
  have hP : va_P D vwCl (mw cy b am p0 nS nB st bk gate nu) H := hP
  have hD : va_D A (mw cy b am p0 nS nB st bk gate nu) := hD
  refine lv_iconst (v := 0) hx hb dX4_fail_5 (by decide) ?_
  exact xri () hx hb hr hlocks hS (Nat.le_of_ble_eq_true rfl) (Nat.le_of_ble_eq_true rfl) dX4_fail_6 hP hD rfl trivial

set_option maxHeartbeats 4000000 in
set_option maxRecDepth 100000 in
/-- thrown -/
theorem c_X4_thrown (l : Launch) (D : va_G) (cy : Nat → ClassId) (b : Nat) (am : Nat → Nat) (thr : Int32) (nS nB : Nat) (st bk : Nat → Iu) (gate nu : Iu)  : xM l D cy yX4_thrown wsX4_thrown ({ frames := 0, cells := 0, slots := 0, locals := 0 } : Room) [.ref b] (mw cy b am thr nS nB st bk gate nu) (fun _ : Unit => some (.int thr)) (fun _ => True) (fun _ => mw cy b am thr nS nB st bk gate nu) := by
  refine xM.of cX4_thrown 1 (some .int) RX4 (by decide +kernel) rfl rfl (Nat.le_of_ble_eq_true rfl) ?_
  intro p e s m below meth c A ls hx hb hr hts hown hlocks hml hin hK hA hP hD hS hl
  have hl : lv_has ls 1 [(0, .ref b)] := hl
  have hinX4 : ∀ w ∈ wsX40, w ∈ wsX4_thrown := fun _ h => List.mem_cons_of_mem _ (List.mem_append_right _ h)
  refine lv_aload_n hx hb dX4_thrown_0 rfl (lv_at hl 0 rfl) ?_
  refine va_get (D := D) (ci := 4) (v := .int thr) (C := RX4) (T := TX4) (N := 8) hx hb hts hinX4 hown hK.1 hP 0 rfl rfl 0 (by decide) (hts (.fieldLink RX4 26 "LoafMarksModel" "thrown" "I") (List.mem_of_getElem? (i := 1) rfl)) (fun _ h9 => h9) rfl dX4_thrown_1 ?_
  exact xri () hx hb hr hlocks hS (Nat.le_of_ble_eq_true rfl) (Nat.le_of_ble_eq_true rfl) dX4_thrown_4 hP hD rfl trivial

set_option maxHeartbeats 4000000 in
set_option maxRecDepth 100000 in
/-- isStore -/
theorem c_X4_isStore (l : Launch) (D : va_G) (cy : Nat → ClassId) (b : Nat) (am : Nat → Nat) (thr : Int32) (nS nB : Nat) (st bk : Nat → Iu) (gate nu : Iu) (p0 : Int32) : xM l D cy yX4_isStore wsX4_isStore ({ frames := 1, cells := 0, slots := 0, locals := 30 } : Room) [.ref b, .int p0] (mw cy b am thr nS nB st bk gate nu) (fun _ : Unit => some (.int (inN p0 nS))) (fun _ => True) (fun _ => mw cy b am thr nS nB st bk gate nu) := by
  refine xM.of cX4_isStore 2 (some .boolean) RX4 (by decide +kernel) rfl rfl (Nat.le_of_ble_eq_true rfl) ?_
  intro p e s m below meth c A ls hx hb hr hts hown hlocks hml hin hK hA hP hD hS hl
  have hl : lv_has ls 2 [(0, .ref b), (1, .int p0)] := hl
  have hinX4 : ∀ w ∈ wsX40, w ∈ wsX4_isStore := fun _ h => List.mem_cons_of_mem _ (List.mem_append_right _ h)
  refine lv_iload_n hx hb dX4_isStore_0 rfl (lv_at hl 1 rfl) ?_
  refine lv_iconst (v := 0) hx hb dX4_isStore_1 (by decide) ?_
  refine lv_aload_n hx hb dX4_isStore_2 rfl (lv_at hl 0 rfl) ?_
  refine va_get (D := D) (ci := 4) (v := .int (nI nS)) (C := RX4) (T := TX4) (N := 8) hx hb hts hinX4 hown hK.1 hP 0 rfl rfl 1 (by decide) (hts (.fieldLink RX4 29 "LoafMarksModel" "stores" "I") (List.mem_of_getElem? (i := 1) rfl)) (fun _ h9 => h9) rfl dX4_isStore_3 ?_
  refine lv_iconst (v := 1) hx hb dX4_isStore_6 (by decide) ?_
  refine lv_isub hx hb dX4_isStore_7 ?_
  refine xcS (As := [.int p0, .int 0, .int ((nI nS) - 1)]) (rest := []) ⟨hx, hb, hml, hown, hts⟩ (c_X4_isIn l D cy p0 0 ((nI nS) - 1)) (va_cwS 3 hts gX4_isStore_X4_isIn rfl rfl rfl (by decide +kernel) ⟨Nat.le_of_ble_eq_true rfl, Nat.le_of_ble_eq_true rfl⟩) hK hP hD hS hA (xE_nil) rfl hl.1 rfl (Nat.le_of_ble_eq_true rfl) dX4_isStore_8 ⟨Nat.le_of_ble_eq_true rfl, Nat.le_of_ble_eq_true rfl⟩ (fun _ H locs _ hP hD hS => ?_)
  have hP : va_P D vwCl (mw cy b am thr nS nB st bk gate nu) H := hP
  have hD : va_D A (mw cy b am thr nS nB st bk gate nu) := hD
  refine W.eq (g2 := F0 m 11 ls [.int (wi p0 0 ((nI nS) - 1))]) rfl ?_
  exact xrz () hx hb hr hlocks hS (Nat.le_of_ble_eq_true rfl) (Nat.le_of_ble_eq_true rfl) dX4_isStore_11 (wi_bool _ _ _) hP hD rfl trivial

set_option maxHeartbeats 4000000 in
set_option maxRecDepth 100000 in
/-- isBaker -/
theorem c_X4_isBaker (l : Launch) (D : va_G) (cy : Nat → ClassId) (b : Nat) (am : Nat → Nat) (thr : Int32) (nS nB : Nat) (st bk : Nat → Iu) (gate nu : Iu) (p0 : Int32) : xM l D cy yX4_isBaker wsX4_isBaker ({ frames := 1, cells := 0, slots := 0, locals := 30 } : Room) [.ref b, .int p0] (mw cy b am thr nS nB st bk gate nu) (fun _ : Unit => some (.int (inN p0 nB))) (fun _ => True) (fun _ => mw cy b am thr nS nB st bk gate nu) := by
  refine xM.of cX4_isBaker 2 (some .boolean) RX4 (by decide +kernel) rfl rfl (Nat.le_of_ble_eq_true rfl) ?_
  intro p e s m below meth c A ls hx hb hr hts hown hlocks hml hin hK hA hP hD hS hl
  have hl : lv_has ls 2 [(0, .ref b), (1, .int p0)] := hl
  have hinX4 : ∀ w ∈ wsX40, w ∈ wsX4_isBaker := fun _ h => List.mem_cons_of_mem _ (List.mem_append_right _ h)
  refine lv_iload_n hx hb dX4_isBaker_0 rfl (lv_at hl 1 rfl) ?_
  refine lv_iconst (v := 0) hx hb dX4_isBaker_1 (by decide) ?_
  refine lv_aload_n hx hb dX4_isBaker_2 rfl (lv_at hl 0 rfl) ?_
  refine va_get (D := D) (ci := 4) (v := .int (nI nB)) (C := RX4) (T := TX4) (N := 8) hx hb hts hinX4 hown hK.1 hP 0 rfl rfl 2 (by decide) (hts (.fieldLink RX4 36 "LoafMarksModel" "bakers" "I") (List.mem_of_getElem? (i := 1) rfl)) (fun _ h9 => h9) rfl dX4_isBaker_3 ?_
  refine lv_iconst (v := 1) hx hb dX4_isBaker_6 (by decide) ?_
  refine lv_isub hx hb dX4_isBaker_7 ?_
  refine xcS (As := [.int p0, .int 0, .int ((nI nB) - 1)]) (rest := []) ⟨hx, hb, hml, hown, hts⟩ (c_X4_isIn l D cy p0 0 ((nI nB) - 1)) (va_cwS 3 hts gX4_isBaker_X4_isIn rfl rfl rfl (by decide +kernel) ⟨Nat.le_of_ble_eq_true rfl, Nat.le_of_ble_eq_true rfl⟩) hK hP hD hS hA (xE_nil) rfl hl.1 rfl (Nat.le_of_ble_eq_true rfl) dX4_isBaker_8 ⟨Nat.le_of_ble_eq_true rfl, Nat.le_of_ble_eq_true rfl⟩ (fun _ H locs _ hP hD hS => ?_)
  have hP : va_P D vwCl (mw cy b am thr nS nB st bk gate nu) H := hP
  have hD : va_D A (mw cy b am thr nS nB st bk gate nu) := hD
  refine W.eq (g2 := F0 m 11 ls [.int (wi p0 0 ((nI nB) - 1))]) rfl ?_
  exact xrz () hx hb hr hlocks hS (Nat.le_of_ble_eq_true rfl) (Nat.le_of_ble_eq_true rfl) dX4_isBaker_11 (wi_bool _ _ _) hP hD rfl trivial

set_option maxHeartbeats 4000000 in
set_option maxRecDepth 100000 in
/-- ba -/
theorem c_X4_ba (l : Launch) (D : va_G) (cy : Nat → ClassId) (b : Nat) (am : Nat → Nat) (thr : Int32) (nS nB : Nat) (st bk : Nat → Iu) (gate nu : Iu) (i k : Nat) (hi : i < 4) (hk : k < 3) : xM l D cy yX4_ba wsX4_ba ({ frames := 0, cells := 0, slots := 0, locals := 0 } : Room) [.ref b, .int (nI i), .int (nI k)] (mw cy b am thr nS nB st bk gate nu) (fun _ : Unit => some (.int (st i k))) (fun _ => True) (fun _ => mw cy b am thr nS nB st bk gate nu) := by
  refine xM.of cX4_ba 3 (some .int) RX4 (by decide +kernel) rfl rfl (Nat.le_of_ble_eq_true rfl) ?_
  intro p e s m below meth c A ls hx hb hr hts hown hlocks hml hin hK hA hP hD hS hl
  have hl : lv_has ls 3 [(0, .ref b), (1, .int (nI i)), (2, .int (nI k))] := hl
  have hinX4 : ∀ w ∈ wsX40, w ∈ wsX4_ba := fun _ h => List.mem_cons_of_mem _ (List.mem_append_right _ h)
  refine lv_aload_n hx hb dX4_ba_0 rfl (lv_at hl 0 rfl) ?_
  refine va_get (D := D) (ci := 4) (v := .ref (am 1)) (C := RX4) (T := TX4) (N := 8) hx hb hts hinX4 hown hK.1 hP 0 rfl rfl 5 (by decide) (hts (.fieldLink RX4 17 "LoafMarksModel" "barns" "[I") (List.mem_of_getElem? (i := 1) rfl)) (fun _ h9 => h9) rfl dX4_ba_1 ?_
  refine lv_iconst (v := 3) hx hb dX4_ba_4 (by decide) ?_
  refine lv_iload_n hx hb dX4_ba_5 rfl (lv_at hl 1 rfl) ?_
  refine lv_imul hx hb dX4_ba_6 ?_
  refine lv_iload_n hx hb dX4_ba_7 rfl (lv_at hl 2 rfl) ?_
  refine lv_iadd hx hb dX4_ba_8 ?_
  refine xiald hx hb hK hP 2 rfl (3 * i + k) (nI_at 3 i k) (by omega) (by decide) dX4_ba_9 ?_
  exact xri () hx hb hr hlocks hS (Nat.le_of_ble_eq_true rfl) (Nat.le_of_ble_eq_true rfl) dX4_ba_10 hP hD (by show some (Value.int _) = _; rw [fS_get hk]) trivial

set_option maxHeartbeats 4000000 in
set_option maxRecDepth 100000 in
/-- setStore -/
theorem c_X4_setStore (l : Launch) (D : va_G) (cy : Nat → ClassId) (b : Nat) (am : Nat → Nat) (thr : Int32) (nS nB : Nat) (st bk : Nat → Iu) (gate nu : Iu) (i k : Nat) (x : Int32) (hi : i < 4) (hk : k < 3) : xM l D cy yX4_setStore wsX4_setStore ({ frames := 0, cells := 0, slots := 0, locals := 0 } : Room) [.ref b, .int (nI i), .int (nI k), .int x] (mw cy b am thr nS nB st bk gate nu) (fun _ : Unit => none) (fun _ => True) (fun _ => mw cy b am thr nS nB (va_up st i (upd (st i) k x)) bk gate nu) := by
  refine xM.of cX4_setStore 4 none RX4 (by decide +kernel) rfl rfl (Nat.le_of_ble_eq_true rfl) ?_
  intro p e s m below meth c A ls hx hb hr hts hown hlocks hml hin hK hA hP hD hS hl
  have hl : lv_has ls 4 [(0, .ref b), (1, .int (nI i)), (2, .int (nI k)), (3, .int x)] := hl
  have hinX4 : ∀ w ∈ wsX40, w ∈ wsX4_setStore := fun _ h => List.mem_cons_of_mem _ (List.mem_append_right _ h)
  refine lv_aload_n hx hb dX4_setStore_0 rfl (lv_at hl 0 rfl) ?_
  refine va_get (D := D) (ci := 4) (v := .ref (am 1)) (C := RX4) (T := TX4) (N := 8) hx hb hts hinX4 hown hK.1 hP 0 rfl rfl 5 (by decide) (hts (.fieldLink RX4 17 "LoafMarksModel" "barns" "[I") (List.mem_of_getElem? (i := 1) rfl)) (fun _ h9 => h9) rfl dX4_setStore_1 ?_
  refine lv_iconst (v := 3) hx hb dX4_setStore_4 (by decide) ?_
  refine lv_iload_n hx hb dX4_setStore_5 rfl (lv_at hl 1 rfl) ?_
  refine lv_imul hx hb dX4_setStore_6 ?_
  refine lv_iload_n hx hb dX4_setStore_7 rfl (lv_at hl 2 rfl) ?_
  refine lv_iadd hx hb dX4_setStore_8 ?_
  refine lv_iload_n hx hb dX4_setStore_9 rfl (lv_at hl 3 rfl) ?_
  refine xiast hx hb hK hP hD hS 2 rfl (3 * i + k) (nI_at 3 i k) (by omega) (by decide) dX4_setStore_10 (fun H locs hP hD hS => ?_)
  have hP : va_P D vwCl (mw cy b am thr nS nB (va_up st i (upd (st i) k x)) bk gate nu) H := by unfold mw; rw [← fS_put hk]; exact hP
  have hD : va_D A (mw cy b am thr nS nB (va_up st i (upd (st i) k x)) bk gate nu) := by unfold mw; rw [← fS_put hk]; exact hD
  exact xrv () hx hb hr hlocks hS (Nat.le_of_ble_eq_true rfl) (Nat.le_of_ble_eq_true rfl) dX4_setStore_11 hP hD rfl trivial

set_option maxHeartbeats 4000000 in
set_option maxRecDepth 100000 in
/-- sh -/
theorem c_X4_sh (l : Launch) (D : va_G) (cy : Nat → ClassId) (b : Nat) (am : Nat → Nat) (thr : Int32) (nS nB : Nat) (st bk : Nat → Iu) (gate nu : Iu) (i k : Nat) (hi : i < 6) (hk : k < 8) : xM l D cy yX4_sh wsX4_sh ({ frames := 0, cells := 0, slots := 0, locals := 0 } : Room) [.ref b, .int (nI i), .int (nI k)] (mw cy b am thr nS nB st bk gate nu) (fun _ : Unit => some (.int (bk i k))) (fun _ => True) (fun _ => mw cy b am thr nS nB st bk gate nu) := by
  refine xM.of cX4_sh 3 (some .int) RX4 (by decide +kernel) rfl rfl (Nat.le_of_ble_eq_true rfl) ?_
  intro p e s m below meth c A ls hx hb hr hts hown hlocks hml hin hK hA hP hD hS hl
  have hl : lv_has ls 3 [(0, .ref b), (1, .int (nI i)), (2, .int (nI k))] := hl
  have hinX4 : ∀ w ∈ wsX40, w ∈ wsX4_sh := fun _ h => List.mem_cons_of_mem _ (List.mem_append_right _ h)
  refine lv_aload_n hx hb dX4_sh_0 rfl (lv_at hl 0 rfl) ?_
  refine va_get (D := D) (ci := 4) (v := .ref (am 2)) (C := RX4) (T := TX4) (N := 8) hx hb hts hinX4 hown hK.1 hP 0 rfl rfl 6 (by decide) (hts (.fieldLink RX4 20 "LoafMarksModel" "shops" "[I") (List.mem_of_getElem? (i := 1) rfl)) (fun _ h9 => h9) rfl dX4_sh_1 ?_
  refine lv_bipush (v := 8) hx hb dX4_sh_4 (by decide) ?_
  refine lv_iload_n hx hb dX4_sh_6 rfl (lv_at hl 1 rfl) ?_
  refine lv_imul hx hb dX4_sh_7 ?_
  refine lv_iload_n hx hb dX4_sh_8 rfl (lv_at hl 2 rfl) ?_
  refine lv_iadd hx hb dX4_sh_9 ?_
  refine xiald hx hb hK hP 3 rfl (8 * i + k) (nI_at 8 i k) (by omega) (by decide) dX4_sh_10 ?_
  exact xri () hx hb hr hlocks hS (Nat.le_of_ble_eq_true rfl) (Nat.le_of_ble_eq_true rfl) dX4_sh_11 hP hD (by show some (Value.int _) = _; rw [fB_get hk]) trivial

set_option maxHeartbeats 4000000 in
set_option maxRecDepth 100000 in
/-- put -/
theorem c_X4_put (l : Launch) (D : va_G) (cy : Nat → ClassId) (b : Nat) (am : Nat → Nat) (thr : Int32) (nS nB : Nat) (st bk : Nat → Iu) (gate nu : Iu) (i k : Nat) (x : Int32) (hi : i < 6) (hk : k < 8) : xM l D cy yX4_put wsX4_put ({ frames := 0, cells := 0, slots := 0, locals := 0 } : Room) [.ref b, .int (nI i), .int (nI k), .int x] (mw cy b am thr nS nB st bk gate nu) (fun _ : Unit => none) (fun _ => True) (fun _ => mw cy b am thr nS nB st (va_up bk i (upd (bk i) k x)) gate nu) := by
  refine xM.of cX4_put 4 none RX4 (by decide +kernel) rfl rfl (Nat.le_of_ble_eq_true rfl) ?_
  intro p e s m below meth c A ls hx hb hr hts hown hlocks hml hin hK hA hP hD hS hl
  have hl : lv_has ls 4 [(0, .ref b), (1, .int (nI i)), (2, .int (nI k)), (3, .int x)] := hl
  have hinX4 : ∀ w ∈ wsX40, w ∈ wsX4_put := fun _ h => List.mem_cons_of_mem _ (List.mem_append_right _ h)
  refine lv_aload_n hx hb dX4_put_0 rfl (lv_at hl 0 rfl) ?_
  refine va_get (D := D) (ci := 4) (v := .ref (am 2)) (C := RX4) (T := TX4) (N := 8) hx hb hts hinX4 hown hK.1 hP 0 rfl rfl 6 (by decide) (hts (.fieldLink RX4 20 "LoafMarksModel" "shops" "[I") (List.mem_of_getElem? (i := 1) rfl)) (fun _ h9 => h9) rfl dX4_put_1 ?_
  refine lv_bipush (v := 8) hx hb dX4_put_4 (by decide) ?_
  refine lv_iload_n hx hb dX4_put_6 rfl (lv_at hl 1 rfl) ?_
  refine lv_imul hx hb dX4_put_7 ?_
  refine lv_iload_n hx hb dX4_put_8 rfl (lv_at hl 2 rfl) ?_
  refine lv_iadd hx hb dX4_put_9 ?_
  refine lv_iload_n hx hb dX4_put_10 rfl (lv_at hl 3 rfl) ?_
  refine xiast hx hb hK hP hD hS 3 rfl (8 * i + k) (nI_at 8 i k) (by omega) (by decide) dX4_put_11 (fun H locs hP hD hS => ?_)
  have hP : va_P D vwCl (mw cy b am thr nS nB st (va_up bk i (upd (bk i) k x)) gate nu) H := by unfold mw; rw [← fB_put hk]; exact hP
  have hD : va_D A (mw cy b am thr nS nB st (va_up bk i (upd (bk i) k x)) gate nu) := by unfold mw; rw [← fB_put hk]; exact hD
  exact xrv () hx hb hr hlocks hS (Nat.le_of_ble_eq_true rfl) (Nat.le_of_ble_eq_true rfl) dX4_put_12 hP hD rfl trivial

set_option maxHeartbeats 4000000 in
set_option maxRecDepth 100000 in
/-- owner -/
theorem c_X4_owner (l : Launch) (D : va_G) (cy : Nat → ClassId) (b : Nat) (am : Nat → Nat) (thr : Int32) (nS nB : Nat) (st bk : Nat → Iu) (gate nu : Iu) (p0 : Int32) (hcB : nB ≤ 6) : xM l D cy yX4_owner wsX4_owner ({ frames := 1, cells := 0, slots := 0, locals := 30 } : Room) [.ref b, .int p0] (mw cy b am thr nS nB st bk gate nu) (fun _ : Unit => some (.int (ownF bk p0 nB 0))) (fun _ => True) (fun _ => mw cy b am thr nS nB st bk gate nu) := by
  refine xM.of cX4_owner 3 (some .int) RX4 (by decide +kernel) rfl rfl (Nat.le_of_ble_eq_true rfl) ?_
  intro p e s m below meth c A ls hx hb hr hts hown hlocks hml hin hK hA hP hD hS hl
  have hl : lv_has ls 3 [(0, .ref b), (1, .int p0)] := hl
  have hinX4 : ∀ w ∈ wsX40, w ∈ wsX4_owner := fun _ h => List.mem_cons_of_mem _ (List.mem_append_right _ h)
  refine lv_iconst (v := 0) hx hb dX4_owner_0 (by decide) ?_
  refine lv_istore_n (lv' := [(2, .int 0), (0, .ref b), (1, .int p0)]) hx hb dX4_owner_1 rfl hl (by decide) rfl (fun ls hl => ?_)
  have loop : ∀ (n i : Nat)  (H : Heap) (locs : List Loc) (ls : Array Slot), i + n = nB → (ownF bk p0 nB 0 = ownF bk p0 n i) → va_P D vwCl (mw cy b am thr nS nB st bk gate nu) H → va_D A (mw cy b am thr nS nB st bk gate nu) → va_S A s.heap H locs → lv_has ls 3 [(0, .ref b), (1, .int p0), (2, .int (nI i))] → W p l e ({ frames := 1, cells := 0, slots := 0, locals := 30 } : Room) s m ([.ref b, .int p0] : List Value).toArray below meth c H locs 0 0 (MQ below (xQ D A (fun _ : Unit => some (.int (ownF bk p0 nB 0))) (fun _ => True) (fun _ => mw cy b am thr nS nB st bk gate nu)) ([.ref b, .int p0] : List Value).toArray s 0 0 A) (F0 m 2 ls []) := by
    intro n
    induction n with
    | zero =>
      intro i  H locs ls hns hinv hP hD hS hl
      have hii : i = nB := by omega
      refine lv_iload_n hx hb dX4_owner_2 rfl (lv_at hl 2 rfl) ?_
      refine lv_aload_n hx hb dX4_owner_3 rfl (lv_at hl 0 rfl) ?_
      refine va_get (D := D) (ci := 4) (v := .int (nI nB)) (C := RX4) (T := TX4) (N := 8) hx hb hts hinX4 hown hK.1 hP 0 rfl rfl 2 (by decide) (hts (.fieldLink RX4 36 "LoafMarksModel" "bakers" "I") (List.mem_of_getElem? (i := 1) rfl)) (fun _ h9 => h9) rfl dX4_owner_4 ?_
      refine lv_icmp_ge (tgt := 28) hx hb dX4_owner_7 (by decide) (fun _ => ?_) (fun h => absurd (by rw [hii]; exact Int32.le_refl _) h)
      refine lv_iconst (v := (-1)) hx hb dX4_owner_28 (by decide) ?_
      exact xri () hx hb hr hlocks hS (Nat.le_of_ble_eq_true rfl) (Nat.le_of_ble_eq_true rfl) dX4_owner_29 hP hD (by show some (Value.int (ownF bk p0 nB 0)) = _; rw [hinv]; rfl) trivial
    | succ n ih =>
      intro i  H locs ls hns hinv hP hD hS hl
      have hlt : i < nB := by omega
      refine lv_iload_n hx hb dX4_owner_2 rfl (lv_at hl 2 rfl) ?_
      refine lv_aload_n hx hb dX4_owner_3 rfl (lv_at hl 0 rfl) ?_
      refine va_get (D := D) (ci := 4) (v := .int (nI nB)) (C := RX4) (T := TX4) (N := 8) hx hb hts hinX4 hown hK.1 hP 0 rfl rfl 2 (by decide) (hts (.fieldLink RX4 36 "LoafMarksModel" "bakers" "I") (List.mem_of_getElem? (i := 1) rfl)) (fun _ h9 => h9) rfl dX4_owner_4 ?_
      refine lv_icmp_ge (tgt := 28) hx hb dX4_owner_7 (by decide) (fun h => absurd h (nI_ge (a := i) (b := nB) (by omega) (by omega))) (fun _ => ?_)
      refine lv_aload_n hx hb dX4_owner_10 rfl (lv_at hl 0 rfl) ?_
      refine lv_iload_n hx hb dX4_owner_11 rfl (lv_at hl 2 rfl) ?_
      refine lv_iconst (v := 1) hx hb dX4_owner_12 (by decide) ?_
      refine xcV (As := [.int (nI i), .int 1]) (rest := []) ⟨hx, hb, hml, hown, hts⟩ (c_X4_sh l D cy b am thr nS nB st bk gate nu i 1 (by omega) (by omega)) (cwV 2 hts gX4_owner_X4_sh rfl rfl rfl (by decide +kernel) ⟨Nat.le_of_ble_eq_true rfl, Nat.le_of_ble_eq_true rfl⟩) hK hP hD hS hA rfl rfl rfl (xE_all) rfl hl.1 rfl (Nat.le_of_ble_eq_true rfl) dX4_owner_13 ⟨Nat.le_of_ble_eq_true rfl, Nat.le_of_ble_eq_true rfl⟩ (fun _ H locs _ hP hD hS => ?_)
      have hP : va_P D vwCl (mw cy b am thr nS nB st bk gate nu) H := hP
      have hD : va_D A (mw cy b am thr nS nB st bk gate nu) := hD
      refine W.eq (g2 := F0 m 16 ls [.int (bk i 1)]) rfl ?_
      refine lv_iload_n hx hb dX4_owner_16 rfl (lv_at hl 1 rfl) ?_
      refine lv_icmp_ne (tgt := 22) hx hb dX4_owner_17 (by decide) (fun c17 => ?_) (fun c17 => ?_)
      · refine lv_iinc (v := (nI (i + 1))) (lv' := [(2, .int (nI (i + 1))), (0, .ref b), (1, .int p0)]) hx hb dX4_owner_22 hl (k := 2) rfl ((nI_1 i)) (by decide) rfl (fun ls hl => ?_)
        refine lv_goto (tgt := 2) hx hb dX4_owner_25 (by decide) ?_
        exact ih (i + 1)  _ _ _ (by omega) (hinv.trans (if_neg c17)) hP hD hS (lv_sub hl [1, 2, 0] rfl)
      · refine lv_iload_n hx hb dX4_owner_20 rfl (lv_at hl 2 rfl) ?_
        exact xri () hx hb hr hlocks hS (Nat.le_of_ble_eq_true rfl) (Nat.le_of_ble_eq_true rfl) dX4_owner_21 hP hD (by show some (Value.int (ownF bk p0 nB 0)) = _; rw [hinv]; exact congrArg (fun z => some (Value.int z)) (if_pos c17)) trivial
  exact loop nB 0  _ _ _ (by omega) rfl hP hD hS (lv_sub hl [1, 2, 0] rfl)

set_option maxHeartbeats 4000000 in
set_option maxRecDepth 100000 in
/-- allStores -/
theorem c_X4_allStores (l : Launch) (D : va_G) (cy : Nat → ClassId) (b : Nat) (am : Nat → Nat) (thr : Int32) (nS nB : Nat) (st bk : Nat → Iu) (gate nu : Iu) (k : Nat) (hk : k < 3) (hcS : nS ≤ 4) : xM l D cy yX4_allStores wsX4_allStores ({ frames := 1, cells := 0, slots := 0, locals := 30 } : Room) [.ref b, .int (nI k)] (mw cy b am thr nS nB st bk gate nu) (fun _ : Unit => some (.int (sm (fun i => st i k) nS))) (fun _ => True) (fun _ => mw cy b am thr nS nB st bk gate nu) := by
  refine xM.of cX4_allStores 4 (some .int) RX4 (by decide +kernel) rfl rfl (Nat.le_of_ble_eq_true rfl) ?_
  intro p e s m below meth c A ls hx hb hr hts hown hlocks hml hin hK hA hP hD hS hl
  have hl : lv_has ls 4 [(0, .ref b), (1, .int (nI k))] := hl
  have hinX4 : ∀ w ∈ wsX40, w ∈ wsX4_allStores := fun _ h => List.mem_cons_of_mem _ (List.mem_append_right _ h)
  refine lv_iconst (v := 0) hx hb dX4_allStores_0 (by decide) ?_
  refine lv_istore_n (lv' := [(2, .int 0), (0, .ref b), (1, .int (nI k))]) hx hb dX4_allStores_1 rfl hl (by decide) rfl (fun ls hl => ?_)
  refine lv_iconst (v := 0) hx hb dX4_allStores_2 (by decide) ?_
  refine lv_istore_n (lv' := [(3, .int 0), (2, .int 0), (0, .ref b), (1, .int (nI k))]) hx hb dX4_allStores_3 rfl hl (by decide) rfl (fun ls hl => ?_)
  have loop : ∀ (n i : Nat)  (H : Heap) (locs : List Loc) (ls : Array Slot), i + n = nS → va_P D vwCl (mw cy b am thr nS nB st bk gate nu) H → va_D A (mw cy b am thr nS nB st bk gate nu) → va_S A s.heap H locs → lv_has ls 4 [(0, .ref b), (1, .int (nI k)), (2, .int (sm (fun i => st i k) i)), (3, .int (nI i))] → W p l e ({ frames := 1, cells := 0, slots := 0, locals := 30 } : Room) s m ([.ref b, .int (nI k)] : List Value).toArray below meth c H locs 0 0 (MQ below (xQ D A (fun _ : Unit => some (.int (sm (fun i => st i k) nS))) (fun _ => True) (fun _ => mw cy b am thr nS nB st bk gate nu)) ([.ref b, .int (nI k)] : List Value).toArray s 0 0 A) (F0 m 4 ls []) := by
    intro n
    induction n with
    | zero =>
      intro i  H locs ls hns hP hD hS hl
      have hii : i = nS := by omega
      refine lv_iload_n hx hb dX4_allStores_4 rfl (lv_at hl 3 rfl) ?_
      refine lv_aload_n hx hb dX4_allStores_5 rfl (lv_at hl 0 rfl) ?_
      refine va_get (D := D) (ci := 4) (v := .int (nI nS)) (C := RX4) (T := TX4) (N := 8) hx hb hts hinX4 hown hK.1 hP 0 rfl rfl 1 (by decide) (hts (.fieldLink RX4 29 "LoafMarksModel" "stores" "I") (List.mem_of_getElem? (i := 1) rfl)) (fun _ h9 => h9) rfl dX4_allStores_6 ?_
      refine lv_icmp_ge (tgt := 27) hx hb dX4_allStores_9 (by decide) (fun _ => ?_) (fun h => absurd (by rw [hii]; exact Int32.le_refl _) h)
      refine lv_iload_n hx hb dX4_allStores_27 rfl (lv_at hl 2 rfl) ?_
      subst hii
      exact xri () hx hb hr hlocks hS (Nat.le_of_ble_eq_true rfl) (Nat.le_of_ble_eq_true rfl) dX4_allStores_28 hP hD rfl trivial
    | succ n ih =>
      intro i  H locs ls hns hP hD hS hl
      have hlt : i < nS := by omega
      refine lv_iload_n hx hb dX4_allStores_4 rfl (lv_at hl 3 rfl) ?_
      refine lv_aload_n hx hb dX4_allStores_5 rfl (lv_at hl 0 rfl) ?_
      refine va_get (D := D) (ci := 4) (v := .int (nI nS)) (C := RX4) (T := TX4) (N := 8) hx hb hts hinX4 hown hK.1 hP 0 rfl rfl 1 (by decide) (hts (.fieldLink RX4 29 "LoafMarksModel" "stores" "I") (List.mem_of_getElem? (i := 1) rfl)) (fun _ h9 => h9) rfl dX4_allStores_6 ?_
      refine lv_icmp_ge (tgt := 27) hx hb dX4_allStores_9 (by decide) (fun h => absurd h (nI_ge (a := i) (b := nS) (by omega) (by omega))) (fun _ => ?_)
      refine lv_iload_n hx hb dX4_allStores_12 rfl (lv_at hl 2 rfl) ?_
      refine lv_aload_n hx hb dX4_allStores_13 rfl (lv_at hl 0 rfl) ?_
      refine lv_iload_n hx hb dX4_allStores_14 rfl (lv_at hl 3 rfl) ?_
      refine lv_iload_n hx hb dX4_allStores_15 rfl (lv_at hl 1 rfl) ?_
      refine xcV (As := [.int (nI i), .int (nI k)]) (rest := [.int (sm (fun i => st i k) i)]) ⟨hx, hb, hml, hown, hts⟩ (c_X4_ba l D cy b am thr nS nB st bk gate nu i k (by omega) (by omega)) (cwV 2 hts gX4_allStores_X4_ba rfl rfl rfl (by decide +kernel) ⟨Nat.le_of_ble_eq_true rfl, Nat.le_of_ble_eq_true rfl⟩) hK hP hD hS hA rfl rfl rfl (xE_all) rfl hl.1 rfl (Nat.le_of_ble_eq_true rfl) dX4_allStores_16 ⟨Nat.le_of_ble_eq_true rfl, Nat.le_of_ble_eq_true rfl⟩ (fun _ H locs _ hP hD hS => ?_)
      have hP : va_P D vwCl (mw cy b am thr nS nB st bk gate nu) H := hP
      have hD : va_D A (mw cy b am thr nS nB st bk gate nu) := hD
      refine W.eq (g2 := F0 m 19 ls [.int (st i k), .int (sm (fun i => st i k) i)]) rfl ?_
      refine lv_iadd hx hb dX4_allStores_19 ?_
      refine lv_istore_n (lv' := [(2, .int ((sm (fun i => st i k) i) + (st i k))), (0, .ref b), (1, .int (nI k)), (3, .int (nI i))]) hx hb dX4_allStores_20 rfl hl (by decide) rfl (fun ls hl => ?_)
      refine lv_iinc (v := (nI (i + 1))) (lv' := [(3, .int (nI (i + 1))), (2, .int ((sm (fun i => st i k) i) + (st i k))), (0, .ref b), (1, .int (nI k))]) hx hb dX4_allStores_21 hl (k := 3) rfl ((nI_1 i)) (by decide) rfl (fun ls hl => ?_)
      refine lv_goto (tgt := 4) hx hb dX4_allStores_24 (by decide) ?_
      exact ih (i + 1)  _ _ _ (by omega) hP hD hS (lv_sub hl [2, 3, 1, 0] rfl)
  exact loop nS 0  _ _ _ (by omega) hP hD hS (lv_sub hl [2, 3, 1, 0] rfl)

set_option maxHeartbeats 4000000 in
set_option maxRecDepth 100000 in
/-- allBakers -/
theorem c_X4_allBakers (l : Launch) (D : va_G) (cy : Nat → ClassId) (b : Nat) (am : Nat → Nat) (thr : Int32) (nS nB : Nat) (st bk : Nat → Iu) (gate nu : Iu) (k : Nat) (hk : k < 8) (hcB : nB ≤ 6) : xM l D cy yX4_allBakers wsX4_allBakers ({ frames := 1, cells := 0, slots := 0, locals := 30 } : Room) [.ref b, .int (nI k)] (mw cy b am thr nS nB st bk gate nu) (fun _ : Unit => some (.int (sm (fun i => bk i k) nB))) (fun _ => True) (fun _ => mw cy b am thr nS nB st bk gate nu) := by
  refine xM.of cX4_allBakers 4 (some .int) RX4 (by decide +kernel) rfl rfl (Nat.le_of_ble_eq_true rfl) ?_
  intro p e s m below meth c A ls hx hb hr hts hown hlocks hml hin hK hA hP hD hS hl
  have hl : lv_has ls 4 [(0, .ref b), (1, .int (nI k))] := hl
  have hinX4 : ∀ w ∈ wsX40, w ∈ wsX4_allBakers := fun _ h => List.mem_cons_of_mem _ (List.mem_append_right _ h)
  refine lv_iconst (v := 0) hx hb dX4_allBakers_0 (by decide) ?_
  refine lv_istore_n (lv' := [(2, .int 0), (0, .ref b), (1, .int (nI k))]) hx hb dX4_allBakers_1 rfl hl (by decide) rfl (fun ls hl => ?_)
  refine lv_iconst (v := 0) hx hb dX4_allBakers_2 (by decide) ?_
  refine lv_istore_n (lv' := [(3, .int 0), (2, .int 0), (0, .ref b), (1, .int (nI k))]) hx hb dX4_allBakers_3 rfl hl (by decide) rfl (fun ls hl => ?_)
  have loop : ∀ (n i : Nat)  (H : Heap) (locs : List Loc) (ls : Array Slot), i + n = nB → va_P D vwCl (mw cy b am thr nS nB st bk gate nu) H → va_D A (mw cy b am thr nS nB st bk gate nu) → va_S A s.heap H locs → lv_has ls 4 [(0, .ref b), (1, .int (nI k)), (2, .int (sm (fun i => bk i k) i)), (3, .int (nI i))] → W p l e ({ frames := 1, cells := 0, slots := 0, locals := 30 } : Room) s m ([.ref b, .int (nI k)] : List Value).toArray below meth c H locs 0 0 (MQ below (xQ D A (fun _ : Unit => some (.int (sm (fun i => bk i k) nB))) (fun _ => True) (fun _ => mw cy b am thr nS nB st bk gate nu)) ([.ref b, .int (nI k)] : List Value).toArray s 0 0 A) (F0 m 4 ls []) := by
    intro n
    induction n with
    | zero =>
      intro i  H locs ls hns hP hD hS hl
      have hii : i = nB := by omega
      refine lv_iload_n hx hb dX4_allBakers_4 rfl (lv_at hl 3 rfl) ?_
      refine lv_aload_n hx hb dX4_allBakers_5 rfl (lv_at hl 0 rfl) ?_
      refine va_get (D := D) (ci := 4) (v := .int (nI nB)) (C := RX4) (T := TX4) (N := 8) hx hb hts hinX4 hown hK.1 hP 0 rfl rfl 2 (by decide) (hts (.fieldLink RX4 36 "LoafMarksModel" "bakers" "I") (List.mem_of_getElem? (i := 1) rfl)) (fun _ h9 => h9) rfl dX4_allBakers_6 ?_
      refine lv_icmp_ge (tgt := 27) hx hb dX4_allBakers_9 (by decide) (fun _ => ?_) (fun h => absurd (by rw [hii]; exact Int32.le_refl _) h)
      refine lv_iload_n hx hb dX4_allBakers_27 rfl (lv_at hl 2 rfl) ?_
      subst hii
      exact xri () hx hb hr hlocks hS (Nat.le_of_ble_eq_true rfl) (Nat.le_of_ble_eq_true rfl) dX4_allBakers_28 hP hD rfl trivial
    | succ n ih =>
      intro i  H locs ls hns hP hD hS hl
      have hlt : i < nB := by omega
      refine lv_iload_n hx hb dX4_allBakers_4 rfl (lv_at hl 3 rfl) ?_
      refine lv_aload_n hx hb dX4_allBakers_5 rfl (lv_at hl 0 rfl) ?_
      refine va_get (D := D) (ci := 4) (v := .int (nI nB)) (C := RX4) (T := TX4) (N := 8) hx hb hts hinX4 hown hK.1 hP 0 rfl rfl 2 (by decide) (hts (.fieldLink RX4 36 "LoafMarksModel" "bakers" "I") (List.mem_of_getElem? (i := 1) rfl)) (fun _ h9 => h9) rfl dX4_allBakers_6 ?_
      refine lv_icmp_ge (tgt := 27) hx hb dX4_allBakers_9 (by decide) (fun h => absurd h (nI_ge (a := i) (b := nB) (by omega) (by omega))) (fun _ => ?_)
      refine lv_iload_n hx hb dX4_allBakers_12 rfl (lv_at hl 2 rfl) ?_
      refine lv_aload_n hx hb dX4_allBakers_13 rfl (lv_at hl 0 rfl) ?_
      refine lv_iload_n hx hb dX4_allBakers_14 rfl (lv_at hl 3 rfl) ?_
      refine lv_iload_n hx hb dX4_allBakers_15 rfl (lv_at hl 1 rfl) ?_
      refine xcV (As := [.int (nI i), .int (nI k)]) (rest := [.int (sm (fun i => bk i k) i)]) ⟨hx, hb, hml, hown, hts⟩ (c_X4_sh l D cy b am thr nS nB st bk gate nu i k (by omega) (by omega)) (cwV 2 hts gX4_allBakers_X4_sh rfl rfl rfl (by decide +kernel) ⟨Nat.le_of_ble_eq_true rfl, Nat.le_of_ble_eq_true rfl⟩) hK hP hD hS hA rfl rfl rfl (xE_all) rfl hl.1 rfl (Nat.le_of_ble_eq_true rfl) dX4_allBakers_16 ⟨Nat.le_of_ble_eq_true rfl, Nat.le_of_ble_eq_true rfl⟩ (fun _ H locs _ hP hD hS => ?_)
      have hP : va_P D vwCl (mw cy b am thr nS nB st bk gate nu) H := hP
      have hD : va_D A (mw cy b am thr nS nB st bk gate nu) := hD
      refine W.eq (g2 := F0 m 19 ls [.int (bk i k), .int (sm (fun i => bk i k) i)]) rfl ?_
      refine lv_iadd hx hb dX4_allBakers_19 ?_
      refine lv_istore_n (lv' := [(2, .int ((sm (fun i => bk i k) i) + (bk i k))), (0, .ref b), (1, .int (nI k)), (3, .int (nI i))]) hx hb dX4_allBakers_20 rfl hl (by decide) rfl (fun ls hl => ?_)
      refine lv_iinc (v := (nI (i + 1))) (lv' := [(3, .int (nI (i + 1))), (2, .int ((sm (fun i => bk i k) i) + (bk i k))), (0, .ref b), (1, .int (nI k))]) hx hb dX4_allBakers_21 hl (k := 3) rfl ((nI_1 i)) (by decide) rfl (fun ls hl => ?_)
      refine lv_goto (tgt := 4) hx hb dX4_allBakers_24 (by decide) ?_
      exact ih (i + 1)  _ _ _ (by omega) hP hD hS (lv_sub hl [2, 3, 1, 0] rfl)
  exact loop nB 0  _ _ _ (by omega) hP hD hS (lv_sub hl [2, 3, 1, 0] rfl)

set_option maxHeartbeats 4000000 in
set_option maxRecDepth 100000 in
/-- storeTold -/
theorem c_X4_storeTold (l : Launch) (D : va_G) (cy : Nat → ClassId) (b : Nat) (am : Nat → Nat) (thr : Int32) (nS nB : Nat) (st bk : Nat → Iu) (gate nu : Iu) (i k : Nat) (hi : i < 4) (hk : k < 4) (hcB : nB ≤ 6) : xM l D cy yX4_storeTold wsX4_storeTold ({ frames := 1, cells := 0, slots := 0, locals := 30 } : Room) [.ref b, .int (nI i), .int (nI k)] (mw cy b am thr nS nB st bk gate nu) (fun _ : Unit => some (.int (stFact st bk nB i k))) (fun _ => True) (fun _ => mw cy b am thr nS nB st bk gate nu) := by
  refine xM.of cX4_storeTold 5 (some .int) RX4 (by decide +kernel) rfl rfl (Nat.le_of_ble_eq_true rfl) ?_
  intro p e s m below meth c A ls hx hb hr hts hown hlocks hml hin hK hA hP hD hS hl
  have hl : lv_has ls 5 [(0, .ref b), (1, .int (nI i)), (2, .int (nI k))] := hl
  have hinX4 : ∀ w ∈ wsX40, w ∈ wsX4_storeTold := fun _ h => List.mem_cons_of_mem _ (List.mem_append_right _ h)
  have hcase : k = 2 ∨ k = 3 ∨ (k ≠ 2 ∧ k ≠ 3 ∧ k < 3) := by omega
  rcases hcase with hk2 | hk3 | ⟨hk2, hk3, hk4⟩
  · refine lv_iconst (v := 0) hx hb dX4_storeTold_0 (by decide) ?_
    refine lv_istore_n (lv' := [(3, .int 0), (0, .ref b), (1, .int (nI i)), (2, .int (nI k))]) hx hb dX4_storeTold_1 rfl hl (by decide) rfl (fun ls hl => ?_)
    refine lv_iload_n hx hb dX4_storeTold_2 rfl (lv_at hl 3 rfl) ?_
    refine lv_iconst (v := 2) hx hb dX4_storeTold_3 (by decide) ?_
    refine lv_icmp_eq (tgt := 23) hx hb dX4_storeTold_4 (by decide) (fun _ => ?_) (fun h => absurd (by rw [hk2]; rfl) h)
    refine lv_iconst (v := 0) hx hb dX4_storeTold_23 (by decide) ?_
    refine lv_istore (lv' := [(4, .int 0), (3, .int 0), (0, .ref b), (1, .int (nI i)), (2, .int (nI k))]) hx hb dX4_storeTold_24 hl (by decide) rfl (fun ls hl => ?_)
    have loop : ∀ (n j : Nat)  (H : Heap) (locs : List Loc) (ls : Array Slot), j + n = nB → va_P D vwCl (mw cy b am thr nS nB st bk gate nu) H → va_D A (mw cy b am thr nS nB st bk gate nu) → va_S A s.heap H locs → lv_has ls 5 [(0, .ref b), (1, .int (nI i)), (3, .int (sm (fun j => if bk j 0 = nI i then 1 else 0) j)), (4, .int (nI j))] → W p l e ({ frames := 1, cells := 0, slots := 0, locals := 30 } : Room) s m ([.ref b, .int (nI i), .int (nI k)] : List Value).toArray below meth c H locs 0 0 (MQ below (xQ D A (fun _ : Unit => some (.int (stFact st bk nB i k))) (fun _ => True) (fun _ => mw cy b am thr nS nB st bk gate nu)) ([.ref b, .int (nI i), .int (nI k)] : List Value).toArray s 0 0 A) (F0 m 26 ls []) := by
      intro n
      induction n with
      | zero =>
        intro j  H locs ls hns hP hD hS hl
        have hij : j = nB := by omega
        refine lv_iload hx hb dX4_storeTold_26 (lv_at hl 3 rfl) ?_
        refine lv_aload_n hx hb dX4_storeTold_28 rfl (lv_at hl 0 rfl) ?_
        refine va_get (D := D) (ci := 4) (v := .int (nI nB)) (C := RX4) (T := TX4) (N := 8) hx hb hts hinX4 hown hK.1 hP 0 rfl rfl 2 (by decide) (hts (.fieldLink RX4 36 "LoafMarksModel" "bakers" "I") (List.mem_of_getElem? (i := 1) rfl)) (fun _ h9 => h9) rfl dX4_storeTold_29 ?_
        refine lv_icmp_ge (tgt := 60) hx hb dX4_storeTold_32 (by decide) (fun _ => ?_) (fun h => absurd (by rw [hij]; exact Int32.le_refl _) h)
        refine lv_iload_n hx hb dX4_storeTold_60 rfl (lv_at hl 2 rfl) ?_
        subst hij
        subst hk2
        exact xri () hx hb hr hlocks hS (Nat.le_of_ble_eq_true rfl) (Nat.le_of_ble_eq_true rfl) dX4_storeTold_61 hP hD rfl trivial
      | succ n ih =>
        intro j  H locs ls hns hP hD hS hl
        have hlt : j < nB := by omega
        refine lv_iload hx hb dX4_storeTold_26 (lv_at hl 3 rfl) ?_
        refine lv_aload_n hx hb dX4_storeTold_28 rfl (lv_at hl 0 rfl) ?_
        refine va_get (D := D) (ci := 4) (v := .int (nI nB)) (C := RX4) (T := TX4) (N := 8) hx hb hts hinX4 hown hK.1 hP 0 rfl rfl 2 (by decide) (hts (.fieldLink RX4 36 "LoafMarksModel" "bakers" "I") (List.mem_of_getElem? (i := 1) rfl)) (fun _ h9 => h9) rfl dX4_storeTold_29 ?_
        refine lv_icmp_ge (tgt := 60) hx hb dX4_storeTold_32 (by decide) (fun h => absurd h (nI_ge (a := j) (b := nB) (by omega) (by omega))) (fun _ => ?_)
        refine lv_iload_n hx hb dX4_storeTold_35 rfl (lv_at hl 2 rfl) ?_
        refine lv_aload_n hx hb dX4_storeTold_36 rfl (lv_at hl 0 rfl) ?_
        refine lv_iload hx hb dX4_storeTold_37 (lv_at hl 3 rfl) ?_
        refine lv_iconst (v := 0) hx hb dX4_storeTold_39 (by decide) ?_
        refine xcV (As := [.int (nI j), .int 0]) (rest := [.int (sm (fun j => if bk j 0 = nI i then 1 else 0) j)]) ⟨hx, hb, hml, hown, hts⟩ (c_X4_sh l D cy b am thr nS nB st bk gate nu j 0 (by omega) (by omega)) (cwV 2 hts gX4_storeTold_X4_sh rfl rfl rfl (by decide +kernel) ⟨Nat.le_of_ble_eq_true rfl, Nat.le_of_ble_eq_true rfl⟩) hK hP hD hS hA rfl rfl rfl (xE_all) rfl hl.1 rfl (Nat.le_of_ble_eq_true rfl) dX4_storeTold_40 ⟨Nat.le_of_ble_eq_true rfl, Nat.le_of_ble_eq_true rfl⟩ (fun _ H locs _ hP hD hS => ?_)
        have hP : va_P D vwCl (mw cy b am thr nS nB st bk gate nu) H := hP
        have hD : va_D A (mw cy b am thr nS nB st bk gate nu) := hD
        refine W.eq (g2 := F0 m 43 ls [.int (bk j 0), .int (sm (fun j => if bk j 0 = nI i then 1 else 0) j)]) rfl ?_
        refine lv_iload_n hx hb dX4_storeTold_43 rfl (lv_at hl 1 rfl) ?_
        refine lv_icmp_ne (tgt := 51) hx hb dX4_storeTold_44 (by decide) (fun c44 => ?_) (fun c44 => ?_)
        · refine lv_iconst (v := 0) hx hb dX4_storeTold_51 (by decide) ?_
          refine lv_iadd hx hb dX4_storeTold_52 ?_
          refine lv_istore_n (lv' := [(3, .int ((sm (fun j => if bk j 0 = nI i then 1 else 0) j) + 0)), (0, .ref b), (1, .int (nI i)), (4, .int (nI j))]) hx hb dX4_storeTold_53 rfl hl (by decide) rfl (fun ls hl => ?_)
          refine lv_iinc (v := (nI (j + 1))) (lv' := [(4, .int (nI (j + 1))), (3, .int ((sm (fun j => if bk j 0 = nI i then 1 else 0) j) + 0)), (0, .ref b), (1, .int (nI i))]) hx hb dX4_storeTold_54 hl (k := 3) rfl ((nI_1 j)) (by decide) rfl (fun ls hl => ?_)
          refine lv_goto (tgt := 26) hx hb dX4_storeTold_57 (by decide) ?_
          exact ih (j + 1)  _ _ _ (by omega) hP hD hS (lv_sub hl [2, 3, 1, 0] (by rw [show sm (fun j => if bk j 0 = nI i then 1 else 0) (j + 1) = _ from congrArg (fun z => _ + z) (if_neg c44)]; rfl))
        · refine lv_iconst (v := 1) hx hb dX4_storeTold_47 (by decide) ?_
          refine lv_goto (tgt := 52) hx hb dX4_storeTold_48 (by decide) ?_
          refine lv_iadd hx hb dX4_storeTold_52 ?_
          refine lv_istore_n (lv' := [(3, .int ((sm (fun j => if bk j 0 = nI i then 1 else 0) j) + 1)), (0, .ref b), (1, .int (nI i)), (4, .int (nI j))]) hx hb dX4_storeTold_53 rfl hl (by decide) rfl (fun ls hl => ?_)
          refine lv_iinc (v := (nI (j + 1))) (lv' := [(4, .int (nI (j + 1))), (3, .int ((sm (fun j => if bk j 0 = nI i then 1 else 0) j) + 1)), (0, .ref b), (1, .int (nI i))]) hx hb dX4_storeTold_54 hl (k := 3) rfl ((nI_1 j)) (by decide) rfl (fun ls hl => ?_)
          refine lv_goto (tgt := 26) hx hb dX4_storeTold_57 (by decide) ?_
          exact ih (j + 1)  _ _ _ (by omega) hP hD hS (lv_sub hl [2, 3, 1, 0] (by rw [show sm (fun j => if bk j 0 = nI i then 1 else 0) (j + 1) = _ from congrArg (fun z => _ + z) (if_pos c44)]; rfl))
    exact loop nB 0  _ _ _ (by omega) hP hD hS (lv_sub hl [2, 3, 1, 0] rfl)
  · refine lv_iconst (v := 0) hx hb dX4_storeTold_0 (by decide) ?_
    refine lv_istore_n (lv' := [(3, .int 0), (0, .ref b), (1, .int (nI i)), (2, .int (nI k))]) hx hb dX4_storeTold_1 rfl hl (by decide) rfl (fun ls hl => ?_)
    refine lv_iload_n hx hb dX4_storeTold_2 rfl (lv_at hl 3 rfl) ?_
    refine lv_iconst (v := 2) hx hb dX4_storeTold_3 (by decide) ?_
    refine lv_icmp_eq (tgt := 23) hx hb dX4_storeTold_4 (by decide) (fun h => absurd h (by rw [hk3]; decide)) (fun _ => ?_)
    refine lv_aload_n hx hb dX4_storeTold_7 rfl (lv_at hl 1 rfl) ?_
    refine lv_iload_n hx hb dX4_storeTold_8 rfl (lv_at hl 2 rfl) ?_
    refine lv_iload_n hx hb dX4_storeTold_9 rfl (lv_at hl 3 rfl) ?_
    refine lv_iconst (v := 3) hx hb dX4_storeTold_10 (by decide) ?_
    refine lv_icmp_ne (tgt := 18) hx hb dX4_storeTold_11 (by decide) (fun h => absurd h (fun z => z (by rw [hk3]; rfl))) (fun _ => ?_)
    refine lv_iconst (v := 2) hx hb dX4_storeTold_14 (by decide) ?_
    refine lv_goto (tgt := 19) hx hb dX4_storeTold_15 (by decide) ?_
    refine xcV (As := [.int (nI i), .int 2]) (rest := []) ⟨hx, hb, hml, hown, hts⟩ (c_X4_ba l D cy b am thr nS nB st bk gate nu i 2 (by omega) (by omega)) (cwV 2 hts gX4_storeTold_X4_ba rfl rfl rfl (by decide +kernel) ⟨Nat.le_of_ble_eq_true rfl, Nat.le_of_ble_eq_true rfl⟩) hK hP hD hS hA rfl rfl rfl (xE_all) rfl hl.1 rfl (Nat.le_of_ble_eq_true rfl) dX4_storeTold_19 ⟨Nat.le_of_ble_eq_true rfl, Nat.le_of_ble_eq_true rfl⟩ (fun _ H locs _ hP hD hS => ?_)
    have hP : va_P D vwCl (mw cy b am thr nS nB st bk gate nu) H := hP
    have hD : va_D A (mw cy b am thr nS nB st bk gate nu) := hD
    refine W.eq (g2 := F0 m 22 ls [.int (st i 2)]) rfl ?_
    subst hk3
    exact xri () hx hb hr hlocks hS (Nat.le_of_ble_eq_true rfl) (Nat.le_of_ble_eq_true rfl) dX4_storeTold_22 hP hD rfl trivial
  · refine lv_iconst (v := 0) hx hb dX4_storeTold_0 (by decide) ?_
    refine lv_istore_n (lv' := [(3, .int 0), (0, .ref b), (1, .int (nI i)), (2, .int (nI k))]) hx hb dX4_storeTold_1 rfl hl (by decide) rfl (fun ls hl => ?_)
    refine lv_iload_n hx hb dX4_storeTold_2 rfl (lv_at hl 3 rfl) ?_
    refine lv_iconst (v := 2) hx hb dX4_storeTold_3 (by decide) ?_
    refine lv_icmp_eq (tgt := 23) hx hb dX4_storeTold_4 (by decide) (fun h => absurd h (fun z => hk2 (t_eq (by omega) (by omega) z))) (fun _ => ?_)
    refine lv_aload_n hx hb dX4_storeTold_7 rfl (lv_at hl 1 rfl) ?_
    refine lv_iload_n hx hb dX4_storeTold_8 rfl (lv_at hl 2 rfl) ?_
    refine lv_iload_n hx hb dX4_storeTold_9 rfl (lv_at hl 3 rfl) ?_
    refine lv_iconst (v := 3) hx hb dX4_storeTold_10 (by decide) ?_
    refine lv_icmp_ne (tgt := 18) hx hb dX4_storeTold_11 (by decide) (fun _ => ?_) (fun z => absurd z (fun z => hk3 (t_eq (by omega) (by omega) z)))
    refine lv_iload_n hx hb dX4_storeTold_18 rfl (lv_at hl 3 rfl) ?_
    refine xcV (As := [.int (nI i), .int (nI k)]) (rest := []) ⟨hx, hb, hml, hown, hts⟩ (c_X4_ba l D cy b am thr nS nB st bk gate nu i k (by omega) (by omega)) (cwV 2 hts gX4_storeTold_X4_ba rfl rfl rfl (by decide +kernel) ⟨Nat.le_of_ble_eq_true rfl, Nat.le_of_ble_eq_true rfl⟩) hK hP hD hS hA rfl rfl rfl (xE_all) rfl hl.1 rfl (Nat.le_of_ble_eq_true rfl) dX4_storeTold_19 ⟨Nat.le_of_ble_eq_true rfl, Nat.le_of_ble_eq_true rfl⟩ (fun _ H locs _ hP hD hS => ?_)
    have hP : va_P D vwCl (mw cy b am thr nS nB st bk gate nu) H := hP
    have hD : va_D A (mw cy b am thr nS nB st bk gate nu) := hD
    refine W.eq (g2 := F0 m 22 ls [.int (st i k)]) rfl ?_
    exact xri () hx hb hr hlocks hS (Nat.le_of_ble_eq_true rfl) (Nat.le_of_ble_eq_true rfl) dX4_storeTold_22 hP hD (by show some (Value.int (stFact st bk nB i k)) = _; unfold stFact; rw [if_neg hk2, if_neg hk3]) trivial
