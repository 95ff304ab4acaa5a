/-! ===== the reference: calls that change and tell (laid by gen34.py) ===== -/
theorem fN_1 {nu : Iu} {x : Int32} : fN (upd nu 1 x) = fN nu := by
  funext q
  unfold fN
  split
  · exact upd_ne (by decide)
  · exact upd_ne (by omega)
theorem mD_app {A : Nat → Prop} {w1 w2 : va_W} (h : va_D A (w1 ++ w2)) : va_D A w1 := by
  rw [xD_iff] at h ⊢
  refine ⟨?_, fun q hq => h.2 q (List.mem_append_left _ hq)⟩
  have h1 := h.1
  rw [List.map_append, List.nodup_append] at h1
  exact h1.1
theorem cpyS {f : Iu} {st : Nat → Iu} {n : Nat} {F : Iu} (h : ∀ k, k < 3 → f k = F k) : va_cpy f (fS st) 0 (3 * n) 3 = fS (va_up st n F) := by
  funext q
  unfold va_cpy
  split
  · rename_i hq
    unfold fS
    rw [show q / 3 = n by omega, up_at, show 0 + (q - 3 * n) = q % 3 by omega]
    exact h _ (by omega)
  · rename_i hq
    unfold fS
    rw [up_ne (by omega)]
theorem cpyB {f : Iu} {bk : Nat → Iu} {n : Nat} {F : Iu} (h : ∀ k, k < 8 → f k = F k) : va_cpy f (fB bk) 0 (8 * n) 8 = fB (va_up bk n F) := by
  funext q
  unfold va_cpy
  split
  · rename_i hq
    unfold fB
    rw [show q / 8 = n by omega, up_at, show 0 + (q - 8 * n) = q % 8 by omega]
    exact h _ (by omega)
  · rename_i hq
    unfold fB
    rw [up_ne (by omega)]
theorem bFact_eq {b : Iu} {k : Nat} (h : b 7 = 0 ∨ b 7 = 1) : bFact b k = b k := by
  unfold bFact
  split
  · rename_i e
    subst e
    rcases h with h | h <;> rw [h] <;> rfl
  · rfl
set_option maxHeartbeats 4000000 in
set_option maxRecDepth 100000 in
/-- setPeople -/
theorem c_X4_setPeople (l : Launch) (D : va_G) (cy : Nat → ClassId) (b : Nat) (am : Nat → Nat) (thr : Int32) (nS nB : Nat) (st bk : Nat → Iu) (gate nu : Iu) (p0 : Int32) (h1 : (0 : Int32) ≤ p0 ∧ p0 ≤ 500) : xM l D cy yX4_setPeople wsX4_setPeople ({ frames := 2, cells := 0, slots := 0, locals := 60 } : Room) [.ref b, .int p0] (mw cy b am thr nS nB st bk gate nu) (fun _ : Unit => some (.int (nu 1))) (fun _ => True) (fun _ => mw cy b am 0 nS nB st bk gate (upd nu 1 p0)) := by
  refine xM.of cX4_setPeople 3 (some .int) RX4 (by decide +kernel) rfl rfl (Nat.le_of_ble_eq_true rfl) ?_
  intro p e s m below meth c A ls hx hb hr hts hown hlocks hml hin hK hA hP hD hS hl
  have hl : lv_has ls 3 [(0, .ref b), (1, .int p0)] := hl
  have hinX4 : ∀ w ∈ wsX40, w ∈ wsX4_setPeople := fun _ h => List.mem_cons_of_mem _ (List.mem_append_right _ h)
  refine lv_aload_n hx hb dX4_setPeople_0 rfl (lv_at hl 0 rfl) ?_
  refine lv_iconst (v := 0) hx hb dX4_setPeople_1 (by decide) ?_
  refine va_put (D := D) (ci := 4) (v := .int 0) (ty := .int) (C := RX4) (T := TX4) (N := 8) hx hb hts hinX4 tyX4 tyX4_ok nmX4 hown hK.1 hP hD hS 0 rfl rfl 0 (by decide) (hts (.fieldLink RX4 26 "LoafMarksModel" "thrown" "I") (List.mem_of_getElem? (i := 1) rfl)) (fun _ h9 => h9) rfl (by decide +kernel) rfl rfl (Nat.le_of_ble_eq_true rfl) dX4_setPeople_2 (fun H locs hP hD hS => ?_)
  have hP : va_P D vwCl (mw cy b am 0 nS nB st bk gate nu) H := hP
  have hD : va_D A (mw cy b am 0 nS nB st bk gate nu) := hD
  refine lv_iload_n hx hb dX4_setPeople_5 rfl (lv_at hl 1 rfl) ?_
  refine lv_iconst (v := 0) hx hb dX4_setPeople_6 (by decide) ?_
  refine lv_sipush (v := 500) hx hb dX4_setPeople_7 (by decide) ?_
  refine xcS (As := [.int p0, .int 0, .int 500]) (rest := []) ⟨hx, hb, hml, hown, hts⟩ (c_X4_isIn l D cy p0 0 500) (va_cwS 3 hts gX4_setPeople_X4_isIn rfl rfl rfl (by decide +kernel) ⟨Nat.le_of_ble_eq_true rfl, Nat.le_of_ble_eq_true rfl⟩) hK hP hD hS hA (xE_nil) rfl hl.1 rfl (Nat.le_of_ble_eq_true rfl) dX4_setPeople_10 ⟨Nat.le_of_ble_eq_true rfl, Nat.le_of_ble_eq_true rfl⟩ (fun _ H locs _ hP hD hS => ?_)
  have hP : va_P D vwCl (mw cy b am 0 nS nB st bk gate nu) H := hP
  have hD : va_D A (mw cy b am 0 nS nB st bk gate nu) := hD
  refine W.eq (g2 := F0 m 13 ls [.int (wi p0 0 500)]) rfl ?_
  refine lv_if_ne (tgt := 22) hx hb dX4_setPeople_13 (by decide) (fun _ => ?_) (fun z => absurd z (wi_ok h1))
  refine lv_aload_n hx hb dX4_setPeople_22 rfl (lv_at hl 0 rfl) ?_
  refine va_get (D := D) (ci := 4) (v := .int (nu 1)) (C := RX4) (T := TX4) (N := 8) hx hb hts hinX4 hown hK.1 hP 0 rfl rfl 3 (by decide) (hts (.fieldLink RX4 7 "LoafMarksModel" "people" "I") (List.mem_of_getElem? (i := 2) rfl)) (fun _ h9 => h9) rfl dX4_setPeople_23 ?_
  refine lv_istore_n (lv' := [(2, .int (nu 1)), (0, .ref b), (1, .int p0)]) hx hb dX4_setPeople_26 rfl hl (by decide) rfl (fun ls hl => ?_)
  refine lv_aload_n hx hb dX4_setPeople_27 rfl (lv_at hl 1 rfl) ?_
  refine lv_iload_n hx hb dX4_setPeople_28 rfl (lv_at hl 2 rfl) ?_
  refine va_put (D := D) (ci := 4) (v := .int p0) (ty := .int) (C := RX4) (T := TX4) (N := 8) hx hb hts hinX4 tyX4 tyX4_ok nmX4 hown hK.1 hP hD hS 0 rfl rfl 3 (by decide) (hts (.fieldLink RX4 7 "LoafMarksModel" "people" "I") (List.mem_of_getElem? (i := 2) rfl)) (fun _ h9 => h9) rfl (by decide +kernel) rfl rfl (Nat.le_of_ble_eq_true rfl) dX4_setPeople_29 (fun H locs hP hD hS => ?_)
  have hP : va_P D vwCl (mw cy b am 0 nS nB st bk gate (upd nu 1 p0)) H := by unfold mw; rw [fN_1]; exact hP
  have hD : va_D A (mw cy b am 0 nS nB st bk gate (upd nu 1 p0)) := by unfold mw; rw [fN_1]; exact hD
  refine lv_iload_n hx hb dX4_setPeople_32 rfl (lv_at hl 0 rfl) ?_
  exact xri () hx hb hr hlocks hS (Nat.le_of_ble_eq_true rfl) (Nat.le_of_ble_eq_true rfl) dX4_setPeople_33 hP hD rfl trivial

set_option maxHeartbeats 4000000 in
set_option maxRecDepth 100000 in
/-- setPeople, refused -/
theorem c_X4_setPeople_1 (l : Launch) (D : va_G) (cy : Nat → ClassId) (b : Nat) (am : Nat → Nat) (thr : Int32) (nS nB : Nat) (st bk : Nat → Iu) (gate nu : Iu) (p0 : Int32) (h1 : ¬ ((0 : Int32) ≤ p0 ∧ p0 ≤ 500)) : xM l D cy yX4_setPeople wsX4_setPeople ({ frames := 2, cells := 0, slots := 0, locals := 60 } : Room) [.ref b, .int p0] (mw cy b am thr nS nB st bk gate nu) (fun _ : Unit => some (.int 0)) (fun _ => True) (fun _ => mw cy b am 1 nS nB st bk gate nu) := by
  refine xM.of cX4_setPeople 3 (some .int) RX4 (by decide +kernel) rfl rfl (Nat.le_of_ble_eq_true rfl) ?_
  intro p e s m below meth c A ls hx hb hr hts hown hlocks hml hin hK hA hP hD hS hl
  have hl : lv_has ls 3 [(0, .ref b), (1, .int p0)] := hl
  have hinX4 : ∀ w ∈ wsX40, w ∈ wsX4_setPeople := fun _ h => List.mem_cons_of_mem _ (List.mem_append_right _ h)
  refine lv_aload_n hx hb dX4_setPeople_0 rfl (lv_at hl 0 rfl) ?_
  refine lv_iconst (v := 0) hx hb dX4_setPeople_1 (by decide) ?_
  refine va_put (D := D) (ci := 4) (v := .int 0) (ty := .int) (C := RX4) (T := TX4) (N := 8) hx hb hts hinX4 tyX4 tyX4_ok nmX4 hown hK.1 hP hD hS 0 rfl rfl 0 (by decide) (hts (.fieldLink RX4 26 "LoafMarksModel" "thrown" "I") (List.mem_of_getElem? (i := 1) rfl)) (fun _ h9 => h9) rfl (by decide +kernel) rfl rfl (Nat.le_of_ble_eq_true rfl) dX4_setPeople_2 (fun H locs hP hD hS => ?_)
  have hP : va_P D vwCl (mw cy b am 0 nS nB st bk gate nu) H := hP
  have hD : va_D A (mw cy b am 0 nS nB st bk gate nu) := hD
  refine lv_iload_n hx hb dX4_setPeople_5 rfl (lv_at hl 1 rfl) ?_
  refine lv_iconst (v := 0) hx hb dX4_setPeople_6 (by decide) ?_
  refine lv_sipush (v := 500) hx hb dX4_setPeople_7 (by decide) ?_
  refine xcS (As := [.int p0, .int 0, .int 500]) (rest := []) ⟨hx, hb, hml, hown, hts⟩ (c_X4_isIn l D cy p0 0 500) (va_cwS 3 hts gX4_setPeople_X4_isIn rfl rfl rfl (by decide +kernel) ⟨Nat.le_of_ble_eq_true rfl, Nat.le_of_ble_eq_true rfl⟩) hK hP hD hS hA (xE_nil) rfl hl.1 rfl (Nat.le_of_ble_eq_true rfl) dX4_setPeople_10 ⟨Nat.le_of_ble_eq_true rfl, Nat.le_of_ble_eq_true rfl⟩ (fun _ H locs _ hP hD hS => ?_)
  have hP : va_P D vwCl (mw cy b am 0 nS nB st bk gate nu) H := hP
  have hD : va_D A (mw cy b am 0 nS nB st bk gate nu) := hD
  refine W.eq (g2 := F0 m 13 ls [.int (wi p0 0 500)]) rfl ?_
  refine lv_if_ne (tgt := 22) hx hb dX4_setPeople_13 (by decide) (fun z => absurd (wi_no h1) z) (fun _ => ?_)
  refine lv_aload_n hx hb dX4_setPeople_16 rfl (lv_at hl 0 rfl) ?_
  refine lv_iconst (v := 1) hx hb dX4_setPeople_17 (by decide) ?_
  refine xcV (As := [.int 1]) (rest := []) ⟨hx, hb, hml, hown, hts⟩ (c_X4_fail l D cy b am 0 nS nB st bk gate nu 1) (cwV 1 hts gX4_setPeople_X4_fail rfl rfl rfl (by decide +kernel) ⟨Nat.le_of_ble_eq_true rfl, Nat.le_of_ble_eq_true rfl⟩) hK hP hD hS hA rfl rfl rfl (xE_all) rfl hl.1 rfl (Nat.le_of_ble_eq_true rfl) dX4_setPeople_18 ⟨Nat.le_of_ble_eq_true rfl, Nat.le_of_ble_eq_true rfl⟩ (fun _ H locs _ hP hD hS => ?_)
  have hP : va_P D vwCl (mw cy b am 1 nS nB st bk gate nu) H := hP
  have hD : va_D A (mw cy b am 1 nS nB st bk gate nu) := hD
  refine W.eq (g2 := F0 m 21 ls [.int 0]) rfl ?_
  exact xri () hx hb hr hlocks hS (Nat.le_of_ble_eq_true rfl) (Nat.le_of_ble_eq_true rfl) dX4_setPeople_21 hP hD rfl trivial

set_option maxHeartbeats 4000000 in
set_option maxRecDepth 100000 in
/-- setGate -/
theorem c_X4_setGate (l : Launch) (D : va_G) (cy : Nat → ClassId) (b : Nat) (am : Nat → Nat) (thr : Int32) (nS nB : Nat) (st bk : Nat → Iu) (gate nu : Iu) (k : Nat) (hk : k < 24) (p1 : Int32) (h2 : (0 : Int32) ≤ p1 ∧ p1 ≤ 99) : xM l D cy yX4_setGate wsX4_setGate ({ frames := 2, cells := 0, slots := 0, locals := 60 } : Room) [.ref b, .int (nI k), .int p1] (mw cy b am thr nS nB st bk gate nu) (fun _ : Unit => some (.int (gate k))) (fun _ => True) (fun _ => mw cy b am 0 nS nB st bk (upd gate k p1) nu) := by
  refine xM.of cX4_setGate 4 (some .int) RX4 (by decide +kernel) rfl rfl (Nat.le_of_ble_eq_true rfl) ?_
  intro p e s m below meth c A ls hx hb hr hts hown hlocks hml hin hK hA hP hD hS hl
  have hl : lv_has ls 4 [(0, .ref b), (1, .int (nI k)), (2, .int p1)] := hl
  have hinX4 : ∀ w ∈ wsX40, w ∈ wsX4_setGate := fun _ h => List.mem_cons_of_mem _ (List.mem_append_right _ h)
  refine lv_aload_n hx hb dX4_setGate_0 rfl (lv_at hl 0 rfl) ?_
  refine lv_iconst (v := 0) hx hb dX4_setGate_1 (by decide) ?_
  refine va_put (D := D) (ci := 4) (v := .int 0) (ty := .int) (C := RX4) (T := TX4) (N := 8) hx hb hts hinX4 tyX4 tyX4_ok nmX4 hown hK.1 hP hD hS 0 rfl rfl 0 (by decide) (hts (.fieldLink RX4 26 "LoafMarksModel" "thrown" "I") (List.mem_of_getElem? (i := 1) rfl)) (fun _ h9 => h9) rfl (by decide +kernel) rfl rfl (Nat.le_of_ble_eq_true rfl) dX4_setGate_2 (fun H locs hP hD hS => ?_)
  have hP : va_P D vwCl (mw cy b am 0 nS nB st bk gate nu) H := hP
  have hD : va_D A (mw cy b am 0 nS nB st bk gate nu) := hD
  refine lv_iload_n hx hb dX4_setGate_5 rfl (lv_at hl 1 rfl) ?_
  refine lv_iconst (v := 0) hx hb dX4_setGate_6 (by decide) ?_
  refine lv_bipush (v := 23) hx hb dX4_setGate_7 (by decide) ?_
  refine xcS (As := [.int (nI k), .int 0, .int 23]) (rest := []) ⟨hx, hb, hml, hown, hts⟩ (c_X4_isIn l D cy (nI k) 0 23) (va_cwS 3 hts gX4_setGate_X4_isIn rfl rfl rfl (by decide +kernel) ⟨Nat.le_of_ble_eq_true rfl, Nat.le_of_ble_eq_true rfl⟩) hK hP hD hS hA (xE_nil) rfl hl.1 rfl (Nat.le_of_ble_eq_true rfl) dX4_setGate_9 ⟨Nat.le_of_ble_eq_true rfl, Nat.le_of_ble_eq_true rfl⟩ (fun _ H locs _ hP hD hS => ?_)
  have hP : va_P D vwCl (mw cy b am 0 nS nB st bk gate nu) H := hP
  have hD : va_D A (mw cy b am 0 nS nB st bk gate nu) := hD
  refine W.eq (g2 := F0 m 12 ls [.int (wi (nI k) 0 23)]) rfl ?_
  refine lv_if_ne (tgt := 21) hx hb dX4_setGate_12 (by decide) (fun _ => ?_) (fun z => absurd z (wi_ok ⟨nI_pos' (n := k) (by omega), nI_le (a := k) (b := 23) (by omega) (by decide)⟩))
  refine lv_iload_n hx hb dX4_setGate_21 rfl (lv_at hl 2 rfl) ?_
  refine lv_iconst (v := 0) hx hb dX4_setGate_22 (by decide) ?_
  refine lv_bipush (v := 99) hx hb dX4_setGate_23 (by decide) ?_
  refine xcS (As := [.int p1, .int 0, .int 99]) (rest := []) ⟨hx, hb, hml, hown, hts⟩ (c_X4_isIn l D cy p1 0 99) (va_cwS 3 hts gX4_setGate_X4_isIn rfl rfl rfl (by decide +kernel) ⟨Nat.le_of_ble_eq_true rfl, Nat.le_of_ble_eq_true rfl⟩) hK hP hD hS hA (xE_nil) rfl hl.1 rfl (Nat.le_of_ble_eq_true rfl) dX4_setGate_25 ⟨Nat.le_of_ble_eq_true rfl, Nat.le_of_ble_eq_true rfl⟩ (fun _ H locs _ hP hD hS => ?_)
  have hP : va_P D vwCl (mw cy b am 0 nS nB st bk gate nu) H := hP
  have hD : va_D A (mw cy b am 0 nS nB st bk gate nu) := hD
  refine W.eq (g2 := F0 m 28 ls [.int (wi p1 0 99)]) rfl ?_
  refine lv_if_ne (tgt := 37) hx hb dX4_setGate_28 (by decide) (fun _ => ?_) (fun z => absurd z (wi_ok h2))
  refine lv_aload_n hx hb dX4_setGate_37 rfl (lv_at hl 0 rfl) ?_
  refine va_get (D := D) (ci := 4) (v := .ref (am 0)) (C := RX4) (T := TX4) (N := 8) hx hb hts hinX4 hown hK.1 hP 0 rfl rfl 4 (by decide) (hts (.fieldLink RX4 13 "LoafMarksModel" "gate" "[I") (List.mem_of_getElem? (i := 2) rfl)) (fun _ h9 => h9) rfl dX4_setGate_38 ?_
  refine lv_iload_n hx hb dX4_setGate_41 rfl (lv_at hl 1 rfl) ?_
  refine xiald hx hb hK hP 1 rfl k rfl (by omega) (by decide) dX4_setGate_42 ?_
  refine lv_istore_n (lv' := [(3, .int (gate k)), (0, .ref b), (1, .int (nI k)), (2, .int p1)]) hx hb dX4_setGate_43 rfl hl (by decide) rfl (fun ls hl => ?_)
  refine lv_aload_n hx hb dX4_setGate_44 rfl (lv_at hl 1 rfl) ?_
  refine va_get (D := D) (ci := 4) (v := .ref (am 0)) (C := RX4) (T := TX4) (N := 8) hx hb hts hinX4 hown hK.1 hP 0 rfl rfl 4 (by decide) (hts (.fieldLink RX4 13 "LoafMarksModel" "gate" "[I") (List.mem_of_getElem? (i := 2) rfl)) (fun _ h9 => h9) rfl dX4_setGate_45 ?_
  refine lv_iload_n hx hb dX4_setGate_48 rfl (lv_at hl 2 rfl) ?_
  refine lv_iload_n hx hb dX4_setGate_49 rfl (lv_at hl 3 rfl) ?_
  refine xiast hx hb hK hP hD hS 1 rfl k rfl (by omega) (by decide) dX4_setGate_50 (fun H locs hP hD hS => ?_)
  have hP : va_P D vwCl (mw cy b am 0 nS nB st bk (upd gate k p1) nu) H := hP
  have hD : va_D A (mw cy b am 0 nS nB st bk (upd gate k p1) nu) := hD
  refine lv_iload_n hx hb dX4_setGate_51 rfl (lv_at hl 0 rfl) ?_
  exact xri () hx hb hr hlocks hS (Nat.le_of_ble_eq_true rfl) (Nat.le_of_ble_eq_true rfl) dX4_setGate_52 hP hD rfl trivial

set_option maxHeartbeats 4000000 in
set_option maxRecDepth 100000 in
/-- setGate, refused -/
theorem c_X4_setGate_1 (l : Launch) (D : va_G) (cy : Nat → ClassId) (b : Nat) (am : Nat → Nat) (thr : Int32) (nS nB : Nat) (st bk : Nat → Iu) (gate nu : Iu) (p0 p1 : Int32) (h1 : ¬ ((0 : Int32) ≤ p0 ∧ p0 ≤ 23)) : xM l D cy yX4_setGate wsX4_setGate ({ frames := 2, cells := 0, slots := 0, locals := 60 } : Room) [.ref b, .int p0, .int p1] (mw cy b am thr nS nB st bk gate nu) (fun _ : Unit => some (.int 0)) (fun _ => True) (fun _ => mw cy b am 1 nS nB st bk gate nu) := by
  refine xM.of cX4_setGate 4 (some .int) RX4 (by decide +kernel) rfl rfl (Nat.le_of_ble_eq_true rfl) ?_
  intro p e s m below meth c A ls hx hb hr hts hown hlocks hml hin hK hA hP hD hS hl
  have hl : lv_has ls 4 [(0, .ref b), (1, .int p0), (2, .int p1)] := hl
  have hinX4 : ∀ w ∈ wsX40, w ∈ wsX4_setGate := fun _ h => List.mem_cons_of_mem _ (List.mem_append_right _ h)
  refine lv_aload_n hx hb dX4_setGate_0 rfl (lv_at hl 0 rfl) ?_
  refine lv_iconst (v := 0) hx hb dX4_setGate_1 (by decide) ?_
  refine va_put (D := D) (ci := 4) (v := .int 0) (ty := .int) (C := RX4) (T := TX4) (N := 8) hx hb hts hinX4 tyX4 tyX4_ok nmX4 hown hK.1 hP hD hS 0 rfl rfl 0 (by decide) (hts (.fieldLink RX4 26 "LoafMarksModel" "thrown" "I") (List.mem_of_getElem? (i := 1) rfl)) (fun _ h9 => h9) rfl (by decide +kernel) rfl rfl (Nat.le_of_ble_eq_true rfl) dX4_setGate_2 (fun H locs hP hD hS => ?_)
  have hP : va_P D vwCl (mw cy b am 0 nS nB st bk gate nu) H := hP
  have hD : va_D A (mw cy b am 0 nS nB st bk gate nu) := hD
  refine lv_iload_n hx hb dX4_setGate_5 rfl (lv_at hl 1 rfl) ?_
  refine lv_iconst (v := 0) hx hb dX4_setGate_6 (by decide) ?_
  refine lv_bipush (v := 23) hx hb dX4_setGate_7 (by decide) ?_
  refine xcS (As := [.int p0, .int 0, .int 23]) (rest := []) ⟨hx, hb, hml, hown, hts⟩ (c_X4_isIn l D cy p0 0 23) (va_cwS 3 hts gX4_setGate_X4_isIn rfl rfl rfl (by decide +kernel) ⟨Nat.le_of_ble_eq_true rfl, Nat.le_of_ble_eq_true rfl⟩) hK hP hD hS hA (xE_nil) rfl hl.1 rfl (Nat.le_of_ble_eq_true rfl) dX4_setGate_9 ⟨Nat.le_of_ble_eq_true rfl, Nat.le_of_ble_eq_true rfl⟩ (fun _ H locs _ hP hD hS => ?_)
  have hP : va_P D vwCl (mw cy b am 0 nS nB st bk gate nu) H := hP
  have hD : va_D A (mw cy b am 0 nS nB st bk gate nu) := hD
  refine W.eq (g2 := F0 m 12 ls [.int (wi p0 0 23)]) rfl ?_
  refine lv_if_ne (tgt := 21) hx hb dX4_setGate_12 (by decide) (fun z => absurd (wi_no h1) z) (fun _ => ?_)
  refine lv_aload_n hx hb dX4_setGate_15 rfl (lv_at hl 0 rfl) ?_
  refine lv_iconst (v := 1) hx hb dX4_setGate_16 (by decide) ?_
  refine xcV (As := [.int 1]) (rest := []) ⟨hx, hb, hml, hown, hts⟩ (c_X4_fail l D cy b am 0 nS nB st bk gate nu 1) (cwV 1 hts gX4_setGate_X4_fail rfl rfl rfl (by decide +kernel) ⟨Nat.le_of_ble_eq_true rfl, Nat.le_of_ble_eq_true rfl⟩) hK hP hD hS hA rfl rfl rfl (xE_all) rfl hl.1 rfl (Nat.le_of_ble_eq_true rfl) dX4_setGate_17 ⟨Nat.le_of_ble_eq_true rfl, Nat.le_of_ble_eq_true rfl⟩ (fun _ H locs _ hP hD hS => ?_)
  have hP : va_P D vwCl (mw cy b am 1 nS nB st bk gate nu) H := hP
  have hD : va_D A (mw cy b am 1 nS nB st bk gate nu) := hD
  refine W.eq (g2 := F0 m 20 ls [.int 0]) rfl ?_
  exact xri () hx hb hr hlocks hS (Nat.le_of_ble_eq_true rfl) (Nat.le_of_ble_eq_true rfl) dX4_setGate_20 hP hD rfl trivial

set_option maxHeartbeats 4000000 in
set_option maxRecDepth 100000 in
/-- setGate, refused -/
theorem c_X4_setGate_2 (l : Launch) (D : va_G) (cy : Nat → ClassId) (b : Nat) (am : Nat → Nat) (thr : Int32) (nS nB : Nat) (st bk : Nat → Iu) (gate nu : Iu) (p0 p1 : Int32) (h1 : (0 : Int32) ≤ p0 ∧ p0 ≤ 23) (h2 : ¬ ((0 : Int32) ≤ p1 ∧ p1 ≤ 99)) : xM l D cy yX4_setGate wsX4_setGate ({ frames := 2, cells := 0, slots := 0, locals := 60 } : Room) [.ref b, .int p0, .int p1] (mw cy b am thr nS nB st bk gate nu) (fun _ : Unit => some (.int 0)) (fun _ => True) (fun _ => mw cy b am 2 nS nB st bk gate nu) := by
  refine xM.of cX4_setGate 4 (some .int) RX4 (by decide +kernel) rfl rfl (Nat.le_of_ble_eq_true rfl) ?_
  intro p e s m below meth c A ls hx hb hr hts hown hlocks hml hin hK hA hP hD hS hl
  have hl : lv_has ls 4 [(0, .ref b), (1, .int p0), (2, .int p1)] := hl
  have hinX4 : ∀ w ∈ wsX40, w ∈ wsX4_setGate := fun _ h => List.mem_cons_of_mem _ (List.mem_append_right _ h)
  refine lv_aload_n hx hb dX4_setGate_0 rfl (lv_at hl 0 rfl) ?_
  refine lv_iconst (v := 0) hx hb dX4_setGate_1 (by decide) ?_
  refine va_put (D := D) (ci := 4) (v := .int 0) (ty := .int) (C := RX4) (T := TX4) (N := 8) hx hb hts hinX4 tyX4 tyX4_ok nmX4 hown hK.1 hP hD hS 0 rfl rfl 0 (by decide) (hts (.fieldLink RX4 26 "LoafMarksModel" "thrown" "I") (List.mem_of_getElem? (i := 1) rfl)) (fun _ h9 => h9) rfl (by decide +kernel) rfl rfl (Nat.le_of_ble_eq_true rfl) dX4_setGate_2 (fun H locs hP hD hS => ?_)
  have hP : va_P D vwCl (mw cy b am 0 nS nB st bk gate nu) H := hP
  have hD : va_D A (mw cy b am 0 nS nB st bk gate nu) := hD
  refine lv_iload_n hx hb dX4_setGate_5 rfl (lv_at hl 1 rfl) ?_
  refine lv_iconst (v := 0) hx hb dX4_setGate_6 (by decide) ?_
  refine lv_bipush (v := 23) hx hb dX4_setGate_7 (by decide) ?_
  refine xcS (As := [.int p0, .int 0, .int 23]) (rest := []) ⟨hx, hb, hml, hown, hts⟩ (c_X4_isIn l D cy p0 0 23) (va_cwS 3 hts gX4_setGate_X4_isIn rfl rfl rfl (by decide +kernel) ⟨Nat.le_of_ble_eq_true rfl, Nat.le_of_ble_eq_true rfl⟩) hK hP hD hS hA (xE_nil) rfl hl.1 rfl (Nat.le_of_ble_eq_true rfl) dX4_setGate_9 ⟨Nat.le_of_ble_eq_true rfl, Nat.le_of_ble_eq_true rfl⟩ (fun _ H locs _ hP hD hS => ?_)
  have hP : va_P D vwCl (mw cy b am 0 nS nB st bk gate nu) H := hP
  have hD : va_D A (mw cy b am 0 nS nB st bk gate nu) := hD
  refine W.eq (g2 := F0 m 12 ls [.int (wi p0 0 23)]) rfl ?_
  refine lv_if_ne (tgt := 21) hx hb dX4_setGate_12 (by decide) (fun _ => ?_) (fun z => absurd z (wi_ok h1))
  refine lv_iload_n hx hb dX4_setGate_21 rfl (lv_at hl 2 rfl) ?_
  refine lv_iconst (v := 0) hx hb dX4_setGate_22 (by decide) ?_
  refine lv_bipush (v := 99) hx hb dX4_setGate_23 (by decide) ?_
  refine xcS (As := [.int p1, .int 0, .int 99]) (rest := []) ⟨hx, hb, hml, hown, hts⟩ (c_X4_isIn l D cy p1 0 99) (va_cwS 3 hts gX4_setGate_X4_isIn rfl rfl rfl (by decide +kernel) ⟨Nat.le_of_ble_eq_true rfl, Nat.le_of_ble_eq_true rfl⟩) hK hP hD hS hA (xE_nil) rfl hl.1 rfl (Nat.le_of_ble_eq_true rfl) dX4_setGate_25 ⟨Nat.le_of_ble_eq_true rfl, Nat.le_of_ble_eq_true rfl⟩ (fun _ H locs _ hP hD hS => ?_)
  have hP : va_P D vwCl (mw cy b am 0 nS nB st bk gate nu) H := hP
  have hD : va_D A (mw cy b am 0 nS nB st bk gate nu) := hD
  refine W.eq (g2 := F0 m 28 ls [.int (wi p1 0 99)]) rfl ?_
  refine lv_if_ne (tgt := 37) hx hb dX4_setGate_28 (by decide) (fun z => absurd (wi_no h2) z) (fun _ => ?_)
  refine lv_aload_n hx hb dX4_setGate_31 rfl (lv_at hl 0 rfl) ?_
  refine lv_iconst (v := 2) hx hb dX4_setGate_32 (by decide) ?_
  refine xcV (As := [.int 2]) (rest := []) ⟨hx, hb, hml, hown, hts⟩ (c_X4_fail l D cy b am 0 nS nB st bk gate nu 2) (cwV 1 hts gX4_setGate_X4_fail rfl rfl rfl (by decide +kernel) ⟨Nat.le_of_ble_eq_true rfl, Nat.le_of_ble_eq_true rfl⟩) hK hP hD hS hA rfl rfl rfl (xE_all) rfl hl.1 rfl (Nat.le_of_ble_eq_true rfl) dX4_setGate_33 ⟨Nat.le_of_ble_eq_true rfl, Nat.le_of_ble_eq_true rfl⟩ (fun _ H locs _ hP hD hS => ?_)
  have hP : va_P D vwCl (mw cy b am 2 nS nB st bk gate nu) H := hP
  have hD : va_D A (mw cy b am 2 nS nB st bk gate nu) := hD
  refine W.eq (g2 := F0 m 36 ls [.int 0]) rfl ?_
  exact xri () hx hb hr hlocks hS (Nat.le_of_ble_eq_true rfl) (Nat.le_of_ble_eq_true rfl) dX4_setGate_36 hP hD rfl trivial

set_option maxHeartbeats 4000000 in
set_option maxRecDepth 100000 in
/-- open -/
theorem c_X4_open (l : Launch) (D : va_G) (cy : Nat → ClassId) (b : Nat) (am : Nat → Nat) (thr : Int32) (nS nB : Nat) (st bk : Nat → Iu) (gate nu : Iu) (p0 p1 : Int32) (h1 : (0 : Int32) ≤ p0 ∧ p0 ≤ 900) (h2 : (0 : Int32) ≤ p1 ∧ p1 ≤ 50) (hroom : nS < 4) : xM l D cy yX4_open wsX4_open ({ frames := 2, cells := 1, slots := 3, locals := 60 } : Room) [.ref b, .int p0, .int p1] (mw cy b am thr nS nB st bk gate nu) (fun _ : Unit => some (.int (nI nS))) (fun _ => True) (fun _ => mw cy b am 0 (nS + 1) nB (va_up st nS (newS p0 p1)) bk gate nu) := by
  refine xM.of cX4_open 4 (some .int) RX4 (by decide +kernel) rfl rfl (Nat.le_of_ble_eq_true rfl) ?_
  intro p e s m below meth c A ls hx hb hr hts hown hlocks hml hin hK hA hP hD hS hl
  have hl : lv_has ls 4 [(0, .ref b), (1, .int p0), (2, .int p1)] := hl
  have hinX4 : ∀ w ∈ wsX40, w ∈ wsX4_open := fun _ h => List.mem_cons_of_mem _ (List.mem_append_right _ h)
  refine lv_aload_n hx hb dX4_open_0 rfl (lv_at hl 0 rfl) ?_
  refine lv_iconst (v := 0) hx hb dX4_open_1 (by decide) ?_
  refine va_put (D := D) (ci := 4) (v := .int 0) (ty := .int) (C := RX4) (T := TX4) (N := 8) hx hb hts hinX4 tyX4 tyX4_ok nmX4 hown hK.1 hP hD hS 0 rfl rfl 0 (by decide) (hts (.fieldLink RX4 26 "LoafMarksModel" "thrown" "I") (List.mem_of_getElem? (i := 1) rfl)) (fun _ h9 => h9) rfl (by decide +kernel) rfl rfl (Nat.le_of_ble_eq_true rfl) dX4_open_2 (fun H locs hP hD hS => ?_)
  have hP : va_P D vwCl (mw cy b am 0 nS nB st bk gate nu) H := hP
  have hD : va_D A (mw cy b am 0 nS nB st bk gate nu) := hD
  refine lv_iload_n hx hb dX4_open_5 rfl (lv_at hl 1 rfl) ?_
  refine lv_iconst (v := 0) hx hb dX4_open_6 (by decide) ?_
  refine lv_sipush (v := 900) hx hb dX4_open_7 (by decide) ?_
  refine xcS (As := [.int p0, .int 0, .int 900]) (rest := []) ⟨hx, hb, hml, hown, hts⟩ (c_X4_isIn l D cy p0 0 900) (va_cwS 3 hts gX4_open_X4_isIn rfl rfl rfl (by decide +kernel) ⟨Nat.le_of_ble_eq_true rfl, Nat.le_of_ble_eq_true rfl⟩) hK hP hD hS hA (xE_nil) rfl hl.1 rfl (Nat.le_of_ble_eq_true rfl) dX4_open_10 ⟨Nat.le_of_ble_eq_true rfl, Nat.le_of_ble_eq_true rfl⟩ (fun _ H locs _ hP hD hS => ?_)
  have hP : va_P D vwCl (mw cy b am 0 nS nB st bk gate nu) H := hP
  have hD : va_D A (mw cy b am 0 nS nB st bk gate nu) := hD
  refine W.eq (g2 := F0 m 13 ls [.int (wi p0 0 900)]) rfl ?_
  refine lv_if_eq (tgt := 26) hx hb dX4_open_13 (by decide) (fun z => absurd z (wi_ok h1)) (fun _ => ?_)
  refine lv_iload_n hx hb dX4_open_16 rfl (lv_at hl 2 rfl) ?_
  refine lv_iconst (v := 0) hx hb dX4_open_17 (by decide) ?_
  refine lv_bipush (v := 50) hx hb dX4_open_18 (by decide) ?_
  refine xcS (As := [.int p1, .int 0, .int 50]) (rest := []) ⟨hx, hb, hml, hown, hts⟩ (c_X4_isIn l D cy p1 0 50) (va_cwS 3 hts gX4_open_X4_isIn rfl rfl rfl (by decide +kernel) ⟨Nat.le_of_ble_eq_true rfl, Nat.le_of_ble_eq_true rfl⟩) hK hP hD hS hA (xE_nil) rfl hl.1 rfl (Nat.le_of_ble_eq_true rfl) dX4_open_20 ⟨Nat.le_of_ble_eq_true rfl, Nat.le_of_ble_eq_true rfl⟩ (fun _ H locs _ hP hD hS => ?_)
  have hP : va_P D vwCl (mw cy b am 0 nS nB st bk gate nu) H := hP
  have hD : va_D A (mw cy b am 0 nS nB st bk gate nu) := hD
  refine W.eq (g2 := F0 m 23 ls [.int (wi p1 0 50)]) rfl ?_
  refine lv_if_ne (tgt := 32) hx hb dX4_open_23 (by decide) (fun _ => ?_) (fun z => absurd z (wi_ok h2))
  refine lv_aload_n hx hb dX4_open_32 rfl (lv_at hl 0 rfl) ?_
  refine va_get (D := D) (ci := 4) (v := .int (nI nS)) (C := RX4) (T := TX4) (N := 8) hx hb hts hinX4 hown hK.1 hP 0 rfl rfl 1 (by decide) (hts (.fieldLink RX4 29 "LoafMarksModel" "stores" "I") (List.mem_of_getElem? (i := 2) rfl)) (fun _ h9 => h9) rfl dX4_open_33 ?_
  refine lv_iconst (v := 4) hx hb dX4_open_36 (by decide) ?_
  refine lv_icmp_ne (tgt := 46) hx hb dX4_open_37 (by decide) (fun _ => ?_) (fun z => absurd z (fun z => absurd ((nI_eq (a := nS) (b := 4) (by omega) (by decide)).mp z) (by omega)))
  refine lv_iconst (v := 3) hx hb dX4_open_46 (by decide) ?_
  refine va_newa (atype := .int) (N' := 3) (a0 := (3, .inl (fun _ => 0))) hx hb (hts (.arrayClass .int) (List.mem_of_getElem? (i := 3) rfl)) rfl hK.1 hP hD hS hA (fun _ => rfl) (by decide) (by decide) (by decide) (Nat.le_of_ble_eq_true rfl) (Nat.le_of_ble_eq_true rfl) dX4_open_47 (fun q47 cA H hK1 hP hD hS => ?_)
  obtain rfl : cA = cy 0 := x_cA hK.1 hK1 (i := 0) rfl rfl
  have hP : va_P D vwCl ((mw cy b am 0 nS nB st bk gate nu) ++ [(q47, .inl (cy 0, 3, .inl ((fun _ => 0))))]) H := hP
  have hD : va_D A ((mw cy b am 0 nS nB st bk gate nu) ++ [(q47, .inl (cy 0, 3, .inl ((fun _ => 0))))]) := hD
  refine lv_dup hx hb dX4_open_49 rfl ?_
  refine lv_iconst (v := 0) hx hb dX4_open_50 (by decide) ?_
  refine lv_iload_n hx hb dX4_open_51 rfl (lv_at hl 1 rfl) ?_
  refine xiast hx hb hK hP hD hS 5 rfl 0 (by decide) (by decide) (by decide) dX4_open_52 (fun H locs hP hD hS => ?_)
  have hP : va_P D vwCl ((mw cy b am 0 nS nB st bk gate nu) ++ [(q47, .inl (cy 0, 3, .inl (upd (fun _ => 0) 0 p0)))]) H := hP
  have hD : va_D A ((mw cy b am 0 nS nB st bk gate nu) ++ [(q47, .inl (cy 0, 3, .inl (upd (fun _ => 0) 0 p0)))]) := hD
  refine lv_dup hx hb dX4_open_53 rfl ?_
  refine lv_iconst (v := 1) hx hb dX4_open_54 (by decide) ?_
  refine lv_iload_n hx hb dX4_open_55 rfl (lv_at hl 2 rfl) ?_
  refine xiast hx hb hK hP hD hS 5 rfl 1 (by decide) (by decide) (by decide) dX4_open_56 (fun H locs hP hD hS => ?_)
  have hP : va_P D vwCl ((mw cy b am 0 nS nB st bk gate nu) ++ [(q47, .inl (cy 0, 3, .inl (upd (upd (fun _ => 0) 0 p0) 1 p1)))]) H := hP
  have hD : va_D A ((mw cy b am 0 nS nB st bk gate nu) ++ [(q47, .inl (cy 0, 3, .inl (upd (upd (fun _ => 0) 0 p0) 1 p1)))]) := hD
  refine lv_dup hx hb dX4_open_57 rfl ?_
  refine lv_iconst (v := 2) hx hb dX4_open_58 (by decide) ?_
  refine lv_iconst (v := 0) hx hb dX4_open_59 (by decide) ?_
  refine xiast hx hb hK hP hD hS 5 rfl 2 (by decide) (by decide) (by decide) dX4_open_60 (fun H locs hP hD hS => ?_)
  have hP : va_P D vwCl ((mw cy b am 0 nS nB st bk gate nu) ++ [(q47, .inl (cy 0, 3, .inl (upd (upd (upd (fun _ => 0) 0 p0) 1 p1) 2 0)))]) H := hP
  have hD : va_D A ((mw cy b am 0 nS nB st bk gate nu) ++ [(q47, .inl (cy 0, 3, .inl (upd (upd (upd (fun _ => 0) 0 p0) 1 p1) 2 0)))]) := hD
  refine lv_astore_n (lv' := [(3, .ref q47), (0, .ref b), (1, .int p0), (2, .int p1)]) hx hb dX4_open_61 rfl hl (by decide) rfl (fun ls hl => ?_)
  refine lv_aload_n hx hb dX4_open_62 rfl (lv_at hl 0 rfl) ?_
  refine lv_iconst (v := 0) hx hb dX4_open_63 (by decide) ?_
  refine lv_aload_n hx hb dX4_open_64 rfl (lv_at hl 1 rfl) ?_
  refine va_get (D := D) (ci := 4) (v := .ref (am 1)) (C := RX4) (T := TX4) (N := 8) hx hb hts hinX4 hown hK.1 hP 0 rfl rfl 5 (by decide) (hts (.fieldLink RX4 17 "LoafMarksModel" "barns" "[I") (List.mem_of_getElem? (i := 4) rfl)) (fun _ h9 => h9) rfl dX4_open_65 ?_
  refine lv_iconst (v := 3) hx hb dX4_open_68 (by decide) ?_
  refine lv_aload_n hx hb dX4_open_69 rfl (lv_at hl 1 rfl) ?_
  refine va_get (D := D) (ci := 4) (v := .int (nI nS)) (C := RX4) (T := TX4) (N := 8) hx hb hts hinX4 hown hK.1 hP 0 rfl rfl 1 (by decide) (hts (.fieldLink RX4 29 "LoafMarksModel" "stores" "I") (List.mem_of_getElem? (i := 2) rfl)) (fun _ h9 => h9) rfl dX4_open_70 ?_
  refine lv_imul hx hb dX4_open_73 ?_
  refine lv_iconst (v := 3) hx hb dX4_open_74 (by decide) ?_
  refine W.eq (g2 := F0 m 75 ls [.int 3, .int (nI (3 * nS)), .ref (am 1), .int 0, .ref q47]) (by rw [show (3 : Int32) * nI nS = nI (3 * nS) from nI_mul 3 nS]) ?_
  refine va_copyi hx hb (hml.trans hl.1.symm) hown (hts (.methodLink RX4 43 arraycopyName) (List.mem_of_getElem? (i := 5) rfl)) (hts (.native arraycopyName) (List.mem_of_getElem? (i := 6) rfl)) (hts (.static arraycopyName) (List.mem_of_getElem? (i := 7) rfl)) (hts (.initialized "java/lang/System") (List.mem_of_getElem? (i := 8) rfl)) hK.1 hP hD hS 5 2 0 0 rfl rfl rfl rfl rfl (by decide) (nI_pos (by omega)) (by decide) (by decide) (by rw [nI_clamp (by omega)]; show 3 * nS + 3 ≤ 12; omega) (fun _ _ => rfl) (Nat.le_of_ble_eq_true rfl) (Nat.le_of_ble_eq_true rfl) dX4_open_75 (fun H locs hP hD hS => ?_)
  have eC : va_cpy (upd (upd (upd (fun _ => 0) 0 p0) 1 p1) 2 0) (fS st) (Int32.toNatClampNeg 0) ((nI (3 * nS)).toNatClampNeg) (Int32.toNatClampNeg 3) = fS (va_up st nS (newS p0 p1)) := by rw [nI_clamp (by omega)]; exact cpyS (fun k hk => by rcases (show k = 0 ∨ k = 1 ∨ k = 2 by omega) with rfl | rfl | rfl <;> rfl)
  have hP := ((xP_app (w1 := (mw cy b am 0 nS nB st bk gate nu).set 2 (am 1, .inl (cy 0, 12, .inl (va_cpy (upd (upd (upd (fun _ => 0) 0 p0) 1 p1) 2 0) (fS st) (Int32.toNatClampNeg 0) ((nI (3 * nS)).toNatClampNeg) (Int32.toNatClampNeg 3)))))).mp hP).1
  have hD := mD_app (w1 := (mw cy b am 0 nS nB st bk gate nu).set 2 (am 1, .inl (cy 0, 12, .inl (va_cpy (upd (upd (upd (fun _ => 0) 0 p0) 1 p1) 2 0) (fS st) (Int32.toNatClampNeg 0) ((nI (3 * nS)).toNatClampNeg) (Int32.toNatClampNeg 3))))) hD
  rw [eC] at hP hD
  have hP : va_P D vwCl (mw cy b am 0 nS nB (va_up st nS (newS p0 p1)) bk gate nu) H := hP
  have hD : va_D A (mw cy b am 0 nS nB (va_up st nS (newS p0 p1)) bk gate nu) := hD
  refine lv_aload_n hx hb dX4_open_78 rfl (lv_at hl 1 rfl) ?_
  refine lv_dup hx hb dX4_open_79 rfl ?_
  refine va_get (D := D) (ci := 4) (v := .int (nI nS)) (C := RX4) (T := TX4) (N := 8) hx hb hts hinX4 hown hK.1 hP 0 rfl rfl 1 (by decide) (hts (.fieldLink RX4 29 "LoafMarksModel" "stores" "I") (List.mem_of_getElem? (i := 2) rfl)) (fun _ h9 => h9) rfl dX4_open_80 ?_
  refine lv_iconst (v := 1) hx hb dX4_open_83 (by decide) ?_
  refine lv_iadd hx hb dX4_open_84 ?_
  refine W.eq (g2 := F0 m 85 ls [.int (nI (nS + 1)), .ref b]) (by rw [nI_1]) ?_
  refine va_put (D := D) (ci := 4) (v := .int (nI (nS + 1))) (ty := .int) (C := RX4) (T := TX4) (N := 8) hx hb hts hinX4 tyX4 tyX4_ok nmX4 hown hK.1 hP hD hS 0 rfl rfl 1 (by decide) (hts (.fieldLink RX4 29 "LoafMarksModel" "stores" "I") (List.mem_of_getElem? (i := 2) rfl)) (fun _ h9 => h9) rfl (by decide +kernel) rfl rfl (Nat.le_of_ble_eq_true rfl) dX4_open_85 (fun H locs hP hD hS => ?_)
  have hP : va_P D vwCl (mw cy b am 0 (nS + 1) nB (va_up st nS (newS p0 p1)) bk gate nu) H := hP
  have hD : va_D A (mw cy b am 0 (nS + 1) nB (va_up st nS (newS p0 p1)) bk gate nu) := hD
  refine lv_aload_n hx hb dX4_open_88 rfl (lv_at hl 1 rfl) ?_
  refine va_get (D := D) (ci := 4) (v := .int (nI (nS + 1))) (C := RX4) (T := TX4) (N := 8) hx hb hts hinX4 hown hK.1 hP 0 rfl rfl 1 (by decide) (hts (.fieldLink RX4 29 "LoafMarksModel" "stores" "I") (List.mem_of_getElem? (i := 2) rfl)) (fun _ h9 => h9) rfl dX4_open_89 ?_
  refine lv_iconst (v := 1) hx hb dX4_open_92 (by decide) ?_
  refine lv_isub hx hb dX4_open_93 ?_
  exact xri () hx hb hr hlocks hS (Nat.le_of_ble_eq_true rfl) (Nat.le_of_ble_eq_true rfl) dX4_open_94 hP hD (by show some (Value.int (nI nS)) = some (Value.int (nI (nS + 1) - 1)); rw [nI_pred]) trivial

set_option maxHeartbeats 4000000 in
set_option maxRecDepth 100000 in
/-- open, refused -/
theorem c_X4_open_1a (l : Launch) (D : va_G) (cy : Nat → ClassId) (b : Nat) (am : Nat → Nat) (thr : Int32) (nS nB : Nat) (st bk : Nat → Iu) (gate nu : Iu) (p0 p1 : Int32) (h1 : ¬ ((0 : Int32) ≤ p0 ∧ p0 ≤ 900)) : xM l D cy yX4_open wsX4_open ({ frames := 2, cells := 1, slots := 3, locals := 60 } : Room) [.ref b, .int p0, .int p1] (mw cy b am thr nS nB st bk gate nu) (fun _ : Unit => some (.int 0)) (fun _ => True) (fun _ => mw cy b am 1 nS nB st bk gate nu) := by
  refine xM.of cX4_open 4 (some .int) RX4 (by decide +kernel) rfl rfl (Nat.le_of_ble_eq_true rfl) ?_
  intro p e s m below meth c A ls hx hb hr hts hown hlocks hml hin hK hA hP hD hS hl
  have hl : lv_has ls 4 [(0, .ref b), (1, .int p0), (2, .int p1)] := hl
  have hinX4 : ∀ w ∈ wsX40, w ∈ wsX4_open := fun _ h => List.mem_cons_of_mem _ (List.mem_append_right _ h)
  refine lv_aload_n hx hb dX4_open_0 rfl (lv_at hl 0 rfl) ?_
  refine lv_iconst (v := 0) hx hb dX4_open_1 (by decide) ?_
  refine va_put (D := D) (ci := 4) (v := .int 0) (ty := .int) (C := RX4) (T := TX4) (N := 8) hx hb hts hinX4 tyX4 tyX4_ok nmX4 hown hK.1 hP hD hS 0 rfl rfl 0 (by decide) (hts (.fieldLink RX4 26 "LoafMarksModel" "thrown" "I") (List.mem_of_getElem? (i := 1) rfl)) (fun _ h9 => h9) rfl (by decide +kernel) rfl rfl (Nat.le_of_ble_eq_true rfl) dX4_open_2 (fun H locs hP hD hS => ?_)
  have hP : va_P D vwCl (mw cy b am 0 nS nB st bk gate nu) H := hP
  have hD : va_D A (mw cy b am 0 nS nB st bk gate nu) := hD
  refine lv_iload_n hx hb dX4_open_5 rfl (lv_at hl 1 rfl) ?_
  refine lv_iconst (v := 0) hx hb dX4_open_6 (by decide) ?_
  refine lv_sipush (v := 900) hx hb dX4_open_7 (by decide) ?_
  refine xcS (As := [.int p0, .int 0, .int 900]) (rest := []) ⟨hx, hb, hml, hown, hts⟩ (c_X4_isIn l D cy p0 0 900) (va_cwS 3 hts gX4_open_X4_isIn rfl rfl rfl (by decide +kernel) ⟨Nat.le_of_ble_eq_true rfl, Nat.le_of_ble_eq_true rfl⟩) hK hP hD hS hA (xE_nil) rfl hl.1 rfl (Nat.le_of_ble_eq_true rfl) dX4_open_10 ⟨Nat.le_of_ble_eq_true rfl, Nat.le_of_ble_eq_true rfl⟩ (fun _ H locs _ hP hD hS => ?_)
  have hP : va_P D vwCl (mw cy b am 0 nS nB st bk gate nu) H := hP
  have hD : va_D A (mw cy b am 0 nS nB st bk gate nu) := hD
  refine W.eq (g2 := F0 m 13 ls [.int (wi p0 0 900)]) rfl ?_
  refine lv_if_eq (tgt := 26) hx hb dX4_open_13 (by decide) (fun _ => ?_) (fun z => absurd (wi_no h1) z)
  refine lv_aload_n hx hb dX4_open_26 rfl (lv_at hl 0 rfl) ?_
  refine lv_iconst (v := 1) hx hb dX4_open_27 (by decide) ?_
  refine xcV (As := [.int 1]) (rest := []) ⟨hx, hb, hml, hown, hts⟩ (c_X4_fail l D cy b am 0 nS nB st bk gate nu 1) (cwV 1 hts gX4_open_X4_fail rfl rfl rfl (by decide +kernel) ⟨Nat.le_of_ble_eq_true rfl, Nat.le_of_ble_eq_true rfl⟩) hK hP hD hS hA rfl rfl rfl (xE_all) rfl hl.1 rfl (Nat.le_of_ble_eq_true rfl) dX4_open_28 ⟨Nat.le_of_ble_eq_true rfl, Nat.le_of_ble_eq_true rfl⟩ (fun _ H locs _ hP hD hS => ?_)
  have hP : va_P D vwCl (mw cy b am 1 nS nB st bk gate nu) H := hP
  have hD : va_D A (mw cy b am 1 nS nB st bk gate nu) := hD
  refine W.eq (g2 := F0 m 31 ls [.int 0]) rfl ?_
  exact xri () hx hb hr hlocks hS (Nat.le_of_ble_eq_true rfl) (Nat.le_of_ble_eq_true rfl) dX4_open_31 hP hD rfl trivial

set_option maxHeartbeats 4000000 in
set_option maxRecDepth 100000 in
/-- open, refused -/
theorem c_X4_open_1b (l : Launch) (D : va_G) (cy : Nat → ClassId) (b : Nat) (am : Nat → Nat) (thr : Int32) (nS nB : Nat) (st bk : Nat → Iu) (gate nu : Iu) (p0 p1 : Int32) (h1 : (0 : Int32) ≤ p0 ∧ p0 ≤ 900) (h2 : ¬ ((0 : Int32) ≤ p1 ∧ p1 ≤ 50)) : xM l D cy yX4_open wsX4_open ({ frames := 2, cells := 1, slots := 3, locals := 60 } : Room) [.ref b, .int p0, .int p1] (mw cy b am thr nS nB st bk gate nu) (fun _ : Unit => some (.int 0)) (fun _ => True) (fun _ => mw cy b am 1 nS nB st bk gate nu) := by
  refine xM.of cX4_open 4 (some .int) RX4 (by decide +kernel) rfl rfl (Nat.le_of_ble_eq_true rfl) ?_
  intro p e s m below meth c A ls hx hb hr hts hown hlocks hml hin hK hA hP hD hS hl
  have hl : lv_has ls 4 [(0, .ref b), (1, .int p0), (2, .int p1)] := hl
  have hinX4 : ∀ w ∈ wsX40, w ∈ wsX4_open := fun _ h => List.mem_cons_of_mem _ (List.mem_append_right _ h)
  refine lv_aload_n hx hb dX4_open_0 rfl (lv_at hl 0 rfl) ?_
  refine lv_iconst (v := 0) hx hb dX4_open_1 (by decide) ?_
  refine va_put (D := D) (ci := 4) (v := .int 0) (ty := .int) (C := RX4) (T := TX4) (N := 8) hx hb hts hinX4 tyX4 tyX4_ok nmX4 hown hK.1 hP hD hS 0 rfl rfl 0 (by decide) (hts (.fieldLink RX4 26 "LoafMarksModel" "thrown" "I") (List.mem_of_getElem? (i := 1) rfl)) (fun _ h9 => h9) rfl (by decide +kernel) rfl rfl (Nat.le_of_ble_eq_true rfl) dX4_open_2 (fun H locs hP hD hS => ?_)
  have hP : va_P D vwCl (mw cy b am 0 nS nB st bk gate nu) H := hP
  have hD : va_D A (mw cy b am 0 nS nB st bk gate nu) := hD
  refine lv_iload_n hx hb dX4_open_5 rfl (lv_at hl 1 rfl) ?_
  refine lv_iconst (v := 0) hx hb dX4_open_6 (by decide) ?_
  refine lv_sipush (v := 900) hx hb dX4_open_7 (by decide) ?_
  refine xcS (As := [.int p0, .int 0, .int 900]) (rest := []) ⟨hx, hb, hml, hown, hts⟩ (c_X4_isIn l D cy p0 0 900) (va_cwS 3 hts gX4_open_X4_isIn rfl rfl rfl (by decide +kernel) ⟨Nat.le_of_ble_eq_true rfl, Nat.le_of_ble_eq_true rfl⟩) hK hP hD hS hA (xE_nil) rfl hl.1 rfl (Nat.le_of_ble_eq_true rfl) dX4_open_10 ⟨Nat.le_of_ble_eq_true rfl, Nat.le_of_ble_eq_true rfl⟩ (fun _ H locs _ hP hD hS => ?_)
  have hP : va_P D vwCl (mw cy b am 0 nS nB st bk gate nu) H := hP
  have hD : va_D A (mw cy b am 0 nS nB st bk gate nu) := hD
  refine W.eq (g2 := F0 m 13 ls [.int (wi p0 0 900)]) rfl ?_
  refine lv_if_eq (tgt := 26) hx hb dX4_open_13 (by decide) (fun z => absurd z (wi_ok h1)) (fun _ => ?_)
  refine lv_iload_n hx hb dX4_open_16 rfl (lv_at hl 2 rfl) ?_
  refine lv_iconst (v := 0) hx hb dX4_open_17 (by decide) ?_
  refine lv_bipush (v := 50) hx hb dX4_open_18 (by decide) ?_
  refine xcS (As := [.int p1, .int 0, .int 50]) (rest := []) ⟨hx, hb, hml, hown, hts⟩ (c_X4_isIn l D cy p1 0 50) (va_cwS 3 hts gX4_open_X4_isIn rfl rfl rfl (by decide +kernel) ⟨Nat.le_of_ble_eq_true rfl, Nat.le_of_ble_eq_true rfl⟩) hK hP hD hS hA (xE_nil) rfl hl.1 rfl (Nat.le_of_ble_eq_true rfl) dX4_open_20 ⟨Nat.le_of_ble_eq_true rfl, Nat.le_of_ble_eq_true rfl⟩ (fun _ H locs _ hP hD hS => ?_)
  have hP : va_P D vwCl (mw cy b am 0 nS nB st bk gate nu) H := hP
  have hD : va_D A (mw cy b am 0 nS nB st bk gate nu) := hD
  refine W.eq (g2 := F0 m 23 ls [.int (wi p1 0 50)]) rfl ?_
  refine lv_if_ne (tgt := 32) hx hb dX4_open_23 (by decide) (fun z => absurd (wi_no h2) z) (fun _ => ?_)
  refine lv_aload_n hx hb dX4_open_26 rfl (lv_at hl 0 rfl) ?_
  refine lv_iconst (v := 1) hx hb dX4_open_27 (by decide) ?_
  refine xcV (As := [.int 1]) (rest := []) ⟨hx, hb, hml, hown, hts⟩ (c_X4_fail l D cy b am 0 nS nB st bk gate nu 1) (cwV 1 hts gX4_open_X4_fail rfl rfl rfl (by decide +kernel) ⟨Nat.le_of_ble_eq_true rfl, Nat.le_of_ble_eq_true rfl⟩) hK hP hD hS hA rfl rfl rfl (xE_all) rfl hl.1 rfl (Nat.le_of_ble_eq_true rfl) dX4_open_28 ⟨Nat.le_of_ble_eq_true rfl, Nat.le_of_ble_eq_true rfl⟩ (fun _ H locs _ hP hD hS => ?_)
  have hP : va_P D vwCl (mw cy b am 1 nS nB st bk gate nu) H := hP
  have hD : va_D A (mw cy b am 1 nS nB st bk gate nu) := hD
  refine W.eq (g2 := F0 m 31 ls [.int 0]) rfl ?_
  exact xri () hx hb hr hlocks hS (Nat.le_of_ble_eq_true rfl) (Nat.le_of_ble_eq_true rfl) dX4_open_31 hP hD rfl trivial

set_option maxHeartbeats 4000000 in
set_option maxRecDepth 100000 in
/-- open, refused -/
theorem c_X4_open_2 (l : Launch) (D : va_G) (cy : Nat → ClassId) (b : Nat) (am : Nat → Nat) (thr : Int32) (nS nB : Nat) (st bk : Nat → Iu) (gate nu : Iu) (p0 p1 : Int32) (h1 : (0 : Int32) ≤ p0 ∧ p0 ≤ 900) (h2 : (0 : Int32) ≤ p1 ∧ p1 ≤ 50) (hfull : nS = 4) : xM l D cy yX4_open wsX4_open ({ frames := 2, cells := 1, slots := 3, locals := 60 } : Room) [.ref b, .int p0, .int p1] (mw cy b am thr nS nB st bk gate nu) (fun _ : Unit => some (.int 0)) (fun _ => True) (fun _ => mw cy b am 2 nS nB st bk gate nu) := by
  refine xM.of cX4_open 4 (some .int) RX4 (by decide +kernel) rfl rfl (Nat.le_of_ble_eq_true rfl) ?_
  intro p e s m below meth c A ls hx hb hr hts hown hlocks hml hin hK hA hP hD hS hl
  have hl : lv_has ls 4 [(0, .ref b), (1, .int p0), (2, .int p1)] := hl
  have hinX4 : ∀ w ∈ wsX40, w ∈ wsX4_open := fun _ h => List.mem_cons_of_mem _ (List.mem_append_right _ h)
  refine lv_aload_n hx hb dX4_open_0 rfl (lv_at hl 0 rfl) ?_
  refine lv_iconst (v := 0) hx hb dX4_open_1 (by decide) ?_
  refine va_put (D := D) (ci := 4) (v := .int 0) (ty := .int) (C := RX4) (T := TX4) (N := 8) hx hb hts hinX4 tyX4 tyX4_ok nmX4 hown hK.1 hP hD hS 0 rfl rfl 0 (by decide) (hts (.fieldLink RX4 26 "LoafMarksModel" "thrown" "I") (List.mem_of_getElem? (i := 1) rfl)) (fun _ h9 => h9) rfl (by decide +kernel) rfl rfl (Nat.le_of_ble_eq_true rfl) dX4_open_2 (fun H locs hP hD hS => ?_)
  have hP : va_P D vwCl (mw cy b am 0 nS nB st bk gate nu) H := hP
  have hD : va_D A (mw cy b am 0 nS nB st bk gate nu) := hD
  refine lv_iload_n hx hb dX4_open_5 rfl (lv_at hl 1 rfl) ?_
  refine lv_iconst (v := 0) hx hb dX4_open_6 (by decide) ?_
  refine lv_sipush (v := 900) hx hb dX4_open_7 (by decide) ?_
  refine xcS (As := [.int p0, .int 0, .int 900]) (rest := []) ⟨hx, hb, hml, hown, hts⟩ (c_X4_isIn l D cy p0 0 900) (va_cwS 3 hts gX4_open_X4_isIn rfl rfl rfl (by decide +kernel) ⟨Nat.le_of_ble_eq_true rfl, Nat.le_of_ble_eq_true rfl⟩) hK hP hD hS hA (xE_nil) rfl hl.1 rfl (Nat.le_of_ble_eq_true rfl) dX4_open_10 ⟨Nat.le_of_ble_eq_true rfl, Nat.le_of_ble_eq_true rfl⟩ (fun _ H locs _ hP hD hS => ?_)
  have hP : va_P D vwCl (mw cy b am 0 nS nB st bk gate nu) H := hP
  have hD : va_D A (mw cy b am 0 nS nB st bk gate nu) := hD
  refine W.eq (g2 := F0 m 13 ls [.int (wi p0 0 900)]) rfl ?_
  refine lv_if_eq (tgt := 26) hx hb dX4_open_13 (by decide) (fun z => absurd z (wi_ok h1)) (fun _ => ?_)
  refine lv_iload_n hx hb dX4_open_16 rfl (lv_at hl 2 rfl) ?_
  refine lv_iconst (v := 0) hx hb dX4_open_17 (by decide) ?_
  refine lv_bipush (v := 50) hx hb dX4_open_18 (by decide) ?_
  refine xcS (As := [.int p1, .int 0, .int 50]) (rest := []) ⟨hx, hb, hml, hown, hts⟩ (c_X4_isIn l D cy p1 0 50) (va_cwS 3 hts gX4_open_X4_isIn rfl rfl rfl (by decide +kernel) ⟨Nat.le_of_ble_eq_true rfl, Nat.le_of_ble_eq_true rfl⟩) hK hP hD hS hA (xE_nil) rfl hl.1 rfl (Nat.le_of_ble_eq_true rfl) dX4_open_20 ⟨Nat.le_of_ble_eq_true rfl, Nat.le_of_ble_eq_true rfl⟩ (fun _ H locs _ hP hD hS => ?_)
  have hP : va_P D vwCl (mw cy b am 0 nS nB st bk gate nu) H := hP
  have hD : va_D A (mw cy b am 0 nS nB st bk gate nu) := hD
  refine W.eq (g2 := F0 m 23 ls [.int (wi p1 0 50)]) rfl ?_
  refine lv_if_ne (tgt := 32) hx hb dX4_open_23 (by decide) (fun _ => ?_) (fun z => absurd z (wi_ok h2))
  refine lv_aload_n hx hb dX4_open_32 rfl (lv_at hl 0 rfl) ?_
  refine va_get (D := D) (ci := 4) (v := .int (nI nS)) (C := RX4) (T := TX4) (N := 8) hx hb hts hinX4 hown hK.1 hP 0 rfl rfl 1 (by decide) (hts (.fieldLink RX4 29 "LoafMarksModel" "stores" "I") (List.mem_of_getElem? (i := 2) rfl)) (fun _ h9 => h9) rfl dX4_open_33 ?_
  refine lv_iconst (v := 4) hx hb dX4_open_36 (by decide) ?_
  refine lv_icmp_ne (tgt := 46) hx hb dX4_open_37 (by decide) (fun z => absurd (by rw [hfull]; rfl) z) (fun _ => ?_)
  refine lv_aload_n hx hb dX4_open_40 rfl (lv_at hl 0 rfl) ?_
  refine lv_iconst (v := 2) hx hb dX4_open_41 (by decide) ?_
  refine xcV (As := [.int 2]) (rest := []) ⟨hx, hb, hml, hown, hts⟩ (c_X4_fail l D cy b am 0 nS nB st bk gate nu 2) (cwV 1 hts gX4_open_X4_fail rfl rfl rfl (by decide +kernel) ⟨Nat.le_of_ble_eq_true rfl, Nat.le_of_ble_eq_true rfl⟩) hK hP hD hS hA rfl rfl rfl (xE_all) rfl hl.1 rfl (Nat.le_of_ble_eq_true rfl) dX4_open_42 ⟨Nat.le_of_ble_eq_true rfl, Nat.le_of_ble_eq_true rfl⟩ (fun _ H locs _ hP hD hS => ?_)
  have hP : va_P D vwCl (mw cy b am 2 nS nB st bk gate nu) H := hP
  have hD : va_D A (mw cy b am 2 nS nB st bk gate nu) := hD
  refine W.eq (g2 := F0 m 45 ls [.int 0]) rfl ?_
  exact xri () hx hb hr hlocks hS (Nat.le_of_ble_eq_true rfl) (Nat.le_of_ble_eq_true rfl) dX4_open_45 hP hD rfl trivial

set_option maxHeartbeats 4000000 in
set_option maxRecDepth 100000 in
/-- smoke -/
theorem c_X4_smoke (l : Launch) (D : va_G) (cy : Nat → ClassId) (b : Nat) (am : Nat → Nat) (thr : Int32) (nS nB : Nat) (st bk : Nat → Iu) (gate nu : Iu) (i : Nat) (hi : i < nS) (hcS : nS ≤ 4) : xM l D cy yX4_smoke wsX4_smoke ({ frames := 2, cells := 0, slots := 0, locals := 60 } : Room) [.ref b, .int (nI i)] (mw cy b am thr nS nB st bk gate nu) (fun _ : Unit => some (.int (st i 1))) (fun _ => True) (fun _ => mw cy b am 0 nS nB (va_up st i (sSmoke (st i))) bk gate nu) := by
  refine xM.of cX4_smoke 3 (some .int) RX4 (by decide +kernel) rfl rfl (Nat.le_of_ble_eq_true rfl) ?_
  intro p e s m below meth c A ls hx hb hr hts hown hlocks hml hin hK hA hP hD hS hl
  have hl : lv_has ls 3 [(0, .ref b), (1, .int (nI i))] := hl
  have hinX4 : ∀ w ∈ wsX40, w ∈ wsX4_smoke := fun _ h => List.mem_cons_of_mem _ (List.mem_append_right _ h)
  refine lv_aload_n hx hb dX4_smoke_0 rfl (lv_at hl 0 rfl) ?_
  refine lv_iconst (v := 0) hx hb dX4_smoke_1 (by decide) ?_
  refine va_put (D := D) (ci := 4) (v := .int 0) (ty := .int) (C := RX4) (T := TX4) (N := 8) hx hb hts hinX4 tyX4 tyX4_ok nmX4 hown hK.1 hP hD hS 0 rfl rfl 0 (by decide) (hts (.fieldLink RX4 26 "LoafMarksModel" "thrown" "I") (List.mem_of_getElem? (i := 1) rfl)) (fun _ h9 => h9) rfl (by decide +kernel) rfl rfl (Nat.le_of_ble_eq_true rfl) dX4_smoke_2 (fun H locs hP hD hS => ?_)
  have hP : va_P D vwCl (mw cy b am 0 nS nB st bk gate nu) H := hP
  have hD : va_D A (mw cy b am 0 nS nB st bk gate nu) := hD
  refine lv_aload_n hx hb dX4_smoke_5 rfl (lv_at hl 0 rfl) ?_
  refine lv_iload_n hx hb dX4_smoke_6 rfl (lv_at hl 1 rfl) ?_
  refine xcV (As := [.int (nI i)]) (rest := []) ⟨hx, hb, hml, hown, hts⟩ (c_X4_isStore l D cy b am 0 nS nB st bk gate nu (nI i)) (cwV 1 hts gX4_smoke_X4_isStore rfl rfl rfl (by decide +kernel) ⟨Nat.le_of_ble_eq_true rfl, Nat.le_of_ble_eq_true rfl⟩) hK hP hD hS hA rfl rfl rfl (xE_all) rfl hl.1 rfl (Nat.le_of_ble_eq_true rfl) dX4_smoke_7 ⟨Nat.le_of_ble_eq_true rfl, Nat.le_of_ble_eq_true rfl⟩ (fun _ H locs _ hP hD hS => ?_)
  have hP : va_P D vwCl (mw cy b am 0 nS nB st bk gate nu) H := hP
  have hD : va_D A (mw cy b am 0 nS nB st bk gate nu) := hD
  refine W.eq (g2 := F0 m 10 ls [.int (inN (nI i) nS)]) rfl ?_
  refine lv_if_ne (tgt := 19) hx hb dX4_smoke_10 (by decide) (fun _ => ?_) (fun z => absurd z (inN_ok hi (by omega)))
  refine lv_aload_n hx hb dX4_smoke_19 rfl (lv_at hl 0 rfl) ?_
  refine lv_iload_n hx hb dX4_smoke_20 rfl (lv_at hl 1 rfl) ?_
  refine lv_iconst (v := 1) hx hb dX4_smoke_21 (by decide) ?_
  refine xcV (As := [.int (nI i), .int 1]) (rest := []) ⟨hx, hb, hml, hown, hts⟩ (c_X4_ba l D cy b am 0 nS nB st bk gate nu i 1 (by omega) (by omega)) (cwV 2 hts gX4_smoke_X4_ba rfl rfl rfl (by decide +kernel) ⟨Nat.le_of_ble_eq_true rfl, Nat.le_of_ble_eq_true rfl⟩) hK hP hD hS hA rfl rfl rfl (xE_all) rfl hl.1 rfl (Nat.le_of_ble_eq_true rfl) dX4_smoke_22 ⟨Nat.le_of_ble_eq_true rfl, Nat.le_of_ble_eq_true rfl⟩ (fun _ H locs _ hP hD hS => ?_)
  have hP : va_P D vwCl (mw cy b am 0 nS nB st bk gate nu) H := hP
  have hD : va_D A (mw cy b am 0 nS nB st bk gate nu) := hD
  refine W.eq (g2 := F0 m 25 ls [.int (st i 1)]) rfl ?_
  refine lv_istore_n (lv' := [(2, .int (st i 1)), (0, .ref b), (1, .int (nI i))]) hx hb dX4_smoke_25 rfl hl (by decide) rfl (fun ls hl => ?_)
  refine lv_aload_n hx hb dX4_smoke_26 rfl (lv_at hl 1 rfl) ?_
  refine lv_iload_n hx hb dX4_smoke_27 rfl (lv_at hl 2 rfl) ?_
  refine lv_iconst (v := 1) hx hb dX4_smoke_28 (by decide) ?_
  refine lv_iconst (v := 0) hx hb dX4_smoke_29 (by decide) ?_
  refine xcV (As := [.int (nI i), .int 1, .int 0]) (rest := []) ⟨hx, hb, hml, hown, hts⟩ (c_X4_setStore l D cy b am 0 nS nB st bk gate nu i 1 0 (by omega) (by omega)) (cwV 3 hts gX4_smoke_X4_setStore rfl rfl rfl (by decide +kernel) ⟨Nat.le_of_ble_eq_true rfl, Nat.le_of_ble_eq_true rfl⟩) hK hP hD hS hA rfl rfl rfl (xE_all) rfl hl.1 rfl (Nat.le_of_ble_eq_true rfl) dX4_smoke_30 ⟨Nat.le_of_ble_eq_true rfl, Nat.le_of_ble_eq_true rfl⟩ (fun _ H locs _ hP hD hS => ?_)
  have hP : va_P D vwCl (mw cy b am 0 nS nB (va_up st i (upd (st i) 1 0)) bk gate nu) H := hP
  have hD : va_D A (mw cy b am 0 nS nB (va_up st i (upd (st i) 1 0)) bk gate nu) := hD
  refine W.eq (g2 := F0 m 33 ls []) rfl ?_
  refine lv_aload_n hx hb dX4_smoke_33 rfl (lv_at hl 1 rfl) ?_
  refine lv_iload_n hx hb dX4_smoke_34 rfl (lv_at hl 2 rfl) ?_
  refine lv_iconst (v := 0) hx hb dX4_smoke_35 (by decide) ?_
  refine lv_aload_n hx hb dX4_smoke_36 rfl (lv_at hl 1 rfl) ?_
  refine lv_iload_n hx hb dX4_smoke_37 rfl (lv_at hl 2 rfl) ?_
  refine lv_iconst (v := 0) hx hb dX4_smoke_38 (by decide) ?_
  refine xcV (As := [.int (nI i), .int 0]) (rest := [.int 0, .int (nI i), .ref b]) ⟨hx, hb, hml, hown, hts⟩ (c_X4_ba l D cy b am 0 nS nB (va_up st i (upd (st i) 1 0)) bk gate nu i 0 (by omega) (by omega)) (cwV 2 hts gX4_smoke_X4_ba rfl rfl rfl (by decide +kernel) ⟨Nat.le_of_ble_eq_true rfl, Nat.le_of_ble_eq_true rfl⟩) hK hP hD hS hA rfl rfl rfl (xE_all) rfl hl.1 rfl (Nat.le_of_ble_eq_true rfl) dX4_smoke_39 ⟨Nat.le_of_ble_eq_true rfl, Nat.le_of_ble_eq_true rfl⟩ (fun _ H locs _ hP hD hS => ?_)
  have hP : va_P D vwCl (mw cy b am 0 nS nB (va_up st i (upd (st i) 1 0)) bk gate nu) H := hP
  have hD : va_D A (mw cy b am 0 nS nB (va_up st i (upd (st i) 1 0)) bk gate nu) := hD
  refine W.eq (g2 := F0 m 42 ls [.int ((st i) 0), .int 0, .int (nI i), .ref b]) (by show F0 m 42 ls (.int ((va_up st i (upd (st i) 1 0)) i 0) :: _) = _; first | (rw [up_at]; done) | (rw [up_at]; rfl)) ?_
  refine lv_aload_n hx hb dX4_smoke_42 rfl (lv_at hl 1 rfl) ?_
  refine lv_iload_n hx hb dX4_smoke_43 rfl (lv_at hl 2 rfl) ?_
  refine lv_iconst (v := 0) hx hb dX4_smoke_44 (by decide) ?_
  refine xcV (As := [.int (nI i), .int 0]) (rest := [.int ((st i) 0), .int 0, .int (nI i), .ref b]) ⟨hx, hb, hml, hown, hts⟩ (c_X4_ba l D cy b am 0 nS nB (va_up st i (upd (st i) 1 0)) bk gate nu i 0 (by omega) (by omega)) (cwV 2 hts gX4_smoke_X4_ba rfl rfl rfl (by decide +kernel) ⟨Nat.le_of_ble_eq_true rfl, Nat.le_of_ble_eq_true rfl⟩) hK hP hD hS hA rfl rfl rfl (xE_all) rfl hl.1 rfl (Nat.le_of_ble_eq_true rfl) dX4_smoke_45 ⟨Nat.le_of_ble_eq_true rfl, Nat.le_of_ble_eq_true rfl⟩ (fun _ H locs _ hP hD hS => ?_)
  have hP : va_P D vwCl (mw cy b am 0 nS nB (va_up st i (upd (st i) 1 0)) bk gate nu) H := hP
  have hD : va_D A (mw cy b am 0 nS nB (va_up st i (upd (st i) 1 0)) bk gate nu) := hD
  refine W.eq (g2 := F0 m 48 ls [.int ((st i) 0), .int ((st i) 0), .int 0, .int (nI i), .ref b]) (by show F0 m 48 ls (.int ((va_up st i (upd (st i) 1 0)) i 0) :: _) = _; first | (rw [up_at]; done) | (rw [up_at]; rfl)) ?_
  refine lv_bipush (v := 10) hx hb dX4_smoke_48 (by decide) ?_
  refine lv_idiv hx hb dX4_smoke_50 (by decide) ?_
  refine lv_isub hx hb dX4_smoke_51 ?_
  refine xcV (As := [.int (nI i), .int 0, .int (((st i) 0) - (((st i) 0) / 10))]) (rest := []) ⟨hx, hb, hml, hown, hts⟩ (c_X4_setStore l D cy b am 0 nS nB (va_up st i (upd (st i) 1 0)) bk gate nu i 0 (((st i) 0) - (((st i) 0) / 10)) (by omega) (by omega)) (cwV 3 hts gX4_smoke_X4_setStore rfl rfl rfl (by decide +kernel) ⟨Nat.le_of_ble_eq_true rfl, Nat.le_of_ble_eq_true rfl⟩) hK hP hD hS hA rfl rfl rfl (xE_all) rfl hl.1 rfl (Nat.le_of_ble_eq_true rfl) dX4_smoke_52 ⟨Nat.le_of_ble_eq_true rfl, Nat.le_of_ble_eq_true rfl⟩ (fun _ H locs _ hP hD hS => ?_)
  have hP : va_P D vwCl (mw cy b am 0 nS nB (va_up st i (upd (upd (st i) 1 0) 0 (((st i) 0) - (((st i) 0) / 10)))) bk gate nu) H := (by rw [← up_upd]; exact hP)
  have hD : va_D A (mw cy b am 0 nS nB (va_up st i (upd (upd (st i) 1 0) 0 (((st i) 0) - (((st i) 0) / 10)))) bk gate nu) := (by rw [← up_upd]; exact hD)
  refine W.eq (g2 := F0 m 55 ls []) rfl ?_
  refine lv_iload_n hx hb dX4_smoke_55 rfl (lv_at hl 0 rfl) ?_
  exact xri () hx hb hr hlocks hS (Nat.le_of_ble_eq_true rfl) (Nat.le_of_ble_eq_true rfl) dX4_smoke_56 hP hD rfl trivial

set_option maxHeartbeats 4000000 in
set_option maxRecDepth 100000 in
/-- smoke, refused -/
theorem c_X4_smoke_1 (l : Launch) (D : va_G) (cy : Nat → ClassId) (b : Nat) (am : Nat → Nat) (thr : Int32) (nS nB : Nat) (st bk : Nat → Iu) (gate nu : Iu) (p0 : Int32) (hv : ¬ vp_in p0 nS) (hcS : nS ≤ 4) : xM l D cy yX4_smoke wsX4_smoke ({ frames := 2, cells := 0, slots := 0, locals := 60 } : Room) [.ref b, .int p0] (mw cy b am thr nS nB st bk gate nu) (fun _ : Unit => some (.int 0)) (fun _ => True) (fun _ => mw cy b am 1 nS nB st bk gate nu) := by
  refine xM.of cX4_smoke 3 (some .int) RX4 (by decide +kernel) rfl rfl (Nat.le_of_ble_eq_true rfl) ?_
  intro p e s m below meth c A ls hx hb hr hts hown hlocks hml hin hK hA hP hD hS hl
  have hl : lv_has ls 3 [(0, .ref b), (1, .int p0)] := hl
  have hinX4 : ∀ w ∈ wsX40, w ∈ wsX4_smoke := fun _ h => List.mem_cons_of_mem _ (List.mem_append_right _ h)
  refine lv_aload_n hx hb dX4_smoke_0 rfl (lv_at hl 0 rfl) ?_
  refine lv_iconst (v := 0) hx hb dX4_smoke_1 (by decide) ?_
  refine va_put (D := D) (ci := 4) (v := .int 0) (ty := .int) (C := RX4) (T := TX4) (N := 8) hx hb hts hinX4 tyX4 tyX4_ok nmX4 hown hK.1 hP hD hS 0 rfl rfl 0 (by decide) (hts (.fieldLink RX4 26 "LoafMarksModel" "thrown" "I") (List.mem_of_getElem? (i := 1) rfl)) (fun _ h9 => h9) rfl (by decide +kernel) rfl rfl (Nat.le_of_ble_eq_true rfl) dX4_smoke_2 (fun H locs hP hD hS => ?_)
  have hP : va_P D vwCl (mw cy b am 0 nS nB st bk gate nu) H := hP
  have hD : va_D A (mw cy b am 0 nS nB st bk gate nu) := hD
  refine lv_aload_n hx hb dX4_smoke_5 rfl (lv_at hl 0 rfl) ?_
  refine lv_iload_n hx hb dX4_smoke_6 rfl (lv_at hl 1 rfl) ?_
  refine xcV (As := [.int p0]) (rest := []) ⟨hx, hb, hml, hown, hts⟩ (c_X4_isStore l D cy b am 0 nS nB st bk gate nu p0) (cwV 1 hts gX4_smoke_X4_isStore rfl rfl rfl (by decide +kernel) ⟨Nat.le_of_ble_eq_true rfl, Nat.le_of_ble_eq_true rfl⟩) hK hP hD hS hA rfl rfl rfl (xE_all) rfl hl.1 rfl (Nat.le_of_ble_eq_true rfl) dX4_smoke_7 ⟨Nat.le_of_ble_eq_true rfl, Nat.le_of_ble_eq_true rfl⟩ (fun _ H locs _ hP hD hS => ?_)
  have hP : va_P D vwCl (mw cy b am 0 nS nB st bk gate nu) H := hP
  have hD : va_D A (mw cy b am 0 nS nB st bk gate nu) := hD
  refine W.eq (g2 := F0 m 10 ls [.int (inN p0 nS)]) rfl ?_
  refine lv_if_ne (tgt := 19) hx hb dX4_smoke_10 (by decide) (fun z => absurd (inN_no hv (by omega)) z) (fun _ => ?_)
  refine lv_aload_n hx hb dX4_smoke_13 rfl (lv_at hl 0 rfl) ?_
  refine lv_iconst (v := 1) hx hb dX4_smoke_14 (by decide) ?_
  refine xcV (As := [.int 1]) (rest := []) ⟨hx, hb, hml, hown, hts⟩ (c_X4_fail l D cy b am 0 nS nB st bk gate nu 1) (cwV 1 hts gX4_smoke_X4_fail rfl rfl rfl (by decide +kernel) ⟨Nat.le_of_ble_eq_true rfl, Nat.le_of_ble_eq_true rfl⟩) hK hP hD hS hA rfl rfl rfl (xE_all) rfl hl.1 rfl (Nat.le_of_ble_eq_true rfl) dX4_smoke_15 ⟨Nat.le_of_ble_eq_true rfl, Nat.le_of_ble_eq_true rfl⟩ (fun _ H locs _ hP hD hS => ?_)
  have hP : va_P D vwCl (mw cy b am 1 nS nB st bk gate nu) H := hP
  have hD : va_D A (mw cy b am 1 nS nB st bk gate nu) := hD
  refine W.eq (g2 := F0 m 18 ls [.int 0]) rfl ?_
  exact xri () hx hb hr hlocks hS (Nat.le_of_ble_eq_true rfl) (Nat.le_of_ble_eq_true rfl) dX4_smoke_18 hP hD rfl trivial

set_option maxHeartbeats 4000000 in
set_option maxRecDepth 100000 in
/-- swear -/
theorem c_X4_swear (l : Launch) (D : va_G) (cy : Nat → ClassId) (b : Nat) (am : Nat → Nat) (thr : Int32) (nS nB : Nat) (st bk : Nat → Iu) (gate nu : Iu) (i : Nat) (hi : i < nS) (p1 p2 p3 : Int32) (h1 : (0 : Int32) ≤ p1 ∧ p1 ≤ 25) (h2 : (5 : Int32) ≤ p2 ∧ p2 ≤ 12) (h3 : (0 : Int32) ≤ p3 ∧ p3 ≤ 90) (hno : ownF bk p1 nB 0 = -1) (hroom : nB < 6) (hcS : nS ≤ 4) : xM l D cy yX4_swear wsX4_swear ({ frames := 2, cells := 1, slots := 8, locals := 60 } : Room) [.ref b, .int (nI i), .int p1, .int p2, .int p3] (mw cy b am thr nS nB st bk gate nu) (fun _ : Unit => some (.int (nI nB))) (fun _ => True) (fun _ => mw cy b am 0 nS (nB + 1) st (va_up bk nB (newB (nI i) p1 p2 p3)) gate nu) := by
  refine xM.of cX4_swear 6 (some .int) RX4 (by decide +kernel) rfl rfl (Nat.le_of_ble_eq_true rfl) ?_
  intro p e s m below meth c A ls hx hb hr hts hown hlocks hml hin hK hA hP hD hS hl
  have hl : lv_has ls 6 [(0, .ref b), (1, .int (nI i)), (2, .int p1), (3, .int p2), (4, .int p3)] := hl
  have hcB : nB ≤ 6 := by omega
  have hinX4 : ∀ w ∈ wsX40, w ∈ wsX4_swear := fun _ h => List.mem_cons_of_mem _ (List.mem_append_right _ h)
  refine lv_aload_n hx hb dX4_swear_0 rfl (lv_at hl 0 rfl) ?_
  refine lv_iconst (v := 0) hx hb dX4_swear_1 (by decide) ?_
  refine va_put (D := D) (ci := 4) (v := .int 0) (ty := .int) (C := RX4) (T := TX4) (N := 8) hx hb hts hinX4 tyX4 tyX4_ok nmX4 hown hK.1 hP hD hS 0 rfl rfl 0 (by decide) (hts (.fieldLink RX4 26 "LoafMarksModel" "thrown" "I") (List.mem_of_getElem? (i := 1) rfl)) (fun _ h9 => h9) rfl (by decide +kernel) rfl rfl (Nat.le_of_ble_eq_true rfl) dX4_swear_2 (fun H locs hP hD hS => ?_)
  have hP : va_P D vwCl (mw cy b am 0 nS nB st bk gate nu) H := hP
  have hD : va_D A (mw cy b am 0 nS nB st bk gate nu) := hD
  refine lv_aload_n hx hb dX4_swear_5 rfl (lv_at hl 0 rfl) ?_
  refine lv_iload_n hx hb dX4_swear_6 rfl (lv_at hl 1 rfl) ?_
  refine xcV (As := [.int (nI i)]) (rest := []) ⟨hx, hb, hml, hown, hts⟩ (c_X4_isStore l D cy b am 0 nS nB st bk gate nu (nI i)) (cwV 1 hts gX4_swear_X4_isStore rfl rfl rfl (by decide +kernel) ⟨Nat.le_of_ble_eq_true rfl, Nat.le_of_ble_eq_true rfl⟩) hK hP hD hS hA rfl rfl rfl (xE_all) rfl hl.1 rfl (Nat.le_of_ble_eq_true rfl) dX4_swear_7 ⟨Nat.le_of_ble_eq_true rfl, Nat.le_of_ble_eq_true rfl⟩ (fun _ H locs _ hP hD hS => ?_)
  have hP : va_P D vwCl (mw cy b am 0 nS nB st bk gate nu) H := hP
  have hD : va_D A (mw cy b am 0 nS nB st bk gate nu) := hD
  refine W.eq (g2 := F0 m 10 ls [.int (inN (nI i) nS)]) rfl ?_
  refine lv_if_ne (tgt := 19) hx hb dX4_swear_10 (by decide) (fun _ => ?_) (fun z => absurd z (inN_ok hi (by omega)))
  refine lv_iload_n hx hb dX4_swear_19 rfl (lv_at hl 2 rfl) ?_
  refine lv_iconst (v := 0) hx hb dX4_swear_20 (by decide) ?_
  refine lv_bipush (v := 25) hx hb dX4_swear_21 (by decide) ?_
  refine xcS (As := [.int p1, .int 0, .int 25]) (rest := []) ⟨hx, hb, hml, hown, hts⟩ (c_X4_isIn l D cy p1 0 25) (va_cwS 3 hts gX4_swear_X4_isIn rfl rfl rfl (by decide +kernel) ⟨Nat.le_of_ble_eq_true rfl, Nat.le_of_ble_eq_true rfl⟩) hK hP hD hS hA (xE_nil) rfl hl.1 rfl (Nat.le_of_ble_eq_true rfl) dX4_swear_23 ⟨Nat.le_of_ble_eq_true rfl, Nat.le_of_ble_eq_true rfl⟩ (fun _ H locs _ hP hD hS => ?_)
  have hP : va_P D vwCl (mw cy b am 0 nS nB st bk gate nu) H := hP
  have hD : va_D A (mw cy b am 0 nS nB st bk gate nu) := hD
  refine W.eq (g2 := F0 m 26 ls [.int (wi p1 0 25)]) rfl ?_
  refine lv_if_eq (tgt := 50) hx hb dX4_swear_26 (by decide) (fun z => absurd z (wi_ok h1)) (fun _ => ?_)
  refine lv_iload_n hx hb dX4_swear_29 rfl (lv_at hl 3 rfl) ?_
  refine lv_iconst (v := 5) hx hb dX4_swear_30 (by decide) ?_
  refine lv_bipush (v := 12) hx hb dX4_swear_31 (by decide) ?_
  refine xcS (As := [.int p2, .int 5, .int 12]) (rest := []) ⟨hx, hb, hml, hown, hts⟩ (c_X4_isIn l D cy p2 5 12) (va_cwS 3 hts gX4_swear_X4_isIn rfl rfl rfl (by decide +kernel) ⟨Nat.le_of_ble_eq_true rfl, Nat.le_of_ble_eq_true rfl⟩) hK hP hD hS hA (xE_nil) rfl hl.1 rfl (Nat.le_of_ble_eq_true rfl) dX4_swear_33 ⟨Nat.le_of_ble_eq_true rfl, Nat.le_of_ble_eq_true rfl⟩ (fun _ H locs _ hP hD hS => ?_)
  have hP : va_P D vwCl (mw cy b am 0 nS nB st bk gate nu) H := hP
  have hD : va_D A (mw cy b am 0 nS nB st bk gate nu) := hD
  refine W.eq (g2 := F0 m 36 ls [.int (wi p2 5 12)]) rfl ?_
  refine lv_if_eq (tgt := 50) hx hb dX4_swear_36 (by decide) (fun z => absurd z (wi_ok h2)) (fun _ => ?_)
  refine lv_iload hx hb dX4_swear_39 (lv_at hl 4 rfl) ?_
  refine lv_iconst (v := 0) hx hb dX4_swear_41 (by decide) ?_
  refine lv_bipush (v := 90) hx hb dX4_swear_42 (by decide) ?_
  refine xcS (As := [.int p3, .int 0, .int 90]) (rest := []) ⟨hx, hb, hml, hown, hts⟩ (c_X4_isIn l D cy p3 0 90) (va_cwS 3 hts gX4_swear_X4_isIn rfl rfl rfl (by decide +kernel) ⟨Nat.le_of_ble_eq_true rfl, Nat.le_of_ble_eq_true rfl⟩) hK hP hD hS hA (xE_nil) rfl hl.1 rfl (Nat.le_of_ble_eq_true rfl) dX4_swear_44 ⟨Nat.le_of_ble_eq_true rfl, Nat.le_of_ble_eq_true rfl⟩ (fun _ H locs _ hP hD hS => ?_)
  have hP : va_P D vwCl (mw cy b am 0 nS nB st bk gate nu) H := hP
  have hD : va_D A (mw cy b am 0 nS nB st bk gate nu) := hD
  refine W.eq (g2 := F0 m 47 ls [.int (wi p3 0 90)]) rfl ?_
  refine lv_if_ne (tgt := 56) hx hb dX4_swear_47 (by decide) (fun _ => ?_) (fun z => absurd z (wi_ok h3))
  refine lv_aload_n hx hb dX4_swear_56 rfl (lv_at hl 0 rfl) ?_
  refine va_get (D := D) (ci := 4) (v := .int (nI nB)) (C := RX4) (T := TX4) (N := 8) hx hb hts hinX4 hown hK.1 hP 0 rfl rfl 2 (by decide) (hts (.fieldLink RX4 36 "LoafMarksModel" "bakers" "I") (List.mem_of_getElem? (i := 2) rfl)) (fun _ h9 => h9) rfl dX4_swear_57 ?_
  refine lv_bipush (v := 6) hx hb dX4_swear_60 (by decide) ?_
  refine lv_icmp_eq (tgt := 74) hx hb dX4_swear_62 (by decide) (fun z => absurd z (fun z => absurd ((nI_eq (a := nB) (b := 6) (by omega) (by decide)).mp z) (by omega))) (fun _ => ?_)
  refine lv_aload_n hx hb dX4_swear_65 rfl (lv_at hl 0 rfl) ?_
  refine lv_iload_n hx hb dX4_swear_66 rfl (lv_at hl 2 rfl) ?_
  refine xcV (As := [.int p1]) (rest := []) ⟨hx, hb, hml, hown, hts⟩ (c_X4_owner l D cy b am 0 nS nB st bk gate nu p1 hcB) (cwV 1 hts gX4_swear_X4_owner rfl rfl rfl (by decide +kernel) ⟨Nat.le_of_ble_eq_true rfl, Nat.le_of_ble_eq_true rfl⟩) hK hP hD hS hA rfl rfl rfl (xE_all) rfl hl.1 rfl (Nat.le_of_ble_eq_true rfl) dX4_swear_67 ⟨Nat.le_of_ble_eq_true rfl, Nat.le_of_ble_eq_true rfl⟩ (fun _ H locs _ hP hD hS => ?_)
  have hP : va_P D vwCl (mw cy b am 0 nS nB st bk gate nu) H := hP
  have hD : va_D A (mw cy b am 0 nS nB st bk gate nu) := hD
  refine W.eq (g2 := F0 m 70 ls [.int (ownF bk p1 nB 0)]) rfl ?_
  refine lv_iconst (v := (-1)) hx hb dX4_swear_70 (by decide) ?_
  refine lv_icmp_eq (tgt := 80) hx hb dX4_swear_71 (by decide) (fun _ => ?_) (fun z => absurd hno z)
  refine lv_bipush (v := 8) hx hb dX4_swear_80 (by decide) ?_
  refine va_newa (atype := .int) (N' := 8) (a0 := (8, .inl (fun _ => 0))) hx hb (hts (.arrayClass .int) (List.mem_of_getElem? (i := 3) rfl)) rfl hK.1 hP hD hS hA (fun _ => rfl) (by decide) (by decide) (by decide) (Nat.le_of_ble_eq_true rfl) (Nat.le_of_ble_eq_true rfl) dX4_swear_82 (fun q82 cA H hK1 hP hD hS => ?_)
  obtain rfl : cA = cy 0 := x_cA hK.1 hK1 (i := 0) rfl rfl
  have hP : va_P D vwCl ((mw cy b am 0 nS nB st bk gate nu) ++ [(q82, .inl (cy 0, 8, .inl ((fun _ => 0))))]) H := hP
  have hD : va_D A ((mw cy b am 0 nS nB st bk gate nu) ++ [(q82, .inl (cy 0, 8, .inl ((fun _ => 0))))]) := hD
  refine lv_dup hx hb dX4_swear_84 rfl ?_
  refine lv_iconst (v := 0) hx hb dX4_swear_85 (by decide) ?_
  refine lv_iload_n hx hb dX4_swear_86 rfl (lv_at hl 1 rfl) ?_
  refine xiast hx hb hK hP hD hS 5 rfl 0 (by decide) (by decide) (by decide) dX4_swear_87 (fun H locs hP hD hS => ?_)
  have hP : va_P D vwCl ((mw cy b am 0 nS nB st bk gate nu) ++ [(q82, .inl (cy 0, 8, .inl (upd (fun _ => 0) 0 (nI i))))]) H := hP
  have hD : va_D A ((mw cy b am 0 nS nB st bk gate nu) ++ [(q82, .inl (cy 0, 8, .inl (upd (fun _ => 0) 0 (nI i))))]) := hD
  refine lv_dup hx hb dX4_swear_88 rfl ?_
  refine lv_iconst (v := 1) hx hb dX4_swear_89 (by decide) ?_
  refine lv_iload_n hx hb dX4_swear_90 rfl (lv_at hl 2 rfl) ?_
  refine xiast hx hb hK hP hD hS 5 rfl 1 (by decide) (by decide) (by decide) dX4_swear_91 (fun H locs hP hD hS => ?_)
  have hP : va_P D vwCl ((mw cy b am 0 nS nB st bk gate nu) ++ [(q82, .inl (cy 0, 8, .inl (upd (upd (fun _ => 0) 0 (nI i)) 1 p1)))]) H := hP
  have hD : va_D A ((mw cy b am 0 nS nB st bk gate nu) ++ [(q82, .inl (cy 0, 8, .inl (upd (upd (fun _ => 0) 0 (nI i)) 1 p1)))]) := hD
  refine lv_dup hx hb dX4_swear_92 rfl ?_
  refine lv_iconst (v := 2) hx hb dX4_swear_93 (by decide) ?_
  refine lv_iload hx hb dX4_swear_94 (lv_at hl 4 rfl) ?_
  refine xiast hx hb hK hP hD hS 5 rfl 2 (by decide) (by decide) (by decide) dX4_swear_96 (fun H locs hP hD hS => ?_)
  have hP : va_P D vwCl ((mw cy b am 0 nS nB st bk gate nu) ++ [(q82, .inl (cy 0, 8, .inl (upd (upd (upd (fun _ => 0) 0 (nI i)) 1 p1) 2 p3)))]) H := hP
  have hD : va_D A ((mw cy b am 0 nS nB st bk gate nu) ++ [(q82, .inl (cy 0, 8, .inl (upd (upd (upd (fun _ => 0) 0 (nI i)) 1 p1) 2 p3)))]) := hD
  refine lv_dup hx hb dX4_swear_97 rfl ?_
  refine lv_iconst (v := 3) hx hb dX4_swear_98 (by decide) ?_
  refine lv_iconst (v := 0) hx hb dX4_swear_99 (by decide) ?_
  refine xiast hx hb hK hP hD hS 5 rfl 3 (by decide) (by decide) (by decide) dX4_swear_100 (fun H locs hP hD hS => ?_)
  have hP : va_P D vwCl ((mw cy b am 0 nS nB st bk gate nu) ++ [(q82, .inl (cy 0, 8, .inl (upd (upd (upd (upd (fun _ => 0) 0 (nI i)) 1 p1) 2 p3) 3 0)))]) H := hP
  have hD : va_D A ((mw cy b am 0 nS nB st bk gate nu) ++ [(q82, .inl (cy 0, 8, .inl (upd (upd (upd (upd (fun _ => 0) 0 (nI i)) 1 p1) 2 p3) 3 0)))]) := hD
  refine lv_dup hx hb dX4_swear_101 rfl ?_
  refine lv_iconst (v := 4) hx hb dX4_swear_102 (by decide) ?_
  refine lv_iload_n hx hb dX4_swear_103 rfl (lv_at hl 3 rfl) ?_
  refine xiast hx hb hK hP hD hS 5 rfl 4 (by decide) (by decide) (by decide) dX4_swear_104 (fun H locs hP hD hS => ?_)
  have hP : va_P D vwCl ((mw cy b am 0 nS nB st bk gate nu) ++ [(q82, .inl (cy 0, 8, .inl (upd (upd (upd (upd (upd (fun _ => 0) 0 (nI i)) 1 p1) 2 p3) 3 0) 4 p2)))]) H := hP
  have hD : va_D A ((mw cy b am 0 nS nB st bk gate nu) ++ [(q82, .inl (cy 0, 8, .inl (upd (upd (upd (upd (upd (fun _ => 0) 0 (nI i)) 1 p1) 2 p3) 3 0) 4 p2)))]) := hD
  refine lv_dup hx hb dX4_swear_105 rfl ?_
  refine lv_iconst (v := 5) hx hb dX4_swear_106 (by decide) ?_
  refine lv_iconst (v := 0) hx hb dX4_swear_107 (by decide) ?_
  refine xiast hx hb hK hP hD hS 5 rfl 5 (by decide) (by decide) (by decide) dX4_swear_108 (fun H locs hP hD hS => ?_)
  have hP : va_P D vwCl ((mw cy b am 0 nS nB st bk gate nu) ++ [(q82, .inl (cy 0, 8, .inl (upd (upd (upd (upd (upd (upd (fun _ => 0) 0 (nI i)) 1 p1) 2 p3) 3 0) 4 p2) 5 0)))]) H := hP
  have hD : va_D A ((mw cy b am 0 nS nB st bk gate nu) ++ [(q82, .inl (cy 0, 8, .inl (upd (upd (upd (upd (upd (upd (fun _ => 0) 0 (nI i)) 1 p1) 2 p3) 3 0) 4 p2) 5 0)))]) := hD
  refine lv_dup hx hb dX4_swear_109 rfl ?_
  refine lv_bipush (v := 6) hx hb dX4_swear_110 (by decide) ?_
  refine lv_iconst (v := 0) hx hb dX4_swear_112 (by decide) ?_
  refine xiast hx hb hK hP hD hS 5 rfl 6 (by decide) (by decide) (by decide) dX4_swear_113 (fun H locs hP hD hS => ?_)
  have hP : va_P D vwCl ((mw cy b am 0 nS nB st bk gate nu) ++ [(q82, .inl (cy 0, 8, .inl (upd (upd (upd (upd (upd (upd (upd (fun _ => 0) 0 (nI i)) 1 p1) 2 p3) 3 0) 4 p2) 5 0) 6 0)))]) H := hP
  have hD : va_D A ((mw cy b am 0 nS nB st bk gate nu) ++ [(q82, .inl (cy 0, 8, .inl (upd (upd (upd (upd (upd (upd (upd (fun _ => 0) 0 (nI i)) 1 p1) 2 p3) 3 0) 4 p2) 5 0) 6 0)))]) := hD
  refine lv_dup hx hb dX4_swear_114 rfl ?_
  refine lv_bipush (v := 7) hx hb dX4_swear_115 (by decide) ?_
  refine lv_iconst (v := 0) hx hb dX4_swear_117 (by decide) ?_
  refine xiast hx hb hK hP hD hS 5 rfl 7 (by decide) (by decide) (by decide) dX4_swear_118 (fun H locs hP hD hS => ?_)
  have hP : va_P D vwCl ((mw cy b am 0 nS nB st bk gate nu) ++ [(q82, .inl (cy 0, 8, .inl (upd (upd (upd (upd (upd (upd (upd (upd (fun _ => 0) 0 (nI i)) 1 p1) 2 p3) 3 0) 4 p2) 5 0) 6 0) 7 0)))]) H := hP
  have hD : va_D A ((mw cy b am 0 nS nB st bk gate nu) ++ [(q82, .inl (cy 0, 8, .inl (upd (upd (upd (upd (upd (upd (upd (upd (fun _ => 0) 0 (nI i)) 1 p1) 2 p3) 3 0) 4 p2) 5 0) 6 0) 7 0)))]) := hD
  refine lv_astore (lv' := [(5, .ref q82), (0, .ref b), (1, .int (nI i)), (2, .int p1), (3, .int p2), (4, .int p3)]) hx hb dX4_swear_119 hl (by decide) rfl (fun ls hl => ?_)
  refine lv_aload hx hb dX4_swear_121 (lv_at hl 0 rfl) ?_
  refine lv_iconst (v := 0) hx hb dX4_swear_123 (by decide) ?_
  refine lv_aload_n hx hb dX4_swear_124 rfl (lv_at hl 1 rfl) ?_
  refine va_get (D := D) (ci := 4) (v := .ref (am 2)) (C := RX4) (T := TX4) (N := 8) hx hb hts hinX4 hown hK.1 hP 0 rfl rfl 6 (by decide) (hts (.fieldLink RX4 20 "LoafMarksModel" "shops" "[I") (List.mem_of_getElem? (i := 4) rfl)) (fun _ h9 => h9) rfl dX4_swear_125 ?_
  refine lv_bipush (v := 8) hx hb dX4_swear_128 (by decide) ?_
  refine lv_aload_n hx hb dX4_swear_130 rfl (lv_at hl 1 rfl) ?_
  refine va_get (D := D) (ci := 4) (v := .int (nI nB)) (C := RX4) (T := TX4) (N := 8) hx hb hts hinX4 hown hK.1 hP 0 rfl rfl 2 (by decide) (hts (.fieldLink RX4 36 "LoafMarksModel" "bakers" "I") (List.mem_of_getElem? (i := 2) rfl)) (fun _ h9 => h9) rfl dX4_swear_131 ?_
  refine lv_imul hx hb dX4_swear_134 ?_
  refine lv_bipush (v := 8) hx hb dX4_swear_135 (by decide) ?_
  refine W.eq (g2 := F0 m 137 ls [.int 8, .int (nI (8 * nB)), .ref (am 2), .int 0, .ref q82]) (by rw [show (8 : Int32) * nI nB = nI (8 * nB) from nI_mul 8 nB]) ?_
  refine va_copyi hx hb (hml.trans hl.1.symm) hown (hts (.methodLink RX4 43 arraycopyName) (List.mem_of_getElem? (i := 5) rfl)) (hts (.native arraycopyName) (List.mem_of_getElem? (i := 6) rfl)) (hts (.static arraycopyName) (List.mem_of_getElem? (i := 7) rfl)) (hts (.initialized "java/lang/System") (List.mem_of_getElem? (i := 8) rfl)) hK.1 hP hD hS 5 3 0 0 rfl rfl rfl rfl rfl (by decide) (nI_pos (by omega)) (by decide) (by decide) (by rw [nI_clamp (by omega)]; show 8 * nB + 8 ≤ 48; omega) (fun _ _ => rfl) (Nat.le_of_ble_eq_true rfl) (Nat.le_of_ble_eq_true rfl) dX4_swear_137 (fun H locs hP hD hS => ?_)
  have eC : va_cpy (upd (upd (upd (upd (upd (upd (upd (upd (fun _ => 0) 0 (nI i)) 1 p1) 2 p3) 3 0) 4 p2) 5 0) 6 0) 7 0) (fB bk) (Int32.toNatClampNeg 0) ((nI (8 * nB)).toNatClampNeg) (Int32.toNatClampNeg 8) = fB (va_up bk nB (newB (nI i) p1 p2 p3)) := by rw [nI_clamp (by omega)]; exact cpyB (fun k hk => by rcases (show k = 0 ∨ k = 1 ∨ k = 2 ∨ k = 3 ∨ k = 4 ∨ k = 5 ∨ k = 6 ∨ k = 7 by omega) with rfl | rfl | rfl | rfl | rfl | rfl | rfl | rfl <;> rfl)
  have hP := ((xP_app (w1 := (mw cy b am 0 nS nB st bk gate nu).set 3 (am 2, .inl (cy 0, 48, .inl (va_cpy (upd (upd (upd (upd (upd (upd (upd (upd (fun _ => 0) 0 (nI i)) 1 p1) 2 p3) 3 0) 4 p2) 5 0) 6 0) 7 0) (fB bk) (Int32.toNatClampNeg 0) ((nI (8 * nB)).toNatClampNeg) (Int32.toNatClampNeg 8)))))).mp hP).1
  have hD := mD_app (w1 := (mw cy b am 0 nS nB st bk gate nu).set 3 (am 2, .inl (cy 0, 48, .inl (va_cpy (upd (upd (upd (upd (upd (upd (upd (upd (fun _ => 0) 0 (nI i)) 1 p1) 2 p3) 3 0) 4 p2) 5 0) 6 0) 7 0) (fB bk) (Int32.toNatClampNeg 0) ((nI (8 * nB)).toNatClampNeg) (Int32.toNatClampNeg 8))))) hD
  rw [eC] at hP hD
  have hP : va_P D vwCl (mw cy b am 0 nS nB st (va_up bk nB (newB (nI i) p1 p2 p3)) gate nu) H := hP
  have hD : va_D A (mw cy b am 0 nS nB st (va_up bk nB (newB (nI i) p1 p2 p3)) gate nu) := hD
  refine lv_aload_n hx hb dX4_swear_140 rfl (lv_at hl 1 rfl) ?_
  refine lv_dup hx hb dX4_swear_141 rfl ?_
  refine va_get (D := D) (ci := 4) (v := .int (nI nB)) (C := RX4) (T := TX4) (N := 8) hx hb hts hinX4 hown hK.1 hP 0 rfl rfl 2 (by decide) (hts (.fieldLink RX4 36 "LoafMarksModel" "bakers" "I") (List.mem_of_getElem? (i := 2) rfl)) (fun _ h9 => h9) rfl dX4_swear_142 ?_
  refine lv_iconst (v := 1) hx hb dX4_swear_145 (by decide) ?_
  refine lv_iadd hx hb dX4_swear_146 ?_
  refine W.eq (g2 := F0 m 147 ls [.int (nI (nB + 1)), .ref b]) (by rw [nI_1]) ?_
  refine va_put (D := D) (ci := 4) (v := .int (nI (nB + 1))) (ty := .int) (C := RX4) (T := TX4) (N := 8) hx hb hts hinX4 tyX4 tyX4_ok nmX4 hown hK.1 hP hD hS 0 rfl rfl 2 (by decide) (hts (.fieldLink RX4 36 "LoafMarksModel" "bakers" "I") (List.mem_of_getElem? (i := 2) rfl)) (fun _ h9 => h9) rfl (by decide +kernel) rfl rfl (Nat.le_of_ble_eq_true rfl) dX4_swear_147 (fun H locs hP hD hS => ?_)
  have hP : va_P D vwCl (mw cy b am 0 nS (nB + 1) st (va_up bk nB (newB (nI i) p1 p2 p3)) gate nu) H := hP
  have hD : va_D A (mw cy b am 0 nS (nB + 1) st (va_up bk nB (newB (nI i) p1 p2 p3)) gate nu) := hD
  refine lv_aload_n hx hb dX4_swear_150 rfl (lv_at hl 1 rfl) ?_
  refine va_get (D := D) (ci := 4) (v := .int (nI (nB + 1))) (C := RX4) (T := TX4) (N := 8) hx hb hts hinX4 hown hK.1 hP 0 rfl rfl 2 (by decide) (hts (.fieldLink RX4 36 "LoafMarksModel" "bakers" "I") (List.mem_of_getElem? (i := 2) rfl)) (fun _ h9 => h9) rfl dX4_swear_151 ?_
  refine lv_iconst (v := 1) hx hb dX4_swear_154 (by decide) ?_
  refine lv_isub hx hb dX4_swear_155 ?_
  exact xri () hx hb hr hlocks hS (Nat.le_of_ble_eq_true rfl) (Nat.le_of_ble_eq_true rfl) dX4_swear_156 hP hD (by show some (Value.int (nI nB)) = some (Value.int (nI (nB + 1) - 1)); rw [nI_pred]) trivial

set_option maxHeartbeats 4000000 in
set_option maxRecDepth 100000 in
/-- swear, refused -/
theorem c_X4_swear_1 (l : Launch) (D : va_G) (cy : Nat → ClassId) (b : Nat) (am : Nat → Nat) (thr : Int32) (nS nB : Nat) (st bk : Nat → Iu) (gate nu : Iu) (p0 : Int32) (p1 p2 p3 : Int32) (hv : ¬ vp_in p0 nS) (hcS : nS ≤ 4) : xM l D cy yX4_swear wsX4_swear ({ frames := 2, cells := 1, slots := 8, locals := 60 } : Room) [.ref b, .int p0, .int p1, .int p2, .int p3] (mw cy b am thr nS nB st bk gate nu) (fun _ : Unit => some (.int 0)) (fun _ => True) (fun _ => mw cy b am 1 nS nB st bk gate nu) := by
  refine xM.of cX4_swear 6 (some .int) RX4 (by decide +kernel) rfl rfl (Nat.le_of_ble_eq_true rfl) ?_
  intro p e s m below meth c A ls hx hb hr hts hown hlocks hml hin hK hA hP hD hS hl
  have hl : lv_has ls 6 [(0, .ref b), (1, .int p0), (2, .int p1), (3, .int p2), (4, .int p3)] := hl
  have hinX4 : ∀ w ∈ wsX40, w ∈ wsX4_swear := fun _ h => List.mem_cons_of_mem _ (List.mem_append_right _ h)
  refine lv_aload_n hx hb dX4_swear_0 rfl (lv_at hl 0 rfl) ?_
  refine lv_iconst (v := 0) hx hb dX4_swear_1 (by decide) ?_
  refine va_put (D := D) (ci := 4) (v := .int 0) (ty := .int) (C := RX4) (T := TX4) (N := 8) hx hb hts hinX4 tyX4 tyX4_ok nmX4 hown hK.1 hP hD hS 0 rfl rfl 0 (by decide) (hts (.fieldLink RX4 26 "LoafMarksModel" "thrown" "I") (List.mem_of_getElem? (i := 1) rfl)) (fun _ h9 => h9) rfl (by decide +kernel) rfl rfl (Nat.le_of_ble_eq_true rfl) dX4_swear_2 (fun H locs hP hD hS => ?_)
  have hP : va_P D vwCl (mw cy b am 0 nS nB st bk gate nu) H := hP
  have hD : va_D A (mw cy b am 0 nS nB st bk gate nu) := hD
  refine lv_aload_n hx hb dX4_swear_5 rfl (lv_at hl 0 rfl) ?_
  refine lv_iload_n hx hb dX4_swear_6 rfl (lv_at hl 1 rfl) ?_
  refine xcV (As := [.int p0]) (rest := []) ⟨hx, hb, hml, hown, hts⟩ (c_X4_isStore l D cy b am 0 nS nB st bk gate nu p0) (cwV 1 hts gX4_swear_X4_isStore rfl rfl rfl (by decide +kernel) ⟨Nat.le_of_ble_eq_true rfl, Nat.le_of_ble_eq_true rfl⟩) hK hP hD hS hA rfl rfl rfl (xE_all) rfl hl.1 rfl (Nat.le_of_ble_eq_true rfl) dX4_swear_7 ⟨Nat.le_of_ble_eq_true rfl, Nat.le_of_ble_eq_true rfl⟩ (fun _ H locs _ hP hD hS => ?_)
  have hP : va_P D vwCl (mw cy b am 0 nS nB st bk gate nu) H := hP
  have hD : va_D A (mw cy b am 0 nS nB st bk gate nu) := hD
  refine W.eq (g2 := F0 m 10 ls [.int (inN p0 nS)]) rfl ?_
  refine lv_if_ne (tgt := 19) hx hb dX4_swear_10 (by decide) (fun z => absurd (inN_no hv (by omega)) z) (fun _ => ?_)
  refine lv_aload_n hx hb dX4_swear_13 rfl (lv_at hl 0 rfl) ?_
  refine lv_iconst (v := 1) hx hb dX4_swear_14 (by decide) ?_
  refine xcV (As := [.int 1]) (rest := []) ⟨hx, hb, hml, hown, hts⟩ (c_X4_fail l D cy b am 0 nS nB st bk gate nu 1) (cwV 1 hts gX4_swear_X4_fail rfl rfl rfl (by decide +kernel) ⟨Nat.le_of_ble_eq_true rfl, Nat.le_of_ble_eq_true rfl⟩) hK hP hD hS hA rfl rfl rfl (xE_all) rfl hl.1 rfl (Nat.le_of_ble_eq_true rfl) dX4_swear_15 ⟨Nat.le_of_ble_eq_true rfl, Nat.le_of_ble_eq_true rfl⟩ (fun _ H locs _ hP hD hS => ?_)
  have hP : va_P D vwCl (mw cy b am 1 nS nB st bk gate nu) H := hP
  have hD : va_D A (mw cy b am 1 nS nB st bk gate nu) := hD
  refine W.eq (g2 := F0 m 18 ls [.int 0]) rfl ?_
  exact xri () hx hb hr hlocks hS (Nat.le_of_ble_eq_true rfl) (Nat.le_of_ble_eq_true rfl) dX4_swear_18 hP hD rfl trivial

set_option maxHeartbeats 4000000 in
set_option maxRecDepth 100000 in
/-- swear, refused -/
theorem c_X4_swear_2a (l : Launch) (D : va_G) (cy : Nat → ClassId) (b : Nat) (am : Nat → Nat) (thr : Int32) (nS nB : Nat) (st bk : Nat → Iu) (gate nu : Iu) (i : Nat) (hi : i < nS) (p1 p2 p3 : Int32) (h1 : ¬ ((0 : Int32) ≤ p1 ∧ p1 ≤ 25)) (hcS : nS ≤ 4) : xM l D cy yX4_swear wsX4_swear ({ frames := 2, cells := 1, slots := 8, locals := 60 } : Room) [.ref b, .int (nI i), .int p1, .int p2, .int p3] (mw cy b am thr nS nB st bk gate nu) (fun _ : Unit => some (.int 0)) (fun _ => True) (fun _ => mw cy b am 2 nS nB st bk gate nu) := by
  refine xM.of cX4_swear 6 (some .int) RX4 (by decide +kernel) rfl rfl (Nat.le_of_ble_eq_true rfl) ?_
  intro p e s m below meth c A ls hx hb hr hts hown hlocks hml hin hK hA hP hD hS hl
  have hl : lv_has ls 6 [(0, .ref b), (1, .int (nI i)), (2, .int p1), (3, .int p2), (4, .int p3)] := hl
  have hinX4 : ∀ w ∈ wsX40, w ∈ wsX4_swear := fun _ h => List.mem_cons_of_mem _ (List.mem_append_right _ h)
  refine lv_aload_n hx hb dX4_swear_0 rfl (lv_at hl 0 rfl) ?_
  refine lv_iconst (v := 0) hx hb dX4_swear_1 (by decide) ?_
  refine va_put (D := D) (ci := 4) (v := .int 0) (ty := .int) (C := RX4) (T := TX4) (N := 8) hx hb hts hinX4 tyX4 tyX4_ok nmX4 hown hK.1 hP hD hS 0 rfl rfl 0 (by decide) (hts (.fieldLink RX4 26 "LoafMarksModel" "thrown" "I") (List.mem_of_getElem? (i := 1) rfl)) (fun _ h9 => h9) rfl (by decide +kernel) rfl rfl (Nat.le_of_ble_eq_true rfl) dX4_swear_2 (fun H locs hP hD hS => ?_)
  have hP : va_P D vwCl (mw cy b am 0 nS nB st bk gate nu) H := hP
  have hD : va_D A (mw cy b am 0 nS nB st bk gate nu) := hD
  refine lv_aload_n hx hb dX4_swear_5 rfl (lv_at hl 0 rfl) ?_
  refine lv_iload_n hx hb dX4_swear_6 rfl (lv_at hl 1 rfl) ?_
  refine xcV (As := [.int (nI i)]) (rest := []) ⟨hx, hb, hml, hown, hts⟩ (c_X4_isStore l D cy b am 0 nS nB st bk gate nu (nI i)) (cwV 1 hts gX4_swear_X4_isStore rfl rfl rfl (by decide +kernel) ⟨Nat.le_of_ble_eq_true rfl, Nat.le_of_ble_eq_true rfl⟩) hK hP hD hS hA rfl rfl rfl (xE_all) rfl hl.1 rfl (Nat.le_of_ble_eq_true rfl) dX4_swear_7 ⟨Nat.le_of_ble_eq_true rfl, Nat.le_of_ble_eq_true rfl⟩ (fun _ H locs _ hP hD hS => ?_)
  have hP : va_P D vwCl (mw cy b am 0 nS nB st bk gate nu) H := hP
  have hD : va_D A (mw cy b am 0 nS nB st bk gate nu) := hD
  refine W.eq (g2 := F0 m 10 ls [.int (inN (nI i) nS)]) rfl ?_
  refine lv_if_ne (tgt := 19) hx hb dX4_swear_10 (by decide) (fun _ => ?_) (fun z => absurd z (inN_ok hi (by omega)))
  refine lv_iload_n hx hb dX4_swear_19 rfl (lv_at hl 2 rfl) ?_
  refine lv_iconst (v := 0) hx hb dX4_swear_20 (by decide) ?_
  refine lv_bipush (v := 25) hx hb dX4_swear_21 (by decide) ?_
  refine xcS (As := [.int p1, .int 0, .int 25]) (rest := []) ⟨hx, hb, hml, hown, hts⟩ (c_X4_isIn l D cy p1 0 25) (va_cwS 3 hts gX4_swear_X4_isIn rfl rfl rfl (by decide +kernel) ⟨Nat.le_of_ble_eq_true rfl, Nat.le_of_ble_eq_true rfl⟩) hK hP hD hS hA (xE_nil) rfl hl.1 rfl (Nat.le_of_ble_eq_true rfl) dX4_swear_23 ⟨Nat.le_of_ble_eq_true rfl, Nat.le_of_ble_eq_true rfl⟩ (fun _ H locs _ hP hD hS => ?_)
  have hP : va_P D vwCl (mw cy b am 0 nS nB st bk gate nu) H := hP
  have hD : va_D A (mw cy b am 0 nS nB st bk gate nu) := hD
  refine W.eq (g2 := F0 m 26 ls [.int (wi p1 0 25)]) rfl ?_
  refine lv_if_eq (tgt := 50) hx hb dX4_swear_26 (by decide) (fun _ => ?_) (fun z => absurd (wi_no h1) z)
  refine lv_aload_n hx hb dX4_swear_50 rfl (lv_at hl 0 rfl) ?_
  refine lv_iconst (v := 2) hx hb dX4_swear_51 (by decide) ?_
  refine xcV (As := [.int 2]) (rest := []) ⟨hx, hb, hml, hown, hts⟩ (c_X4_fail l D cy b am 0 nS nB st bk gate nu 2) (cwV 1 hts gX4_swear_X4_fail rfl rfl rfl (by decide +kernel) ⟨Nat.le_of_ble_eq_true rfl, Nat.le_of_ble_eq_true rfl⟩) hK hP hD hS hA rfl rfl rfl (xE_all) rfl hl.1 rfl (Nat.le_of_ble_eq_true rfl) dX4_swear_52 ⟨Nat.le_of_ble_eq_true rfl, Nat.le_of_ble_eq_true rfl⟩ (fun _ H locs _ hP hD hS => ?_)
  have hP : va_P D vwCl (mw cy b am 2 nS nB st bk gate nu) H := hP
  have hD : va_D A (mw cy b am 2 nS nB st bk gate nu) := hD
  refine W.eq (g2 := F0 m 55 ls [.int 0]) rfl ?_
  exact xri () hx hb hr hlocks hS (Nat.le_of_ble_eq_true rfl) (Nat.le_of_ble_eq_true rfl) dX4_swear_55 hP hD rfl trivial

set_option maxHeartbeats 4000000 in
set_option maxRecDepth 100000 in
/-- swear, refused -/
theorem c_X4_swear_2b (l : Launch) (D : va_G) (cy : Nat → ClassId) (b : Nat) (am : Nat → Nat) (thr : Int32) (nS nB : Nat) (st bk : Nat → Iu) (gate nu : Iu) (i : Nat) (hi : i < nS) (p1 p2 p3 : Int32) (h1 : (0 : Int32) ≤ p1 ∧ p1 ≤ 25) (h2 : ¬ ((5 : Int32) ≤ p2 ∧ p2 ≤ 12)) (hcS : nS ≤ 4) : xM l D cy yX4_swear wsX4_swear ({ frames := 2, cells := 1, slots := 8, locals := 60 } : Room) [.ref b, .int (nI i), .int p1, .int p2, .int p3] (mw cy b am thr nS nB st bk gate nu) (fun _ : Unit => some (.int 0)) (fun _ => True) (fun _ => mw cy b am 2 nS nB st bk gate nu) := by
  refine xM.of cX4_swear 6 (some .int) RX4 (by decide +kernel) rfl rfl (Nat.le_of_ble_eq_true rfl) ?_
  intro p e s m below meth c A ls hx hb hr hts hown hlocks hml hin hK hA hP hD hS hl
  have hl : lv_has ls 6 [(0, .ref b), (1, .int (nI i)), (2, .int p1), (3, .int p2), (4, .int p3)] := hl
  have hinX4 : ∀ w ∈ wsX40, w ∈ wsX4_swear := fun _ h => List.mem_cons_of_mem _ (List.mem_append_right _ h)
  refine lv_aload_n hx hb dX4_swear_0 rfl (lv_at hl 0 rfl) ?_
  refine lv_iconst (v := 0) hx hb dX4_swear_1 (by decide) ?_
  refine va_put (D := D) (ci := 4) (v := .int 0) (ty := .int) (C := RX4) (T := TX4) (N := 8) hx hb hts hinX4 tyX4 tyX4_ok nmX4 hown hK.1 hP hD hS 0 rfl rfl 0 (by decide) (hts (.fieldLink RX4 26 "LoafMarksModel" "thrown" "I") (List.mem_of_getElem? (i := 1) rfl)) (fun _ h9 => h9) rfl (by decide +kernel) rfl rfl (Nat.le_of_ble_eq_true rfl) dX4_swear_2 (fun H locs hP hD hS => ?_)
  have hP : va_P D vwCl (mw cy b am 0 nS nB st bk gate nu) H := hP
  have hD : va_D A (mw cy b am 0 nS nB st bk gate nu) := hD
  refine lv_aload_n hx hb dX4_swear_5 rfl (lv_at hl 0 rfl) ?_
  refine lv_iload_n hx hb dX4_swear_6 rfl (lv_at hl 1 rfl) ?_
  refine xcV (As := [.int (nI i)]) (rest := []) ⟨hx, hb, hml, hown, hts⟩ (c_X4_isStore l D cy b am 0 nS nB st bk gate nu (nI i)) (cwV 1 hts gX4_swear_X4_isStore rfl rfl rfl (by decide +kernel) ⟨Nat.le_of_ble_eq_true rfl, Nat.le_of_ble_eq_true rfl⟩) hK hP hD hS hA rfl rfl rfl (xE_all) rfl hl.1 rfl (Nat.le_of_ble_eq_true rfl) dX4_swear_7 ⟨Nat.le_of_ble_eq_true rfl, Nat.le_of_ble_eq_true rfl⟩ (fun _ H locs _ hP hD hS => ?_)
  have hP : va_P D vwCl (mw cy b am 0 nS nB st bk gate nu) H := hP
  have hD : va_D A (mw cy b am 0 nS nB st bk gate nu) := hD
  refine W.eq (g2 := F0 m 10 ls [.int (inN (nI i) nS)]) rfl ?_
  refine lv_if_ne (tgt := 19) hx hb dX4_swear_10 (by decide) (fun _ => ?_) (fun z => absurd z (inN_ok hi (by omega)))
  refine lv_iload_n hx hb dX4_swear_19 rfl (lv_at hl 2 rfl) ?_
  refine lv_iconst (v := 0) hx hb dX4_swear_20 (by decide) ?_
  refine lv_bipush (v := 25) hx hb dX4_swear_21 (by decide) ?_
  refine xcS (As := [.int p1, .int 0, .int 25]) (rest := []) ⟨hx, hb, hml, hown, hts⟩ (c_X4_isIn l D cy p1 0 25) (va_cwS 3 hts gX4_swear_X4_isIn rfl rfl rfl (by decide +kernel) ⟨Nat.le_of_ble_eq_true rfl, Nat.le_of_ble_eq_true rfl⟩) hK hP hD hS hA (xE_nil) rfl hl.1 rfl (Nat.le_of_ble_eq_true rfl) dX4_swear_23 ⟨Nat.le_of_ble_eq_true rfl, Nat.le_of_ble_eq_true rfl⟩ (fun _ H locs _ hP hD hS => ?_)
  have hP : va_P D vwCl (mw cy b am 0 nS nB st bk gate nu) H := hP
  have hD : va_D A (mw cy b am 0 nS nB st bk gate nu) := hD
  refine W.eq (g2 := F0 m 26 ls [.int (wi p1 0 25)]) rfl ?_
  refine lv_if_eq (tgt := 50) hx hb dX4_swear_26 (by decide) (fun z => absurd z (wi_ok h1)) (fun _ => ?_)
  refine lv_iload_n hx hb dX4_swear_29 rfl (lv_at hl 3 rfl) ?_
  refine lv_iconst (v := 5) hx hb dX4_swear_30 (by decide) ?_
  refine lv_bipush (v := 12) hx hb dX4_swear_31 (by decide) ?_
  refine xcS (As := [.int p2, .int 5, .int 12]) (rest := []) ⟨hx, hb, hml, hown, hts⟩ (c_X4_isIn l D cy p2 5 12) (va_cwS 3 hts gX4_swear_X4_isIn rfl rfl rfl (by decide +kernel) ⟨Nat.le_of_ble_eq_true rfl, Nat.le_of_ble_eq_true rfl⟩) hK hP hD hS hA (xE_nil) rfl hl.1 rfl (Nat.le_of_ble_eq_true rfl) dX4_swear_33 ⟨Nat.le_of_ble_eq_true rfl, Nat.le_of_ble_eq_true rfl⟩ (fun _ H locs _ hP hD hS => ?_)
  have hP : va_P D vwCl (mw cy b am 0 nS nB st bk gate nu) H := hP
  have hD : va_D A (mw cy b am 0 nS nB st bk gate nu) := hD
  refine W.eq (g2 := F0 m 36 ls [.int (wi p2 5 12)]) rfl ?_
  refine lv_if_eq (tgt := 50) hx hb dX4_swear_36 (by decide) (fun _ => ?_) (fun z => absurd (wi_no h2) z)
  refine lv_aload_n hx hb dX4_swear_50 rfl (lv_at hl 0 rfl) ?_
  refine lv_iconst (v := 2) hx hb dX4_swear_51 (by decide) ?_
  refine xcV (As := [.int 2]) (rest := []) ⟨hx, hb, hml, hown, hts⟩ (c_X4_fail l D cy b am 0 nS nB st bk gate nu 2) (cwV 1 hts gX4_swear_X4_fail rfl rfl rfl (by decide +kernel) ⟨Nat.le_of_ble_eq_true rfl, Nat.le_of_ble_eq_true rfl⟩) hK hP hD hS hA rfl rfl rfl (xE_all) rfl hl.1 rfl (Nat.le_of_ble_eq_true rfl) dX4_swear_52 ⟨Nat.le_of_ble_eq_true rfl, Nat.le_of_ble_eq_true rfl⟩ (fun _ H locs _ hP hD hS => ?_)
  have hP : va_P D vwCl (mw cy b am 2 nS nB st bk gate nu) H := hP
  have hD : va_D A (mw cy b am 2 nS nB st bk gate nu) := hD
  refine W.eq (g2 := F0 m 55 ls [.int 0]) rfl ?_
  exact xri () hx hb hr hlocks hS (Nat.le_of_ble_eq_true rfl) (Nat.le_of_ble_eq_true rfl) dX4_swear_55 hP hD rfl trivial

set_option maxHeartbeats 4000000 in
set_option maxRecDepth 100000 in
/-- swear, refused -/
theorem c_X4_swear_2c (l : Launch) (D : va_G) (cy : Nat → ClassId) (b : Nat) (am : Nat → Nat) (thr : Int32) (nS nB : Nat) (st bk : Nat → Iu) (gate nu : Iu) (i : Nat) (hi : i < nS) (p1 p2 p3 : Int32) (h1 : (0 : Int32) ≤ p1 ∧ p1 ≤ 25) (h2 : (5 : Int32) ≤ p2 ∧ p2 ≤ 12) (h3 : ¬ ((0 : Int32) ≤ p3 ∧ p3 ≤ 90)) (hcS : nS ≤ 4) : xM l D cy yX4_swear wsX4_swear ({ frames := 2, cells := 1, slots := 8, locals := 60 } : Room) [.ref b, .int (nI i), .int p1, .int p2, .int p3] (mw cy b am thr nS nB st bk gate nu) (fun _ : Unit => some (.int 0)) (fun _ => True) (fun _ => mw cy b am 2 nS nB st bk gate nu) := by
  refine xM.of cX4_swear 6 (some .int) RX4 (by decide +kernel) rfl rfl (Nat.le_of_ble_eq_true rfl) ?_
  intro p e s m below meth c A ls hx hb hr hts hown hlocks hml hin hK hA hP hD hS hl
  have hl : lv_has ls 6 [(0, .ref b), (1, .int (nI i)), (2, .int p1), (3, .int p2), (4, .int p3)] := hl
  have hinX4 : ∀ w ∈ wsX40, w ∈ wsX4_swear := fun _ h => List.mem_cons_of_mem _ (List.mem_append_right _ h)
  refine lv_aload_n hx hb dX4_swear_0 rfl (lv_at hl 0 rfl) ?_
  refine lv_iconst (v := 0) hx hb dX4_swear_1 (by decide) ?_
  refine va_put (D := D) (ci := 4) (v := .int 0) (ty := .int) (C := RX4) (T := TX4) (N := 8) hx hb hts hinX4 tyX4 tyX4_ok nmX4 hown hK.1 hP hD hS 0 rfl rfl 0 (by decide) (hts (.fieldLink RX4 26 "LoafMarksModel" "thrown" "I") (List.mem_of_getElem? (i := 1) rfl)) (fun _ h9 => h9) rfl (by decide +kernel) rfl rfl (Nat.le_of_ble_eq_true rfl) dX4_swear_2 (fun H locs hP hD hS => ?_)
  have hP : va_P D vwCl (mw cy b am 0 nS nB st bk gate nu) H := hP
  have hD : va_D A (mw cy b am 0 nS nB st bk gate nu) := hD
  refine lv_aload_n hx hb dX4_swear_5 rfl (lv_at hl 0 rfl) ?_
  refine lv_iload_n hx hb dX4_swear_6 rfl (lv_at hl 1 rfl) ?_
  refine xcV (As := [.int (nI i)]) (rest := []) ⟨hx, hb, hml, hown, hts⟩ (c_X4_isStore l D cy b am 0 nS nB st bk gate nu (nI i)) (cwV 1 hts gX4_swear_X4_isStore rfl rfl rfl (by decide +kernel) ⟨Nat.le_of_ble_eq_true rfl, Nat.le_of_ble_eq_true rfl⟩) hK hP hD hS hA rfl rfl rfl (xE_all) rfl hl.1 rfl (Nat.le_of_ble_eq_true rfl) dX4_swear_7 ⟨Nat.le_of_ble_eq_true rfl, Nat.le_of_ble_eq_true rfl⟩ (fun _ H locs _ hP hD hS => ?_)
  have hP : va_P D vwCl (mw cy b am 0 nS nB st bk gate nu) H := hP
  have hD : va_D A (mw cy b am 0 nS nB st bk gate nu) := hD
  refine W.eq (g2 := F0 m 10 ls [.int (inN (nI i) nS)]) rfl ?_
  refine lv_if_ne (tgt := 19) hx hb dX4_swear_10 (by decide) (fun _ => ?_) (fun z => absurd z (inN_ok hi (by omega)))
  refine lv_iload_n hx hb dX4_swear_19 rfl (lv_at hl 2 rfl) ?_
  refine lv_iconst (v := 0) hx hb dX4_swear_20 (by decide) ?_
  refine lv_bipush (v := 25) hx hb dX4_swear_21 (by decide) ?_
  refine xcS (As := [.int p1, .int 0, .int 25]) (rest := []) ⟨hx, hb, hml, hown, hts⟩ (c_X4_isIn l D cy p1 0 25) (va_cwS 3 hts gX4_swear_X4_isIn rfl rfl rfl (by decide +kernel) ⟨Nat.le_of_ble_eq_true rfl, Nat.le_of_ble_eq_true rfl⟩) hK hP hD hS hA (xE_nil) rfl hl.1 rfl (Nat.le_of_ble_eq_true rfl) dX4_swear_23 ⟨Nat.le_of_ble_eq_true rfl, Nat.le_of_ble_eq_true rfl⟩ (fun _ H locs _ hP hD hS => ?_)
  have hP : va_P D vwCl (mw cy b am 0 nS nB st bk gate nu) H := hP
  have hD : va_D A (mw cy b am 0 nS nB st bk gate nu) := hD
  refine W.eq (g2 := F0 m 26 ls [.int (wi p1 0 25)]) rfl ?_
  refine lv_if_eq (tgt := 50) hx hb dX4_swear_26 (by decide) (fun z => absurd z (wi_ok h1)) (fun _ => ?_)
  refine lv_iload_n hx hb dX4_swear_29 rfl (lv_at hl 3 rfl) ?_
  refine lv_iconst (v := 5) hx hb dX4_swear_30 (by decide) ?_
  refine lv_bipush (v := 12) hx hb dX4_swear_31 (by decide) ?_
  refine xcS (As := [.int p2, .int 5, .int 12]) (rest := []) ⟨hx, hb, hml, hown, hts⟩ (c_X4_isIn l D cy p2 5 12) (va_cwS 3 hts gX4_swear_X4_isIn rfl rfl rfl (by decide +kernel) ⟨Nat.le_of_ble_eq_true rfl, Nat.le_of_ble_eq_true rfl⟩) hK hP hD hS hA (xE_nil) rfl hl.1 rfl (Nat.le_of_ble_eq_true rfl) dX4_swear_33 ⟨Nat.le_of_ble_eq_true rfl, Nat.le_of_ble_eq_true rfl⟩ (fun _ H locs _ hP hD hS => ?_)
  have hP : va_P D vwCl (mw cy b am 0 nS nB st bk gate nu) H := hP
  have hD : va_D A (mw cy b am 0 nS nB st bk gate nu) := hD
  refine W.eq (g2 := F0 m 36 ls [.int (wi p2 5 12)]) rfl ?_
  refine lv_if_eq (tgt := 50) hx hb dX4_swear_36 (by decide) (fun z => absurd z (wi_ok h2)) (fun _ => ?_)
  refine lv_iload hx hb dX4_swear_39 (lv_at hl 4 rfl) ?_
  refine lv_iconst (v := 0) hx hb dX4_swear_41 (by decide) ?_
  refine lv_bipush (v := 90) hx hb dX4_swear_42 (by decide) ?_
  refine xcS (As := [.int p3, .int 0, .int 90]) (rest := []) ⟨hx, hb, hml, hown, hts⟩ (c_X4_isIn l D cy p3 0 90) (va_cwS 3 hts gX4_swear_X4_isIn rfl rfl rfl (by decide +kernel) ⟨Nat.le_of_ble_eq_true rfl, Nat.le_of_ble_eq_true rfl⟩) hK hP hD hS hA (xE_nil) rfl hl.1 rfl (Nat.le_of_ble_eq_true rfl) dX4_swear_44 ⟨Nat.le_of_ble_eq_true rfl, Nat.le_of_ble_eq_true rfl⟩ (fun _ H locs _ hP hD hS => ?_)
  have hP : va_P D vwCl (mw cy b am 0 nS nB st bk gate nu) H := hP
  have hD : va_D A (mw cy b am 0 nS nB st bk gate nu) := hD
  refine W.eq (g2 := F0 m 47 ls [.int (wi p3 0 90)]) rfl ?_
  refine lv_if_ne (tgt := 56) hx hb dX4_swear_47 (by decide) (fun z => absurd (wi_no h3) z) (fun _ => ?_)
  refine lv_aload_n hx hb dX4_swear_50 rfl (lv_at hl 0 rfl) ?_
  refine lv_iconst (v := 2) hx hb dX4_swear_51 (by decide) ?_
  refine xcV (As := [.int 2]) (rest := []) ⟨hx, hb, hml, hown, hts⟩ (c_X4_fail l D cy b am 0 nS nB st bk gate nu 2) (cwV 1 hts gX4_swear_X4_fail rfl rfl rfl (by decide +kernel) ⟨Nat.le_of_ble_eq_true rfl, Nat.le_of_ble_eq_true rfl⟩) hK hP hD hS hA rfl rfl rfl (xE_all) rfl hl.1 rfl (Nat.le_of_ble_eq_true rfl) dX4_swear_52 ⟨Nat.le_of_ble_eq_true rfl, Nat.le_of_ble_eq_true rfl⟩ (fun _ H locs _ hP hD hS => ?_)
  have hP : va_P D vwCl (mw cy b am 2 nS nB st bk gate nu) H := hP
  have hD : va_D A (mw cy b am 2 nS nB st bk gate nu) := hD
  refine W.eq (g2 := F0 m 55 ls [.int 0]) rfl ?_
  exact xri () hx hb hr hlocks hS (Nat.le_of_ble_eq_true rfl) (Nat.le_of_ble_eq_true rfl) dX4_swear_55 hP hD rfl trivial

set_option maxHeartbeats 4000000 in
set_option maxRecDepth 100000 in
/-- swear, refused -/
theorem c_X4_swear_3a (l : Launch) (D : va_G) (cy : Nat → ClassId) (b : Nat) (am : Nat → Nat) (thr : Int32) (nS nB : Nat) (st bk : Nat → Iu) (gate nu : Iu) (i : Nat) (hi : i < nS) (p1 p2 p3 : Int32) (h1 : (0 : Int32) ≤ p1 ∧ p1 ≤ 25) (h2 : (5 : Int32) ≤ p2 ∧ p2 ≤ 12) (h3 : (0 : Int32) ≤ p3 ∧ p3 ≤ 90) (hno : ¬ ownF bk p1 nB 0 = -1) (hroom : nB < 6) (hcS : nS ≤ 4) : xM l D cy yX4_swear wsX4_swear ({ frames := 2, cells := 1, slots := 8, locals := 60 } : Room) [.ref b, .int (nI i), .int p1, .int p2, .int p3] (mw cy b am thr nS nB st bk gate nu) (fun _ : Unit => some (.int 0)) (fun _ => True) (fun _ => mw cy b am 3 nS nB st bk gate nu) := by
  refine xM.of cX4_swear 6 (some .int) RX4 (by decide +kernel) rfl rfl (Nat.le_of_ble_eq_true rfl) ?_
  intro p e s m below meth c A ls hx hb hr hts hown hlocks hml hin hK hA hP hD hS hl
  have hl : lv_has ls 6 [(0, .ref b), (1, .int (nI i)), (2, .int p1), (3, .int p2), (4, .int p3)] := hl
  have hcB : nB ≤ 6 := by omega
  have hinX4 : ∀ w ∈ wsX40, w ∈ wsX4_swear := fun _ h => List.mem_cons_of_mem _ (List.mem_append_right _ h)
  refine lv_aload_n hx hb dX4_swear_0 rfl (lv_at hl 0 rfl) ?_
  refine lv_iconst (v := 0) hx hb dX4_swear_1 (by decide) ?_
  refine va_put (D := D) (ci := 4) (v := .int 0) (ty := .int) (C := RX4) (T := TX4) (N := 8) hx hb hts hinX4 tyX4 tyX4_ok nmX4 hown hK.1 hP hD hS 0 rfl rfl 0 (by decide) (hts (.fieldLink RX4 26 "LoafMarksModel" "thrown" "I") (List.mem_of_getElem? (i := 1) rfl)) (fun _ h9 => h9) rfl (by decide +kernel) rfl rfl (Nat.le_of_ble_eq_true rfl) dX4_swear_2 (fun H locs hP hD hS => ?_)
  have hP : va_P D vwCl (mw cy b am 0 nS nB st bk gate nu) H := hP
  have hD : va_D A (mw cy b am 0 nS nB st bk gate nu) := hD
  refine lv_aload_n hx hb dX4_swear_5 rfl (lv_at hl 0 rfl) ?_
  refine lv_iload_n hx hb dX4_swear_6 rfl (lv_at hl 1 rfl) ?_
  refine xcV (As := [.int (nI i)]) (rest := []) ⟨hx, hb, hml, hown, hts⟩ (c_X4_isStore l D cy b am 0 nS nB st bk gate nu (nI i)) (cwV 1 hts gX4_swear_X4_isStore rfl rfl rfl (by decide +kernel) ⟨Nat.le_of_ble_eq_true rfl, Nat.le_of_ble_eq_true rfl⟩) hK hP hD hS hA rfl rfl rfl (xE_all) rfl hl.1 rfl (Nat.le_of_ble_eq_true rfl) dX4_swear_7 ⟨Nat.le_of_ble_eq_true rfl, Nat.le_of_ble_eq_true rfl⟩ (fun _ H locs _ hP hD hS => ?_)
  have hP : va_P D vwCl (mw cy b am 0 nS nB st bk gate nu) H := hP
  have hD : va_D A (mw cy b am 0 nS nB st bk gate nu) := hD
  refine W.eq (g2 := F0 m 10 ls [.int (inN (nI i) nS)]) rfl ?_
  refine lv_if_ne (tgt := 19) hx hb dX4_swear_10 (by decide) (fun _ => ?_) (fun z => absurd z (inN_ok hi (by omega)))
  refine lv_iload_n hx hb dX4_swear_19 rfl (lv_at hl 2 rfl) ?_
  refine lv_iconst (v := 0) hx hb dX4_swear_20 (by decide) ?_
  refine lv_bipush (v := 25) hx hb dX4_swear_21 (by decide) ?_
  refine xcS (As := [.int p1, .int 0, .int 25]) (rest := []) ⟨hx, hb, hml, hown, hts⟩ (c_X4_isIn l D cy p1 0 25) (va_cwS 3 hts gX4_swear_X4_isIn rfl rfl rfl (by decide +kernel) ⟨Nat.le_of_ble_eq_true rfl, Nat.le_of_ble_eq_true rfl⟩) hK hP hD hS hA (xE_nil) rfl hl.1 rfl (Nat.le_of_ble_eq_true rfl) dX4_swear_23 ⟨Nat.le_of_ble_eq_true rfl, Nat.le_of_ble_eq_true rfl⟩ (fun _ H locs _ hP hD hS => ?_)
  have hP : va_P D vwCl (mw cy b am 0 nS nB st bk gate nu) H := hP
  have hD : va_D A (mw cy b am 0 nS nB st bk gate nu) := hD
  refine W.eq (g2 := F0 m 26 ls [.int (wi p1 0 25)]) rfl ?_
  refine lv_if_eq (tgt := 50) hx hb dX4_swear_26 (by decide) (fun z => absurd z (wi_ok h1)) (fun _ => ?_)
  refine lv_iload_n hx hb dX4_swear_29 rfl (lv_at hl 3 rfl) ?_
  refine lv_iconst (v := 5) hx hb dX4_swear_30 (by decide) ?_
  refine lv_bipush (v := 12) hx hb dX4_swear_31 (by decide) ?_
  refine xcS (As := [.int p2, .int 5, .int 12]) (rest := []) ⟨hx, hb, hml, hown, hts⟩ (c_X4_isIn l D cy p2 5 12) (va_cwS 3 hts gX4_swear_X4_isIn rfl rfl rfl (by decide +kernel) ⟨Nat.le_of_ble_eq_true rfl, Nat.le_of_ble_eq_true rfl⟩) hK hP hD hS hA (xE_nil) rfl hl.1 rfl (Nat.le_of_ble_eq_true rfl) dX4_swear_33 ⟨Nat.le_of_ble_eq_true rfl, Nat.le_of_ble_eq_true rfl⟩ (fun _ H locs _ hP hD hS => ?_)
  have hP : va_P D vwCl (mw cy b am 0 nS nB st bk gate nu) H := hP
  have hD : va_D A (mw cy b am 0 nS nB st bk gate nu) := hD
  refine W.eq (g2 := F0 m 36 ls [.int (wi p2 5 12)]) rfl ?_
  refine lv_if_eq (tgt := 50) hx hb dX4_swear_36 (by decide) (fun z => absurd z (wi_ok h2)) (fun _ => ?_)
  refine lv_iload hx hb dX4_swear_39 (lv_at hl 4 rfl) ?_
  refine lv_iconst (v := 0) hx hb dX4_swear_41 (by decide) ?_
  refine lv_bipush (v := 90) hx hb dX4_swear_42 (by decide) ?_
  refine xcS (As := [.int p3, .int 0, .int 90]) (rest := []) ⟨hx, hb, hml, hown, hts⟩ (c_X4_isIn l D cy p3 0 90) (va_cwS 3 hts gX4_swear_X4_isIn rfl rfl rfl (by decide +kernel) ⟨Nat.le_of_ble_eq_true rfl, Nat.le_of_ble_eq_true rfl⟩) hK hP hD hS hA (xE_nil) rfl hl.1 rfl (Nat.le_of_ble_eq_true rfl) dX4_swear_44 ⟨Nat.le_of_ble_eq_true rfl, Nat.le_of_ble_eq_true rfl⟩ (fun _ H locs _ hP hD hS => ?_)
  have hP : va_P D vwCl (mw cy b am 0 nS nB st bk gate nu) H := hP
  have hD : va_D A (mw cy b am 0 nS nB st bk gate nu) := hD
  refine W.eq (g2 := F0 m 47 ls [.int (wi p3 0 90)]) rfl ?_
  refine lv_if_ne (tgt := 56) hx hb dX4_swear_47 (by decide) (fun _ => ?_) (fun z => absurd z (wi_ok h3))
  refine lv_aload_n hx hb dX4_swear_56 rfl (lv_at hl 0 rfl) ?_
  refine va_get (D := D) (ci := 4) (v := .int (nI nB)) (C := RX4) (T := TX4) (N := 8) hx hb hts hinX4 hown hK.1 hP 0 rfl rfl 2 (by decide) (hts (.fieldLink RX4 36 "LoafMarksModel" "bakers" "I") (List.mem_of_getElem? (i := 2) rfl)) (fun _ h9 => h9) rfl dX4_swear_57 ?_
  refine lv_bipush (v := 6) hx hb dX4_swear_60 (by decide) ?_
  refine lv_icmp_eq (tgt := 74) hx hb dX4_swear_62 (by decide) (fun z => absurd z (fun z => absurd ((nI_eq (a := nB) (b := 6) (by omega) (by decide)).mp z) (by omega))) (fun _ => ?_)
  refine lv_aload_n hx hb dX4_swear_65 rfl (lv_at hl 0 rfl) ?_
  refine lv_iload_n hx hb dX4_swear_66 rfl (lv_at hl 2 rfl) ?_
  refine xcV (As := [.int p1]) (rest := []) ⟨hx, hb, hml, hown, hts⟩ (c_X4_owner l D cy b am 0 nS nB st bk gate nu p1 hcB) (cwV 1 hts gX4_swear_X4_owner rfl rfl rfl (by decide +kernel) ⟨Nat.le_of_ble_eq_true rfl, Nat.le_of_ble_eq_true rfl⟩) hK hP hD hS hA rfl rfl rfl (xE_all) rfl hl.1 rfl (Nat.le_of_ble_eq_true rfl) dX4_swear_67 ⟨Nat.le_of_ble_eq_true rfl, Nat.le_of_ble_eq_true rfl⟩ (fun _ H locs _ hP hD hS => ?_)
  have hP : va_P D vwCl (mw cy b am 0 nS nB st bk gate nu) H := hP
  have hD : va_D A (mw cy b am 0 nS nB st bk gate nu) := hD
  refine W.eq (g2 := F0 m 70 ls [.int (ownF bk p1 nB 0)]) rfl ?_
  refine lv_iconst (v := (-1)) hx hb dX4_swear_70 (by decide) ?_
  refine lv_icmp_eq (tgt := 80) hx hb dX4_swear_71 (by decide) (fun z => absurd z hno) (fun _ => ?_)
  refine lv_aload_n hx hb dX4_swear_74 rfl (lv_at hl 0 rfl) ?_
  refine lv_iconst (v := 3) hx hb dX4_swear_75 (by decide) ?_
  refine xcV (As := [.int 3]) (rest := []) ⟨hx, hb, hml, hown, hts⟩ (c_X4_fail l D cy b am 0 nS nB st bk gate nu 3) (cwV 1 hts gX4_swear_X4_fail rfl rfl rfl (by decide +kernel) ⟨Nat.le_of_ble_eq_true rfl, Nat.le_of_ble_eq_true rfl⟩) hK hP hD hS hA rfl rfl rfl (xE_all) rfl hl.1 rfl (Nat.le_of_ble_eq_true rfl) dX4_swear_76 ⟨Nat.le_of_ble_eq_true rfl, Nat.le_of_ble_eq_true rfl⟩ (fun _ H locs _ hP hD hS => ?_)
  have hP : va_P D vwCl (mw cy b am 3 nS nB st bk gate nu) H := hP
  have hD : va_D A (mw cy b am 3 nS nB st bk gate nu) := hD
  refine W.eq (g2 := F0 m 79 ls [.int 0]) rfl ?_
  exact xri () hx hb hr hlocks hS (Nat.le_of_ble_eq_true rfl) (Nat.le_of_ble_eq_true rfl) dX4_swear_79 hP hD rfl trivial

set_option maxHeartbeats 4000000 in
set_option maxRecDepth 100000 in
/-- swear, refused -/
theorem c_X4_swear_3b (l : Launch) (D : va_G) (cy : Nat → ClassId) (b : Nat) (am : Nat → Nat) (thr : Int32) (nS nB : Nat) (st bk : Nat → Iu) (gate nu : Iu) (i : Nat) (hi : i < nS) (p1 p2 p3 : Int32) (h1 : (0 : Int32) ≤ p1 ∧ p1 ≤ 25) (h2 : (5 : Int32) ≤ p2 ∧ p2 ≤ 12) (h3 : (0 : Int32) ≤ p3 ∧ p3 ≤ 90) (hfull : nB = 6) (hcS : nS ≤ 4) : xM l D cy yX4_swear wsX4_swear ({ frames := 2, cells := 1, slots := 8, locals := 60 } : Room) [.ref b, .int (nI i), .int p1, .int p2, .int p3] (mw cy b am thr nS nB st bk gate nu) (fun _ : Unit => some (.int 0)) (fun _ => True) (fun _ => mw cy b am 3 nS nB st bk gate nu) := by
  refine xM.of cX4_swear 6 (some .int) RX4 (by decide +kernel) rfl rfl (Nat.le_of_ble_eq_true rfl) ?_
  intro p e s m below meth c A ls hx hb hr hts hown hlocks hml hin hK hA hP hD hS hl
  have hl : lv_has ls 6 [(0, .ref b), (1, .int (nI i)), (2, .int p1), (3, .int p2), (4, .int p3)] := hl
  have hinX4 : ∀ w ∈ wsX40, w ∈ wsX4_swear := fun _ h => List.mem_cons_of_mem _ (List.mem_append_right _ h)
  refine lv_aload_n hx hb dX4_swear_0 rfl (lv_at hl 0 rfl) ?_
  refine lv_iconst (v := 0) hx hb dX4_swear_1 (by decide) ?_
  refine va_put (D := D) (ci := 4) (v := .int 0) (ty := .int) (C := RX4) (T := TX4) (N := 8) hx hb hts hinX4 tyX4 tyX4_ok nmX4 hown hK.1 hP hD hS 0 rfl rfl 0 (by decide) (hts (.fieldLink RX4 26 "LoafMarksModel" "thrown" "I") (List.mem_of_getElem? (i := 1) rfl)) (fun _ h9 => h9) rfl (by decide +kernel) rfl rfl (Nat.le_of_ble_eq_true rfl) dX4_swear_2 (fun H locs hP hD hS => ?_)
  have hP : va_P D vwCl (mw cy b am 0 nS nB st bk gate nu) H := hP
  have hD : va_D A (mw cy b am 0 nS nB st bk gate nu) := hD
  refine lv_aload_n hx hb dX4_swear_5 rfl (lv_at hl 0 rfl) ?_
  refine lv_iload_n hx hb dX4_swear_6 rfl (lv_at hl 1 rfl) ?_
  refine xcV (As := [.int (nI i)]) (rest := []) ⟨hx, hb, hml, hown, hts⟩ (c_X4_isStore l D cy b am 0 nS nB st bk gate nu (nI i)) (cwV 1 hts gX4_swear_X4_isStore rfl rfl rfl (by decide +kernel) ⟨Nat.le_of_ble_eq_true rfl, Nat.le_of_ble_eq_true rfl⟩) hK hP hD hS hA rfl rfl rfl (xE_all) rfl hl.1 rfl (Nat.le_of_ble_eq_true rfl) dX4_swear_7 ⟨Nat.le_of_ble_eq_true rfl, Nat.le_of_ble_eq_true rfl⟩ (fun _ H locs _ hP hD hS => ?_)
  have hP : va_P D vwCl (mw cy b am 0 nS nB st bk gate nu) H := hP
  have hD : va_D A (mw cy b am 0 nS nB st bk gate nu) := hD
  refine W.eq (g2 := F0 m 10 ls [.int (inN (nI i) nS)]) rfl ?_
  refine lv_if_ne (tgt := 19) hx hb dX4_swear_10 (by decide) (fun _ => ?_) (fun z => absurd z (inN_ok hi (by omega)))
  refine lv_iload_n hx hb dX4_swear_19 rfl (lv_at hl 2 rfl) ?_
  refine lv_iconst (v := 0) hx hb dX4_swear_20 (by decide) ?_
  refine lv_bipush (v := 25) hx hb dX4_swear_21 (by decide) ?_
  refine xcS (As := [.int p1, .int 0, .int 25]) (rest := []) ⟨hx, hb, hml, hown, hts⟩ (c_X4_isIn l D cy p1 0 25) (va_cwS 3 hts gX4_swear_X4_isIn rfl rfl rfl (by decide +kernel) ⟨Nat.le_of_ble_eq_true rfl, Nat.le_of_ble_eq_true rfl⟩) hK hP hD hS hA (xE_nil) rfl hl.1 rfl (Nat.le_of_ble_eq_true rfl) dX4_swear_23 ⟨Nat.le_of_ble_eq_true rfl, Nat.le_of_ble_eq_true rfl⟩ (fun _ H locs _ hP hD hS => ?_)
  have hP : va_P D vwCl (mw cy b am 0 nS nB st bk gate nu) H := hP
  have hD : va_D A (mw cy b am 0 nS nB st bk gate nu) := hD
  refine W.eq (g2 := F0 m 26 ls [.int (wi p1 0 25)]) rfl ?_
  refine lv_if_eq (tgt := 50) hx hb dX4_swear_26 (by decide) (fun z => absurd z (wi_ok h1)) (fun _ => ?_)
  refine lv_iload_n hx hb dX4_swear_29 rfl (lv_at hl 3 rfl) ?_
  refine lv_iconst (v := 5) hx hb dX4_swear_30 (by decide) ?_
  refine lv_bipush (v := 12) hx hb dX4_swear_31 (by decide) ?_
  refine xcS (As := [.int p2, .int 5, .int 12]) (rest := []) ⟨hx, hb, hml, hown, hts⟩ (c_X4_isIn l D cy p2 5 12) (va_cwS 3 hts gX4_swear_X4_isIn rfl rfl rfl (by decide +kernel) ⟨Nat.le_of_ble_eq_true rfl, Nat.le_of_ble_eq_true rfl⟩) hK hP hD hS hA (xE_nil) rfl hl.1 rfl (Nat.le_of_ble_eq_true rfl) dX4_swear_33 ⟨Nat.le_of_ble_eq_true rfl, Nat.le_of_ble_eq_true rfl⟩ (fun _ H locs _ hP hD hS => ?_)
  have hP : va_P D vwCl (mw cy b am 0 nS nB st bk gate nu) H := hP
  have hD : va_D A (mw cy b am 0 nS nB st bk gate nu) := hD
  refine W.eq (g2 := F0 m 36 ls [.int (wi p2 5 12)]) rfl ?_
  refine lv_if_eq (tgt := 50) hx hb dX4_swear_36 (by decide) (fun z => absurd z (wi_ok h2)) (fun _ => ?_)
  refine lv_iload hx hb dX4_swear_39 (lv_at hl 4 rfl) ?_
  refine lv_iconst (v := 0) hx hb dX4_swear_41 (by decide) ?_
  refine lv_bipush (v := 90) hx hb dX4_swear_42 (by decide) ?_
  refine xcS (As := [.int p3, .int 0, .int 90]) (rest := []) ⟨hx, hb, hml, hown, hts⟩ (c_X4_isIn l D cy p3 0 90) (va_cwS 3 hts gX4_swear_X4_isIn rfl rfl rfl (by decide +kernel) ⟨Nat.le_of_ble_eq_true rfl, Nat.le_of_ble_eq_true rfl⟩) hK hP hD hS hA (xE_nil) rfl hl.1 rfl (Nat.le_of_ble_eq_true rfl) dX4_swear_44 ⟨Nat.le_of_ble_eq_true rfl, Nat.le_of_ble_eq_true rfl⟩ (fun _ H locs _ hP hD hS => ?_)
  have hP : va_P D vwCl (mw cy b am 0 nS nB st bk gate nu) H := hP
  have hD : va_D A (mw cy b am 0 nS nB st bk gate nu) := hD
  refine W.eq (g2 := F0 m 47 ls [.int (wi p3 0 90)]) rfl ?_
  refine lv_if_ne (tgt := 56) hx hb dX4_swear_47 (by decide) (fun _ => ?_) (fun z => absurd z (wi_ok h3))
  refine lv_aload_n hx hb dX4_swear_56 rfl (lv_at hl 0 rfl) ?_
  refine va_get (D := D) (ci := 4) (v := .int (nI nB)) (C := RX4) (T := TX4) (N := 8) hx hb hts hinX4 hown hK.1 hP 0 rfl rfl 2 (by decide) (hts (.fieldLink RX4 36 "LoafMarksModel" "bakers" "I") (List.mem_of_getElem? (i := 2) rfl)) (fun _ h9 => h9) rfl dX4_swear_57 ?_
  refine lv_bipush (v := 6) hx hb dX4_swear_60 (by decide) ?_
  refine lv_icmp_eq (tgt := 74) hx hb dX4_swear_62 (by decide) (fun _ => ?_) (fun z => absurd (by rw [hfull]; rfl) z)
  refine lv_aload_n hx hb dX4_swear_74 rfl (lv_at hl 0 rfl) ?_
  refine lv_iconst (v := 3) hx hb dX4_swear_75 (by decide) ?_
  refine xcV (As := [.int 3]) (rest := []) ⟨hx, hb, hml, hown, hts⟩ (c_X4_fail l D cy b am 0 nS nB st bk gate nu 3) (cwV 1 hts gX4_swear_X4_fail rfl rfl rfl (by decide +kernel) ⟨Nat.le_of_ble_eq_true rfl, Nat.le_of_ble_eq_true rfl⟩) hK hP hD hS hA rfl rfl rfl (xE_all) rfl hl.1 rfl (Nat.le_of_ble_eq_true rfl) dX4_swear_76 ⟨Nat.le_of_ble_eq_true rfl, Nat.le_of_ble_eq_true rfl⟩ (fun _ H locs _ hP hD hS => ?_)
  have hP : va_P D vwCl (mw cy b am 3 nS nB st bk gate nu) H := hP
  have hD : va_D A (mw cy b am 3 nS nB st bk gate nu) := hD
  refine W.eq (g2 := F0 m 79 ls [.int 0]) rfl ?_
  exact xri () hx hb hr hlocks hS (Nat.le_of_ble_eq_true rfl) (Nat.le_of_ble_eq_true rfl) dX4_swear_79 hP hD rfl trivial

set_option maxHeartbeats 4000000 in
set_option maxRecDepth 100000 in
/-- deal -/
theorem c_X4_deal (l : Launch) (D : va_G) (cy : Nat → ClassId) (b : Nat) (am : Nat → Nat) (thr : Int32) (nS nB : Nat) (st bk : Nat → Iu) (gate nu : Iu) (j : Nat) (hj : j < nB) (p1 : Int32) (h2 : (0 : Int32) ≤ p1 ∧ p1 ≤ 90) (hcB : nB ≤ 6) : xM l D cy yX4_deal wsX4_deal ({ frames := 2, cells := 0, slots := 0, locals := 60 } : Room) [.ref b, .int (nI j), .int p1] (mw cy b am thr nS nB st bk gate nu) (fun _ : Unit => some (.int (bk j 2))) (fun _ => True) (fun _ => mw cy b am 0 nS nB st (va_up bk j (upd (bk j) 2 p1)) gate nu) := by
  refine xM.of cX4_deal 4 (some .int) RX4 (by decide +kernel) rfl rfl (Nat.le_of_ble_eq_true rfl) ?_
  intro p e s m below meth c A ls hx hb hr hts hown hlocks hml hin hK hA hP hD hS hl
  have hl : lv_has ls 4 [(0, .ref b), (1, .int (nI j)), (2, .int p1)] := hl
  have hinX4 : ∀ w ∈ wsX40, w ∈ wsX4_deal := fun _ h => List.mem_cons_of_mem _ (List.mem_append_right _ h)
  refine lv_aload_n hx hb dX4_deal_0 rfl (lv_at hl 0 rfl) ?_
  refine lv_iconst (v := 0) hx hb dX4_deal_1 (by decide) ?_
  refine va_put (D := D) (ci := 4) (v := .int 0) (ty := .int) (C := RX4) (T := TX4) (N := 8) hx hb hts hinX4 tyX4 tyX4_ok nmX4 hown hK.1 hP hD hS 0 rfl rfl 0 (by decide) (hts (.fieldLink RX4 26 "LoafMarksModel" "thrown" "I") (List.mem_of_getElem? (i := 1) rfl)) (fun _ h9 => h9) rfl (by decide +kernel) rfl rfl (Nat.le_of_ble_eq_true rfl) dX4_deal_2 (fun H locs hP hD hS => ?_)
  have hP : va_P D vwCl (mw cy b am 0 nS nB st bk gate nu) H := hP
  have hD : va_D A (mw cy b am 0 nS nB st bk gate nu) := hD
  refine lv_aload_n hx hb dX4_deal_5 rfl (lv_at hl 0 rfl) ?_
  refine lv_iload_n hx hb dX4_deal_6 rfl (lv_at hl 1 rfl) ?_
  refine xcV (As := [.int (nI j)]) (rest := []) ⟨hx, hb, hml, hown, hts⟩ (c_X4_isBaker l D cy b am 0 nS nB st bk gate nu (nI j)) (cwV 1 hts gX4_deal_X4_isBaker rfl rfl rfl (by decide +kernel) ⟨Nat.le_of_ble_eq_true rfl, Nat.le_of_ble_eq_true rfl⟩) hK hP hD hS hA rfl rfl rfl (xE_all) rfl hl.1 rfl (Nat.le_of_ble_eq_true rfl) dX4_deal_7 ⟨Nat.le_of_ble_eq_true rfl, Nat.le_of_ble_eq_true rfl⟩ (fun _ H locs _ hP hD hS => ?_)
  have hP : va_P D vwCl (mw cy b am 0 nS nB st bk gate nu) H := hP
  have hD : va_D A (mw cy b am 0 nS nB st bk gate nu) := hD
  refine W.eq (g2 := F0 m 10 ls [.int (inN (nI j) nB)]) rfl ?_
  refine lv_if_ne (tgt := 19) hx hb dX4_deal_10 (by decide) (fun _ => ?_) (fun z => absurd z (inN_ok hj (by omega)))
  refine lv_iload_n hx hb dX4_deal_19 rfl (lv_at hl 2 rfl) ?_
  refine lv_iconst (v := 0) hx hb dX4_deal_20 (by decide) ?_
  refine lv_bipush (v := 90) hx hb dX4_deal_21 (by decide) ?_
  refine xcS (As := [.int p1, .int 0, .int 90]) (rest := []) ⟨hx, hb, hml, hown, hts⟩ (c_X4_isIn l D cy p1 0 90) (va_cwS 3 hts gX4_deal_X4_isIn rfl rfl rfl (by decide +kernel) ⟨Nat.le_of_ble_eq_true rfl, Nat.le_of_ble_eq_true rfl⟩) hK hP hD hS hA (xE_nil) rfl hl.1 rfl (Nat.le_of_ble_eq_true rfl) dX4_deal_23 ⟨Nat.le_of_ble_eq_true rfl, Nat.le_of_ble_eq_true rfl⟩ (fun _ H locs _ hP hD hS => ?_)
  have hP : va_P D vwCl (mw cy b am 0 nS nB st bk gate nu) H := hP
  have hD : va_D A (mw cy b am 0 nS nB st bk gate nu) := hD
  refine W.eq (g2 := F0 m 26 ls [.int (wi p1 0 90)]) rfl ?_
  refine lv_if_ne (tgt := 35) hx hb dX4_deal_26 (by decide) (fun _ => ?_) (fun z => absurd z (wi_ok h2))
  refine lv_aload_n hx hb dX4_deal_35 rfl (lv_at hl 0 rfl) ?_
  refine lv_iload_n hx hb dX4_deal_36 rfl (lv_at hl 1 rfl) ?_
  refine lv_iconst (v := 2) hx hb dX4_deal_37 (by decide) ?_
  refine xcV (As := [.int (nI j), .int 2]) (rest := []) ⟨hx, hb, hml, hown, hts⟩ (c_X4_sh l D cy b am 0 nS nB st bk gate nu j 2 (by omega) (by omega)) (cwV 2 hts gX4_deal_X4_sh rfl rfl rfl (by decide +kernel) ⟨Nat.le_of_ble_eq_true rfl, Nat.le_of_ble_eq_true rfl⟩) hK hP hD hS hA rfl rfl rfl (xE_all) rfl hl.1 rfl (Nat.le_of_ble_eq_true rfl) dX4_deal_38 ⟨Nat.le_of_ble_eq_true rfl, Nat.le_of_ble_eq_true rfl⟩ (fun _ H locs _ hP hD hS => ?_)
  have hP : va_P D vwCl (mw cy b am 0 nS nB st bk gate nu) H := hP
  have hD : va_D A (mw cy b am 0 nS nB st bk gate nu) := hD
  refine W.eq (g2 := F0 m 41 ls [.int (bk j 2)]) rfl ?_
  refine lv_istore_n (lv' := [(3, .int (bk j 2)), (0, .ref b), (1, .int (nI j)), (2, .int p1)]) hx hb dX4_deal_41 rfl hl (by decide) rfl (fun ls hl => ?_)
  refine lv_aload_n hx hb dX4_deal_42 rfl (lv_at hl 1 rfl) ?_
  refine lv_iload_n hx hb dX4_deal_43 rfl (lv_at hl 2 rfl) ?_
  refine lv_iconst (v := 2) hx hb dX4_deal_44 (by decide) ?_
  refine lv_iload_n hx hb dX4_deal_45 rfl (lv_at hl 3 rfl) ?_
  refine xcV (As := [.int (nI j), .int 2, .int p1]) (rest := []) ⟨hx, hb, hml, hown, hts⟩ (c_X4_put l D cy b am 0 nS nB st bk gate nu j 2 p1 (by omega) (by omega)) (cwV 3 hts gX4_deal_X4_put rfl rfl rfl (by decide +kernel) ⟨Nat.le_of_ble_eq_true rfl, Nat.le_of_ble_eq_true rfl⟩) hK hP hD hS hA rfl rfl rfl (xE_all) rfl hl.1 rfl (Nat.le_of_ble_eq_true rfl) dX4_deal_46 ⟨Nat.le_of_ble_eq_true rfl, Nat.le_of_ble_eq_true rfl⟩ (fun _ H locs _ hP hD hS => ?_)
  have hP : va_P D vwCl (mw cy b am 0 nS nB st (va_up bk j (upd (bk j) 2 p1)) gate nu) H := hP
  have hD : va_D A (mw cy b am 0 nS nB st (va_up bk j (upd (bk j) 2 p1)) gate nu) := hD
  refine W.eq (g2 := F0 m 49 ls []) rfl ?_
  refine lv_iload_n hx hb dX4_deal_49 rfl (lv_at hl 0 rfl) ?_
  exact xri () hx hb hr hlocks hS (Nat.le_of_ble_eq_true rfl) (Nat.le_of_ble_eq_true rfl) dX4_deal_50 hP hD rfl trivial

set_option maxHeartbeats 4000000 in
set_option maxRecDepth 100000 in
/-- deal, refused -/
theorem c_X4_deal_1 (l : Launch) (D : va_G) (cy : Nat → ClassId) (b : Nat) (am : Nat → Nat) (thr : Int32) (nS nB : Nat) (st bk : Nat → Iu) (gate nu : Iu) (p0 p1 : Int32) (hv : ¬ vp_in p0 nB) (hcB : nB ≤ 6) : xM l D cy yX4_deal wsX4_deal ({ frames := 2, cells := 0, slots := 0, locals := 60 } : Room) [.ref b, .int p0, .int p1] (mw cy b am thr nS nB st bk gate nu) (fun _ : Unit => some (.int 0)) (fun _ => True) (fun _ => mw cy b am 1 nS nB st bk gate nu) := by
  refine xM.of cX4_deal 4 (some .int) RX4 (by decide +kernel) rfl rfl (Nat.le_of_ble_eq_true rfl) ?_
  intro p e s m below meth c A ls hx hb hr hts hown hlocks hml hin hK hA hP hD hS hl
  have hl : lv_has ls 4 [(0, .ref b), (1, .int p0), (2, .int p1)] := hl
  have hinX4 : ∀ w ∈ wsX40, w ∈ wsX4_deal := fun _ h => List.mem_cons_of_mem _ (List.mem_append_right _ h)
  refine lv_aload_n hx hb dX4_deal_0 rfl (lv_at hl 0 rfl) ?_
  refine lv_iconst (v := 0) hx hb dX4_deal_1 (by decide) ?_
  refine va_put (D := D) (ci := 4) (v := .int 0) (ty := .int) (C := RX4) (T := TX4) (N := 8) hx hb hts hinX4 tyX4 tyX4_ok nmX4 hown hK.1 hP hD hS 0 rfl rfl 0 (by decide) (hts (.fieldLink RX4 26 "LoafMarksModel" "thrown" "I") (List.mem_of_getElem? (i := 1) rfl)) (fun _ h9 => h9) rfl (by decide +kernel) rfl rfl (Nat.le_of_ble_eq_true rfl) dX4_deal_2 (fun H locs hP hD hS => ?_)
  have hP : va_P D vwCl (mw cy b am 0 nS nB st bk gate nu) H := hP
  have hD : va_D A (mw cy b am 0 nS nB st bk gate nu) := hD
  refine lv_aload_n hx hb dX4_deal_5 rfl (lv_at hl 0 rfl) ?_
  refine lv_iload_n hx hb dX4_deal_6 rfl (lv_at hl 1 rfl) ?_
  refine xcV (As := [.int p0]) (rest := []) ⟨hx, hb, hml, hown, hts⟩ (c_X4_isBaker l D cy b am 0 nS nB st bk gate nu p0) (cwV 1 hts gX4_deal_X4_isBaker rfl rfl rfl (by decide +kernel) ⟨Nat.le_of_ble_eq_true rfl, Nat.le_of_ble_eq_true rfl⟩) hK hP hD hS hA rfl rfl rfl (xE_all) rfl hl.1 rfl (Nat.le_of_ble_eq_true rfl) dX4_deal_7 ⟨Nat.le_of_ble_eq_true rfl, Nat.le_of_ble_eq_true rfl⟩ (fun _ H locs _ hP hD hS => ?_)
  have hP : va_P D vwCl (mw cy b am 0 nS nB st bk gate nu) H := hP
  have hD : va_D A (mw cy b am 0 nS nB st bk gate nu) := hD
  refine W.eq (g2 := F0 m 10 ls [.int (inN p0 nB)]) rfl ?_
  refine lv_if_ne (tgt := 19) hx hb dX4_deal_10 (by decide) (fun z => absurd (inN_no hv (by omega)) z) (fun _ => ?_)
  refine lv_aload_n hx hb dX4_deal_13 rfl (lv_at hl 0 rfl) ?_
  refine lv_iconst (v := 1) hx hb dX4_deal_14 (by decide) ?_
  refine xcV (As := [.int 1]) (rest := []) ⟨hx, hb, hml, hown, hts⟩ (c_X4_fail l D cy b am 0 nS nB st bk gate nu 1) (cwV 1 hts gX4_deal_X4_fail rfl rfl rfl (by decide +kernel) ⟨Nat.le_of_ble_eq_true rfl, Nat.le_of_ble_eq_true rfl⟩) hK hP hD hS hA rfl rfl rfl (xE_all) rfl hl.1 rfl (Nat.le_of_ble_eq_true rfl) dX4_deal_15 ⟨Nat.le_of_ble_eq_true rfl, Nat.le_of_ble_eq_true rfl⟩ (fun _ H locs _ hP hD hS => ?_)
  have hP : va_P D vwCl (mw cy b am 1 nS nB st bk gate nu) H := hP
  have hD : va_D A (mw cy b am 1 nS nB st bk gate nu) := hD
  refine W.eq (g2 := F0 m 18 ls [.int 0]) rfl ?_
  exact xri () hx hb hr hlocks hS (Nat.le_of_ble_eq_true rfl) (Nat.le_of_ble_eq_true rfl) dX4_deal_18 hP hD rfl trivial

set_option maxHeartbeats 4000000 in
set_option maxRecDepth 100000 in
/-- deal, refused -/
theorem c_X4_deal_2 (l : Launch) (D : va_G) (cy : Nat → ClassId) (b : Nat) (am : Nat → Nat) (thr : Int32) (nS nB : Nat) (st bk : Nat → Iu) (gate nu : Iu) (j : Nat) (hj : j < nB) (p1 : Int32) (h2 : ¬ ((0 : Int32) ≤ p1 ∧ p1 ≤ 90)) (hcB : nB ≤ 6) : xM l D cy yX4_deal wsX4_deal ({ frames := 2, cells := 0, slots := 0, locals := 60 } : Room) [.ref b, .int (nI j), .int p1] (mw cy b am thr nS nB st bk gate nu) (fun _ : Unit => some (.int 0)) (fun _ => True) (fun _ => mw cy b am 2 nS nB st bk gate nu) := by
  refine xM.of cX4_deal 4 (some .int) RX4 (by decide +kernel) rfl rfl (Nat.le_of_ble_eq_true rfl) ?_
  intro p e s m below meth c A ls hx hb hr hts hown hlocks hml hin hK hA hP hD hS hl
  have hl : lv_has ls 4 [(0, .ref b), (1, .int (nI j)), (2, .int p1)] := hl
  have hinX4 : ∀ w ∈ wsX40, w ∈ wsX4_deal := fun _ h => List.mem_cons_of_mem _ (List.mem_append_right _ h)
  refine lv_aload_n hx hb dX4_deal_0 rfl (lv_at hl 0 rfl) ?_
  refine lv_iconst (v := 0) hx hb dX4_deal_1 (by decide) ?_
  refine va_put (D := D) (ci := 4) (v := .int 0) (ty := .int) (C := RX4) (T := TX4) (N := 8) hx hb hts hinX4 tyX4 tyX4_ok nmX4 hown hK.1 hP hD hS 0 rfl rfl 0 (by decide) (hts (.fieldLink RX4 26 "LoafMarksModel" "thrown" "I") (List.mem_of_getElem? (i := 1) rfl)) (fun _ h9 => h9) rfl (by decide +kernel) rfl rfl (Nat.le_of_ble_eq_true rfl) dX4_deal_2 (fun H locs hP hD hS => ?_)
  have hP : va_P D vwCl (mw cy b am 0 nS nB st bk gate nu) H := hP
  have hD : va_D A (mw cy b am 0 nS nB st bk gate nu) := hD
  refine lv_aload_n hx hb dX4_deal_5 rfl (lv_at hl 0 rfl) ?_
  refine lv_iload_n hx hb dX4_deal_6 rfl (lv_at hl 1 rfl) ?_
  refine xcV (As := [.int (nI j)]) (rest := []) ⟨hx, hb, hml, hown, hts⟩ (c_X4_isBaker l D cy b am 0 nS nB st bk gate nu (nI j)) (cwV 1 hts gX4_deal_X4_isBaker rfl rfl rfl (by decide +kernel) ⟨Nat.le_of_ble_eq_true rfl, Nat.le_of_ble_eq_true rfl⟩) hK hP hD hS hA rfl rfl rfl (xE_all) rfl hl.1 rfl (Nat.le_of_ble_eq_true rfl) dX4_deal_7 ⟨Nat.le_of_ble_eq_true rfl, Nat.le_of_ble_eq_true rfl⟩ (fun _ H locs _ hP hD hS => ?_)
  have hP : va_P D vwCl (mw cy b am 0 nS nB st bk gate nu) H := hP
  have hD : va_D A (mw cy b am 0 nS nB st bk gate nu) := hD
  refine W.eq (g2 := F0 m 10 ls [.int (inN (nI j) nB)]) rfl ?_
  refine lv_if_ne (tgt := 19) hx hb dX4_deal_10 (by decide) (fun _ => ?_) (fun z => absurd z (inN_ok hj (by omega)))
  refine lv_iload_n hx hb dX4_deal_19 rfl (lv_at hl 2 rfl) ?_
  refine lv_iconst (v := 0) hx hb dX4_deal_20 (by decide) ?_
  refine lv_bipush (v := 90) hx hb dX4_deal_21 (by decide) ?_
  refine xcS (As := [.int p1, .int 0, .int 90]) (rest := []) ⟨hx, hb, hml, hown, hts⟩ (c_X4_isIn l D cy p1 0 90) (va_cwS 3 hts gX4_deal_X4_isIn rfl rfl rfl (by decide +kernel) ⟨Nat.le_of_ble_eq_true rfl, Nat.le_of_ble_eq_true rfl⟩) hK hP hD hS hA (xE_nil) rfl hl.1 rfl (Nat.le_of_ble_eq_true rfl) dX4_deal_23 ⟨Nat.le_of_ble_eq_true rfl, Nat.le_of_ble_eq_true rfl⟩ (fun _ H locs _ hP hD hS => ?_)
  have hP : va_P D vwCl (mw cy b am 0 nS nB st bk gate nu) H := hP
  have hD : va_D A (mw cy b am 0 nS nB st bk gate nu) := hD
  refine W.eq (g2 := F0 m 26 ls [.int (wi p1 0 90)]) rfl ?_
  refine lv_if_ne (tgt := 35) hx hb dX4_deal_26 (by decide) (fun z => absurd (wi_no h2) z) (fun _ => ?_)
  refine lv_aload_n hx hb dX4_deal_29 rfl (lv_at hl 0 rfl) ?_
  refine lv_iconst (v := 2) hx hb dX4_deal_30 (by decide) ?_
  refine xcV (As := [.int 2]) (rest := []) ⟨hx, hb, hml, hown, hts⟩ (c_X4_fail l D cy b am 0 nS nB st bk gate nu 2) (cwV 1 hts gX4_deal_X4_fail rfl rfl rfl (by decide +kernel) ⟨Nat.le_of_ble_eq_true rfl, Nat.le_of_ble_eq_true rfl⟩) hK hP hD hS hA rfl rfl rfl (xE_all) rfl hl.1 rfl (Nat.le_of_ble_eq_true rfl) dX4_deal_31 ⟨Nat.le_of_ble_eq_true rfl, Nat.le_of_ble_eq_true rfl⟩ (fun _ H locs _ hP hD hS => ?_)
  have hP : va_P D vwCl (mw cy b am 2 nS nB st bk gate nu) H := hP
  have hD : va_D A (mw cy b am 2 nS nB st bk gate nu) := hD
  refine W.eq (g2 := F0 m 34 ls [.int 0]) rfl ?_
  exact xri () hx hb hr hlocks hS (Nat.le_of_ble_eq_true rfl) (Nat.le_of_ble_eq_true rfl) dX4_deal_34 hP hD rfl trivial

set_option maxHeartbeats 4000000 in
set_option maxRecDepth 100000 in
/-- weigh -/
theorem c_X4_weigh (l : Launch) (D : va_G) (cy : Nat → ClassId) (b : Nat) (am : Nat → Nat) (thr : Int32) (nS nB : Nat) (st bk : Nat → Iu) (gate nu : Iu) (j : Nat) (hj : j < nB) (h2 : ¬ bk j 5 = 0) (hcB : nB ≤ 6) : xM l D cy yX4_weigh wsX4_weigh ({ frames := 2, cells := 0, slots := 0, locals := 60 } : Room) [.ref b, .int (nI j)] (mw cy b am thr nS nB st bk gate nu) (fun _ : Unit => some (.int (bk j 4))) (fun _ => True) (fun _ => mw cy b am 0 nS nB st (va_up bk j (bInspect (bk j))) gate nu) := by
  refine xM.of cX4_weigh 2 (some .int) RX4 (by decide +kernel) rfl rfl (Nat.le_of_ble_eq_true rfl) ?_
  intro p e s m below meth c A ls hx hb hr hts hown hlocks hml hin hK hA hP hD hS hl
  have hl : lv_has ls 2 [(0, .ref b), (1, .int (nI j))] := hl
  have hinX4 : ∀ w ∈ wsX40, w ∈ wsX4_weigh := fun _ h => List.mem_cons_of_mem _ (List.mem_append_right _ h)
  refine lv_aload_n hx hb dX4_weigh_0 rfl (lv_at hl 0 rfl) ?_
  refine lv_iconst (v := 0) hx hb dX4_weigh_1 (by decide) ?_
  refine va_put (D := D) (ci := 4) (v := .int 0) (ty := .int) (C := RX4) (T := TX4) (N := 8) hx hb hts hinX4 tyX4 tyX4_ok nmX4 hown hK.1 hP hD hS 0 rfl rfl 0 (by decide) (hts (.fieldLink RX4 26 "LoafMarksModel" "thrown" "I") (List.mem_of_getElem? (i := 1) rfl)) (fun _ h9 => h9) rfl (by decide +kernel) rfl rfl (Nat.le_of_ble_eq_true rfl) dX4_weigh_2 (fun H locs hP hD hS => ?_)
  have hP : va_P D vwCl (mw cy b am 0 nS nB st bk gate nu) H := hP
  have hD : va_D A (mw cy b am 0 nS nB st bk gate nu) := hD
  refine lv_aload_n hx hb dX4_weigh_5 rfl (lv_at hl 0 rfl) ?_
  refine lv_iload_n hx hb dX4_weigh_6 rfl (lv_at hl 1 rfl) ?_
  refine xcV (As := [.int (nI j)]) (rest := []) ⟨hx, hb, hml, hown, hts⟩ (c_X4_isBaker l D cy b am 0 nS nB st bk gate nu (nI j)) (cwV 1 hts gX4_weigh_X4_isBaker rfl rfl rfl (by decide +kernel) ⟨Nat.le_of_ble_eq_true rfl, Nat.le_of_ble_eq_true rfl⟩) hK hP hD hS hA rfl rfl rfl (xE_all) rfl hl.1 rfl (Nat.le_of_ble_eq_true rfl) dX4_weigh_7 ⟨Nat.le_of_ble_eq_true rfl, Nat.le_of_ble_eq_true rfl⟩ (fun _ H locs _ hP hD hS => ?_)
  have hP : va_P D vwCl (mw cy b am 0 nS nB st bk gate nu) H := hP
  have hD : va_D A (mw cy b am 0 nS nB st bk gate nu) := hD
  refine W.eq (g2 := F0 m 10 ls [.int (inN (nI j) nB)]) rfl ?_
  refine lv_if_ne (tgt := 19) hx hb dX4_weigh_10 (by decide) (fun _ => ?_) (fun z => absurd z (inN_ok hj (by omega)))
  refine lv_aload_n hx hb dX4_weigh_19 rfl (lv_at hl 0 rfl) ?_
  refine lv_iload_n hx hb dX4_weigh_20 rfl (lv_at hl 1 rfl) ?_
  refine lv_iconst (v := 5) hx hb dX4_weigh_21 (by decide) ?_
  refine xcV (As := [.int (nI j), .int 5]) (rest := []) ⟨hx, hb, hml, hown, hts⟩ (c_X4_sh l D cy b am 0 nS nB st bk gate nu j 5 (by omega) (by omega)) (cwV 2 hts gX4_weigh_X4_sh rfl rfl rfl (by decide +kernel) ⟨Nat.le_of_ble_eq_true rfl, Nat.le_of_ble_eq_true rfl⟩) hK hP hD hS hA rfl rfl rfl (xE_all) rfl hl.1 rfl (Nat.le_of_ble_eq_true rfl) dX4_weigh_22 ⟨Nat.le_of_ble_eq_true rfl, Nat.le_of_ble_eq_true rfl⟩ (fun _ H locs _ hP hD hS => ?_)
  have hP : va_P D vwCl (mw cy b am 0 nS nB st bk gate nu) H := hP
  have hD : va_D A (mw cy b am 0 nS nB st bk gate nu) := hD
  refine W.eq (g2 := F0 m 25 ls [.int (bk j 5)]) rfl ?_
  refine lv_if_ne (tgt := 34) hx hb dX4_weigh_25 (by decide) (fun _ => ?_) (fun z => absurd z h2)
  refine lv_aload_n hx hb dX4_weigh_34 rfl (lv_at hl 0 rfl) ?_
  refine lv_iload_n hx hb dX4_weigh_35 rfl (lv_at hl 1 rfl) ?_
  refine lv_iconst (v := 5) hx hb dX4_weigh_36 (by decide) ?_
  refine lv_aload_n hx hb dX4_weigh_37 rfl (lv_at hl 0 rfl) ?_
  refine lv_iload_n hx hb dX4_weigh_38 rfl (lv_at hl 1 rfl) ?_
  refine lv_iconst (v := 5) hx hb dX4_weigh_39 (by decide) ?_
  refine xcV (As := [.int (nI j), .int 5]) (rest := [.int 5, .int (nI j), .ref b]) ⟨hx, hb, hml, hown, hts⟩ (c_X4_sh l D cy b am 0 nS nB st bk gate nu j 5 (by omega) (by omega)) (cwV 2 hts gX4_weigh_X4_sh rfl rfl rfl (by decide +kernel) ⟨Nat.le_of_ble_eq_true rfl, Nat.le_of_ble_eq_true rfl⟩) hK hP hD hS hA rfl rfl rfl (xE_all) rfl hl.1 rfl (Nat.le_of_ble_eq_true rfl) dX4_weigh_40 ⟨Nat.le_of_ble_eq_true rfl, Nat.le_of_ble_eq_true rfl⟩ (fun _ H locs _ hP hD hS => ?_)
  have hP : va_P D vwCl (mw cy b am 0 nS nB st bk gate nu) H := hP
  have hD : va_D A (mw cy b am 0 nS nB st bk gate nu) := hD
  refine W.eq (g2 := F0 m 43 ls [.int (bk j 5), .int 5, .int (nI j), .ref b]) rfl ?_
  refine lv_iconst (v := 1) hx hb dX4_weigh_43 (by decide) ?_
  refine lv_isub hx hb dX4_weigh_44 ?_
  refine xcV (As := [.int (nI j), .int 5, .int ((bk j 5) - 1)]) (rest := []) ⟨hx, hb, hml, hown, hts⟩ (c_X4_put l D cy b am 0 nS nB st bk gate nu j 5 ((bk j 5) - 1) (by omega) (by omega)) (cwV 3 hts gX4_weigh_X4_put rfl rfl rfl (by decide +kernel) ⟨Nat.le_of_ble_eq_true rfl, Nat.le_of_ble_eq_true rfl⟩) hK hP hD hS hA rfl rfl rfl (xE_all) rfl hl.1 rfl (Nat.le_of_ble_eq_true rfl) dX4_weigh_45 ⟨Nat.le_of_ble_eq_true rfl, Nat.le_of_ble_eq_true rfl⟩ (fun _ H locs _ hP hD hS => ?_)
  have hP : va_P D vwCl (mw cy b am 0 nS nB st (va_up bk j (upd (bk j) 5 ((bk j 5) - 1))) gate nu) H := hP
  have hD : va_D A (mw cy b am 0 nS nB st (va_up bk j (upd (bk j) 5 ((bk j 5) - 1))) gate nu) := hD
  refine W.eq (g2 := F0 m 48 ls []) rfl ?_
  refine lv_aload_n hx hb dX4_weigh_48 rfl (lv_at hl 0 rfl) ?_
  refine lv_iload_n hx hb dX4_weigh_49 rfl (lv_at hl 1 rfl) ?_
  refine lv_iconst (v := 4) hx hb dX4_weigh_50 (by decide) ?_
  refine xcV (As := [.int (nI j), .int 4]) (rest := []) ⟨hx, hb, hml, hown, hts⟩ (c_X4_sh l D cy b am 0 nS nB st (va_up bk j (upd (bk j) 5 ((bk j 5) - 1))) gate nu j 4 (by omega) (by omega)) (cwV 2 hts gX4_weigh_X4_sh rfl rfl rfl (by decide +kernel) ⟨Nat.le_of_ble_eq_true rfl, Nat.le_of_ble_eq_true rfl⟩) hK hP hD hS hA rfl rfl rfl (xE_all) rfl hl.1 rfl (Nat.le_of_ble_eq_true rfl) dX4_weigh_51 ⟨Nat.le_of_ble_eq_true rfl, Nat.le_of_ble_eq_true rfl⟩ (fun _ H locs _ hP hD hS => ?_)
  have hP : va_P D vwCl (mw cy b am 0 nS nB st (va_up bk j (upd (bk j) 5 ((bk j 5) - 1))) gate nu) H := hP
  have hD : va_D A (mw cy b am 0 nS nB st (va_up bk j (upd (bk j) 5 ((bk j 5) - 1))) gate nu) := hD
  refine W.eq (g2 := F0 m 54 ls [.int ((bk j) 4)]) (by show F0 m 54 ls (.int ((va_up bk j (upd (bk j) 5 ((bk j 5) - 1))) j 4) :: _) = _; first | (rw [up_at]; done) | (rw [up_at]; rfl)) ?_
  refine lv_bipush (v := 10) hx hb dX4_weigh_54 (by decide) ?_
  refine lv_icmp_ge (tgt := 67) hx hb dX4_weigh_56 (by decide) (fun c56 => ?_) (fun c56 => ?_)
  · refine lv_aload_n hx hb dX4_weigh_67 rfl (lv_at hl 0 rfl) ?_
    refine lv_iload_n hx hb dX4_weigh_68 rfl (lv_at hl 1 rfl) ?_
    refine lv_iconst (v := 4) hx hb dX4_weigh_69 (by decide) ?_
    refine xcV (As := [.int (nI j), .int 4]) (rest := []) ⟨hx, hb, hml, hown, hts⟩ (c_X4_sh l D cy b am 0 nS nB st (va_up bk j (upd (bk j) 5 ((bk j 5) - 1))) gate nu j 4 (by omega) (by omega)) (cwV 2 hts gX4_weigh_X4_sh rfl rfl rfl (by decide +kernel) ⟨Nat.le_of_ble_eq_true rfl, Nat.le_of_ble_eq_true rfl⟩) hK hP hD hS hA rfl rfl rfl (xE_all) rfl hl.1 rfl (Nat.le_of_ble_eq_true rfl) dX4_weigh_70 ⟨Nat.le_of_ble_eq_true rfl, Nat.le_of_ble_eq_true rfl⟩ (fun _ H locs _ hP hD hS => ?_)
    have hP : va_P D vwCl (mw cy b am 0 nS nB st (va_up bk j (upd (bk j) 5 ((bk j 5) - 1))) gate nu) H := hP
    have hD : va_D A (mw cy b am 0 nS nB st (va_up bk j (upd (bk j) 5 ((bk j 5) - 1))) gate nu) := hD
    refine W.eq (g2 := F0 m 73 ls [.int ((bk j) 4)]) (by show F0 m 73 ls (.int ((va_up bk j (upd (bk j) 5 ((bk j 5) - 1))) j 4) :: _) = _; first | (rw [up_at]; done) | (rw [up_at]; rfl)) ?_
    have e : bInspect (bk j) = upd (bk j) 5 ((bk j 5) - 1) := if_neg (Int32.not_lt.mpr c56)
    exact xri () hx hb hr hlocks hS (Nat.le_of_ble_eq_true rfl) (Nat.le_of_ble_eq_true rfl) dX4_weigh_73 (by rw [e]; exact hP) (by rw [e]; exact hD) rfl trivial
  · refine lv_aload_n hx hb dX4_weigh_59 rfl (lv_at hl 0 rfl) ?_
    refine lv_iload_n hx hb dX4_weigh_60 rfl (lv_at hl 1 rfl) ?_
    refine lv_bipush (v := 7) hx hb dX4_weigh_61 (by decide) ?_
    refine lv_iconst (v := 1) hx hb dX4_weigh_63 (by decide) ?_
    refine xcV (As := [.int (nI j), .int 7, .int 1]) (rest := []) ⟨hx, hb, hml, hown, hts⟩ (c_X4_put l D cy b am 0 nS nB st (va_up bk j (upd (bk j) 5 ((bk j 5) - 1))) gate nu j 7 1 (by omega) (by omega)) (cwV 3 hts gX4_weigh_X4_put rfl rfl rfl (by decide +kernel) ⟨Nat.le_of_ble_eq_true rfl, Nat.le_of_ble_eq_true rfl⟩) hK hP hD hS hA rfl rfl rfl (xE_all) rfl hl.1 rfl (Nat.le_of_ble_eq_true rfl) dX4_weigh_64 ⟨Nat.le_of_ble_eq_true rfl, Nat.le_of_ble_eq_true rfl⟩ (fun _ H locs _ hP hD hS => ?_)
    have hP : va_P D vwCl (mw cy b am 0 nS nB st (va_up bk j (upd (upd (bk j) 5 ((bk j 5) - 1)) 7 1)) gate nu) H := (by rw [← up_upd]; exact hP)
    have hD : va_D A (mw cy b am 0 nS nB st (va_up bk j (upd (upd (bk j) 5 ((bk j 5) - 1)) 7 1)) gate nu) := (by rw [← up_upd]; exact hD)
    refine W.eq (g2 := F0 m 67 ls []) rfl ?_
    refine lv_aload_n hx hb dX4_weigh_67 rfl (lv_at hl 0 rfl) ?_
    refine lv_iload_n hx hb dX4_weigh_68 rfl (lv_at hl 1 rfl) ?_
    refine lv_iconst (v := 4) hx hb dX4_weigh_69 (by decide) ?_
    refine xcV (As := [.int (nI j), .int 4]) (rest := []) ⟨hx, hb, hml, hown, hts⟩ (c_X4_sh l D cy b am 0 nS nB st (va_up bk j (upd (upd (bk j) 5 ((bk j 5) - 1)) 7 1)) gate nu j 4 (by omega) (by omega)) (cwV 2 hts gX4_weigh_X4_sh rfl rfl rfl (by decide +kernel) ⟨Nat.le_of_ble_eq_true rfl, Nat.le_of_ble_eq_true rfl⟩) hK hP hD hS hA rfl rfl rfl (xE_all) rfl hl.1 rfl (Nat.le_of_ble_eq_true rfl) dX4_weigh_70 ⟨Nat.le_of_ble_eq_true rfl, Nat.le_of_ble_eq_true rfl⟩ (fun _ H locs _ hP hD hS => ?_)
    have hP : va_P D vwCl (mw cy b am 0 nS nB st (va_up bk j (upd (upd (bk j) 5 ((bk j 5) - 1)) 7 1)) gate nu) H := hP
    have hD : va_D A (mw cy b am 0 nS nB st (va_up bk j (upd (upd (bk j) 5 ((bk j 5) - 1)) 7 1)) gate nu) := hD
    refine W.eq (g2 := F0 m 73 ls [.int ((bk j) 4)]) (by show F0 m 73 ls (.int ((va_up bk j (upd (upd (bk j) 5 ((bk j 5) - 1)) 7 1)) j 4) :: _) = _; first | (rw [up_at]; done) | (rw [up_at]; rfl)) ?_
    have e : bInspect (bk j) = upd (upd (bk j) 5 ((bk j 5) - 1)) 7 1 := if_pos (Int32.not_le.mp c56)
    exact xri () hx hb hr hlocks hS (Nat.le_of_ble_eq_true rfl) (Nat.le_of_ble_eq_true rfl) dX4_weigh_73 (by rw [e]; exact hP) (by rw [e]; exact hD) rfl trivial

set_option maxHeartbeats 4000000 in
set_option maxRecDepth 100000 in
/-- weigh, refused -/
theorem c_X4_weigh_1 (l : Launch) (D : va_G) (cy : Nat → ClassId) (b : Nat) (am : Nat → Nat) (thr : Int32) (nS nB : Nat) (st bk : Nat → Iu) (gate nu : Iu) (p0 : Int32) (hv : ¬ vp_in p0 nB) (hcB : nB ≤ 6) : xM l D cy yX4_weigh wsX4_weigh ({ frames := 2, cells := 0, slots := 0, locals := 60 } : Room) [.ref b, .int p0] (mw cy b am thr nS nB st bk gate nu) (fun _ : Unit => some (.int 0)) (fun _ => True) (fun _ => mw cy b am 1 nS nB st bk gate nu) := by
  refine xM.of cX4_weigh 2 (some .int) RX4 (by decide +kernel) rfl rfl (Nat.le_of_ble_eq_true rfl) ?_
  intro p e s m below meth c A ls hx hb hr hts hown hlocks hml hin hK hA hP hD hS hl
  have hl : lv_has ls 2 [(0, .ref b), (1, .int p0)] := hl
  have hinX4 : ∀ w ∈ wsX40, w ∈ wsX4_weigh := fun _ h => List.mem_cons_of_mem _ (List.mem_append_right _ h)
  refine lv_aload_n hx hb dX4_weigh_0 rfl (lv_at hl 0 rfl) ?_
  refine lv_iconst (v := 0) hx hb dX4_weigh_1 (by decide) ?_
  refine va_put (D := D) (ci := 4) (v := .int 0) (ty := .int) (C := RX4) (T := TX4) (N := 8) hx hb hts hinX4 tyX4 tyX4_ok nmX4 hown hK.1 hP hD hS 0 rfl rfl 0 (by decide) (hts (.fieldLink RX4 26 "LoafMarksModel" "thrown" "I") (List.mem_of_getElem? (i := 1) rfl)) (fun _ h9 => h9) rfl (by decide +kernel) rfl rfl (Nat.le_of_ble_eq_true rfl) dX4_weigh_2 (fun H locs hP hD hS => ?_)
  have hP : va_P D vwCl (mw cy b am 0 nS nB st bk gate nu) H := hP
  have hD : va_D A (mw cy b am 0 nS nB st bk gate nu) := hD
  refine lv_aload_n hx hb dX4_weigh_5 rfl (lv_at hl 0 rfl) ?_
  refine lv_iload_n hx hb dX4_weigh_6 rfl (lv_at hl 1 rfl) ?_
  refine xcV (As := [.int p0]) (rest := []) ⟨hx, hb, hml, hown, hts⟩ (c_X4_isBaker l D cy b am 0 nS nB st bk gate nu p0) (cwV 1 hts gX4_weigh_X4_isBaker rfl rfl rfl (by decide +kernel) ⟨Nat.le_of_ble_eq_true rfl, Nat.le_of_ble_eq_true rfl⟩) hK hP hD hS hA rfl rfl rfl (xE_all) rfl hl.1 rfl (Nat.le_of_ble_eq_true rfl) dX4_weigh_7 ⟨Nat.le_of_ble_eq_true rfl, Nat.le_of_ble_eq_true rfl⟩ (fun _ H locs _ hP hD hS => ?_)
  have hP : va_P D vwCl (mw cy b am 0 nS nB st bk gate nu) H := hP
  have hD : va_D A (mw cy b am 0 nS nB st bk gate nu) := hD
  refine W.eq (g2 := F0 m 10 ls [.int (inN p0 nB)]) rfl ?_
  refine lv_if_ne (tgt := 19) hx hb dX4_weigh_10 (by decide) (fun z => absurd (inN_no hv (by omega)) z) (fun _ => ?_)
  refine lv_aload_n hx hb dX4_weigh_13 rfl (lv_at hl 0 rfl) ?_
  refine lv_iconst (v := 1) hx hb dX4_weigh_14 (by decide) ?_
  refine xcV (As := [.int 1]) (rest := []) ⟨hx, hb, hml, hown, hts⟩ (c_X4_fail l D cy b am 0 nS nB st bk gate nu 1) (cwV 1 hts gX4_weigh_X4_fail rfl rfl rfl (by decide +kernel) ⟨Nat.le_of_ble_eq_true rfl, Nat.le_of_ble_eq_true rfl⟩) hK hP hD hS hA rfl rfl rfl (xE_all) rfl hl.1 rfl (Nat.le_of_ble_eq_true rfl) dX4_weigh_15 ⟨Nat.le_of_ble_eq_true rfl, Nat.le_of_ble_eq_true rfl⟩ (fun _ H locs _ hP hD hS => ?_)
  have hP : va_P D vwCl (mw cy b am 1 nS nB st bk gate nu) H := hP
  have hD : va_D A (mw cy b am 1 nS nB st bk gate nu) := hD
  refine W.eq (g2 := F0 m 18 ls [.int 0]) rfl ?_
  exact xri () hx hb hr hlocks hS (Nat.le_of_ble_eq_true rfl) (Nat.le_of_ble_eq_true rfl) dX4_weigh_18 hP hD rfl trivial

set_option maxHeartbeats 4000000 in
set_option maxRecDepth 100000 in
/-- weigh, refused -/
theorem c_X4_weigh_2 (l : Launch) (D : va_G) (cy : Nat → ClassId) (b : Nat) (am : Nat → Nat) (thr : Int32) (nS nB : Nat) (st bk : Nat → Iu) (gate nu : Iu) (j : Nat) (hj : j < nB) (h2 : bk j 5 = 0) (hcB : nB ≤ 6) : xM l D cy yX4_weigh wsX4_weigh ({ frames := 2, cells := 0, slots := 0, locals := 60 } : Room) [.ref b, .int (nI j)] (mw cy b am thr nS nB st bk gate nu) (fun _ : Unit => some (.int 0)) (fun _ => True) (fun _ => mw cy b am 2 nS nB st bk gate nu) := by
  refine xM.of cX4_weigh 2 (some .int) RX4 (by decide +kernel) rfl rfl (Nat.le_of_ble_eq_true rfl) ?_
  intro p e s m below meth c A ls hx hb hr hts hown hlocks hml hin hK hA hP hD hS hl
  have hl : lv_has ls 2 [(0, .ref b), (1, .int (nI j))] := hl
  have hinX4 : ∀ w ∈ wsX40, w ∈ wsX4_weigh := fun _ h => List.mem_cons_of_mem _ (List.mem_append_right _ h)
  refine lv_aload_n hx hb dX4_weigh_0 rfl (lv_at hl 0 rfl) ?_
  refine lv_iconst (v := 0) hx hb dX4_weigh_1 (by decide) ?_
  refine va_put (D := D) (ci := 4) (v := .int 0) (ty := .int) (C := RX4) (T := TX4) (N := 8) hx hb hts hinX4 tyX4 tyX4_ok nmX4 hown hK.1 hP hD hS 0 rfl rfl 0 (by decide) (hts (.fieldLink RX4 26 "LoafMarksModel" "thrown" "I") (List.mem_of_getElem? (i := 1) rfl)) (fun _ h9 => h9) rfl (by decide +kernel) rfl rfl (Nat.le_of_ble_eq_true rfl) dX4_weigh_2 (fun H locs hP hD hS => ?_)
  have hP : va_P D vwCl (mw cy b am 0 nS nB st bk gate nu) H := hP
  have hD : va_D A (mw cy b am 0 nS nB st bk gate nu) := hD
  refine lv_aload_n hx hb dX4_weigh_5 rfl (lv_at hl 0 rfl) ?_
  refine lv_iload_n hx hb dX4_weigh_6 rfl (lv_at hl 1 rfl) ?_
  refine xcV (As := [.int (nI j)]) (rest := []) ⟨hx, hb, hml, hown, hts⟩ (c_X4_isBaker l D cy b am 0 nS nB st bk gate nu (nI j)) (cwV 1 hts gX4_weigh_X4_isBaker rfl rfl rfl (by decide +kernel) ⟨Nat.le_of_ble_eq_true rfl, Nat.le_of_ble_eq_true rfl⟩) hK hP hD hS hA rfl rfl rfl (xE_all) rfl hl.1 rfl (Nat.le_of_ble_eq_true rfl) dX4_weigh_7 ⟨Nat.le_of_ble_eq_true rfl, Nat.le_of_ble_eq_true rfl⟩ (fun _ H locs _ hP hD hS => ?_)
  have hP : va_P D vwCl (mw cy b am 0 nS nB st bk gate nu) H := hP
  have hD : va_D A (mw cy b am 0 nS nB st bk gate nu) := hD
  refine W.eq (g2 := F0 m 10 ls [.int (inN (nI j) nB)]) rfl ?_
  refine lv_if_ne (tgt := 19) hx hb dX4_weigh_10 (by decide) (fun _ => ?_) (fun z => absurd z (inN_ok hj (by omega)))
  refine lv_aload_n hx hb dX4_weigh_19 rfl (lv_at hl 0 rfl) ?_
  refine lv_iload_n hx hb dX4_weigh_20 rfl (lv_at hl 1 rfl) ?_
  refine lv_iconst (v := 5) hx hb dX4_weigh_21 (by decide) ?_
  refine xcV (As := [.int (nI j), .int 5]) (rest := []) ⟨hx, hb, hml, hown, hts⟩ (c_X4_sh l D cy b am 0 nS nB st bk gate nu j 5 (by omega) (by omega)) (cwV 2 hts gX4_weigh_X4_sh rfl rfl rfl (by decide +kernel) ⟨Nat.le_of_ble_eq_true rfl, Nat.le_of_ble_eq_true rfl⟩) hK hP hD hS hA rfl rfl rfl (xE_all) rfl hl.1 rfl (Nat.le_of_ble_eq_true rfl) dX4_weigh_22 ⟨Nat.le_of_ble_eq_true rfl, Nat.le_of_ble_eq_true rfl⟩ (fun _ H locs _ hP hD hS => ?_)
  have hP : va_P D vwCl (mw cy b am 0 nS nB st bk gate nu) H := hP
  have hD : va_D A (mw cy b am 0 nS nB st bk gate nu) := hD
  refine W.eq (g2 := F0 m 25 ls [.int (bk j 5)]) rfl ?_
  refine lv_if_ne (tgt := 34) hx hb dX4_weigh_25 (by decide) (fun z => absurd h2 z) (fun _ => ?_)
  refine lv_aload_n hx hb dX4_weigh_28 rfl (lv_at hl 0 rfl) ?_
  refine lv_iconst (v := 2) hx hb dX4_weigh_29 (by decide) ?_
  refine xcV (As := [.int 2]) (rest := []) ⟨hx, hb, hml, hown, hts⟩ (c_X4_fail l D cy b am 0 nS nB st bk gate nu 2) (cwV 1 hts gX4_weigh_X4_fail rfl rfl rfl (by decide +kernel) ⟨Nat.le_of_ble_eq_true rfl, Nat.le_of_ble_eq_true rfl⟩) hK hP hD hS hA rfl rfl rfl (xE_all) rfl hl.1 rfl (Nat.le_of_ble_eq_true rfl) dX4_weigh_30 ⟨Nat.le_of_ble_eq_true rfl, Nat.le_of_ble_eq_true rfl⟩ (fun _ H locs _ hP hD hS => ?_)
  have hP : va_P D vwCl (mw cy b am 2 nS nB st bk gate nu) H := hP
  have hD : va_D A (mw cy b am 2 nS nB st bk gate nu) := hD
  refine W.eq (g2 := F0 m 33 ls [.int 0]) rfl ?_
  exact xri () hx hb hr hlocks hS (Nat.le_of_ble_eq_true rfl) (Nat.le_of_ble_eq_true rfl) dX4_weigh_33 hP hD rfl trivial

set_option maxHeartbeats 4000000 in
set_option maxRecDepth 100000 in
/-- pardon -/
theorem c_X4_pardon (l : Launch) (D : va_G) (cy : Nat → ClassId) (b : Nat) (am : Nat → Nat) (thr : Int32) (nS nB : Nat) (st bk : Nat → Iu) (gate nu : Iu) (j : Nat) (hj : j < nB) (hg : bk j 7 = 0 ∨ bk j 7 = 1) (hcB : nB ≤ 6) : xM l D cy yX4_pardon wsX4_pardon ({ frames := 2, cells := 0, slots := 0, locals := 60 } : Room) [.ref b, .int (nI j)] (mw cy b am thr nS nB st bk gate nu) (fun _ : Unit => some (.int (bk j 7))) (fun _ => True) (fun _ => mw cy b am 0 nS nB st (va_up bk j (bForgive (bk j))) gate nu) := by
  refine xM.of cX4_pardon 3 (some .boolean) RX4 (by decide +kernel) rfl rfl (Nat.le_of_ble_eq_true rfl) ?_
  intro p e s m below meth c A ls hx hb hr hts hown hlocks hml hin hK hA hP hD hS hl
  have hl : lv_has ls 3 [(0, .ref b), (1, .int (nI j))] := hl
  have hinX4 : ∀ w ∈ wsX40, w ∈ wsX4_pardon := fun _ h => List.mem_cons_of_mem _ (List.mem_append_right _ h)
  refine lv_aload_n hx hb dX4_pardon_0 rfl (lv_at hl 0 rfl) ?_
  refine lv_aload_n hx hb dX4_pardon_1 rfl (lv_at hl 0 rfl) ?_
  refine lv_iload_n hx hb dX4_pardon_2 rfl (lv_at hl 1 rfl) ?_
  refine xcV (As := [.int (nI j)]) (rest := [.ref b]) ⟨hx, hb, hml, hown, hts⟩ (c_X4_isBaker l D cy b am thr nS nB st bk gate nu (nI j)) (cwV 1 hts gX4_pardon_X4_isBaker rfl rfl rfl (by decide +kernel) ⟨Nat.le_of_ble_eq_true rfl, Nat.le_of_ble_eq_true rfl⟩) hK hP hD hS hA rfl rfl rfl (xE_all) rfl hl.1 rfl (Nat.le_of_ble_eq_true rfl) dX4_pardon_3 ⟨Nat.le_of_ble_eq_true rfl, Nat.le_of_ble_eq_true rfl⟩ (fun _ H locs _ hP hD hS => ?_)
  have hP : va_P D vwCl (mw cy b am thr nS nB st bk gate nu) H := hP
  have hD : va_D A (mw cy b am thr nS nB st bk gate nu) := hD
  refine W.eq (g2 := F0 m 6 ls [.int (inN (nI j) nB), .ref b]) rfl ?_
  refine lv_if_eq (tgt := 13) hx hb dX4_pardon_6 (by decide) (fun z => absurd z (inN_ok hj (by omega))) (fun _ => ?_)
  refine lv_iconst (v := 0) hx hb dX4_pardon_9 (by decide) ?_
  refine lv_goto (tgt := 14) hx hb dX4_pardon_10 (by decide) ?_
  refine va_put (D := D) (ci := 4) (v := .int 0) (ty := .int) (C := RX4) (T := TX4) (N := 8) hx hb hts hinX4 tyX4 tyX4_ok nmX4 hown hK.1 hP hD hS 0 rfl rfl 0 (by decide) (hts (.fieldLink RX4 26 "LoafMarksModel" "thrown" "I") (List.mem_of_getElem? (i := 1) rfl)) (fun _ h9 => h9) rfl (by decide +kernel) rfl rfl (Nat.le_of_ble_eq_true rfl) dX4_pardon_14 (fun H locs hP hD hS => ?_)
  have hP : va_P D vwCl (mw cy b am 0 nS nB st bk gate nu) H := hP
  have hD : va_D A (mw cy b am 0 nS nB st bk gate nu) := hD
  refine lv_aload_n hx hb dX4_pardon_17 rfl (lv_at hl 0 rfl) ?_
  refine va_get (D := D) (ci := 4) (v := .int 0) (C := RX4) (T := TX4) (N := 8) hx hb hts hinX4 hown hK.1 hP 0 rfl rfl 0 (by decide) (hts (.fieldLink RX4 26 "LoafMarksModel" "thrown" "I") (List.mem_of_getElem? (i := 1) rfl)) (fun _ h9 => h9) rfl dX4_pardon_18 ?_
  refine lv_if_eq (tgt := 26) hx hb dX4_pardon_21 (by decide) (fun _ => ?_) (fun z => absurd rfl z)
  refine lv_aload_n hx hb dX4_pardon_26 rfl (lv_at hl 0 rfl) ?_
  refine lv_iload_n hx hb dX4_pardon_27 rfl (lv_at hl 1 rfl) ?_
  refine lv_bipush (v := 7) hx hb dX4_pardon_28 (by decide) ?_
  refine xcV (As := [.int (nI j), .int 7]) (rest := []) ⟨hx, hb, hml, hown, hts⟩ (c_X4_sh l D cy b am 0 nS nB st bk gate nu j 7 (by omega) (by omega)) (cwV 2 hts gX4_pardon_X4_sh rfl rfl rfl (by decide +kernel) ⟨Nat.le_of_ble_eq_true rfl, Nat.le_of_ble_eq_true rfl⟩) hK hP hD hS hA rfl rfl rfl (xE_all) rfl hl.1 rfl (Nat.le_of_ble_eq_true rfl) dX4_pardon_30 ⟨Nat.le_of_ble_eq_true rfl, Nat.le_of_ble_eq_true rfl⟩ (fun _ H locs _ hP hD hS => ?_)
  have hP : va_P D vwCl (mw cy b am 0 nS nB st bk gate nu) H := hP
  have hD : va_D A (mw cy b am 0 nS nB st bk gate nu) := hD
  refine W.eq (g2 := F0 m 33 ls [.int (bk j 7)]) rfl ?_
  refine lv_iconst (v := 1) hx hb dX4_pardon_33 (by decide) ?_
  refine lv_icmp_ne (tgt := 41) hx hb dX4_pardon_34 (by decide) (fun c34 => ?_) (fun c34 => ?_)
  · refine lv_iconst (v := 0) hx hb dX4_pardon_41 (by decide) ?_
    refine lv_istore_n (lv' := [(2, .int 0), (0, .ref b), (1, .int (nI j))]) hx hb dX4_pardon_42 rfl hl (by decide) rfl (fun ls hl => ?_)
    refine lv_aload_n hx hb dX4_pardon_43 rfl (lv_at hl 1 rfl) ?_
    refine lv_iload_n hx hb dX4_pardon_44 rfl (lv_at hl 2 rfl) ?_
    refine lv_bipush (v := 7) hx hb dX4_pardon_45 (by decide) ?_
    refine lv_iconst (v := 0) hx hb dX4_pardon_47 (by decide) ?_
    refine xcV (As := [.int (nI j), .int 7, .int 0]) (rest := []) ⟨hx, hb, hml, hown, hts⟩ (c_X4_put l D cy b am 0 nS nB st bk gate nu j 7 0 (by omega) (by omega)) (cwV 3 hts gX4_pardon_X4_put rfl rfl rfl (by decide +kernel) ⟨Nat.le_of_ble_eq_true rfl, Nat.le_of_ble_eq_true rfl⟩) hK hP hD hS hA rfl rfl rfl (xE_all) rfl hl.1 rfl (Nat.le_of_ble_eq_true rfl) dX4_pardon_48 ⟨Nat.le_of_ble_eq_true rfl, Nat.le_of_ble_eq_true rfl⟩ (fun _ H locs _ hP hD hS => ?_)
    have hP : va_P D vwCl (mw cy b am 0 nS nB st (va_up bk j (upd (bk j) 7 0)) gate nu) H := hP
    have hD : va_D A (mw cy b am 0 nS nB st (va_up bk j (upd (bk j) 7 0)) gate nu) := hD
    refine W.eq (g2 := F0 m 51 ls []) rfl ?_
    refine lv_aload_n hx hb dX4_pardon_51 rfl (lv_at hl 1 rfl) ?_
    refine lv_iload_n hx hb dX4_pardon_52 rfl (lv_at hl 2 rfl) ?_
    refine lv_iconst (v := 4) hx hb dX4_pardon_53 (by decide) ?_
    refine lv_bipush (v := 10) hx hb dX4_pardon_54 (by decide) ?_
    refine lv_aload_n hx hb dX4_pardon_56 rfl (lv_at hl 1 rfl) ?_
    refine lv_iload_n hx hb dX4_pardon_57 rfl (lv_at hl 2 rfl) ?_
    refine lv_iconst (v := 4) hx hb dX4_pardon_58 (by decide) ?_
    refine xcV (As := [.int (nI j), .int 4]) (rest := [.int 10, .int 4, .int (nI j), .ref b]) ⟨hx, hb, hml, hown, hts⟩ (c_X4_sh l D cy b am 0 nS nB st (va_up bk j (upd (bk j) 7 0)) gate nu j 4 (by omega) (by omega)) (cwV 2 hts gX4_pardon_X4_sh rfl rfl rfl (by decide +kernel) ⟨Nat.le_of_ble_eq_true rfl, Nat.le_of_ble_eq_true rfl⟩) hK hP hD hS hA rfl rfl rfl (xE_all) rfl hl.1 rfl (Nat.le_of_ble_eq_true rfl) dX4_pardon_59 ⟨Nat.le_of_ble_eq_true rfl, Nat.le_of_ble_eq_true rfl⟩ (fun _ H locs _ hP hD hS => ?_)
    have hP : va_P D vwCl (mw cy b am 0 nS nB st (va_up bk j (upd (bk j) 7 0)) gate nu) H := hP
    have hD : va_D A (mw cy b am 0 nS nB st (va_up bk j (upd (bk j) 7 0)) gate nu) := hD
    refine W.eq (g2 := F0 m 62 ls [.int ((bk j) 4), .int 10, .int 4, .int (nI j), .ref b]) (by show F0 m 62 ls (.int ((va_up bk j (upd (bk j) 7 0)) j 4) :: _) = _; first | (rw [up_at]; done) | (rw [up_at]; rfl)) ?_
    refine va_mmax hx hb (hml.trans hl.1.symm) hown (hts (.methodLink RX4 73 Lib.Math.max.name) (List.mem_of_getElem? (i := 2) rfl)) (hts (.static Lib.Math.max.name) (List.mem_of_getElem? (i := 3) rfl)) (hts (.initialized "java/lang/Math") (List.mem_of_getElem? (i := 4) rfl)) (hts (.code Lib.Math.max.name Lib.Math.max.code 2 (some .int)) (List.mem_of_getElem? (i := 5) rfl)) (Nat.le_of_ble_eq_true rfl) (Nat.le_of_ble_eq_true rfl) (Nat.le_of_ble_eq_true rfl) (Nat.le_of_ble_eq_true rfl) dX4_pardon_62 ?_
    refine W.eq (g2 := F0 m 65 ls [.int (mx 10 ((bk j) 4)), .int 4, .int (nI j), .ref b]) rfl ?_
    refine xcV (As := [.int (nI j), .int 4, .int (mx 10 ((bk j) 4))]) (rest := []) ⟨hx, hb, hml, hown, hts⟩ (c_X4_put l D cy b am 0 nS nB st (va_up bk j (upd (bk j) 7 0)) gate nu j 4 (mx 10 ((bk j) 4)) (by omega) (by omega)) (cwV 3 hts gX4_pardon_X4_put rfl rfl rfl (by decide +kernel) ⟨Nat.le_of_ble_eq_true rfl, Nat.le_of_ble_eq_true rfl⟩) hK hP hD hS hA rfl rfl rfl (xE_all) rfl hl.1 rfl (Nat.le_of_ble_eq_true rfl) dX4_pardon_65 ⟨Nat.le_of_ble_eq_true rfl, Nat.le_of_ble_eq_true rfl⟩ (fun _ H locs _ hP hD hS => ?_)
    have hP : va_P D vwCl (mw cy b am 0 nS nB st (va_up bk j (upd (upd (bk j) 7 0) 4 (mx 10 ((bk j) 4)))) gate nu) H := (by rw [← up_upd]; exact hP)
    have hD : va_D A (mw cy b am 0 nS nB st (va_up bk j (upd (upd (bk j) 7 0) 4 (mx 10 ((bk j) 4)))) gate nu) := (by rw [← up_upd]; exact hD)
    refine W.eq (g2 := F0 m 68 ls []) rfl ?_
    refine lv_iload_n hx hb dX4_pardon_68 rfl (lv_at hl 0 rfl) ?_
    have e : bForgive (bk j) = upd (upd (bk j) 7 0) 4 (mx 10 ((bk j) 4)) := by unfold bForgive; rw [mx_comm]
    exact xrz () hx hb hr hlocks hS (Nat.le_of_ble_eq_true rfl) (Nat.le_of_ble_eq_true rfl) dX4_pardon_69 (by decide) (by rw [e]; exact hP) (by rw [e]; exact hD) (by show some (Value.int (bk j 7)) = _; rw [one_ne hg c34]) trivial
  · refine lv_iconst (v := 1) hx hb dX4_pardon_37 (by decide) ?_
    refine lv_goto (tgt := 42) hx hb dX4_pardon_38 (by decide) ?_
    refine lv_istore_n (lv' := [(2, .int 1), (0, .ref b), (1, .int (nI j))]) hx hb dX4_pardon_42 rfl hl (by decide) rfl (fun ls hl => ?_)
    refine lv_aload_n hx hb dX4_pardon_43 rfl (lv_at hl 1 rfl) ?_
    refine lv_iload_n hx hb dX4_pardon_44 rfl (lv_at hl 2 rfl) ?_
    refine lv_bipush (v := 7) hx hb dX4_pardon_45 (by decide) ?_
    refine lv_iconst (v := 0) hx hb dX4_pardon_47 (by decide) ?_
    refine xcV (As := [.int (nI j), .int 7, .int 0]) (rest := []) ⟨hx, hb, hml, hown, hts⟩ (c_X4_put l D cy b am 0 nS nB st bk gate nu j 7 0 (by omega) (by omega)) (cwV 3 hts gX4_pardon_X4_put rfl rfl rfl (by decide +kernel) ⟨Nat.le_of_ble_eq_true rfl, Nat.le_of_ble_eq_true rfl⟩) hK hP hD hS hA rfl rfl rfl (xE_all) rfl hl.1 rfl (Nat.le_of_ble_eq_true rfl) dX4_pardon_48 ⟨Nat.le_of_ble_eq_true rfl, Nat.le_of_ble_eq_true rfl⟩ (fun _ H locs _ hP hD hS => ?_)
    have hP : va_P D vwCl (mw cy b am 0 nS nB st (va_up bk j (upd (bk j) 7 0)) gate nu) H := hP
    have hD : va_D A (mw cy b am 0 nS nB st (va_up bk j (upd (bk j) 7 0)) gate nu) := hD
    refine W.eq (g2 := F0 m 51 ls []) rfl ?_
    refine lv_aload_n hx hb dX4_pardon_51 rfl (lv_at hl 1 rfl) ?_
    refine lv_iload_n hx hb dX4_pardon_52 rfl (lv_at hl 2 rfl) ?_
    refine lv_iconst (v := 4) hx hb dX4_pardon_53 (by decide) ?_
    refine lv_bipush (v := 10) hx hb dX4_pardon_54 (by decide) ?_
    refine lv_aload_n hx hb dX4_pardon_56 rfl (lv_at hl 1 rfl) ?_
    refine lv_iload_n hx hb dX4_pardon_57 rfl (lv_at hl 2 rfl) ?_
    refine lv_iconst (v := 4) hx hb dX4_pardon_58 (by decide) ?_
    refine xcV (As := [.int (nI j), .int 4]) (rest := [.int 10, .int 4, .int (nI j), .ref b]) ⟨hx, hb, hml, hown, hts⟩ (c_X4_sh l D cy b am 0 nS nB st (va_up bk j (upd (bk j) 7 0)) gate nu j 4 (by omega) (by omega)) (cwV 2 hts gX4_pardon_X4_sh rfl rfl rfl (by decide +kernel) ⟨Nat.le_of_ble_eq_true rfl, Nat.le_of_ble_eq_true rfl⟩) hK hP hD hS hA rfl rfl rfl (xE_all) rfl hl.1 rfl (Nat.le_of_ble_eq_true rfl) dX4_pardon_59 ⟨Nat.le_of_ble_eq_true rfl, Nat.le_of_ble_eq_true rfl⟩ (fun _ H locs _ hP hD hS => ?_)
    have hP : va_P D vwCl (mw cy b am 0 nS nB st (va_up bk j (upd (bk j) 7 0)) gate nu) H := hP
    have hD : va_D A (mw cy b am 0 nS nB st (va_up bk j (upd (bk j) 7 0)) gate nu) := hD
    refine W.eq (g2 := F0 m 62 ls [.int ((bk j) 4), .int 10, .int 4, .int (nI j), .ref b]) (by show F0 m 62 ls (.int ((va_up bk j (upd (bk j) 7 0)) j 4) :: _) = _; first | (rw [up_at]; done) | (rw [up_at]; rfl)) ?_
    refine va_mmax hx hb (hml.trans hl.1.symm) hown (hts (.methodLink RX4 73 Lib.Math.max.name) (List.mem_of_getElem? (i := 2) rfl)) (hts (.static Lib.Math.max.name) (List.mem_of_getElem? (i := 3) rfl)) (hts (.initialized "java/lang/Math") (List.mem_of_getElem? (i := 4) rfl)) (hts (.code Lib.Math.max.name Lib.Math.max.code 2 (some .int)) (List.mem_of_getElem? (i := 5) rfl)) (Nat.le_of_ble_eq_true rfl) (Nat.le_of_ble_eq_true rfl) (Nat.le_of_ble_eq_true rfl) (Nat.le_of_ble_eq_true rfl) dX4_pardon_62 ?_
    refine W.eq (g2 := F0 m 65 ls [.int (mx 10 ((bk j) 4)), .int 4, .int (nI j), .ref b]) rfl ?_
    refine xcV (As := [.int (nI j), .int 4, .int (mx 10 ((bk j) 4))]) (rest := []) ⟨hx, hb, hml, hown, hts⟩ (c_X4_put l D cy b am 0 nS nB st (va_up bk j (upd (bk j) 7 0)) gate nu j 4 (mx 10 ((bk j) 4)) (by omega) (by omega)) (cwV 3 hts gX4_pardon_X4_put rfl rfl rfl (by decide +kernel) ⟨Nat.le_of_ble_eq_true rfl, Nat.le_of_ble_eq_true rfl⟩) hK hP hD hS hA rfl rfl rfl (xE_all) rfl hl.1 rfl (Nat.le_of_ble_eq_true rfl) dX4_pardon_65 ⟨Nat.le_of_ble_eq_true rfl, Nat.le_of_ble_eq_true rfl⟩ (fun _ H locs _ hP hD hS => ?_)
    have hP : va_P D vwCl (mw cy b am 0 nS nB st (va_up bk j (upd (upd (bk j) 7 0) 4 (mx 10 ((bk j) 4)))) gate nu) H := (by rw [← up_upd]; exact hP)
    have hD : va_D A (mw cy b am 0 nS nB st (va_up bk j (upd (upd (bk j) 7 0) 4 (mx 10 ((bk j) 4)))) gate nu) := (by rw [← up_upd]; exact hD)
    refine W.eq (g2 := F0 m 68 ls []) rfl ?_
    refine lv_iload_n hx hb dX4_pardon_68 rfl (lv_at hl 0 rfl) ?_
    have e : bForgive (bk j) = upd (upd (bk j) 7 0) 4 (mx 10 ((bk j) 4)) := by unfold bForgive; rw [mx_comm]
    exact xrz () hx hb hr hlocks hS (Nat.le_of_ble_eq_true rfl) (Nat.le_of_ble_eq_true rfl) dX4_pardon_69 (by decide) (by rw [e]; exact hP) (by rw [e]; exact hD) (by show some (Value.int (bk j 7)) = _; rw [c34]) trivial

set_option maxHeartbeats 4000000 in
set_option maxRecDepth 100000 in
/-- pardon, refused -/
theorem c_X4_pardon_1 (l : Launch) (D : va_G) (cy : Nat → ClassId) (b : Nat) (am : Nat → Nat) (thr : Int32) (nS nB : Nat) (st bk : Nat → Iu) (gate nu : Iu) (p0 : Int32) (hv : ¬ vp_in p0 nB) (hcB : nB ≤ 6) : xM l D cy yX4_pardon wsX4_pardon ({ frames := 2, cells := 0, slots := 0, locals := 60 } : Room) [.ref b, .int p0] (mw cy b am thr nS nB st bk gate nu) (fun _ : Unit => some (.int 0)) (fun _ => True) (fun _ => mw cy b am 1 nS nB st bk gate nu) := by
  refine xM.of cX4_pardon 3 (some .boolean) RX4 (by decide +kernel) rfl rfl (Nat.le_of_ble_eq_true rfl) ?_
  intro p e s m below meth c A ls hx hb hr hts hown hlocks hml hin hK hA hP hD hS hl
  have hl : lv_has ls 3 [(0, .ref b), (1, .int p0)] := hl
  have hinX4 : ∀ w ∈ wsX40, w ∈ wsX4_pardon := fun _ h => List.mem_cons_of_mem _ (List.mem_append_right _ h)
  refine lv_aload_n hx hb dX4_pardon_0 rfl (lv_at hl 0 rfl) ?_
  refine lv_aload_n hx hb dX4_pardon_1 rfl (lv_at hl 0 rfl) ?_
  refine lv_iload_n hx hb dX4_pardon_2 rfl (lv_at hl 1 rfl) ?_
  refine xcV (As := [.int p0]) (rest := [.ref b]) ⟨hx, hb, hml, hown, hts⟩ (c_X4_isBaker l D cy b am thr nS nB st bk gate nu p0) (cwV 1 hts gX4_pardon_X4_isBaker rfl rfl rfl (by decide +kernel) ⟨Nat.le_of_ble_eq_true rfl, Nat.le_of_ble_eq_true rfl⟩) hK hP hD hS hA rfl rfl rfl (xE_all) rfl hl.1 rfl (Nat.le_of_ble_eq_true rfl) dX4_pardon_3 ⟨Nat.le_of_ble_eq_true rfl, Nat.le_of_ble_eq_true rfl⟩ (fun _ H locs _ hP hD hS => ?_)
  have hP : va_P D vwCl (mw cy b am thr nS nB st bk gate nu) H := hP
  have hD : va_D A (mw cy b am thr nS nB st bk gate nu) := hD
  refine W.eq (g2 := F0 m 6 ls [.int (inN p0 nB), .ref b]) rfl ?_
  refine lv_if_eq (tgt := 13) hx hb dX4_pardon_6 (by decide) (fun _ => ?_) (fun z => absurd (inN_no hv (by omega)) z)
  refine lv_iconst (v := 1) hx hb dX4_pardon_13 (by decide) ?_
  refine va_put (D := D) (ci := 4) (v := .int 1) (ty := .int) (C := RX4) (T := TX4) (N := 8) hx hb hts hinX4 tyX4 tyX4_ok nmX4 hown hK.1 hP hD hS 0 rfl rfl 0 (by decide) (hts (.fieldLink RX4 26 "LoafMarksModel" "thrown" "I") (List.mem_of_getElem? (i := 1) rfl)) (fun _ h9 => h9) rfl (by decide +kernel) rfl rfl (Nat.le_of_ble_eq_true rfl) dX4_pardon_14 (fun H locs hP hD hS => ?_)
  have hP : va_P D vwCl (mw cy b am 1 nS nB st bk gate nu) H := hP
  have hD : va_D A (mw cy b am 1 nS nB st bk gate nu) := hD
  refine lv_aload_n hx hb dX4_pardon_17 rfl (lv_at hl 0 rfl) ?_
  refine va_get (D := D) (ci := 4) (v := .int 1) (C := RX4) (T := TX4) (N := 8) hx hb hts hinX4 hown hK.1 hP 0 rfl rfl 0 (by decide) (hts (.fieldLink RX4 26 "LoafMarksModel" "thrown" "I") (List.mem_of_getElem? (i := 1) rfl)) (fun _ h9 => h9) rfl dX4_pardon_18 ?_
  refine lv_if_eq (tgt := 26) hx hb dX4_pardon_21 (by decide) (fun z => absurd z (by decide)) (fun _ => ?_)
  refine lv_iconst (v := 0) hx hb dX4_pardon_24 (by decide) ?_
  exact xrz () hx hb hr hlocks hS (Nat.le_of_ble_eq_true rfl) (Nat.le_of_ble_eq_true rfl) dX4_pardon_25 (by decide) hP hD rfl trivial

set_option maxHeartbeats 4000000 in
set_option maxRecDepth 100000 in
/-- store -/
theorem c_X4_store (l : Launch) (D : va_G) (cy : Nat → ClassId) (b : Nat) (am : Nat → Nat) (thr : Int32) (nS nB : Nat) (st bk : Nat → Iu) (gate nu : Iu) (i : Nat) (hi : i < nS) (k : Nat) (hk : k < 4) (hcS : nS ≤ 4) (hcB : nB ≤ 6) : xM l D cy yX4_store wsX4_store ({ frames := 2, cells := 0, slots := 0, locals := 60 } : Room) [.ref b, .int (nI i), .int (nI k)] (mw cy b am thr nS nB st bk gate nu) (fun _ : Unit => some (.int (stFact st bk nB i k))) (fun _ => True) (fun _ => mw cy b am 0 nS nB st bk gate nu) := by
  refine xM.of cX4_store 3 (some .int) RX4 (by decide +kernel) rfl rfl (Nat.le_of_ble_eq_true rfl) ?_
  intro p e s m below meth c A ls hx hb hr hts hown hlocks hml hin hK hA hP hD hS hl
  have hl : lv_has ls 3 [(0, .ref b), (1, .int (nI i)), (2, .int (nI k))] := hl
  have hinX4 : ∀ w ∈ wsX40, w ∈ wsX4_store := fun _ h => List.mem_cons_of_mem _ (List.mem_append_right _ h)
  refine lv_aload_n hx hb dX4_store_0 rfl (lv_at hl 0 rfl) ?_
  refine lv_iconst (v := 0) hx hb dX4_store_1 (by decide) ?_
  refine va_put (D := D) (ci := 4) (v := .int 0) (ty := .int) (C := RX4) (T := TX4) (N := 8) hx hb hts hinX4 tyX4 tyX4_ok nmX4 hown hK.1 hP hD hS 0 rfl rfl 0 (by decide) (hts (.fieldLink RX4 26 "LoafMarksModel" "thrown" "I") (List.mem_of_getElem? (i := 1) rfl)) (fun _ h9 => h9) rfl (by decide +kernel) rfl rfl (Nat.le_of_ble_eq_true rfl) dX4_store_2 (fun H locs hP hD hS => ?_)
  have hP : va_P D vwCl (mw cy b am 0 nS nB st bk gate nu) H := hP
  have hD : va_D A (mw cy b am 0 nS nB st bk gate nu) := hD
  refine lv_aload_n hx hb dX4_store_5 rfl (lv_at hl 0 rfl) ?_
  refine lv_iload_n hx hb dX4_store_6 rfl (lv_at hl 1 rfl) ?_
  refine xcV (As := [.int (nI i)]) (rest := []) ⟨hx, hb, hml, hown, hts⟩ (c_X4_isStore l D cy b am 0 nS nB st bk gate nu (nI i)) (cwV 1 hts gX4_store_X4_isStore rfl rfl rfl (by decide +kernel) ⟨Nat.le_of_ble_eq_true rfl, Nat.le_of_ble_eq_true rfl⟩) hK hP hD hS hA rfl rfl rfl (xE_all) rfl hl.1 rfl (Nat.le_of_ble_eq_true rfl) dX4_store_7 ⟨Nat.le_of_ble_eq_true rfl, Nat.le_of_ble_eq_true rfl⟩ (fun _ H locs _ hP hD hS => ?_)
  have hP : va_P D vwCl (mw cy b am 0 nS nB st bk gate nu) H := hP
  have hD : va_D A (mw cy b am 0 nS nB st bk gate nu) := hD
  refine W.eq (g2 := F0 m 10 ls [.int (inN (nI i) nS)]) rfl ?_
  refine lv_if_eq (tgt := 31) hx hb dX4_store_10 (by decide) (fun z => absurd z (inN_ok hi (by omega))) (fun _ => ?_)
  refine lv_iload_n hx hb dX4_store_13 rfl (lv_at hl 2 rfl) ?_
  refine lv_iconst (v := 0) hx hb dX4_store_14 (by decide) ?_
  refine lv_iconst (v := 3) hx hb dX4_store_15 (by decide) ?_
  refine xcS (As := [.int (nI k), .int 0, .int 3]) (rest := []) ⟨hx, hb, hml, hown, hts⟩ (c_X4_isIn l D cy (nI k) 0 3) (va_cwS 3 hts gX4_store_X4_isIn rfl rfl rfl (by decide +kernel) ⟨Nat.le_of_ble_eq_true rfl, Nat.le_of_ble_eq_true rfl⟩) hK hP hD hS hA (xE_nil) rfl hl.1 rfl (Nat.le_of_ble_eq_true rfl) dX4_store_16 ⟨Nat.le_of_ble_eq_true rfl, Nat.le_of_ble_eq_true rfl⟩ (fun _ H locs _ hP hD hS => ?_)
  have hP : va_P D vwCl (mw cy b am 0 nS nB st bk gate nu) H := hP
  have hD : va_D A (mw cy b am 0 nS nB st bk gate nu) := hD
  refine W.eq (g2 := F0 m 19 ls [.int (wi (nI k) 0 3)]) rfl ?_
  refine lv_if_eq (tgt := 31) hx hb dX4_store_19 (by decide) (fun z => absurd z (wi_ok ⟨nI_pos' (n := k) (by omega), nI_le (a := k) (b := 3) (by omega) (by decide)⟩)) (fun _ => ?_)
  refine lv_aload_n hx hb dX4_store_22 rfl (lv_at hl 0 rfl) ?_
  refine lv_iload_n hx hb dX4_store_23 rfl (lv_at hl 1 rfl) ?_
  refine lv_iload_n hx hb dX4_store_24 rfl (lv_at hl 2 rfl) ?_
  refine xcV (As := [.int (nI i), .int (nI k)]) (rest := []) ⟨hx, hb, hml, hown, hts⟩ (c_X4_storeTold l D cy b am 0 nS nB st bk gate nu i k (by omega) (by omega) hcB) (cwV 2 hts gX4_store_X4_storeTold rfl rfl rfl (by decide +kernel) ⟨Nat.le_of_ble_eq_true rfl, Nat.le_of_ble_eq_true rfl⟩) hK hP hD hS hA rfl rfl rfl (xE_all) rfl hl.1 rfl (Nat.le_of_ble_eq_true rfl) dX4_store_25 ⟨Nat.le_of_ble_eq_true rfl, Nat.le_of_ble_eq_true rfl⟩ (fun _ H locs _ hP hD hS => ?_)
  have hP : va_P D vwCl (mw cy b am 0 nS nB st bk gate nu) H := hP
  have hD : va_D A (mw cy b am 0 nS nB st bk gate nu) := hD
  refine W.eq (g2 := F0 m 28 ls [.int (stFact st bk nB i k)]) rfl ?_
  refine lv_goto (tgt := 36) hx hb dX4_store_28 (by decide) ?_
  exact xri () hx hb hr hlocks hS (Nat.le_of_ble_eq_true rfl) (Nat.le_of_ble_eq_true rfl) dX4_store_36 hP hD rfl trivial

set_option maxHeartbeats 4000000 in
set_option maxRecDepth 100000 in
/-- store, refused -/
theorem c_X4_store_1a (l : Launch) (D : va_G) (cy : Nat → ClassId) (b : Nat) (am : Nat → Nat) (thr : Int32) (nS nB : Nat) (st bk : Nat → Iu) (gate nu : Iu) (p0 p1 : Int32) (hv : ¬ vp_in p0 nS) (hcS : nS ≤ 4) : xM l D cy yX4_store wsX4_store ({ frames := 2, cells := 0, slots := 0, locals := 60 } : Room) [.ref b, .int p0, .int p1] (mw cy b am thr nS nB st bk gate nu) (fun _ : Unit => some (.int 0)) (fun _ => True) (fun _ => mw cy b am 1 nS nB st bk gate nu) := by
  refine xM.of cX4_store 3 (some .int) RX4 (by decide +kernel) rfl rfl (Nat.le_of_ble_eq_true rfl) ?_
  intro p e s m below meth c A ls hx hb hr hts hown hlocks hml hin hK hA hP hD hS hl
  have hl : lv_has ls 3 [(0, .ref b), (1, .int p0), (2, .int p1)] := hl
  have hinX4 : ∀ w ∈ wsX40, w ∈ wsX4_store := fun _ h => List.mem_cons_of_mem _ (List.mem_append_right _ h)
  refine lv_aload_n hx hb dX4_store_0 rfl (lv_at hl 0 rfl) ?_
  refine lv_iconst (v := 0) hx hb dX4_store_1 (by decide) ?_
  refine va_put (D := D) (ci := 4) (v := .int 0) (ty := .int) (C := RX4) (T := TX4) (N := 8) hx hb hts hinX4 tyX4 tyX4_ok nmX4 hown hK.1 hP hD hS 0 rfl rfl 0 (by decide) (hts (.fieldLink RX4 26 "LoafMarksModel" "thrown" "I") (List.mem_of_getElem? (i := 1) rfl)) (fun _ h9 => h9) rfl (by decide +kernel) rfl rfl (Nat.le_of_ble_eq_true rfl) dX4_store_2 (fun H locs hP hD hS => ?_)
  have hP : va_P D vwCl (mw cy b am 0 nS nB st bk gate nu) H := hP
  have hD : va_D A (mw cy b am 0 nS nB st bk gate nu) := hD
  refine lv_aload_n hx hb dX4_store_5 rfl (lv_at hl 0 rfl) ?_
  refine lv_iload_n hx hb dX4_store_6 rfl (lv_at hl 1 rfl) ?_
  refine xcV (As := [.int p0]) (rest := []) ⟨hx, hb, hml, hown, hts⟩ (c_X4_isStore l D cy b am 0 nS nB st bk gate nu p0) (cwV 1 hts gX4_store_X4_isStore rfl rfl rfl (by decide +kernel) ⟨Nat.le_of_ble_eq_true rfl, Nat.le_of_ble_eq_true rfl⟩) hK hP hD hS hA rfl rfl rfl (xE_all) rfl hl.1 rfl (Nat.le_of_ble_eq_true rfl) dX4_store_7 ⟨Nat.le_of_ble_eq_true rfl, Nat.le_of_ble_eq_true rfl⟩ (fun _ H locs _ hP hD hS => ?_)
  have hP : va_P D vwCl (mw cy b am 0 nS nB st bk gate nu) H := hP
  have hD : va_D A (mw cy b am 0 nS nB st bk gate nu) := hD
  refine W.eq (g2 := F0 m 10 ls [.int (inN p0 nS)]) rfl ?_
  refine lv_if_eq (tgt := 31) hx hb dX4_store_10 (by decide) (fun _ => ?_) (fun z => absurd (inN_no hv (by omega)) z)
  refine lv_aload_n hx hb dX4_store_31 rfl (lv_at hl 0 rfl) ?_
  refine lv_iconst (v := 1) hx hb dX4_store_32 (by decide) ?_
  refine xcV (As := [.int 1]) (rest := []) ⟨hx, hb, hml, hown, hts⟩ (c_X4_fail l D cy b am 0 nS nB st bk gate nu 1) (cwV 1 hts gX4_store_X4_fail rfl rfl rfl (by decide +kernel) ⟨Nat.le_of_ble_eq_true rfl, Nat.le_of_ble_eq_true rfl⟩) hK hP hD hS hA rfl rfl rfl (xE_all) rfl hl.1 rfl (Nat.le_of_ble_eq_true rfl) dX4_store_33 ⟨Nat.le_of_ble_eq_true rfl, Nat.le_of_ble_eq_true rfl⟩ (fun _ H locs _ hP hD hS => ?_)
  have hP : va_P D vwCl (mw cy b am 1 nS nB st bk gate nu) H := hP
  have hD : va_D A (mw cy b am 1 nS nB st bk gate nu) := hD
  refine W.eq (g2 := F0 m 36 ls [.int 0]) rfl ?_
  exact xri () hx hb hr hlocks hS (Nat.le_of_ble_eq_true rfl) (Nat.le_of_ble_eq_true rfl) dX4_store_36 hP hD rfl trivial

set_option maxHeartbeats 4000000 in
set_option maxRecDepth 100000 in
/-- store, refused -/
theorem c_X4_store_1b (l : Launch) (D : va_G) (cy : Nat → ClassId) (b : Nat) (am : Nat → Nat) (thr : Int32) (nS nB : Nat) (st bk : Nat → Iu) (gate nu : Iu) (i : Nat) (hi : i < nS) (p1 : Int32) (h2 : ¬ ((0 : Int32) ≤ p1 ∧ p1 ≤ 3)) (hcS : nS ≤ 4) : xM l D cy yX4_store wsX4_store ({ frames := 2, cells := 0, slots := 0, locals := 60 } : Room) [.ref b, .int (nI i), .int p1] (mw cy b am thr nS nB st bk gate nu) (fun _ : Unit => some (.int 0)) (fun _ => True) (fun _ => mw cy b am 1 nS nB st bk gate nu) := by
  refine xM.of cX4_store 3 (some .int) RX4 (by decide +kernel) rfl rfl (Nat.le_of_ble_eq_true rfl) ?_
  intro p e s m below meth c A ls hx hb hr hts hown hlocks hml hin hK hA hP hD hS hl
  have hl : lv_has ls 3 [(0, .ref b), (1, .int (nI i)), (2, .int p1)] := hl
  have hinX4 : ∀ w ∈ wsX40, w ∈ wsX4_store := fun _ h => List.mem_cons_of_mem _ (List.mem_append_right _ h)
  refine lv_aload_n hx hb dX4_store_0 rfl (lv_at hl 0 rfl) ?_
  refine lv_iconst (v := 0) hx hb dX4_store_1 (by decide) ?_
  refine va_put (D := D) (ci := 4) (v := .int 0) (ty := .int) (C := RX4) (T := TX4) (N := 8) hx hb hts hinX4 tyX4 tyX4_ok nmX4 hown hK.1 hP hD hS 0 rfl rfl 0 (by decide) (hts (.fieldLink RX4 26 "LoafMarksModel" "thrown" "I") (List.mem_of_getElem? (i := 1) rfl)) (fun _ h9 => h9) rfl (by decide +kernel) rfl rfl (Nat.le_of_ble_eq_true rfl) dX4_store_2 (fun H locs hP hD hS => ?_)
  have hP : va_P D vwCl (mw cy b am 0 nS nB st bk gate nu) H := hP
  have hD : va_D A (mw cy b am 0 nS nB st bk gate nu) := hD
  refine lv_aload_n hx hb dX4_store_5 rfl (lv_at hl 0 rfl) ?_
  refine lv_iload_n hx hb dX4_store_6 rfl (lv_at hl 1 rfl) ?_
  refine xcV (As := [.int (nI i)]) (rest := []) ⟨hx, hb, hml, hown, hts⟩ (c_X4_isStore l D cy b am 0 nS nB st bk gate nu (nI i)) (cwV 1 hts gX4_store_X4_isStore rfl rfl rfl (by decide +kernel) ⟨Nat.le_of_ble_eq_true rfl, Nat.le_of_ble_eq_true rfl⟩) hK hP hD hS hA rfl rfl rfl (xE_all) rfl hl.1 rfl (Nat.le_of_ble_eq_true rfl) dX4_store_7 ⟨Nat.le_of_ble_eq_true rfl, Nat.le_of_ble_eq_true rfl⟩ (fun _ H locs _ hP hD hS => ?_)
  have hP : va_P D vwCl (mw cy b am 0 nS nB st bk gate nu) H := hP
  have hD : va_D A (mw cy b am 0 nS nB st bk gate nu) := hD
  refine W.eq (g2 := F0 m 10 ls [.int (inN (nI i) nS)]) rfl ?_
  refine lv_if_eq (tgt := 31) hx hb dX4_store_10 (by decide) (fun z => absurd z (inN_ok hi (by omega))) (fun _ => ?_)
  refine lv_iload_n hx hb dX4_store_13 rfl (lv_at hl 2 rfl) ?_
  refine lv_iconst (v := 0) hx hb dX4_store_14 (by decide) ?_
  refine lv_iconst (v := 3) hx hb dX4_store_15 (by decide) ?_
  refine xcS (As := [.int p1, .int 0, .int 3]) (rest := []) ⟨hx, hb, hml, hown, hts⟩ (c_X4_isIn l D cy p1 0 3) (va_cwS 3 hts gX4_store_X4_isIn rfl rfl rfl (by decide +kernel) ⟨Nat.le_of_ble_eq_true rfl, Nat.le_of_ble_eq_true rfl⟩) hK hP hD hS hA (xE_nil) rfl hl.1 rfl (Nat.le_of_ble_eq_true rfl) dX4_store_16 ⟨Nat.le_of_ble_eq_true rfl, Nat.le_of_ble_eq_true rfl⟩ (fun _ H locs _ hP hD hS => ?_)
  have hP : va_P D vwCl (mw cy b am 0 nS nB st bk gate nu) H := hP
  have hD : va_D A (mw cy b am 0 nS nB st bk gate nu) := hD
  refine W.eq (g2 := F0 m 19 ls [.int (wi p1 0 3)]) rfl ?_
  refine lv_if_eq (tgt := 31) hx hb dX4_store_19 (by decide) (fun _ => ?_) (fun z => absurd (wi_no h2) z)
  refine lv_aload_n hx hb dX4_store_31 rfl (lv_at hl 0 rfl) ?_
  refine lv_iconst (v := 1) hx hb dX4_store_32 (by decide) ?_
  refine xcV (As := [.int 1]) (rest := []) ⟨hx, hb, hml, hown, hts⟩ (c_X4_fail l D cy b am 0 nS nB st bk gate nu 1) (cwV 1 hts gX4_store_X4_fail rfl rfl rfl (by decide +kernel) ⟨Nat.le_of_ble_eq_true rfl, Nat.le_of_ble_eq_true rfl⟩) hK hP hD hS hA rfl rfl rfl (xE_all) rfl hl.1 rfl (Nat.le_of_ble_eq_true rfl) dX4_store_33 ⟨Nat.le_of_ble_eq_true rfl, Nat.le_of_ble_eq_true rfl⟩ (fun _ H locs _ hP hD hS => ?_)
  have hP : va_P D vwCl (mw cy b am 1 nS nB st bk gate nu) H := hP
  have hD : va_D A (mw cy b am 1 nS nB st bk gate nu) := hD
  refine W.eq (g2 := F0 m 36 ls [.int 0]) rfl ?_
  exact xri () hx hb hr hlocks hS (Nat.le_of_ble_eq_true rfl) (Nat.le_of_ble_eq_true rfl) dX4_store_36 hP hD rfl trivial

set_option maxHeartbeats 4000000 in
set_option maxRecDepth 100000 in
/-- baker -/
theorem c_X4_baker (l : Launch) (D : va_G) (cy : Nat → ClassId) (b : Nat) (am : Nat → Nat) (thr : Int32) (nS nB : Nat) (st bk : Nat → Iu) (gate nu : Iu) (j : Nat) (hj : j < nB) (k : Nat) (hk : k < 8) (hg : bk j 7 = 0 ∨ bk j 7 = 1) (hcB : nB ≤ 6) : xM l D cy yX4_baker wsX4_baker ({ frames := 2, cells := 0, slots := 0, locals := 60 } : Room) [.ref b, .int (nI j), .int (nI k)] (mw cy b am thr nS nB st bk gate nu) (fun _ : Unit => some (.int (bFact (bk j) k))) (fun _ => True) (fun _ => mw cy b am 0 nS nB st bk gate nu) := by
  refine xM.of cX4_baker 3 (some .int) RX4 (by decide +kernel) rfl rfl (Nat.le_of_ble_eq_true rfl) ?_
  intro p e s m below meth c A ls hx hb hr hts hown hlocks hml hin hK hA hP hD hS hl
  have hl : lv_has ls 3 [(0, .ref b), (1, .int (nI j)), (2, .int (nI k))] := hl
  have hinX4 : ∀ w ∈ wsX40, w ∈ wsX4_baker := fun _ h => List.mem_cons_of_mem _ (List.mem_append_right _ h)
  refine lv_aload_n hx hb dX4_baker_0 rfl (lv_at hl 0 rfl) ?_
  refine lv_iconst (v := 0) hx hb dX4_baker_1 (by decide) ?_
  refine va_put (D := D) (ci := 4) (v := .int 0) (ty := .int) (C := RX4) (T := TX4) (N := 8) hx hb hts hinX4 tyX4 tyX4_ok nmX4 hown hK.1 hP hD hS 0 rfl rfl 0 (by decide) (hts (.fieldLink RX4 26 "LoafMarksModel" "thrown" "I") (List.mem_of_getElem? (i := 1) rfl)) (fun _ h9 => h9) rfl (by decide +kernel) rfl rfl (Nat.le_of_ble_eq_true rfl) dX4_baker_2 (fun H locs hP hD hS => ?_)
  have hP : va_P D vwCl (mw cy b am 0 nS nB st bk gate nu) H := hP
  have hD : va_D A (mw cy b am 0 nS nB st bk gate nu) := hD
  refine lv_aload_n hx hb dX4_baker_5 rfl (lv_at hl 0 rfl) ?_
  refine lv_iload_n hx hb dX4_baker_6 rfl (lv_at hl 1 rfl) ?_
  refine xcV (As := [.int (nI j)]) (rest := []) ⟨hx, hb, hml, hown, hts⟩ (c_X4_isBaker l D cy b am 0 nS nB st bk gate nu (nI j)) (cwV 1 hts gX4_baker_X4_isBaker rfl rfl rfl (by decide +kernel) ⟨Nat.le_of_ble_eq_true rfl, Nat.le_of_ble_eq_true rfl⟩) hK hP hD hS hA rfl rfl rfl (xE_all) rfl hl.1 rfl (Nat.le_of_ble_eq_true rfl) dX4_baker_7 ⟨Nat.le_of_ble_eq_true rfl, Nat.le_of_ble_eq_true rfl⟩ (fun _ H locs _ hP hD hS => ?_)
  have hP : va_P D vwCl (mw cy b am 0 nS nB st bk gate nu) H := hP
  have hD : va_D A (mw cy b am 0 nS nB st bk gate nu) := hD
  refine W.eq (g2 := F0 m 10 ls [.int (inN (nI j) nB)]) rfl ?_
  refine lv_if_eq (tgt := 32) hx hb dX4_baker_10 (by decide) (fun z => absurd z (inN_ok hj (by omega))) (fun _ => ?_)
  refine lv_iload_n hx hb dX4_baker_13 rfl (lv_at hl 2 rfl) ?_
  refine lv_iconst (v := 0) hx hb dX4_baker_14 (by decide) ?_
  refine lv_bipush (v := 7) hx hb dX4_baker_15 (by decide) ?_
  refine xcS (As := [.int (nI k), .int 0, .int 7]) (rest := []) ⟨hx, hb, hml, hown, hts⟩ (c_X4_isIn l D cy (nI k) 0 7) (va_cwS 3 hts gX4_baker_X4_isIn rfl rfl rfl (by decide +kernel) ⟨Nat.le_of_ble_eq_true rfl, Nat.le_of_ble_eq_true rfl⟩) hK hP hD hS hA (xE_nil) rfl hl.1 rfl (Nat.le_of_ble_eq_true rfl) dX4_baker_17 ⟨Nat.le_of_ble_eq_true rfl, Nat.le_of_ble_eq_true rfl⟩ (fun _ H locs _ hP hD hS => ?_)
  have hP : va_P D vwCl (mw cy b am 0 nS nB st bk gate nu) H := hP
  have hD : va_D A (mw cy b am 0 nS nB st bk gate nu) := hD
  refine W.eq (g2 := F0 m 20 ls [.int (wi (nI k) 0 7)]) rfl ?_
  refine lv_if_eq (tgt := 32) hx hb dX4_baker_20 (by decide) (fun z => absurd z (wi_ok ⟨nI_pos' (n := k) (by omega), nI_le (a := k) (b := 7) (by omega) (by decide)⟩)) (fun _ => ?_)
  refine lv_aload_n hx hb dX4_baker_23 rfl (lv_at hl 0 rfl) ?_
  refine lv_iload_n hx hb dX4_baker_24 rfl (lv_at hl 1 rfl) ?_
  refine lv_iload_n hx hb dX4_baker_25 rfl (lv_at hl 2 rfl) ?_
  refine xcV (As := [.int (nI j), .int (nI k)]) (rest := []) ⟨hx, hb, hml, hown, hts⟩ (c_X4_sh l D cy b am 0 nS nB st bk gate nu j k (by omega) (by omega)) (cwV 2 hts gX4_baker_X4_sh rfl rfl rfl (by decide +kernel) ⟨Nat.le_of_ble_eq_true rfl, Nat.le_of_ble_eq_true rfl⟩) hK hP hD hS hA rfl rfl rfl (xE_all) rfl hl.1 rfl (Nat.le_of_ble_eq_true rfl) dX4_baker_26 ⟨Nat.le_of_ble_eq_true rfl, Nat.le_of_ble_eq_true rfl⟩ (fun _ H locs _ hP hD hS => ?_)
  have hP : va_P D vwCl (mw cy b am 0 nS nB st bk gate nu) H := hP
  have hD : va_D A (mw cy b am 0 nS nB st bk gate nu) := hD
  refine W.eq (g2 := F0 m 29 ls [.int (bk j k)]) rfl ?_
  refine lv_goto (tgt := 37) hx hb dX4_baker_29 (by decide) ?_
  exact xri () hx hb hr hlocks hS (Nat.le_of_ble_eq_true rfl) (Nat.le_of_ble_eq_true rfl) dX4_baker_37 hP hD (congrArg (fun z => some (Value.int z)) (bFact_eq hg)) trivial

set_option maxHeartbeats 4000000 in
set_option maxRecDepth 100000 in
/-- baker, refused -/
theorem c_X4_baker_1a (l : Launch) (D : va_G) (cy : Nat → ClassId) (b : Nat) (am : Nat → Nat) (thr : Int32) (nS nB : Nat) (st bk : Nat → Iu) (gate nu : Iu) (p0 p1 : Int32) (hv : ¬ vp_in p0 nB) (hcB : nB ≤ 6) : xM l D cy yX4_baker wsX4_baker ({ frames := 2, cells := 0, slots := 0, locals := 60 } : Room) [.ref b, .int p0, .int p1] (mw cy b am thr nS nB st bk gate nu) (fun _ : Unit => some (.int 0)) (fun _ => True) (fun _ => mw cy b am 1 nS nB st bk gate nu) := by
  refine xM.of cX4_baker 3 (some .int) RX4 (by decide +kernel) rfl rfl (Nat.le_of_ble_eq_true rfl) ?_
  intro p e s m below meth c A ls hx hb hr hts hown hlocks hml hin hK hA hP hD hS hl
  have hl : lv_has ls 3 [(0, .ref b), (1, .int p0), (2, .int p1)] := hl
  have hinX4 : ∀ w ∈ wsX40, w ∈ wsX4_baker := fun _ h => List.mem_cons_of_mem _ (List.mem_append_right _ h)
  refine lv_aload_n hx hb dX4_baker_0 rfl (lv_at hl 0 rfl) ?_
  refine lv_iconst (v := 0) hx hb dX4_baker_1 (by decide) ?_
  refine va_put (D := D) (ci := 4) (v := .int 0) (ty := .int) (C := RX4) (T := TX4) (N := 8) hx hb hts hinX4 tyX4 tyX4_ok nmX4 hown hK.1 hP hD hS 0 rfl rfl 0 (by decide) (hts (.fieldLink RX4 26 "LoafMarksModel" "thrown" "I") (List.mem_of_getElem? (i := 1) rfl)) (fun _ h9 => h9) rfl (by decide +kernel) rfl rfl (Nat.le_of_ble_eq_true rfl) dX4_baker_2 (fun H locs hP hD hS => ?_)
  have hP : va_P D vwCl (mw cy b am 0 nS nB st bk gate nu) H := hP
  have hD : va_D A (mw cy b am 0 nS nB st bk gate nu) := hD
  refine lv_aload_n hx hb dX4_baker_5 rfl (lv_at hl 0 rfl) ?_
  refine lv_iload_n hx hb dX4_baker_6 rfl (lv_at hl 1 rfl) ?_
  refine xcV (As := [.int p0]) (rest := []) ⟨hx, hb, hml, hown, hts⟩ (c_X4_isBaker l D cy b am 0 nS nB st bk gate nu p0) (cwV 1 hts gX4_baker_X4_isBaker rfl rfl rfl (by decide +kernel) ⟨Nat.le_of_ble_eq_true rfl, Nat.le_of_ble_eq_true rfl⟩) hK hP hD hS hA rfl rfl rfl (xE_all) rfl hl.1 rfl (Nat.le_of_ble_eq_true rfl) dX4_baker_7 ⟨Nat.le_of_ble_eq_true rfl, Nat.le_of_ble_eq_true rfl⟩ (fun _ H locs _ hP hD hS => ?_)
  have hP : va_P D vwCl (mw cy b am 0 nS nB st bk gate nu) H := hP
  have hD : va_D A (mw cy b am 0 nS nB st bk gate nu) := hD
  refine W.eq (g2 := F0 m 10 ls [.int (inN p0 nB)]) rfl ?_
  refine lv_if_eq (tgt := 32) hx hb dX4_baker_10 (by decide) (fun _ => ?_) (fun z => absurd (inN_no hv (by omega)) z)
  refine lv_aload_n hx hb dX4_baker_32 rfl (lv_at hl 0 rfl) ?_
  refine lv_iconst (v := 1) hx hb dX4_baker_33 (by decide) ?_
  refine xcV (As := [.int 1]) (rest := []) ⟨hx, hb, hml, hown, hts⟩ (c_X4_fail l D cy b am 0 nS nB st bk gate nu 1) (cwV 1 hts gX4_baker_X4_fail rfl rfl rfl (by decide +kernel) ⟨Nat.le_of_ble_eq_true rfl, Nat.le_of_ble_eq_true rfl⟩) hK hP hD hS hA rfl rfl rfl (xE_all) rfl hl.1 rfl (Nat.le_of_ble_eq_true rfl) dX4_baker_34 ⟨Nat.le_of_ble_eq_true rfl, Nat.le_of_ble_eq_true rfl⟩ (fun _ H locs _ hP hD hS => ?_)
  have hP : va_P D vwCl (mw cy b am 1 nS nB st bk gate nu) H := hP
  have hD : va_D A (mw cy b am 1 nS nB st bk gate nu) := hD
  refine W.eq (g2 := F0 m 37 ls [.int 0]) rfl ?_
  exact xri () hx hb hr hlocks hS (Nat.le_of_ble_eq_true rfl) (Nat.le_of_ble_eq_true rfl) dX4_baker_37 hP hD rfl trivial

set_option maxHeartbeats 4000000 in
set_option maxRecDepth 100000 in
/-- baker, refused -/
theorem c_X4_baker_1b (l : Launch) (D : va_G) (cy : Nat → ClassId) (b : Nat) (am : Nat → Nat) (thr : Int32) (nS nB : Nat) (st bk : Nat → Iu) (gate nu : Iu) (j : Nat) (hj : j < nB) (p1 : Int32) (h2 : ¬ ((0 : Int32) ≤ p1 ∧ p1 ≤ 7)) (hcB : nB ≤ 6) : xM l D cy yX4_baker wsX4_baker ({ frames := 2, cells := 0, slots := 0, locals := 60 } : Room) [.ref b, .int (nI j), .int p1] (mw cy b am thr nS nB st bk gate nu) (fun _ : Unit => some (.int 0)) (fun _ => True) (fun _ => mw cy b am 1 nS nB st bk gate nu) := by
  refine xM.of cX4_baker 3 (some .int) RX4 (by decide +kernel) rfl rfl (Nat.le_of_ble_eq_true rfl) ?_
  intro p e s m below meth c A ls hx hb hr hts hown hlocks hml hin hK hA hP hD hS hl
  have hl : lv_has ls 3 [(0, .ref b), (1, .int (nI j)), (2, .int p1)] := hl
  have hinX4 : ∀ w ∈ wsX40, w ∈ wsX4_baker := fun _ h => List.mem_cons_of_mem _ (List.mem_append_right _ h)
  refine lv_aload_n hx hb dX4_baker_0 rfl (lv_at hl 0 rfl) ?_
  refine lv_iconst (v := 0) hx hb dX4_baker_1 (by decide) ?_
  refine va_put (D := D) (ci := 4) (v := .int 0) (ty := .int) (C := RX4) (T := TX4) (N := 8) hx hb hts hinX4 tyX4 tyX4_ok nmX4 hown hK.1 hP hD hS 0 rfl rfl 0 (by decide) (hts (.fieldLink RX4 26 "LoafMarksModel" "thrown" "I") (List.mem_of_getElem? (i := 1) rfl)) (fun _ h9 => h9) rfl (by decide +kernel) rfl rfl (Nat.le_of_ble_eq_true rfl) dX4_baker_2 (fun H locs hP hD hS => ?_)
  have hP : va_P D vwCl (mw cy b am 0 nS nB st bk gate nu) H := hP
  have hD : va_D A (mw cy b am 0 nS nB st bk gate nu) := hD
  refine lv_aload_n hx hb dX4_baker_5 rfl (lv_at hl 0 rfl) ?_
  refine lv_iload_n hx hb dX4_baker_6 rfl (lv_at hl 1 rfl) ?_
  refine xcV (As := [.int (nI j)]) (rest := []) ⟨hx, hb, hml, hown, hts⟩ (c_X4_isBaker l D cy b am 0 nS nB st bk gate nu (nI j)) (cwV 1 hts gX4_baker_X4_isBaker rfl rfl rfl (by decide +kernel) ⟨Nat.le_of_ble_eq_true rfl, Nat.le_of_ble_eq_true rfl⟩) hK hP hD hS hA rfl rfl rfl (xE_all) rfl hl.1 rfl (Nat.le_of_ble_eq_true rfl) dX4_baker_7 ⟨Nat.le_of_ble_eq_true rfl, Nat.le_of_ble_eq_true rfl⟩ (fun _ H locs _ hP hD hS => ?_)
  have hP : va_P D vwCl (mw cy b am 0 nS nB st bk gate nu) H := hP
  have hD : va_D A (mw cy b am 0 nS nB st bk gate nu) := hD
  refine W.eq (g2 := F0 m 10 ls [.int (inN (nI j) nB)]) rfl ?_
  refine lv_if_eq (tgt := 32) hx hb dX4_baker_10 (by decide) (fun z => absurd z (inN_ok hj (by omega))) (fun _ => ?_)
  refine lv_iload_n hx hb dX4_baker_13 rfl (lv_at hl 2 rfl) ?_
  refine lv_iconst (v := 0) hx hb dX4_baker_14 (by decide) ?_
  refine lv_bipush (v := 7) hx hb dX4_baker_15 (by decide) ?_
  refine xcS (As := [.int p1, .int 0, .int 7]) (rest := []) ⟨hx, hb, hml, hown, hts⟩ (c_X4_isIn l D cy p1 0 7) (va_cwS 3 hts gX4_baker_X4_isIn rfl rfl rfl (by decide +kernel) ⟨Nat.le_of_ble_eq_true rfl, Nat.le_of_ble_eq_true rfl⟩) hK hP hD hS hA (xE_nil) rfl hl.1 rfl (Nat.le_of_ble_eq_true rfl) dX4_baker_17 ⟨Nat.le_of_ble_eq_true rfl, Nat.le_of_ble_eq_true rfl⟩ (fun _ H locs _ hP hD hS => ?_)
  have hP : va_P D vwCl (mw cy b am 0 nS nB st bk gate nu) H := hP
  have hD : va_D A (mw cy b am 0 nS nB st bk gate nu) := hD
  refine W.eq (g2 := F0 m 20 ls [.int (wi p1 0 7)]) rfl ?_
  refine lv_if_eq (tgt := 32) hx hb dX4_baker_20 (by decide) (fun _ => ?_) (fun z => absurd (wi_no h2) z)
  refine lv_aload_n hx hb dX4_baker_32 rfl (lv_at hl 0 rfl) ?_
  refine lv_iconst (v := 1) hx hb dX4_baker_33 (by decide) ?_
  refine xcV (As := [.int 1]) (rest := []) ⟨hx, hb, hml, hown, hts⟩ (c_X4_fail l D cy b am 0 nS nB st bk gate nu 1) (cwV 1 hts gX4_baker_X4_fail rfl rfl rfl (by decide +kernel) ⟨Nat.le_of_ble_eq_true rfl, Nat.le_of_ble_eq_true rfl⟩) hK hP hD hS hA rfl rfl rfl (xE_all) rfl hl.1 rfl (Nat.le_of_ble_eq_true rfl) dX4_baker_34 ⟨Nat.le_of_ble_eq_true rfl, Nat.le_of_ble_eq_true rfl⟩ (fun _ H locs _ hP hD hS => ?_)
  have hP : va_P D vwCl (mw cy b am 1 nS nB st bk gate nu) H := hP
  have hD : va_D A (mw cy b am 1 nS nB st bk gate nu) := hD
  refine W.eq (g2 := F0 m 37 ls [.int 0]) rfl ?_
  exact xri () hx hb hr hlocks hS (Nat.le_of_ble_eq_true rfl) (Nat.le_of_ble_eq_true rfl) dX4_baker_37 hP hD rfl trivial

set_option maxHeartbeats 4000000 in
set_option maxRecDepth 100000 in
/-- whose -/
theorem c_X4_whose (l : Launch) (D : va_G) (cy : Nat → ClassId) (b : Nat) (am : Nat → Nat) (thr : Int32) (nS nB : Nat) (st bk : Nat → Iu) (gate nu : Iu) (p0 : Int32) (h1 : (0 : Int32) ≤ p0 ∧ p0 ≤ 25) (hcB : nB ≤ 6) : xM l D cy yX4_whose wsX4_whose ({ frames := 2, cells := 0, slots := 0, locals := 60 } : Room) [.ref b, .int p0] (mw cy b am thr nS nB st bk gate nu) (fun _ : Unit => some (.int (ownF bk p0 nB 0))) (fun _ => True) (fun _ => mw cy b am 0 nS nB st bk gate nu) := by
  refine xM.of cX4_whose 2 (some .int) RX4 (by decide +kernel) rfl rfl (Nat.le_of_ble_eq_true rfl) ?_
  intro p e s m below meth c A ls hx hb hr hts hown hlocks hml hin hK hA hP hD hS hl
  have hl : lv_has ls 2 [(0, .ref b), (1, .int p0)] := hl
  have hinX4 : ∀ w ∈ wsX40, w ∈ wsX4_whose := fun _ h => List.mem_cons_of_mem _ (List.mem_append_right _ h)
  refine lv_aload_n hx hb dX4_whose_0 rfl (lv_at hl 0 rfl) ?_
  refine lv_iconst (v := 0) hx hb dX4_whose_1 (by decide) ?_
  refine va_put (D := D) (ci := 4) (v := .int 0) (ty := .int) (C := RX4) (T := TX4) (N := 8) hx hb hts hinX4 tyX4 tyX4_ok nmX4 hown hK.1 hP hD hS 0 rfl rfl 0 (by decide) (hts (.fieldLink RX4 26 "LoafMarksModel" "thrown" "I") (List.mem_of_getElem? (i := 1) rfl)) (fun _ h9 => h9) rfl (by decide +kernel) rfl rfl (Nat.le_of_ble_eq_true rfl) dX4_whose_2 (fun H locs hP hD hS => ?_)
  have hP : va_P D vwCl (mw cy b am 0 nS nB st bk gate nu) H := hP
  have hD : va_D A (mw cy b am 0 nS nB st bk gate nu) := hD
  refine lv_iload_n hx hb dX4_whose_5 rfl (lv_at hl 1 rfl) ?_
  refine lv_iconst (v := 0) hx hb dX4_whose_6 (by decide) ?_
  refine lv_bipush (v := 25) hx hb dX4_whose_7 (by decide) ?_
  refine xcS (As := [.int p0, .int 0, .int 25]) (rest := []) ⟨hx, hb, hml, hown, hts⟩ (c_X4_isIn l D cy p0 0 25) (va_cwS 3 hts gX4_whose_X4_isIn rfl rfl rfl (by decide +kernel) ⟨Nat.le_of_ble_eq_true rfl, Nat.le_of_ble_eq_true rfl⟩) hK hP hD hS hA (xE_nil) rfl hl.1 rfl (Nat.le_of_ble_eq_true rfl) dX4_whose_9 ⟨Nat.le_of_ble_eq_true rfl, Nat.le_of_ble_eq_true rfl⟩ (fun _ H locs _ hP hD hS => ?_)
  have hP : va_P D vwCl (mw cy b am 0 nS nB st bk gate nu) H := hP
  have hD : va_D A (mw cy b am 0 nS nB st bk gate nu) := hD
  refine W.eq (g2 := F0 m 12 ls [.int (wi p0 0 25)]) rfl ?_
  refine lv_if_eq (tgt := 23) hx hb dX4_whose_12 (by decide) (fun z => absurd z (wi_ok h1)) (fun _ => ?_)
  refine lv_aload_n hx hb dX4_whose_15 rfl (lv_at hl 0 rfl) ?_
  refine lv_iload_n hx hb dX4_whose_16 rfl (lv_at hl 1 rfl) ?_
  refine xcV (As := [.int p0]) (rest := []) ⟨hx, hb, hml, hown, hts⟩ (c_X4_owner l D cy b am 0 nS nB st bk gate nu p0 hcB) (cwV 1 hts gX4_whose_X4_owner rfl rfl rfl (by decide +kernel) ⟨Nat.le_of_ble_eq_true rfl, Nat.le_of_ble_eq_true rfl⟩) hK hP hD hS hA rfl rfl rfl (xE_all) rfl hl.1 rfl (Nat.le_of_ble_eq_true rfl) dX4_whose_17 ⟨Nat.le_of_ble_eq_true rfl, Nat.le_of_ble_eq_true rfl⟩ (fun _ H locs _ hP hD hS => ?_)
  have hP : va_P D vwCl (mw cy b am 0 nS nB st bk gate nu) H := hP
  have hD : va_D A (mw cy b am 0 nS nB st bk gate nu) := hD
  refine W.eq (g2 := F0 m 20 ls [.int (ownF bk p0 nB 0)]) rfl ?_
  refine lv_goto (tgt := 28) hx hb dX4_whose_20 (by decide) ?_
  exact xri () hx hb hr hlocks hS (Nat.le_of_ble_eq_true rfl) (Nat.le_of_ble_eq_true rfl) dX4_whose_28 hP hD rfl trivial

set_option maxHeartbeats 4000000 in
set_option maxRecDepth 100000 in
/-- whose, refused -/
theorem c_X4_whose_1 (l : Launch) (D : va_G) (cy : Nat → ClassId) (b : Nat) (am : Nat → Nat) (thr : Int32) (nS nB : Nat) (st bk : Nat → Iu) (gate nu : Iu) (p0 : Int32) (h1 : ¬ ((0 : Int32) ≤ p0 ∧ p0 ≤ 25)) : xM l D cy yX4_whose wsX4_whose ({ frames := 2, cells := 0, slots := 0, locals := 60 } : Room) [.ref b, .int p0] (mw cy b am thr nS nB st bk gate nu) (fun _ : Unit => some (.int 0)) (fun _ => True) (fun _ => mw cy b am 1 nS nB st bk gate nu) := by
  refine xM.of cX4_whose 2 (some .int) RX4 (by decide +kernel) rfl rfl (Nat.le_of_ble_eq_true rfl) ?_
  intro p e s m below meth c A ls hx hb hr hts hown hlocks hml hin hK hA hP hD hS hl
  have hl : lv_has ls 2 [(0, .ref b), (1, .int p0)] := hl
  have hinX4 : ∀ w ∈ wsX40, w ∈ wsX4_whose := fun _ h => List.mem_cons_of_mem _ (List.mem_append_right _ h)
  refine lv_aload_n hx hb dX4_whose_0 rfl (lv_at hl 0 rfl) ?_
  refine lv_iconst (v := 0) hx hb dX4_whose_1 (by decide) ?_
  refine va_put (D := D) (ci := 4) (v := .int 0) (ty := .int) (C := RX4) (T := TX4) (N := 8) hx hb hts hinX4 tyX4 tyX4_ok nmX4 hown hK.1 hP hD hS 0 rfl rfl 0 (by decide) (hts (.fieldLink RX4 26 "LoafMarksModel" "thrown" "I") (List.mem_of_getElem? (i := 1) rfl)) (fun _ h9 => h9) rfl (by decide +kernel) rfl rfl (Nat.le_of_ble_eq_true rfl) dX4_whose_2 (fun H locs hP hD hS => ?_)
  have hP : va_P D vwCl (mw cy b am 0 nS nB st bk gate nu) H := hP
  have hD : va_D A (mw cy b am 0 nS nB st bk gate nu) := hD
  refine lv_iload_n hx hb dX4_whose_5 rfl (lv_at hl 1 rfl) ?_
  refine lv_iconst (v := 0) hx hb dX4_whose_6 (by decide) ?_
  refine lv_bipush (v := 25) hx hb dX4_whose_7 (by decide) ?_
  refine xcS (As := [.int p0, .int 0, .int 25]) (rest := []) ⟨hx, hb, hml, hown, hts⟩ (c_X4_isIn l D cy p0 0 25) (va_cwS 3 hts gX4_whose_X4_isIn rfl rfl rfl (by decide +kernel) ⟨Nat.le_of_ble_eq_true rfl, Nat.le_of_ble_eq_true rfl⟩) hK hP hD hS hA (xE_nil) rfl hl.1 rfl (Nat.le_of_ble_eq_true rfl) dX4_whose_9 ⟨Nat.le_of_ble_eq_true rfl, Nat.le_of_ble_eq_true rfl⟩ (fun _ H locs _ hP hD hS => ?_)
  have hP : va_P D vwCl (mw cy b am 0 nS nB st bk gate nu) H := hP
  have hD : va_D A (mw cy b am 0 nS nB st bk gate nu) := hD
  refine W.eq (g2 := F0 m 12 ls [.int (wi p0 0 25)]) rfl ?_
  refine lv_if_eq (tgt := 23) hx hb dX4_whose_12 (by decide) (fun _ => ?_) (fun z => absurd (wi_no h1) z)
  refine lv_aload_n hx hb dX4_whose_23 rfl (lv_at hl 0 rfl) ?_
  refine lv_iconst (v := 1) hx hb dX4_whose_24 (by decide) ?_
  refine xcV (As := [.int 1]) (rest := []) ⟨hx, hb, hml, hown, hts⟩ (c_X4_fail l D cy b am 0 nS nB st bk gate nu 1) (cwV 1 hts gX4_whose_X4_fail rfl rfl rfl (by decide +kernel) ⟨Nat.le_of_ble_eq_true rfl, Nat.le_of_ble_eq_true rfl⟩) hK hP hD hS hA rfl rfl rfl (xE_all) rfl hl.1 rfl (Nat.le_of_ble_eq_true rfl) dX4_whose_25 ⟨Nat.le_of_ble_eq_true rfl, Nat.le_of_ble_eq_true rfl⟩ (fun _ H locs _ hP hD hS => ?_)
  have hP : va_P D vwCl (mw cy b am 1 nS nB st bk gate nu) H := hP
  have hD : va_D A (mw cy b am 1 nS nB st bk gate nu) := hD
  refine W.eq (g2 := F0 m 28 ls [.int 0]) rfl ?_
  exact xri () hx hb hr hlocks hS (Nat.le_of_ble_eq_true rfl) (Nat.le_of_ble_eq_true rfl) dX4_whose_28 hP hD rfl trivial
