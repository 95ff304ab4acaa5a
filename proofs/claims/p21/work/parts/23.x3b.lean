/-! ===== LoafMarks: looking ahead, the digest (laid by gen23.py) ===== -/
section XTR
variable {cy : Nat → ClassId} {h : Nat} {ad av : Nat → Nat} {nS nB mS mB : Nat} {st bk ts tb : Nat → Iu} {gate nu tg tn : Iu} {bt : Nat}
theorem xw_tr_bk {j : Nat} (hj : j < mB) : (xw cy h ad nS nB st bk gate nu bt (tw cy av mS mB ts tb tg tn))[(tw cy ad nS nB st bk gate nu).length + (4 + mS + j) + 1]? = some (av (8 + j), cBk (tb j)) := by
  unfold xw
  rw [List.getElem?_cons_succ]
  exact at_r (tw_bk hj)
theorem xw_set_tr {j : Nat} {x : Iu} (hj : j < mB) : (xw cy h ad nS nB st bk gate nu bt (tw cy av mS mB ts tb tg tn)).set ((tw cy ad nS nB st bk gate nu).length + (4 + mS + j) + 1) (av (8 + j), cBk x) = xw cy h ad nS nB st bk gate nu bt (tw cy av mS mB ts (va_up tb j x) tg tn) := by
  unfold xw
  rw [List.set_cons_succ, List.set_append_right _ _ (by omega), Nat.add_sub_cancel_left, tw_set_bk hj]
end XTR
theorem rat_of {nS nB : Nat} {bk : Nat → Iu} {p1 : Int32} (jq : Nat) (hof : ∀ j, j < nB → ∃ i, i < nS ∧ bk j 0 = nI i) : ∀ j, j < nB → ∃ i, i < nS ∧ (va_up bk jq (upd (bk jq) 2 p1)) j 0 = nI i := by
  intro j hj
  obtain ⟨i, hi, e⟩ := hof j hj
  refine ⟨i, hi, ?_⟩
  unfold va_up
  split
  · rename_i e2; subst e2; rw [upd_ne (by decide)]; exact e
  · exact e
/-- what foresee tells behind some hours -/
def fsF (nS nB : Nat) (x : Int32) (v : TS) (w : Nat) : Int32 := if w = 0 then x else if w = 1 then sm (fun i => v.1 i 0) nS else if w = 2 then sm (fun j => v.2.1 j 5) nB else sm (fun i => v.1 i 1) nS
theorem nI_10 (a : Nat) : nI a + 10 = nI (a + 10) := nI_add a 10
set_option maxHeartbeats 4000000 in
set_option maxRecDepth 100000 in
/-- lasts -/
theorem c_X3_lasts (l : Launch) (D : va_G) (cy : Nat → ClassId) (h : Nat) (ad av : Nat → Nat) (nS nB tS tB : Nat) (st bk ts tb : Nat → Iu) (gate nu tg tn : Iu) (hSM : tS ≤ nS) (hBM : tB ≤ nB) (hcS : nS ≤ 4) (hcB : nB ≤ 6) (hb7 : ∀ j, j < nB → bk j 7 = 0 ∨ bk j 7 = 1) (hq : Nat) (eh : nu 0 = nI hq) (hh : hq + 480 < 2 ^ 31) (hof : ∀ j, j < nB → ∃ i, i < nS ∧ bk j 0 = nI i) : xM l D cy yX3_lasts wsX3_lasts ({ frames := 6, cells := 10, slots := 60, locals := 180 } : Room) [.ref h] (xw cy h ad nS nB st bk gate nu (av 0) (tw cy av tS tB ts tb tg tn)) (fun _ : (Nat → Nat) × TS => some (.int (lastN nS nB hq gate (st, bk, nu) 480 0))) (fun _ => True) (fun q => xw cy h ad nS nB st bk gate nu (q.1 0) (tw cy q.1 nS nB q.2.1 q.2.2.1 gate q.2.2.2)) := by
  refine xM.of cX3_lasts 2 (some .int) RX3 (by decide +kernel) rfl rfl (Nat.le_of_ble_eq_true rfl) ?_
  intro p e s m below meth c A ls hx hb hr hts hown hlocks hml hin hK hA hP hD hS hl
  have hl : lv_has ls 2 [(0, .ref h)] := hl
  have hinX3 : ∀ w ∈ wsX30, w ∈ wsX3_lasts := fun _ h => List.mem_cons_of_mem _ (List.mem_append_left _ (List.mem_append_left _ (List.mem_append_left _ (List.mem_append_right _ h))))
  refine lv_aload_n hx hb dX3_lasts_0 rfl (lv_at hl 0 rfl) ?_
  refine va_get (D := D) (ci := 3) (v := .ref (av 0)) (C := RX3) (T := TX3) (N := 2) hx hb hts hinX3 hown hK.1 hP 0 rfl rfl 1 (by decide) (hts (.fieldLink RX3 16 "LoafMarks" "trial" "LLoafMarks$Town;") (List.mem_of_getElem? (i := 1) rfl)) (fun _ h9 => h9) rfl dX3_lasts_1 ?_
  refine lv_aload_n hx hb dX3_lasts_4 rfl (lv_at hl 0 rfl) ?_
  refine va_get (D := D) (ci := 3) (v := .ref (ad 0)) (C := RX3) (T := TX3) (N := 2) hx hb hts hinX3 hown hK.1 hP 0 rfl rfl 0 (by decide) (hts (.fieldLink RX3 10 "LoafMarks" "town" "LLoafMarks$Town;") (List.mem_of_getElem? (i := 2) rfl)) (fun _ h9 => h9) rfl dX3_lasts_5 ?_
  refine xcV (As := [.ref (ad 0)]) (rest := []) ⟨hx, hb, hml, hown, hts⟩ (c_X2_becomeLike l D cy av ad tS tB nS nB ts tb st bk tg tn gate nu hSM hcS hBM hcB hb7) (cwV 1 hts gX3_lasts_X2_becomeLike rfl rfl rfl (by decide +kernel) ⟨Nat.le_of_ble_eq_true rfl, Nat.le_of_ble_eq_true rfl⟩) hK hP hD hS hA rfl rfl rfl (xE_both) rfl hl.1 rfl (Nat.le_of_ble_eq_true rfl) dX3_lasts_8 ⟨Nat.le_of_ble_eq_true rfl, Nat.le_of_ble_eq_true rfl⟩ (fun a2 H locs ha2 hP hD hS => ?_)
  have hP : va_P D vwCl (xw cy h ad nS nB st bk gate nu (av 0) (tw cy a2 nS nB st bk gate nu)) H := hP
  have hD : va_D A (xw cy h ad nS nB st bk gate nu (av 0) (tw cy a2 nS nB st bk gate nu)) := hD
  refine W.eq (g2 := F0 m 11 ls []) rfl ?_
  have e0 : av 0 = a2 0 := (ha2 0 (by decide)).symm
  rw [e0] at hP hD
  refine lv_iconst (v := 1) hx hb dX3_lasts_11 (by decide) ?_
  refine lv_istore_n (lv' := [(1, .int 1), (0, .ref h)]) hx hb dX3_lasts_12 rfl hl (by decide) rfl (fun ls hl => ?_)
  have loop : ∀ (n i : Nat)  (H : Heap) (locs : List Loc) (ls : Array Slot), i + n = 480 → (lastN nS nB hq gate (st, bk, nu) 480 0 = lastN nS nB hq gate (st, bk, nu) n i) → va_P D vwCl (xw cy h ad nS nB st bk gate nu (a2 0) (tw cy a2 nS nB ((hrs nS nB hq gate (st, bk, nu) i).1) ((hrs nS nB hq gate (st, bk, nu) i).2.1) gate ((hrs nS nB hq gate (st, bk, nu) i).2.2))) H → va_D A (xw cy h ad nS nB st bk gate nu (a2 0) (tw cy a2 nS nB ((hrs nS nB hq gate (st, bk, nu) i).1) ((hrs nS nB hq gate (st, bk, nu) i).2.1) gate ((hrs nS nB hq gate (st, bk, nu) i).2.2))) → va_S A s.heap H locs → lv_has ls 2 [(0, .ref h), (1, .int (nI (i + 1)))] → W p l e ({ frames := 6, cells := 10, slots := 60, locals := 180 } : Room) s m ([.ref h] : List Value).toArray below meth c H locs 10 60 (MQ below (xQ D A (fun _ : (Nat → Nat) × TS => some (.int (lastN nS nB hq gate (st, bk, nu) 480 0))) (fun _ => True) (fun q => xw cy h ad nS nB st bk gate nu (q.1 0) (tw cy q.1 nS nB q.2.1 q.2.2.1 gate q.2.2.2))) ([.ref h] : List Value).toArray s 10 60 A) (F0 m 13 ls []) := by
    intro n
    induction n with
    | zero =>
      intro i  H locs ls hns hinv hP hD hS hl
      have hii : i = 480 := by omega
      refine lv_iload_n hx hb dX3_lasts_13 rfl (lv_at hl 1 rfl) ?_
      refine lv_sipush (v := 480) hx hb dX3_lasts_14 (by decide) ?_
      refine lv_icmp_gt (tgt := 38) hx hb dX3_lasts_17 (by decide) (fun _ => ?_) (fun h => absurd (by rw [hii]; decide) h)
      refine lv_iconst (v := (-1)) hx hb dX3_lasts_38 (by decide) ?_
      exact xri (a2, (hrs nS nB hq gate (st, bk, nu) i)) hx hb hr hlocks hS (Nat.le_of_ble_eq_true rfl) (Nat.le_of_ble_eq_true rfl) dX3_lasts_39 hP hD (by show some (Value.int (lastN nS nB hq gate (st, bk, nu) 480 0)) = _; rw [hinv]; rfl) trivial
    | succ n ih =>
      intro i  H locs ls hns hinv hP hD hS hl
      have hlt : i < 480 := by omega
      refine lv_iload_n hx hb dX3_lasts_13 rfl (lv_at hl 1 rfl) ?_
      refine lv_sipush (v := 480) hx hb dX3_lasts_14 (by decide) ?_
      refine lv_icmp_gt (tgt := 38) hx hb dX3_lasts_17 (by decide) (fun h => absurd h (fun z => absurd z (nI_nlt (b := i + 1) (a := 480) (by omega) (by decide)))) (fun _ => ?_)
      refine lv_aload_n hx hb dX3_lasts_20 rfl (lv_at hl 0 rfl) ?_
      refine va_get (D := D) (ci := 3) (v := .ref (a2 0)) (C := RX3) (T := TX3) (N := 2) hx hb hts hinX3 hown hK.1 hP 0 rfl rfl 1 (by decide) (hts (.fieldLink RX3 16 "LoafMarks" "trial" "LLoafMarks$Town;") (List.mem_of_getElem? (i := 1) rfl)) (fun _ h9 => h9) rfl dX3_lasts_21 ?_
      refine xcV (As := []) (rest := []) ⟨hx, hb, hml, hown, hts⟩ (c_X2_goThroughHour l D cy a2 nS nB (hrs nS nB hq gate (st, bk, nu) i) gate (hq + i) ((hq + i) % 24) (hrs_hour nS nB hq gate (st, bk, nu) eh i) (by omega) rfl hcS hcB (fun j hj => by rw [hrs_of]; exact hof j hj)) (cwV 0 hts gX3_lasts_X2_goThroughHour rfl rfl rfl (by decide +kernel) ⟨Nat.le_of_ble_eq_true rfl, Nat.le_of_ble_eq_true rfl⟩) hK hP hD hS hA rfl rfl rfl (xE_trial) rfl hl.1 rfl (Nat.le_of_ble_eq_true rfl) dX3_lasts_24 ⟨Nat.le_of_ble_eq_true rfl, Nat.le_of_ble_eq_true rfl⟩ (fun _ H locs _ hP hD hS => ?_)
      have hP : va_P D vwCl (xw cy h ad nS nB st bk gate nu (a2 0) (tw cy a2 nS nB ((hrs nS nB hq gate (st, bk, nu) (i + 1)).1) ((hrs nS nB hq gate (st, bk, nu) (i + 1)).2.1) gate ((hrs nS nB hq gate (st, bk, nu) (i + 1)).2.2))) H := hP
      have hD : va_D A (xw cy h ad nS nB st bk gate nu (a2 0) (tw cy a2 nS nB ((hrs nS nB hq gate (st, bk, nu) (i + 1)).1) ((hrs nS nB hq gate (st, bk, nu) (i + 1)).2.1) gate ((hrs nS nB hq gate (st, bk, nu) (i + 1)).2.2))) := hD
      refine W.eq (g2 := F0 m 27 ls [.int (hUnfed nS nB ((hq + i) % 24) gate (hrs nS nB hq gate (st, bk, nu) i))]) rfl ?_
      refine lv_if_le (tgt := 32) hx hb dX3_lasts_27 (by decide) (fun c27 => ?_) (fun c27 => ?_)
      · have hnext : lastN nS nB hq gate (st, bk, nu) 480 0 = lastN nS nB hq gate (st, bk, nu) n (i + 1) := hinv.trans (if_neg (Int32.not_lt.mpr c27))
        refine lv_iinc (v := (nI (i + 1 + 1))) (lv' := [(1, .int (nI (i + 1 + 1))), (0, .ref h)]) hx hb dX3_lasts_32 hl (k := 1) rfl ((nI_1 (i + 1))) (by decide) rfl (fun ls hl => ?_)
        refine lv_goto (tgt := 13) hx hb dX3_lasts_35 (by decide) ?_
        exact ih (i + 1)  _ _ _ (by omega) hnext hP hD hS (lv_sub hl [1, 0] rfl)
      · refine lv_iload_n hx hb dX3_lasts_30 rfl (lv_at hl 1 rfl) ?_
        exact xri (a2, (hrs nS nB hq gate (st, bk, nu) (i + 1))) hx hb hr hlocks hS (Nat.le_of_ble_eq_true rfl) (Nat.le_of_ble_eq_true rfl) dX3_lasts_31 hP hD (by show some (Value.int (lastN nS nB hq gate (st, bk, nu) 480 0)) = _; rw [hinv]; exact congrArg (fun z => some (Value.int z)) (if_pos (Int32.not_le.mp c27))) trivial
  exact loop 480 0  _ _ _ (by omega) rfl hP hD hS (lv_sub hl [1, 0] rfl)

set_option maxHeartbeats 4000000 in
set_option maxRecDepth 100000 in
/-- foresee -/
theorem c_X3_foresee (l : Launch) (D : va_G) (cy : Nat → ClassId) (h : Nat) (ad av : Nat → Nat) (nS nB tS tB : Nat) (st bk ts tb : Nat → Iu) (gate nu tg tn : Iu) (hSM : tS ≤ nS) (hBM : tB ≤ nB) (hcS : nS ≤ 4) (hcB : nB ≤ 6) (hb7 : ∀ j, j < nB → bk j 7 = 0 ∨ bk j 7 = 1) (hq n k : Nat) (eh : nu 0 = nI hq) (hn1 : 1 ≤ n) (hn2 : n ≤ 240) (hh : hq + n < 2 ^ 31) (hk : k < 4) (hof : ∀ j, j < nB → ∃ i, i < nS ∧ bk j 0 = nI i) : xM l D cy yX3_foresee wsX3_foresee ({ frames := 6, cells := 10, slots := 60, locals := 180 } : Room) [.ref h, .int (nI n), .int (nI k)] (xw cy h ad nS nB st bk gate nu (av 0) (tw cy av tS tB ts tb tg tn)) (fun _ : (Nat → Nat) × TS => some (.int (fsF nS nB (unf nS nB hq gate (st, bk, nu) n) (hrs nS nB hq gate (st, bk, nu) n) k))) (fun _ => True) (fun q => xw cy h ad nS nB st bk gate nu (q.1 0) (tw cy q.1 nS nB q.2.1 q.2.2.1 gate q.2.2.2)) := by
  refine xM.of cX3_foresee 4 (some .int) RX3 (by decide +kernel) rfl rfl (Nat.le_of_ble_eq_true rfl) ?_
  intro p e s m below meth c A ls hx hb hr hts hown hlocks hml hin hK hA hP hD hS hl
  have hl : lv_has ls 4 [(0, .ref h), (1, .int (nI n)), (2, .int (nI k))] := hl
  have hinX3 : ∀ w ∈ wsX30, w ∈ wsX3_foresee := fun _ h => List.mem_cons_of_mem _ (List.mem_append_left _ (List.mem_append_left _ (List.mem_append_left _ (List.mem_append_left _ (List.mem_append_left _ (List.mem_append_right _ h))))))
  refine lv_iload_n hx hb dX3_foresee_0 rfl (lv_at hl 1 rfl) ?_
  refine lv_iconst (v := 1) hx hb dX3_foresee_1 (by decide) ?_
  refine lv_sipush (v := 240) hx hb dX3_foresee_2 (by decide) ?_
  refine xcS (As := [.int (nI n), .int 1, .int 240]) (rest := []) ⟨hx, hb, hml, hown, hts⟩ (c_X3_isWithin l D cy (nI n) 1 240) (va_cwS 3 hts gX3_foresee_X3_isWithin rfl rfl rfl (by decide +kernel) ⟨Nat.le_of_ble_eq_true rfl, Nat.le_of_ble_eq_true rfl⟩) hK hP hD hS hA (xE_nil) rfl hl.1 rfl (Nat.le_of_ble_eq_true rfl) dX3_foresee_5 ⟨Nat.le_of_ble_eq_true rfl, Nat.le_of_ble_eq_true rfl⟩ (fun _ H locs _ hP hD hS => ?_)
  have hP : va_P D vwCl (xw cy h ad nS nB st bk gate nu (av 0) (tw cy av tS tB ts tb tg tn)) H := hP
  have hD : va_D A (xw cy h ad nS nB st bk gate nu (av 0) (tw cy av tS tB ts tb tg tn)) := hD
  refine W.eq (g2 := F0 m 8 ls [.int (wi (nI n) 1 240)]) rfl ?_
  refine lv_if_ne (tgt := 21) hx hb dX3_foresee_8 (by decide) (fun _ => ?_) (fun z => absurd z (wi_ok ⟨nI_le (a := 1) (b := n) (by omega) (by omega), nI_le (a := n) (b := 240) (by omega) (by decide)⟩))
  refine lv_iload_n hx hb dX3_foresee_21 rfl (lv_at hl 2 rfl) ?_
  refine lv_iconst (v := 0) hx hb dX3_foresee_22 (by decide) ?_
  refine lv_iconst (v := 3) hx hb dX3_foresee_23 (by decide) ?_
  refine xcS (As := [.int (nI k), .int 0, .int 3]) (rest := []) ⟨hx, hb, hml, hown, hts⟩ (c_X3_isWithin l D cy (nI k) 0 3) (va_cwS 3 hts gX3_foresee_X3_isWithin rfl rfl rfl (by decide +kernel) ⟨Nat.le_of_ble_eq_true rfl, Nat.le_of_ble_eq_true rfl⟩) hK hP hD hS hA (xE_nil) rfl hl.1 rfl (Nat.le_of_ble_eq_true rfl) dX3_foresee_24 ⟨Nat.le_of_ble_eq_true rfl, Nat.le_of_ble_eq_true rfl⟩ (fun _ H locs _ hP hD hS => ?_)
  have hP : va_P D vwCl (xw cy h ad nS nB st bk gate nu (av 0) (tw cy av tS tB ts tb tg tn)) H := hP
  have hD : va_D A (xw cy h ad nS nB st bk gate nu (av 0) (tw cy av tS tB ts tb tg tn)) := hD
  refine W.eq (g2 := F0 m 27 ls [.int (wi (nI k) 0 3)]) rfl ?_
  refine lv_if_ne (tgt := 40) hx hb dX3_foresee_27 (by decide) (fun _ => ?_) (fun z => absurd z (wi_ok ⟨nI_pos' (n := k) (by omega), nI_le (a := k) (b := 3) (by omega) (by decide)⟩))
  refine lv_aload_n hx hb dX3_foresee_40 rfl (lv_at hl 0 rfl) ?_
  refine va_get (D := D) (ci := 3) (v := .ref (av 0)) (C := RX3) (T := TX3) (N := 2) hx hb hts hinX3 hown hK.1 hP 0 rfl rfl 1 (by decide) (hts (.fieldLink RX3 16 "LoafMarks" "trial" "LLoafMarks$Town;") (List.mem_of_getElem? (i := 5) rfl)) (fun _ h9 => h9) rfl dX3_foresee_41 ?_
  refine lv_aload_n hx hb dX3_foresee_44 rfl (lv_at hl 0 rfl) ?_
  refine va_get (D := D) (ci := 3) (v := .ref (ad 0)) (C := RX3) (T := TX3) (N := 2) hx hb hts hinX3 hown hK.1 hP 0 rfl rfl 0 (by decide) (hts (.fieldLink RX3 10 "LoafMarks" "town" "LLoafMarks$Town;") (List.mem_of_getElem? (i := 6) rfl)) (fun _ h9 => h9) rfl dX3_foresee_45 ?_
  refine xcV (As := [.ref (ad 0)]) (rest := []) ⟨hx, hb, hml, hown, hts⟩ (c_X2_becomeLike l D cy av ad tS tB nS nB ts tb st bk tg tn gate nu hSM hcS hBM hcB hb7) (cwV 1 hts gX3_foresee_X2_becomeLike rfl rfl rfl (by decide +kernel) ⟨Nat.le_of_ble_eq_true rfl, Nat.le_of_ble_eq_true rfl⟩) hK hP hD hS hA rfl rfl rfl (xE_both) rfl hl.1 rfl (Nat.le_of_ble_eq_true rfl) dX3_foresee_48 ⟨Nat.le_of_ble_eq_true rfl, Nat.le_of_ble_eq_true rfl⟩ (fun a2 H locs ha2 hP hD hS => ?_)
  have hP : va_P D vwCl (xw cy h ad nS nB st bk gate nu (av 0) (tw cy a2 nS nB st bk gate nu)) H := hP
  have hD : va_D A (xw cy h ad nS nB st bk gate nu (av 0) (tw cy a2 nS nB st bk gate nu)) := hD
  refine W.eq (g2 := F0 m 51 ls []) rfl ?_
  have e0 : av 0 = a2 0 := (ha2 0 (by decide)).symm
  rw [e0] at hP hD
  refine lv_aload_n hx hb dX3_foresee_51 rfl (lv_at hl 0 rfl) ?_
  refine va_get (D := D) (ci := 3) (v := .ref (a2 0)) (C := RX3) (T := TX3) (N := 2) hx hb hts hinX3 hown hK.1 hP 0 rfl rfl 1 (by decide) (hts (.fieldLink RX3 16 "LoafMarks" "trial" "LLoafMarks$Town;") (List.mem_of_getElem? (i := 5) rfl)) (fun _ h9 => h9) rfl dX3_foresee_52 ?_
  refine lv_iload_n hx hb dX3_foresee_55 rfl (lv_at hl 1 rfl) ?_
  refine xcV (As := [.int (nI n)]) (rest := []) ⟨hx, hb, hml, hown, hts⟩ (c_X2_goThrough l D cy a2 nS nB (st, bk, nu) gate hq n eh hh hcS hcB hof) (cwV 1 hts gX3_foresee_X2_goThrough rfl rfl rfl (by decide +kernel) ⟨Nat.le_of_ble_eq_true rfl, Nat.le_of_ble_eq_true rfl⟩) hK hP hD hS hA rfl rfl rfl (xE_trial) rfl hl.1 rfl (Nat.le_of_ble_eq_true rfl) dX3_foresee_56 ⟨Nat.le_of_ble_eq_true rfl, Nat.le_of_ble_eq_true rfl⟩ (fun _ H locs _ hP hD hS => ?_)
  have hP : va_P D vwCl (xw cy h ad nS nB st bk gate nu (a2 0) (tw cy a2 nS nB ((hrs nS nB hq gate (st, bk, nu) n).1) ((hrs nS nB hq gate (st, bk, nu) n).2.1) gate ((hrs nS nB hq gate (st, bk, nu) n).2.2))) H := hP
  have hD : va_D A (xw cy h ad nS nB st bk gate nu (a2 0) (tw cy a2 nS nB ((hrs nS nB hq gate (st, bk, nu) n).1) ((hrs nS nB hq gate (st, bk, nu) n).2.1) gate ((hrs nS nB hq gate (st, bk, nu) n).2.2))) := hD
  refine W.eq (g2 := F0 m 59 ls [.int (unf nS nB hq gate (st, bk, nu) n)]) rfl ?_
  refine lv_istore_n (lv' := [(3, .int (unf nS nB hq gate (st, bk, nu) n)), (0, .ref h), (1, .int (nI n)), (2, .int (nI k))]) hx hb dX3_foresee_59 rfl hl (by decide) rfl (fun ls hl => ?_)
  refine lv_iload_n hx hb dX3_foresee_60 rfl (lv_at hl 3 rfl) ?_
  have hcase : k = 0 ∨ k = 1 ∨ k = 2 ∨ k = 3 := by omega
  rcases hcase with rfl | rfl | rfl | rfl
  · refine lv_tableIn (off := 27) (tgt := 88) hx hb dX3_foresee_61 (by decide) (by decide) (by rfl) (by decide) ?_
    refine lv_iload_n hx hb dX3_foresee_88 rfl (lv_at hl 0 rfl) ?_
    exact xri (a2, (hrs nS nB hq gate (st, bk, nu) n)) hx hb hr hlocks hS (Nat.le_of_ble_eq_true rfl) (Nat.le_of_ble_eq_true rfl) dX3_foresee_89 hP hD rfl trivial
  · refine lv_tableIn (off := 29) (tgt := 90) hx hb dX3_foresee_61 (by decide) (by decide) (by rfl) (by decide) ?_
    refine lv_aload_n hx hb dX3_foresee_90 rfl (lv_at hl 1 rfl) ?_
    refine va_get (D := D) (ci := 3) (v := .ref (a2 0)) (C := RX3) (T := TX3) (N := 2) hx hb hts hinX3 hown hK.1 hP 0 rfl rfl 1 (by decide) (hts (.fieldLink RX3 16 "LoafMarks" "trial" "LLoafMarks$Town;") (List.mem_of_getElem? (i := 5) rfl)) (fun _ h9 => h9) rfl dX3_foresee_91 ?_
    refine xcV (As := []) (rest := []) ⟨hx, hb, hml, hown, hts⟩ (c_X2_flourOfAll l D cy a2 nS nB ((hrs nS nB hq gate (st, bk, nu) n).1) ((hrs nS nB hq gate (st, bk, nu) n).2.1) gate ((hrs nS nB hq gate (st, bk, nu) n).2.2) hcS) (cwV 0 hts gX3_foresee_X2_flourOfAll rfl rfl rfl (by decide +kernel) ⟨Nat.le_of_ble_eq_true rfl, Nat.le_of_ble_eq_true rfl⟩) hK hP hD hS hA rfl rfl rfl (xE_trial) rfl hl.1 rfl (Nat.le_of_ble_eq_true rfl) dX3_foresee_94 ⟨Nat.le_of_ble_eq_true rfl, Nat.le_of_ble_eq_true rfl⟩ (fun _ H locs _ hP hD hS => ?_)
    have hP : va_P D vwCl (xw cy h ad nS nB st bk gate nu (a2 0) (tw cy a2 nS nB ((hrs nS nB hq gate (st, bk, nu) n).1) ((hrs nS nB hq gate (st, bk, nu) n).2.1) gate ((hrs nS nB hq gate (st, bk, nu) n).2.2))) H := hP
    have hD : va_D A (xw cy h ad nS nB st bk gate nu (a2 0) (tw cy a2 nS nB ((hrs nS nB hq gate (st, bk, nu) n).1) ((hrs nS nB hq gate (st, bk, nu) n).2.1) gate ((hrs nS nB hq gate (st, bk, nu) n).2.2))) := hD
    refine W.eq (g2 := F0 m 97 ls [.int (sm (fun i => (hrs nS nB hq gate (st, bk, nu) n).1 i 0) nS)]) rfl ?_
    exact xri (a2, (hrs nS nB hq gate (st, bk, nu) n)) hx hb hr hlocks hS (Nat.le_of_ble_eq_true rfl) (Nat.le_of_ble_eq_true rfl) dX3_foresee_97 hP hD rfl trivial
  · refine lv_tableIn (off := 37) (tgt := 98) hx hb dX3_foresee_61 (by decide) (by decide) (by rfl) (by decide) ?_
    refine lv_aload_n hx hb dX3_foresee_98 rfl (lv_at hl 1 rfl) ?_
    refine va_get (D := D) (ci := 3) (v := .ref (a2 0)) (C := RX3) (T := TX3) (N := 2) hx hb hts hinX3 hown hK.1 hP 0 rfl rfl 1 (by decide) (hts (.fieldLink RX3 16 "LoafMarks" "trial" "LLoafMarks$Town;") (List.mem_of_getElem? (i := 5) rfl)) (fun _ h9 => h9) rfl dX3_foresee_99 ?_
    refine xcV (As := []) (rest := []) ⟨hx, hb, hml, hown, hts⟩ (c_X2_loavesOfAll l D cy a2 nS nB ((hrs nS nB hq gate (st, bk, nu) n).1) ((hrs nS nB hq gate (st, bk, nu) n).2.1) gate ((hrs nS nB hq gate (st, bk, nu) n).2.2) hcB) (cwV 0 hts gX3_foresee_X2_loavesOfAll rfl rfl rfl (by decide +kernel) ⟨Nat.le_of_ble_eq_true rfl, Nat.le_of_ble_eq_true rfl⟩) hK hP hD hS hA rfl rfl rfl (xE_trial) rfl hl.1 rfl (Nat.le_of_ble_eq_true rfl) dX3_foresee_102 ⟨Nat.le_of_ble_eq_true rfl, Nat.le_of_ble_eq_true rfl⟩ (fun _ H locs _ hP hD hS => ?_)
    have hP : va_P D vwCl (xw cy h ad nS nB st bk gate nu (a2 0) (tw cy a2 nS nB ((hrs nS nB hq gate (st, bk, nu) n).1) ((hrs nS nB hq gate (st, bk, nu) n).2.1) gate ((hrs nS nB hq gate (st, bk, nu) n).2.2))) H := hP
    have hD : va_D A (xw cy h ad nS nB st bk gate nu (a2 0) (tw cy a2 nS nB ((hrs nS nB hq gate (st, bk, nu) n).1) ((hrs nS nB hq gate (st, bk, nu) n).2.1) gate ((hrs nS nB hq gate (st, bk, nu) n).2.2))) := hD
    refine W.eq (g2 := F0 m 105 ls [.int (sm (fun i => (hrs nS nB hq gate (st, bk, nu) n).2.1 i 5) nB)]) rfl ?_
    exact xri (a2, (hrs nS nB hq gate (st, bk, nu) n)) hx hb hr hlocks hS (Nat.le_of_ble_eq_true rfl) (Nat.le_of_ble_eq_true rfl) dX3_foresee_105 hP hD rfl trivial
  · refine lv_tableOut (tgt := 106) hx hb dX3_foresee_61 (by decide) (by decide) ?_
    refine lv_aload_n hx hb dX3_foresee_106 rfl (lv_at hl 1 rfl) ?_
    refine va_get (D := D) (ci := 3) (v := .ref (a2 0)) (C := RX3) (T := TX3) (N := 2) hx hb hts hinX3 hown hK.1 hP 0 rfl rfl 1 (by decide) (hts (.fieldLink RX3 16 "LoafMarks" "trial" "LLoafMarks$Town;") (List.mem_of_getElem? (i := 5) rfl)) (fun _ h9 => h9) rfl dX3_foresee_107 ?_
    refine xcV (As := []) (rest := []) ⟨hx, hb, hml, hown, hts⟩ (c_X2_weevilsOfAll l D cy a2 nS nB ((hrs nS nB hq gate (st, bk, nu) n).1) ((hrs nS nB hq gate (st, bk, nu) n).2.1) gate ((hrs nS nB hq gate (st, bk, nu) n).2.2) hcS) (cwV 0 hts gX3_foresee_X2_weevilsOfAll rfl rfl rfl (by decide +kernel) ⟨Nat.le_of_ble_eq_true rfl, Nat.le_of_ble_eq_true rfl⟩) hK hP hD hS hA rfl rfl rfl (xE_trial) rfl hl.1 rfl (Nat.le_of_ble_eq_true rfl) dX3_foresee_110 ⟨Nat.le_of_ble_eq_true rfl, Nat.le_of_ble_eq_true rfl⟩ (fun _ H locs _ hP hD hS => ?_)
    have hP : va_P D vwCl (xw cy h ad nS nB st bk gate nu (a2 0) (tw cy a2 nS nB ((hrs nS nB hq gate (st, bk, nu) n).1) ((hrs nS nB hq gate (st, bk, nu) n).2.1) gate ((hrs nS nB hq gate (st, bk, nu) n).2.2))) H := hP
    have hD : va_D A (xw cy h ad nS nB st bk gate nu (a2 0) (tw cy a2 nS nB ((hrs nS nB hq gate (st, bk, nu) n).1) ((hrs nS nB hq gate (st, bk, nu) n).2.1) gate ((hrs nS nB hq gate (st, bk, nu) n).2.2))) := hD
    refine W.eq (g2 := F0 m 113 ls [.int (sm (fun i => (hrs nS nB hq gate (st, bk, nu) n).1 i 1) nS)]) rfl ?_
    exact xri (a2, (hrs nS nB hq gate (st, bk, nu) n)) hx hb hr hlocks hS (Nat.le_of_ble_eq_true rfl) (Nat.le_of_ble_eq_true rfl) dX3_foresee_113 hP hD rfl trivial

set_option maxHeartbeats 4000000 in
set_option maxRecDepth 100000 in
theorem c_X3_foresee_1 (l : Launch) (hst : l.stackTraces = false) (D : va_G) (cy : Nat → ClassId) (sa : Nat → Nat) (h : Nat) (ad : Nat → Nat) (nS nB : Nat) (st bk : Nat → Iu) (gate nu : Iu) (bt : Nat) (wt : va_W) (p0 p1 : Int32) (h1 : ¬ ((1 : Int32) ≤ p0 ∧ p0 ≤ 240)) : xT l D cy sa yX3_foresee wsX3_foresee ({ frames := 6, cells := 10, slots := 60, locals := 180 } : Room) [.ref h, .int p0, .int p1] (xw cy h ad nS nB st bk gate nu bt wt) E_A := by
  refine xT.of cX3_foresee 4 (some .int) RX3 (by decide +kernel) rfl rfl (Nat.le_of_ble_eq_true rfl) ?_
  intro p e s m below meth c A ls hx hb hr hts hown hlocks hml hin hK hA hP hD hS hV hZ htb hl
  have hl : lv_has ls 4 [(0, .ref h), (1, .int p0), (2, .int p1)] := hl
  refine lv_iload_n hx hb dX3_foresee_0 rfl (lv_at hl 1 rfl) ?_
  refine lv_iconst (v := 1) hx hb dX3_foresee_1 (by decide) ?_
  refine lv_sipush (v := 240) hx hb dX3_foresee_2 (by decide) ?_
  refine xcS (As := [.int p0, .int 1, .int 240]) (rest := []) ⟨hx, hb, hml, hown, hts⟩ (c_X3_isWithin l D cy p0 1 240) (va_cwS 3 hts gX3_foresee_X3_isWithin rfl rfl rfl (by decide +kernel) ⟨Nat.le_of_ble_eq_true rfl, Nat.le_of_ble_eq_true rfl⟩) hK hP hD hS hA (xE_nil) rfl hl.1 rfl (Nat.le_of_ble_eq_true rfl) dX3_foresee_5 ⟨Nat.le_of_ble_eq_true rfl, Nat.le_of_ble_eq_true rfl⟩ (fun _ H locs _ hP hD hS => ?_)
  have hP : va_P D vwCl (xw cy h ad nS nB st bk gate nu bt wt) H := hP
  have hD : va_D A (xw cy h ad nS nB st bk gate nu bt wt) := hD
  refine W.eq (g2 := F0 m 8 ls [.int (wi p0 1 240)]) rfl ?_
  refine lv_if_ne (tgt := 21) hx hb dX3_foresee_8 (by decide) (fun z => absurd (wi_no h1) z) (fun _ => ?_)
  exact xthrow (cls := E_A) (text := "hours is not 1 to 240") hx hb hst hown (by decide +kernel) (hts (.classLink RX3 23 "java/lang/IllegalArgumentException") (List.mem_of_getElem? (i := 1) rfl)) (hts (.initialized "java/lang/IllegalArgumentException") (List.mem_of_getElem? (i := 2) rfl)) (List.mem_of_getElem? (i := 17) rfl) hV hZ (fun w h => hts w (List.mem_cons_of_mem _ (List.mem_append_left _ (List.mem_append_right _ h)))) xcovA xotA hS hP (hl.1.trans hml.symm) dX3_foresee_11 dX3_foresee_14 dX3_foresee_15 dX3_foresee_17 dX3_foresee_20 htb hlocks (Nat.le_of_ble_eq_true rfl) (Nat.le_of_ble_eq_true rfl) (Nat.le_of_ble_eq_true rfl) (Nat.le_of_ble_eq_true rfl) (Nat.le_of_ble_eq_true rfl) (Nat.le_of_ble_eq_true rfl)

set_option maxHeartbeats 4000000 in
set_option maxRecDepth 100000 in
theorem c_X3_foresee_2 (l : Launch) (hst : l.stackTraces = false) (D : va_G) (cy : Nat → ClassId) (sa : Nat → Nat) (h : Nat) (ad : Nat → Nat) (nS nB : Nat) (st bk : Nat → Iu) (gate nu : Iu) (bt : Nat) (wt : va_W) (p0 p1 : Int32) (h1 : (1 : Int32) ≤ p0 ∧ p0 ≤ 240) (h2 : ¬ ((0 : Int32) ≤ p1 ∧ p1 ≤ 3)) : xT l D cy sa yX3_foresee wsX3_foresee ({ frames := 6, cells := 10, slots := 60, locals := 180 } : Room) [.ref h, .int p0, .int p1] (xw cy h ad nS nB st bk gate nu bt wt) E_I := by
  refine xT.of cX3_foresee 4 (some .int) RX3 (by decide +kernel) rfl rfl (Nat.le_of_ble_eq_true rfl) ?_
  intro p e s m below meth c A ls hx hb hr hts hown hlocks hml hin hK hA hP hD hS hV hZ htb hl
  have hl : lv_has ls 4 [(0, .ref h), (1, .int p0), (2, .int p1)] := hl
  refine lv_iload_n hx hb dX3_foresee_0 rfl (lv_at hl 1 rfl) ?_
  refine lv_iconst (v := 1) hx hb dX3_foresee_1 (by decide) ?_
  refine lv_sipush (v := 240) hx hb dX3_foresee_2 (by decide) ?_
  refine xcS (As := [.int p0, .int 1, .int 240]) (rest := []) ⟨hx, hb, hml, hown, hts⟩ (c_X3_isWithin l D cy p0 1 240) (va_cwS 3 hts gX3_foresee_X3_isWithin rfl rfl rfl (by decide +kernel) ⟨Nat.le_of_ble_eq_true rfl, Nat.le_of_ble_eq_true rfl⟩) hK hP hD hS hA (xE_nil) rfl hl.1 rfl (Nat.le_of_ble_eq_true rfl) dX3_foresee_5 ⟨Nat.le_of_ble_eq_true rfl, Nat.le_of_ble_eq_true rfl⟩ (fun _ H locs _ hP hD hS => ?_)
  have hP : va_P D vwCl (xw cy h ad nS nB st bk gate nu bt wt) H := hP
  have hD : va_D A (xw cy h ad nS nB st bk gate nu bt wt) := hD
  refine W.eq (g2 := F0 m 8 ls [.int (wi p0 1 240)]) rfl ?_
  refine lv_if_ne (tgt := 21) hx hb dX3_foresee_8 (by decide) (fun _ => ?_) (fun z => absurd z (wi_ok h1))
  refine lv_iload_n hx hb dX3_foresee_21 rfl (lv_at hl 2 rfl) ?_
  refine lv_iconst (v := 0) hx hb dX3_foresee_22 (by decide) ?_
  refine lv_iconst (v := 3) hx hb dX3_foresee_23 (by decide) ?_
  refine xcS (As := [.int p1, .int 0, .int 3]) (rest := []) ⟨hx, hb, hml, hown, hts⟩ (c_X3_isWithin l D cy p1 0 3) (va_cwS 3 hts gX3_foresee_X3_isWithin rfl rfl rfl (by decide +kernel) ⟨Nat.le_of_ble_eq_true rfl, Nat.le_of_ble_eq_true rfl⟩) hK hP hD hS hA (xE_nil) rfl hl.1 rfl (Nat.le_of_ble_eq_true rfl) dX3_foresee_24 ⟨Nat.le_of_ble_eq_true rfl, Nat.le_of_ble_eq_true rfl⟩ (fun _ H locs _ hP hD hS => ?_)
  have hP : va_P D vwCl (xw cy h ad nS nB st bk gate nu bt wt) H := hP
  have hD : va_D A (xw cy h ad nS nB st bk gate nu bt wt) := hD
  refine W.eq (g2 := F0 m 27 ls [.int (wi p1 0 3)]) rfl ?_
  refine lv_if_ne (tgt := 40) hx hb dX3_foresee_27 (by decide) (fun z => absurd (wi_no h2) z) (fun _ => ?_)
  exact xthrow (cls := E_I) (text := "what is not 0 to 3") hx hb hst hown (by decide +kernel) (hts (.classLink RX3 34 "java/lang/IndexOutOfBoundsException") (List.mem_of_getElem? (i := 3) rfl)) (hts (.initialized "java/lang/IndexOutOfBoundsException") (List.mem_of_getElem? (i := 4) rfl)) (List.mem_of_getElem? (i := 14) rfl) hV hZ (fun w h => hts w (List.mem_cons_of_mem _ (List.mem_append_right _ h))) xcovI xotI hS hP (hl.1.trans hml.symm) dX3_foresee_30 dX3_foresee_33 dX3_foresee_34 dX3_foresee_36 dX3_foresee_39 htb hlocks (Nat.le_of_ble_eq_true rfl) (Nat.le_of_ble_eq_true rfl) (Nat.le_of_ble_eq_true rfl) (Nat.le_of_ble_eq_true rfl) (Nat.le_of_ble_eq_true rfl) (Nat.le_of_ble_eq_true rfl)

