/-! ===== LoafMarks: looking ahead, the digest (laid by gen23.py) ===== -/
section XTR
variable {cy : Nat → ClassId} {h : Nat} {ad av : Nat → Nat} {nS nB mS mB : Nat} {st bk ts tb : Nat → Iu} {gate nu tg tn : Iu} {bt : Nat}
theorem xw_tr_bk {j : Nat} (hj : j < mB) : (xw cy h ad nS nB st bk gate nu bt (tw cy av mS mB ts tb tg tn))[(tw cy ad nS nB st bk gate nu).length + (4 + mS + j) + 1]? = some (av (8 + j), cBk (tb j)) := by
  unfold xw
  rw [List.getElem?_cons_succ]
  exact at_r (tw_bk hj)
theorem xw_set_tr {j : Nat} {x : Iu} (hj : j < mB) : (xw cy h ad nS nB st bk gate nu bt (tw cy av mS mB ts tb tg tn)).set ((tw cy ad nS nB st bk gate nu).length + (4 + mS + j) + 1) (av (8 + j), cBk x) = xw cy h ad nS nB st bk gate nu bt (tw cy av mS mB ts (va_up tb j x) tg tn) := by
  unfold xw
  rw [List.set_cons_succ, List.set_append_right _ _ (by omega), Nat.add_sub_cancel_left, tw_set_bk hj]
end XTR
theorem rat_of {nS nB : Nat} {bk : Nat → Iu} {p1 : Int32} (jq : Nat) (hof : ∀ j, j < nB → ∃ i, i < nS ∧ bk j 0 = nI i) : ∀ j, j < nB → ∃ i, i < nS ∧ (va_up bk jq (upd (bk jq) 2 p1)) j 0 = nI i := by
  intro j hj
  obtain ⟨i, hi, e⟩ := hof j hj
  refine ⟨i, hi, ?_⟩
  unfold va_up
  split
  · rename_i e2; subst e2; rw [upd_ne (by decide)]; exact e
  · exact e
/-- what foresee tells behind some hours -/
def fsF (nS nB : Nat) (x : Int32) (v : TS) (w : Nat) : Int32 := if w = 0 then x else if w = 1 then sm (fun i => v.1 i 0) nS else if w = 2 then sm (fun j => v.2.1 j 5) nB else sm (fun i => v.1 i 1) nS
theorem nI_10 (a : Nat) : nI a + 10 = nI (a + 10) := nI_add a 10
set_option maxHeartbeats 4000000 in
set_option maxRecDepth 100000 in
/-- lasts -/
theorem c_X3_lasts (l : Launch) (D : va_G) (cy : Nat → ClassId) (h : Nat) (ad av : Nat → Nat) (nS nB tS tB : Nat) (st bk ts tb : Nat → Iu) (gate nu tg tn : Iu) (hSM : tS ≤ nS) (hBM : tB ≤ nB) (hcS : nS ≤ 4) (hcB : nB ≤ 6) (hb7 : ∀ j, j < nB → bk j 7 = 0 ∨ bk j 7 = 1) (hq : Nat) (eh : nu 0 = nI hq) (hh : hq + 480 < 2 ^ 31) (hof : ∀ j, j < nB → ∃ i, i < nS ∧ bk j 0 = nI i) : xM l D cy yX3_lasts wsX3_lasts ({ frames := 6, cells := 10, slots := 60, locals := 180 } : Room) [.ref h] (xw cy h ad nS nB st bk gate nu (av 0) (tw cy av tS tB ts tb tg tn)) (fun _ : (Nat → Nat) × TS => some (.int (lastN nS nB hq gate (st, bk, nu) 480 0))) (fun _ => True) (fun q => xw cy h ad nS nB st bk gate nu (q.1 0) (tw cy q.1 nS nB q.2.1 q.2.2.1 gate q.2.2.2)) := by
  refine xM.of cX3_lasts 2 (some .int) RX3 (by decide +kernel) rfl rfl (Nat.le_of_ble_eq_true rfl) ?_
  intro p e s m below meth c A ls hx hb hr hts hown hlocks hml hin hK hA hP hD hS hl
  have hl : lv_has ls 2 [(0, .ref h)] := hl
  have hinX3 : ∀ w ∈ wsX30, w ∈ wsX3_lasts := fun _ h => List.mem_cons_of_mem _ (List.mem_append_left _ (List.mem_append_left _ (List.mem_append_left _ (List.mem_append_right _ h))))
  refine lv_aload_n hx hb dX3_lasts_0 rfl (lv_at hl 0 rfl) ?_
  refine va_get (D := D) (ci := 3) (v := .ref (av 0)) (C := RX3) (T := TX3) (N := 2) hx hb hts hinX3 hown hK.1 hP 0 rfl rfl 1 (by decide) (hts (.fieldLink RX3 16 "LoafMarks" "trial" "LLoafMarks$Town;") (List.mem_of_getElem? (i := 1) rfl)) (fun _ h9 => h9) rfl dX3_lasts_1 ?_
  refine lv_aload_n hx hb dX3_lasts_4 rfl (lv_at hl 0 rfl) ?_
  refine va_get (D := D) (ci := 3) (v := .ref (ad 0)) (C := RX3) (T := TX3) (N := 2) hx hb hts hinX3 hown hK.1 hP 0 rfl rfl 0 (by decide) (hts (.fieldLink RX3 10 "LoafMarks" "town" "LLoafMarks$Town;") (List.mem_of_getElem? (i := 2) rfl)) (fun _ h9 => h9) rfl dX3_lasts_5 ?_
  refine xcV (As := [.ref (ad 0)]) (rest := []) ⟨hx, hb, hml, hown, hts⟩ (c_X2_becomeLike l D cy av ad tS tB nS nB ts tb st bk tg tn gate nu hSM hcS hBM hcB hb7) (cwV 1 hts gX3_lasts_X2_becomeLike rfl rfl rfl (by decide +kernel) ⟨Nat.le_of_ble_eq_true rfl, Nat.le_of_ble_eq_true rfl⟩) hK hP hD hS hA rfl rfl rfl (xE_both) rfl hl.1 rfl (Nat.le_of_ble_eq_true rfl) dX3_lasts_8 ⟨Nat.le_of_ble_eq_true rfl, Nat.le_of_ble_eq_true rfl⟩ (fun a2 H locs ha2 hP hD hS => ?_)
  have hP : va_P D vwCl (xw cy h ad nS nB st bk gate nu (av 0) (tw cy a2 nS nB st bk gate nu)) H := hP
  have hD : va_D A (xw cy h ad nS nB st bk gate nu (av 0) (tw cy a2 nS nB st bk gate nu)) := hD
  refine W.eq (g2 := F0 m 11 ls []) rfl ?_
  have e0 : av 0 = a2 0 := (ha2 0 (by decide)).symm
  rw [e0] at hP hD
  refine lv_iconst (v := 1) hx hb dX3_lasts_11 (by decide) ?_
  refine lv_istore_n (lv' := [(1, .int 1), (0, .ref h)]) hx hb dX3_lasts_12 rfl hl (by decide) rfl (fun ls hl => ?_)
  have loop : ∀ (n i : Nat)  (H : Heap) (locs : List Loc) (ls : Array Slot), i + n = 480 → (lastN nS nB hq gate (st, bk, nu) 480 0 = lastN nS nB hq gate (st, bk, nu) n i) → va_P D vwCl (xw cy h ad nS nB st bk gate nu (a2 0) (tw cy a2 nS nB ((hrs nS nB hq gate (st, bk, nu) i).1) ((hrs nS nB hq gate (st, bk, nu) i).2.1) gate ((hrs nS nB hq gate (st, bk, nu) i).2.2))) H → va_D A (xw cy h ad nS nB st bk gate nu (a2 0) (tw cy a2 nS nB ((hrs nS nB hq gate (st, bk, nu) i).1) ((hrs nS nB hq gate (st, bk, nu) i).2.1) gate ((hrs nS nB hq gate (st, bk, nu) i).2.2))) → va_S A s.heap H locs → lv_has ls 2 [(0, .ref h), (1, .int (nI (i + 1)))] → W p l e ({ frames := 6, cells := 10, slots := 60, locals := 180 } : Room) s m ([.ref h] : List Value).toArray below meth c H locs 10 60 (MQ below (xQ D A (fun _ : (Nat → Nat) × TS => some (.int (lastN nS nB hq gate (st, bk, nu) 480 0))) (fun _ => True) (fun q => xw cy h ad nS nB st bk gate nu (q.1 0) (tw cy q.1 nS nB q.2.1 q.2.2.1 gate q.2.2.2))) ([.ref h] : List Value).toArray s 10 60 A) (F0 m 13 ls []) := by
    intro n
    induction n with
    | zero =>
      intro i  H locs ls hns hinv hP hD hS hl
      have hii : i = 480 := by omega
      refine lv_iload_n hx hb dX3_lasts_13 rfl (lv_at hl 1 rfl) ?_
      refine lv_sipush (v := 480) hx hb dX3_lasts_14 (by decide) ?_
      refine lv_icmp_gt (tgt := 38) hx hb dX3_lasts_17 (by decide) (fun _ => ?_) (fun h => absurd (by rw [hii]; decide) h)
      refine lv_iconst (v := (-1)) hx hb dX3_lasts_38 (by decide) ?_
      exact xri (a2, (hrs nS nB hq gate (st, bk, nu) i)) hx hb hr hlocks hS (Nat.le_of_ble_eq_true rfl) (Nat.le_of_ble_eq_true rfl) dX3_lasts_39 hP hD (by show some (Value.int (lastN nS nB hq gate (st, bk, nu) 480 0)) = _; rw [hinv]; rfl) trivial
    | succ n ih =>
      intro i  H locs ls hns hinv hP hD hS hl
      have hlt : i < 480 := by omega
      refine lv_iload_n hx hb dX3_lasts_13 rfl (lv_at hl 1 rfl) ?_
      refine lv_sipush (v := 480) hx hb dX3_lasts_14 (by decide) ?_
      refine lv_icmp_gt (tgt := 38) hx hb dX3_lasts_17 (by decide) (fun h => absurd h (fun z => absurd z (nI_nlt (b := i + 1) (a := 480) (by omega) (by decide)))) (fun _ => ?_)
      refine lv_aload_n hx hb dX3_lasts_20 rfl (lv_at hl 0 rfl) ?_
      refine va_get (D := D) (ci := 3) (v := .ref (a2 0)) (C := RX3) (T := TX3) (N := 2) hx hb hts hinX3 hown hK.1 hP 0 rfl rfl 1 (by decide) (hts (.fieldLink RX3 16 "LoafMarks" "trial" "LLoafMarks$Town;") (List.mem_of_getElem? (i := 1) rfl)) (fun _ h9 => h9) rfl dX3_lasts_21 ?_
      refine xcV (As := []) (rest := []) ⟨hx, hb, hml, hown, hts⟩ (c_X2_goThroughHour l D cy a2 nS nB (hrs nS nB hq gate (st, bk, nu) i) gate (hq + i) ((hq + i) % 24) (hrs_hour nS nB hq gate (st, bk, nu) eh i) (by omega) rfl hcS hcB (fun j hj => by rw [hrs_of]; exact hof j hj)) (cwV 0 hts gX3_lasts_X2_goThroughHour rfl rfl rfl (by decide +kernel) ⟨Nat.le_of_ble_eq_true rfl, Nat.le_of_ble_eq_true rfl⟩) hK hP hD hS hA rfl rfl rfl (xE_trial) rfl hl.1 rfl (Nat.le_of_ble_eq_true rfl) dX3_lasts_24 ⟨Nat.le_of_ble_eq_true rfl, Nat.le_of_ble_eq_true rfl⟩ (fun _ H locs _ hP hD hS => ?_)
      have hP : va_P D vwCl (xw cy h ad nS nB st bk gate nu (a2 0) (tw cy a2 nS nB ((hrs nS nB hq gate (st, bk, nu) (i + 1)).1) ((hrs nS nB hq gate (st, bk, nu) (i + 1)).2.1) gate ((hrs nS nB hq gate (st, bk, nu) (i + 1)).2.2))) H := hP
      have hD : va_D A (xw cy h ad nS nB st bk gate nu (a2 0) (tw cy a2 nS nB ((hrs nS nB hq gate (st, bk, nu) (i + 1)).1) ((hrs nS nB hq gate (st, bk, nu) (i + 1)).2.1) gate ((hrs nS nB hq gate (st, bk, nu) (i + 1)).2.2))) := hD
      refine W.eq (g2 := F0 m 27 ls [.int (hUnfed nS nB ((hq + i) % 24) gate (hrs nS nB hq gate (st, bk, nu) i))]) rfl ?_
      refine lv_if_le (tgt := 32) hx hb dX3_lasts_27 (by decide) (fun c27 => ?_) (fun c27 => ?_)
      · have hnext : lastN nS nB hq gate (st, bk, nu) 480 0 = lastN nS nB hq gate (st, bk, nu) n (i + 1) := hinv.trans (if_neg (Int32.not_lt.mpr c27))
        refine lv_iinc (v := (nI (i + 1 + 1))) (lv' := [(1, .int (nI (i + 1 + 1))), (0, .ref h)]) hx hb dX3_lasts_32 hl (k := 1) rfl ((nI_1 (i + 1))) (by decide) rfl (fun ls hl => ?_)
        refine lv_goto (tgt := 13) hx hb dX3_lasts_35 (by decide) ?_
        exact ih (i + 1)  _ _ _ (by omega) hnext hP hD hS (lv_sub hl [1, 0] rfl)
      · refine lv_iload_n hx hb dX3_lasts_30 rfl (lv_at hl 1 rfl) ?_
        exact xri (a2, (hrs nS nB hq gate (st, bk, nu) (i + 1))) hx hb hr hlocks hS (Nat.le_of_ble_eq_true rfl) (Nat.le_of_ble_eq_true rfl) dX3_lasts_31 hP hD (by show some (Value.int (lastN nS nB hq gate (st, bk, nu) 480 0)) = _; rw [hinv]; exact congrArg (fun z => some (Value.int z)) (if_pos (Int32.not_le.mp c27))) trivial
  exact loop 480 0  _ _ _ (by omega) rfl hP hD hS (lv_sub hl [1, 0] rfl)

set_option maxHeartbeats 4000000 in
set_option maxRecDepth 100000 in
/-- foresee -/
theorem c_X3_foresee (l : Launch) (D : va_G) (cy : Nat → ClassId) (h : Nat) (ad av : Nat → Nat) (nS nB tS tB : Nat) (st bk ts tb : Nat → Iu) (gate nu tg tn : Iu) (hSM : tS ≤ nS) (hBM : tB ≤ nB) (hcS : nS ≤ 4) (hcB : nB ≤ 6) (hb7 : ∀ j, j < nB → bk j 7 = 0 ∨ bk j 7 = 1) (hq n k : Nat) (eh : nu 0 = nI hq) (hn1 : 1 ≤ n) (hn2 : n ≤ 240) (hh : hq + n < 2 ^ 31) (hk : k < 4) (hof : ∀ j, j < nB → ∃ i, i < nS ∧ bk j 0 = nI i) : xM l D cy yX3_foresee wsX3_foresee ({ frames := 6, cells := 10, slots := 60, locals := 180 } : Room) [.ref h, .int (nI n), .int (nI k)] (xw cy h ad nS nB st bk gate nu (av 0) (tw cy av tS tB ts tb tg tn)) (fun _ : (Nat → Nat) × TS => some (.int (fsF nS nB (unf nS nB hq gate (st, bk, nu) n) (hrs nS nB hq gate (st, bk, nu) n) k))) (fun _ => True) (fun q => xw cy h ad nS nB st bk gate nu (q.1 0) (tw cy q.1 nS nB q.2.1 q.2.2.1 gate q.2.2.2)) := by
  refine xM.of cX3_foresee 4 (some .int) RX3 (by decide +kernel) rfl rfl (Nat.le_of_ble_eq_true rfl) ?_
  intro p e s m below meth c A ls hx hb hr hts hown hlocks hml hin hK hA hP hD hS hl
  have hl : lv_has ls 4 [(0, .ref h), (1, .int (nI n)), (2, .int (nI k))] := hl
  have hinX3 : ∀ w ∈ wsX30, w ∈ wsX3_foresee := fun _ h => List.mem_cons_of_mem _ (List.mem_append_left _ (List.mem_append_left _ (List.mem_append_left _ (List.mem_append_left _ (List.mem_append_left _ (List.mem_append_right _ h))))))
  refine lv_iload_n hx hb dX3_foresee_0 rfl (lv_at hl 1 rfl) ?_
  refine lv_iconst (v := 1) hx hb dX3_foresee_1 (by decide) ?_
  refine lv_sipush (v := 240) hx hb dX3_foresee_2 (by decide) ?_
  refine xcS (As := [.int (nI n), .int 1, .int 240]) (rest := []) ⟨hx, hb, hml, hown, hts⟩ (c_X3_isWithin l D cy (nI n) 1 240) (va_cwS 3 hts gX3_foresee_X3_isWithin rfl rfl rfl (by decide +kernel) ⟨Nat.le_of_ble_eq_true rfl, Nat.le_of_ble_eq_true rfl⟩) hK hP hD hS hA (xE_nil) rfl hl.1 rfl (Nat.le_of_ble_eq_true rfl) dX3_foresee_5 ⟨Nat.le_of_ble_eq_true rfl, Nat.le_of_ble_eq_true rfl⟩ (fun _ H locs _ hP hD hS => ?_)
  have hP : va_P D vwCl (xw cy h ad nS nB st bk gate nu (av 0) (tw cy av tS tB ts tb tg tn)) H := hP
  have hD : va_D A (xw cy h ad nS nB st bk gate nu (av 0) (tw cy av tS tB ts tb tg tn)) := hD
  refine W.eq (g2 := F0 m 8 ls [.int (wi (nI n) 1 240)]) rfl ?_
  refine lv_if_ne (tgt := 21) hx hb dX3_foresee_8 (by decide) (fun _ => ?_) (fun z => absurd z (wi_ok ⟨nI_le (a := 1) (b := n) (by omega) (by omega), nI_le (a := n) (b := 240) (by omega) (by decide)⟩))
  refine lv_iload_n hx hb dX3_foresee_21 rfl (lv_at hl 2 rfl) ?_
  refine lv_iconst (v := 0) hx hb dX3_foresee_22 (by decide) ?_
  refine lv_iconst (v := 3) hx hb dX3_foresee_23 (by decide) ?_
  refine xcS (As := [.int (nI k), .int 0, .int 3]) (rest := []) ⟨hx, hb, hml, hown, hts⟩ (c_X3_isWithin l D cy (nI k) 0 3) (va_cwS 3 hts gX3_foresee_X3_isWithin rfl rfl rfl (by decide +kernel) ⟨Nat.le_of_ble_eq_true rfl, Nat.le_of_ble_eq_true rfl⟩) hK hP hD hS hA (xE_nil) rfl hl.1 rfl (Nat.le_of_ble_eq_true rfl) dX3_foresee_24 ⟨Nat.le_of_ble_eq_true rfl, Nat.le_of_ble_eq_true rfl⟩ (fun _ H locs _ hP hD hS => ?_)
  have hP : va_P D vwCl (xw cy h ad nS nB st bk gate nu (av 0) (tw cy av tS tB ts tb tg tn)) H := hP
  have hD : va_D A (xw cy h ad nS nB st bk gate nu (av 0) (tw cy av tS tB ts tb tg tn)) := hD
  refine W.eq (g2 := F0 m 27 ls [.int (wi (nI k) 0 3)]) rfl ?_
  refine lv_if_ne (tgt := 40) hx hb dX3_foresee_27 (by decide) (fun _ => ?_) (fun z => absurd z (wi_ok ⟨nI_pos' (n := k) (by omega), nI_le (a := k) (b := 3) (by omega) (by decide)⟩))
  refine lv_aload_n hx hb dX3_foresee_40 rfl (lv_at hl 0 rfl) ?_
  refine va_get (D := D) (ci := 3) (v := .ref (av 0)) (C := RX3) (T := TX3) (N := 2) hx hb hts hinX3 hown hK.1 hP 0 rfl rfl 1 (by decide) (hts (.fieldLink RX3 16 "LoafMarks" "trial" "LLoafMarks$Town;") (List.mem_of_getElem? (i := 5) rfl)) (fun _ h9 => h9) rfl dX3_foresee_41 ?_
  refine lv_aload_n hx hb dX3_foresee_44 rfl (lv_at hl 0 rfl) ?_
  refine va_get (D := D) (ci := 3) (v := .ref (ad 0)) (C := RX3) (T := TX3) (N := 2) hx hb hts hinX3 hown hK.1 hP 0 rfl rfl 0 (by decide) (hts (.fieldLink RX3 10 "LoafMarks" "town" "LLoafMarks$Town;") (List.mem_of_getElem? (i := 6) rfl)) (fun _ h9 => h9) rfl dX3_foresee_45 ?_
  refine xcV (As := [.ref (ad 0)]) (rest := []) ⟨hx, hb, hml, hown, hts⟩ (c_X2_becomeLike l D cy av ad tS tB nS nB ts tb st bk tg tn gate nu hSM hcS hBM hcB hb7) (cwV 1 hts gX3_foresee_X2_becomeLike rfl rfl rfl (by decide +kernel) ⟨Nat.le_of_ble_eq_true rfl, Nat.le_of_ble_eq_true rfl⟩) hK hP hD hS hA rfl rfl rfl (xE_both) rfl hl.1 rfl (Nat.le_of_ble_eq_true rfl) dX3_foresee_48 ⟨Nat.le_of_ble_eq_true rfl, Nat.le_of_ble_eq_true rfl⟩ (fun a2 H locs ha2 hP hD hS => ?_)
  have hP : va_P D vwCl (xw cy h ad nS nB st bk gate nu (av 0) (tw cy a2 nS nB st bk gate nu)) H := hP
  have hD : va_D A (xw cy h ad nS nB st bk gate nu (av 0) (tw cy a2 nS nB st bk gate nu)) := hD
  refine W.eq (g2 := F0 m 51 ls []) rfl ?_
  have e0 : av 0 = a2 0 := (ha2 0 (by decide)).symm
  rw [e0] at hP hD
  refine lv_aload_n hx hb dX3_foresee_51 rfl (lv_at hl 0 rfl) ?_
  refine va_get (D := D) (ci := 3) (v := .ref (a2 0)) (C := RX3) (T := TX3) (N := 2) hx hb hts hinX3 hown hK.1 hP 0 rfl rfl 1 (by decide) (hts (.fieldLink RX3 16 "LoafMarks" "trial" "LLoafMarks$Town;") (List.mem_of_getElem? (i := 5) rfl)) (fun _ h9 => h9) rfl dX3_foresee_52 ?_
  refine lv_iload_n hx hb dX3_foresee_55 rfl (lv_at hl 1 rfl) ?_
  refine xcV (As := [.int (nI n)]) (rest := []) ⟨hx, hb, hml, hown, hts⟩ (c_X2_goThrough l D cy a2 nS nB (st, bk, nu) gate hq n eh hh hcS hcB hof) (cwV 1 hts gX3_foresee_X2_goThrough rfl rfl rfl (by decide +kernel) ⟨Nat.le_of_ble_eq_true rfl, Nat.le_of_ble_eq_true rfl⟩) hK hP hD hS hA rfl rfl rfl (xE_trial) rfl hl.1 rfl (Nat.le_of_ble_eq_true rfl) dX3_foresee_56 ⟨Nat.le_of_ble_eq_true rfl, Nat.le_of_ble_eq_true rfl⟩ (fun _ H locs _ hP hD hS => ?_)
  have hP : va_P D vwCl (xw cy h ad nS nB st bk gate nu (a2 0) (tw cy a2 nS nB ((hrs nS nB hq gate (st, bk, nu) n).1) ((hrs nS nB hq gate (st, bk, nu) n).2.1) gate ((hrs nS nB hq gate (st, bk, nu) n).2.2))) H := hP
  have hD : va_D A (xw cy h ad nS nB st bk gate nu (a2 0) (tw cy a2 nS nB ((hrs nS nB hq gate (st, bk, nu) n).1) ((hrs nS nB hq gate (st, bk, nu) n).2.1) gate ((hrs nS nB hq gate (st, bk, nu) n).2.2))) := hD
  refine W.eq (g2 := F0 m 59 ls [.int (unf nS nB hq gate (st, bk, nu) n)]) rfl ?_
  refine lv_istore_n (lv' := [(3, .int (unf nS nB hq gate (st, bk, nu) n)), (0, .ref h), (1, .int (nI n)), (2, .int (nI k))]) hx hb dX3_foresee_59 rfl hl (by decide) rfl (fun ls hl => ?_)
  refine lv_iload_n hx hb dX3_foresee_60 rfl (lv_at hl 3 rfl) ?_
  have hcase : k = 0 ∨ k = 1 ∨ k = 2 ∨ k = 3 := by omega
  rcases hcase with rfl | rfl | rfl | rfl
  · refine lv_tableIn (off := 27) (tgt := 88) hx hb dX3_foresee_61 (by decide) (by decide) (by rfl) (by decide) ?_
    refine lv_iload_n hx hb dX3_foresee_88 rfl (lv_at hl 0 rfl) ?_
    exact xri (a2, (hrs nS nB hq gate (st, bk, nu) n)) hx hb hr hlocks hS (Nat.le_of_ble_eq_true rfl) (Nat.le_of_ble_eq_true rfl) dX3_foresee_89 hP hD rfl trivial
  · refine lv_tableIn (off := 29) (tgt := 90) hx hb dX3_foresee_61 (by decide) (by decide) (by rfl) (by decide) ?_
    refine lv_aload_n hx hb dX3_foresee_90 rfl (lv_at hl 1 rfl) ?_
    refine va_get (D := D) (ci := 3) (v := .ref (a2 0)) (C := RX3) (T := TX3) (N := 2) hx hb hts hinX3 hown hK.1 hP 0 rfl rfl 1 (by decide) (hts (.fieldLink RX3 16 "LoafMarks" "trial" "LLoafMarks$Town;") (List.mem_of_getElem? (i := 5) rfl)) (fun _ h9 => h9) rfl dX3_foresee_91 ?_
    refine xcV (As := []) (rest := []) ⟨hx, hb, hml, hown, hts⟩ (c_X2_flourOfAll l D cy a2 nS nB ((hrs nS nB hq gate (st, bk, nu) n).1) ((hrs nS nB hq gate (st, bk, nu) n).2.1) gate ((hrs nS nB hq gate (st, bk, nu) n).2.2) hcS) (cwV 0 hts gX3_foresee_X2_flourOfAll rfl rfl rfl (by decide +kernel) ⟨Nat.le_of_ble_eq_true rfl, Nat.le_of_ble_eq_true rfl⟩) hK hP hD hS hA rfl rfl rfl (xE_trial) rfl hl.1 rfl (Nat.le_of_ble_eq_true rfl) dX3_foresee_94 ⟨Nat.le_of_ble_eq_true rfl, Nat.le_of_ble_eq_true rfl⟩ (fun _ H locs _ hP hD hS => ?_)
    have hP : va_P D vwCl (xw cy h ad nS nB st bk gate nu (a2 0) (tw cy a2 nS nB ((hrs nS nB hq gate (st, bk, nu) n).1) ((hrs nS nB hq gate (st, bk, nu) n).2.1) gate ((hrs nS nB hq gate (st, bk, nu) n).2.2))) H := hP
    have hD : va_D A (xw cy h ad nS nB st bk gate nu (a2 0) (tw cy a2 nS nB ((hrs nS nB hq gate (st, bk, nu) n).1) ((hrs nS nB hq gate (st, bk, nu) n).2.1) gate ((hrs nS nB hq gate (st, bk, nu) n).2.2))) := hD
    refine W.eq (g2 := F0 m 97 ls [.int (sm (fun i => (hrs nS nB hq gate (st, bk, nu) n).1 i 0) nS)]) rfl ?_
    exact xri (a2, (hrs nS nB hq gate (st, bk, nu) n)) hx hb hr hlocks hS (Nat.le_of_ble_eq_true rfl) (Nat.le_of_ble_eq_true rfl) dX3_foresee_97 hP hD rfl trivial
  · refine lv_tableIn (off := 37) (tgt := 98) hx hb dX3_foresee_61 (by decide) (by decide) (by rfl) (by decide) ?_
    refine lv_aload_n hx hb dX3_foresee_98 rfl (lv_at hl 1 rfl) ?_
    refine va_get (D := D) (ci := 3) (v := .ref (a2 0)) (C := RX3) (T := TX3) (N := 2) hx hb hts hinX3 hown hK.1 hP 0 rfl rfl 1 (by decide) (hts (.fieldLink RX3 16 "LoafMarks" "trial" "LLoafMarks$Town;") (List.mem_of_getElem? (i := 5) rfl)) (fun _ h9 => h9) rfl dX3_foresee_99 ?_
    refine xcV (As := []) (rest := []) ⟨hx, hb, hml, hown, hts⟩ (c_X2_loavesOfAll l D cy a2 nS nB ((hrs nS nB hq gate (st, bk, nu) n).1) ((hrs nS nB hq gate (st, bk, nu) n).2.1) gate ((hrs nS nB hq gate (st, bk, nu) n).2.2) hcB) (cwV 0 hts gX3_foresee_X2_loavesOfAll rfl rfl rfl (by decide +kernel) ⟨Nat.le_of_ble_eq_true rfl, Nat.le_of_ble_eq_true rfl⟩) hK hP hD hS hA rfl rfl rfl (xE_trial) rfl hl.1 rfl (Nat.le_of_ble_eq_true rfl) dX3_foresee_102 ⟨Nat.le_of_ble_eq_true rfl, Nat.le_of_ble_eq_true rfl⟩ (fun _ H locs _ hP hD hS => ?_)
    have hP : va_P D vwCl (xw cy h ad nS nB st bk gate nu (a2 0) (tw cy a2 nS nB ((hrs nS nB hq gate (st, bk, nu) n).1) ((hrs nS nB hq gate (st, bk, nu) n).2.1) gate ((hrs nS nB hq gate (st, bk, nu) n).2.2))) H := hP
    have hD : va_D A (xw cy h ad nS nB st bk gate nu (a2 0) (tw cy a2 nS nB ((hrs nS nB hq gate (st, bk, nu) n).1) ((hrs nS nB hq gate (st, bk, nu) n).2.1) gate ((hrs nS nB hq gate (st, bk, nu) n).2.2))) := hD
    refine W.eq (g2 := F0 m 105 ls [.int (sm (fun i => (hrs nS nB hq gate (st, bk, nu) n).2.1 i 5) nB)]) rfl ?_
    exact xri (a2, (hrs nS nB hq gate (st, bk, nu) n)) hx hb hr hlocks hS (Nat.le_of_ble_eq_true rfl) (Nat.le_of_ble_eq_true rfl) dX3_foresee_105 hP hD rfl trivial
  · refine lv_tableOut (tgt := 106) hx hb dX3_foresee_61 (by decide) (by decide) ?_
    refine lv_aload_n hx hb dX3_foresee_106 rfl (lv_at hl 1 rfl) ?_
    refine va_get (D := D) (ci := 3) (v := .ref (a2 0)) (C := RX3) (T := TX3) (N := 2) hx hb hts hinX3 hown hK.1 hP 0 rfl rfl 1 (by decide) (hts (.fieldLink RX3 16 "LoafMarks" "trial" "LLoafMarks$Town;") (List.mem_of_getElem? (i := 5) rfl)) (fun _ h9 => h9) rfl dX3_foresee_107 ?_
    refine xcV (As := []) (rest := []) ⟨hx, hb, hml, hown, hts⟩ (c_X2_weevilsOfAll l D cy a2 nS nB ((hrs nS nB hq gate (st, bk, nu) n).1) ((hrs nS nB hq gate (st, bk, nu) n).2.1) gate ((hrs nS nB hq gate (st, bk, nu) n).2.2) hcS) (cwV 0 hts gX3_foresee_X2_weevilsOfAll rfl rfl rfl (by decide +kernel) ⟨Nat.le_of_ble_eq_true rfl, Nat.le_of_ble_eq_true rfl⟩) hK hP hD hS hA rfl rfl rfl (xE_trial) rfl hl.1 rfl (Nat.le_of_ble_eq_true rfl) dX3_foresee_110 ⟨Nat.le_of_ble_eq_true rfl, Nat.le_of_ble_eq_true rfl⟩ (fun _ H locs _ hP hD hS => ?_)
    have hP : va_P D vwCl (xw cy h ad nS nB st bk gate nu (a2 0) (tw cy a2 nS nB ((hrs nS nB hq gate (st, bk, nu) n).1) ((hrs nS nB hq gate (st, bk, nu) n).2.1) gate ((hrs nS nB hq gate (st, bk, nu) n).2.2))) H := hP
    have hD : va_D A (xw cy h ad nS nB st bk gate nu (a2 0) (tw cy a2 nS nB ((hrs nS nB hq gate (st, bk, nu) n).1) ((hrs nS nB hq gate (st, bk, nu) n).2.1) gate ((hrs nS nB hq gate (st, bk, nu) n).2.2))) := hD
    refine W.eq (g2 := F0 m 113 ls [.int (sm (fun i => (hrs nS nB hq gate (st, bk, nu) n).1 i 1) nS)]) rfl ?_
    exact xri (a2, (hrs nS nB hq gate (st, bk, nu) n)) hx hb hr hlocks hS (Nat.le_of_ble_eq_true rfl) (Nat.le_of_ble_eq_true rfl) dX3_foresee_113 hP hD rfl trivial

set_option maxHeartbeats 4000000 in
set_option maxRecDepth 100000 in
theorem c_X3_foresee_1 (l : Launch) (hst : l.stackTraces = false) (D : va_G) (cy : Nat → ClassId) (sa : Nat → Nat) (h : Nat) (ad : Nat → Nat) (nS nB : Nat) (st bk : Nat → Iu) (gate nu : Iu) (bt : Nat) (wt : va_W) (p0 p1 : Int32) (h1 : ¬ ((1 : Int32) ≤ p0 ∧ p0 ≤ 240)) : xT l D cy sa yX3_foresee wsX3_foresee ({ frames := 6, cells := 10, slots := 60, locals := 180 } : Room) [.ref h, .int p0, .int p1] (xw cy h ad nS nB st bk gate nu bt wt) E_A := by
  refine xT.of cX3_foresee 4 (some .int) RX3 (by decide +kernel) rfl rfl (Nat.le_of_ble_eq_true rfl) ?_
  intro p e s m below meth c A ls hx hb hr hts hown hlocks hml hin hK hA hP hD hS hV hZ htb hl
  have hl : lv_has ls 4 [(0, .ref h), (1, .int p0), (2, .int p1)] := hl
  refine lv_iload_n hx hb dX3_foresee_0 rfl (lv_at hl 1 rfl) ?_
  refine lv_iconst (v := 1) hx hb dX3_foresee_1 (by decide) ?_
  refine lv_sipush (v := 240) hx hb dX3_foresee_2 (by decide) ?_
  refine xcS (As := [.int p0, .int 1, .int 240]) (rest := []) ⟨hx, hb, hml, hown, hts⟩ (c_X3_isWithin l D cy p0 1 240) (va_cwS 3 hts gX3_foresee_X3_isWithin rfl rfl rfl (by decide +kernel) ⟨Nat.le_of_ble_eq_true rfl, Nat.le_of_ble_eq_true rfl⟩) hK hP hD hS hA (xE_nil) rfl hl.1 rfl (Nat.le_of_ble_eq_true rfl) dX3_foresee_5 ⟨Nat.le_of_ble_eq_true rfl, Nat.le_of_ble_eq_true rfl⟩ (fun _ H locs _ hP hD hS => ?_)
  have hP : va_P D vwCl (xw cy h ad nS nB st bk gate nu bt wt) H := hP
  have hD : va_D A (xw cy h ad nS nB st bk gate nu bt wt) := hD
  refine W.eq (g2 := F0 m 8 ls [.int (wi p0 1 240)]) rfl ?_
  refine lv_if_ne (tgt := 21) hx hb dX3_foresee_8 (by decide) (fun z => absurd (wi_no h1) z) (fun _ => ?_)
  exact xthrow (cls := E_A) (text := "hours is not 1 to 240") hx hb hst hown (by decide +kernel) (hts (.classLink RX3 23 "java/lang/IllegalArgumentException") (List.mem_of_getElem? (i := 1) rfl)) (hts (.initialized "java/lang/IllegalArgumentException") (List.mem_of_getElem? (i := 2) rfl)) (List.mem_of_getElem? (i := 17) rfl) hV hZ (fun w h => hts w (List.mem_cons_of_mem _ (List.mem_append_left _ (List.mem_append_right _ h)))) xcovA xotA hS hP (hl.1.trans hml.symm) dX3_foresee_11 dX3_foresee_14 dX3_foresee_15 dX3_foresee_17 dX3_foresee_20 htb hlocks (Nat.le_of_ble_eq_true rfl) (Nat.le_of_ble_eq_true rfl) (Nat.le_of_ble_eq_true rfl) (Nat.le_of_ble_eq_true rfl) (Nat.le_of_ble_eq_true rfl) (Nat.le_of_ble_eq_true rfl)

set_option maxHeartbeats 4000000 in
set_option maxRecDepth 100000 in
theorem c_X3_foresee_2 (l : Launch) (hst : l.stackTraces = false) (D : va_G) (cy : Nat → ClassId) (sa : Nat → Nat) (h : Nat) (ad : Nat → Nat) (nS nB : Nat) (st bk : Nat → Iu) (gate nu : Iu) (bt : Nat) (wt : va_W) (p0 p1 : Int32) (h1 : (1 : Int32) ≤ p0 ∧ p0 ≤ 240) (h2 : ¬ ((0 : Int32) ≤ p1 ∧ p1 ≤ 3)) : xT l D cy sa yX3_foresee wsX3_foresee ({ frames := 6, cells := 10, slots := 60, locals := 180 } : Room) [.ref h, .int p0, .int p1] (xw cy h ad nS nB st bk gate nu bt wt) E_I := by
  refine xT.of cX3_foresee 4 (some .int) RX3 (by decide +kernel) rfl rfl (Nat.le_of_ble_eq_true rfl) ?_
  intro p e s m below meth c A ls hx hb hr hts hown hlocks hml hin hK hA hP hD hS hV hZ htb hl
  have hl : lv_has ls 4 [(0, .ref h), (1, .int p0), (2, .int p1)] := hl
  refine lv_iload_n hx hb dX3_foresee_0 rfl (lv_at hl 1 rfl) ?_
  refine lv_iconst (v := 1) hx hb dX3_foresee_1 (by decide) ?_
  refine lv_sipush (v := 240) hx hb dX3_foresee_2 (by decide) ?_
  refine xcS (As := [.int p0, .int 1, .int 240]) (rest := []) ⟨hx, hb, hml, hown, hts⟩ (c_X3_isWithin l D cy p0 1 240) (va_cwS 3 hts gX3_foresee_X3_isWithin rfl rfl rfl (by decide +kernel) ⟨Nat.le_of_ble_eq_true rfl, Nat.le_of_ble_eq_true rfl⟩) hK hP hD hS hA (xE_nil) rfl hl.1 rfl (Nat.le_of_ble_eq_true rfl) dX3_foresee_5 ⟨Nat.le_of_ble_eq_true rfl, Nat.le_of_ble_eq_true rfl⟩ (fun _ H locs _ hP hD hS => ?_)
  have hP : va_P D vwCl (xw cy h ad nS nB st bk gate nu bt wt) H := hP
  have hD : va_D A (xw cy h ad nS nB st bk gate nu bt wt) := hD
  refine W.eq (g2 := F0 m 8 ls [.int (wi p0 1 240)]) rfl ?_
  refine lv_if_ne (tgt := 21) hx hb dX3_foresee_8 (by decide) (fun _ => ?_) (fun z => absurd z (wi_ok h1))
  refine lv_iload_n hx hb dX3_foresee_21 rfl (lv_at hl 2 rfl) ?_
  refine lv_iconst (v := 0) hx hb dX3_foresee_22 (by decide) ?_
  refine lv_iconst (v := 3) hx hb dX3_foresee_23 (by decide) ?_
  refine xcS (As := [.int p1, .int 0, .int 3]) (rest := []) ⟨hx, hb, hml, hown, hts⟩ (c_X3_isWithin l D cy p1 0 3) (va_cwS 3 hts gX3_foresee_X3_isWithin rfl rfl rfl (by decide +kernel) ⟨Nat.le_of_ble_eq_true rfl, Nat.le_of_ble_eq_true rfl⟩) hK hP hD hS hA (xE_nil) rfl hl.1 rfl (Nat.le_of_ble_eq_true rfl) dX3_foresee_24 ⟨Nat.le_of_ble_eq_true rfl, Nat.le_of_ble_eq_true rfl⟩ (fun _ H locs _ hP hD hS => ?_)
  have hP : va_P D vwCl (xw cy h ad nS nB st bk gate nu bt wt) H := hP
  have hD : va_D A (xw cy h ad nS nB st bk gate nu bt wt) := hD
  refine W.eq (g2 := F0 m 27 ls [.int (wi p1 0 3)]) rfl ?_
  refine lv_if_ne (tgt := 40) hx hb dX3_foresee_27 (by decide) (fun z => absurd (wi_no h2) z) (fun _ => ?_)
  exact xthrow (cls := E_I) (text := "what is not 0 to 3") hx hb hst hown (by decide +kernel) (hts (.classLink RX3 34 "java/lang/IndexOutOfBoundsException") (List.mem_of_getElem? (i := 3) rfl)) (hts (.initialized "java/lang/IndexOutOfBoundsException") (List.mem_of_getElem? (i := 4) rfl)) (List.mem_of_getElem? (i := 14) rfl) hV hZ (fun w h => hts w (List.mem_cons_of_mem _ (List.mem_append_right _ h))) xcovI xotI hS hP (hl.1.trans hml.symm) dX3_foresee_30 dX3_foresee_33 dX3_foresee_34 dX3_foresee_36 dX3_foresee_39 htb hlocks (Nat.le_of_ble_eq_true rfl) (Nat.le_of_ble_eq_true rfl) (Nat.le_of_ble_eq_true rfl) (Nat.le_of_ble_eq_true rfl) (Nat.le_of_ble_eq_true rfl) (Nat.le_of_ble_eq_true rfl)

set_option maxHeartbeats 4000000 in
set_option maxRecDepth 100000 in
/-- hungryWithRation -/
theorem c_X3_hungryWithRation (l : Launch) (D : va_G) (cy : Nat → ClassId) (h : Nat) (ad av : Nat → Nat) (nS nB tS tB : Nat) (st bk ts tb : Nat → Iu) (gate nu tg tn : Iu) (hSM : tS ≤ nS) (hBM : tB ≤ nB) (hcS : nS ≤ 4) (hcB : nB ≤ 6) (hb7 : ∀ j, j < nB → bk j 7 = 0 ∨ bk j 7 = 1) (hq n j : Nat) (p2 : Int32) (eh : nu 0 = nI hq) (hh : hq + n < 2 ^ 31) (hj : j < nB) (hof : ∀ j, j < nB → ∃ i, i < nS ∧ bk j 0 = nI i) : xM l D cy yX3_hungryWithRation wsX3_hungryWithRation ({ frames := 6, cells := 10, slots := 60, locals := 180 } : Room) [.ref h, .int (nI j), .int p2, .int (nI n)] (xw cy h ad nS nB st bk gate nu (av 0) (tw cy av tS tB ts tb tg tn)) (fun _ : Nat → Nat => some (.int (unf nS nB hq gate (st, (va_up bk j (upd (bk j) 2 p2)), nu) n))) (fun _ => True) (fun a => xw cy h ad nS nB st bk gate nu (a 0) (tw cy a nS nB (hrs nS nB hq gate (st, (va_up bk j (upd (bk j) 2 p2)), nu) n).1 (hrs nS nB hq gate (st, (va_up bk j (upd (bk j) 2 p2)), nu) n).2.1 gate (hrs nS nB hq gate (st, (va_up bk j (upd (bk j) 2 p2)), nu) n).2.2)) := by
  refine xM.of cX3_hungryWithRation 5 (some .int) RX3 (by decide +kernel) rfl rfl (Nat.le_of_ble_eq_true rfl) ?_
  intro p e s m below meth c A ls hx hb hr hts hown hlocks hml hin hK hA hP hD hS hl
  have hl : lv_has ls 5 [(0, .ref h), (1, .int (nI j)), (2, .int p2), (3, .int (nI n))] := hl
  have hinX0 : ∀ w ∈ wsX00, w ∈ wsX3_hungryWithRation := fun _ h => List.mem_cons_of_mem _ (List.mem_append_left _ (List.mem_append_left _ (List.mem_append_right _ h)))
  have hinX3 : ∀ w ∈ wsX30, w ∈ wsX3_hungryWithRation := fun _ h => List.mem_cons_of_mem _ (List.mem_append_left _ (List.mem_append_left _ (List.mem_append_left _ (List.mem_append_right _ h))))
  refine lv_aload_n hx hb dX3_hungryWithRation_0 rfl (lv_at hl 0 rfl) ?_
  refine va_get (D := D) (ci := 3) (v := .ref (av 0)) (C := RX3) (T := TX3) (N := 2) hx hb hts hinX3 hown hK.1 hP 0 rfl rfl 1 (by decide) (hts (.fieldLink RX3 16 "LoafMarks" "trial" "LLoafMarks$Town;") (List.mem_of_getElem? (i := 1) rfl)) (fun _ h9 => h9) rfl dX3_hungryWithRation_1 ?_
  refine lv_aload_n hx hb dX3_hungryWithRation_4 rfl (lv_at hl 0 rfl) ?_
  refine va_get (D := D) (ci := 3) (v := .ref (ad 0)) (C := RX3) (T := TX3) (N := 2) hx hb hts hinX3 hown hK.1 hP 0 rfl rfl 0 (by decide) (hts (.fieldLink RX3 10 "LoafMarks" "town" "LLoafMarks$Town;") (List.mem_of_getElem? (i := 2) rfl)) (fun _ h9 => h9) rfl dX3_hungryWithRation_5 ?_
  refine xcV (As := [.ref (ad 0)]) (rest := []) ⟨hx, hb, hml, hown, hts⟩ (c_X2_becomeLike l D cy av ad tS tB nS nB ts tb st bk tg tn gate nu hSM hcS hBM hcB hb7) (cwV 1 hts gX3_hungryWithRation_X2_becomeLike rfl rfl rfl (by decide +kernel) ⟨Nat.le_of_ble_eq_true rfl, Nat.le_of_ble_eq_true rfl⟩) hK hP hD hS hA rfl rfl rfl (xE_both) rfl hl.1 rfl (Nat.le_of_ble_eq_true rfl) dX3_hungryWithRation_8 ⟨Nat.le_of_ble_eq_true rfl, Nat.le_of_ble_eq_true rfl⟩ (fun a2 H locs ha2 hP hD hS => ?_)
  have hP : va_P D vwCl (xw cy h ad nS nB st bk gate nu (av 0) (tw cy a2 nS nB st bk gate nu)) H := hP
  have hD : va_D A (xw cy h ad nS nB st bk gate nu (av 0) (tw cy a2 nS nB st bk gate nu)) := hD
  refine W.eq (g2 := F0 m 11 ls []) rfl ?_
  have e0 : av 0 = a2 0 := (ha2 0 (by decide)).symm
  rw [e0] at hP hD
  refine lv_aload_n hx hb dX3_hungryWithRation_11 rfl (lv_at hl 0 rfl) ?_
  refine va_get (D := D) (ci := 3) (v := .ref (a2 0)) (C := RX3) (T := TX3) (N := 2) hx hb hts hinX3 hown hK.1 hP 0 rfl rfl 1 (by decide) (hts (.fieldLink RX3 16 "LoafMarks" "trial" "LLoafMarks$Town;") (List.mem_of_getElem? (i := 1) rfl)) (fun _ h9 => h9) rfl dX3_hungryWithRation_12 ?_
  refine lv_iload_n hx hb dX3_hungryWithRation_15 rfl (lv_at hl 1 rfl) ?_
  refine xcV (As := [.int (nI j)]) (rest := []) ⟨hx, hb, hml, hown, hts⟩ (c_X2_bakerAt l D cy a2 nS nB st bk gate nu (nI j) hcB) (cwV 1 hts gX3_hungryWithRation_X2_bakerAt rfl rfl rfl (by decide +kernel) ⟨Nat.le_of_ble_eq_true rfl, Nat.le_of_ble_eq_true rfl⟩) hK hP hD hS hA rfl rfl rfl (xE_trial) rfl hl.1 rfl (Nat.le_of_ble_eq_true rfl) dX3_hungryWithRation_16 ⟨Nat.le_of_ble_eq_true rfl, Nat.le_of_ble_eq_true rfl⟩ (fun _ H locs _ hP hD hS => ?_)
  have hP : va_P D vwCl (xw cy h ad nS nB st bk gate nu (a2 0) (tw cy a2 nS nB st bk gate nu)) H := hP
  have hD : va_D A (xw cy h ad nS nB st bk gate nu (a2 0) (tw cy a2 nS nB st bk gate nu)) := hD
  refine W.eq (g2 := F0 m 19 ls [va_rf (bAt a2 nB (nI j))]) rfl ?_
  refine W.eq (g2 := F0 m 19 ls [.ref (a2 (8 + j))]) (by show F0 m 19 ls (va_rf (bAt a2 nB (nI j)) :: _) = _; rw [bAt_nI hj hcB]) ?_
  refine lv_astore (lv' := [(4, .ref (a2 (8 + j))), (0, .ref h), (1, .int (nI j)), (2, .int p2), (3, .int (nI n))]) hx hb dX3_hungryWithRation_19 hl (by decide) rfl (fun ls hl => ?_)
  refine lv_aload hx hb dX3_hungryWithRation_21 (lv_at hl 0 rfl) ?_
  refine lv_ifnull hx hb dX3_hungryWithRation_23 ?_
  refine lv_aload hx hb dX3_hungryWithRation_26 (lv_at hl 0 rfl) ?_
  refine lv_iload_n hx hb dX3_hungryWithRation_28 rfl (lv_at hl 3 rfl) ?_
  refine va_put (D := D) (ci := 0) (v := .int p2) (ty := .int) (C := RX0) (T := TX0) (N := 8) hx hb hts hinX0 tyX0 tyX0_ok nmX0 hown hK.1 hP hD hS ((tw cy ad nS nB st bk gate nu).length + (4 + nS + j) + 1) (xw_tr_bk hj) rfl 2 (by decide) (hts (.fieldLink RX3 93 "LoafMarks$Baker" "ration" "I") (List.mem_of_getElem? (i := 3) rfl)) (fun _ h9 => h9) rfl (by decide +kernel) rfl rfl (Nat.le_of_ble_eq_true rfl) dX3_hungryWithRation_29 (fun H locs hP hD hS => ?_)
  have hP : va_P D vwCl (xw cy h ad nS nB st bk gate nu (a2 0) (tw cy a2 nS nB st (va_up bk j (upd (bk j) 2 p2)) gate nu)) H := (xw_set_tr hj) ▸ hP
  have hD : va_D A (xw cy h ad nS nB st bk gate nu (a2 0) (tw cy a2 nS nB st (va_up bk j (upd (bk j) 2 p2)) gate nu)) := (xw_set_tr hj) ▸ hD
  refine lv_aload_n hx hb dX3_hungryWithRation_32 rfl (lv_at hl 1 rfl) ?_
  refine va_get (D := D) (ci := 3) (v := .ref (a2 0)) (C := RX3) (T := TX3) (N := 2) hx hb hts hinX3 hown hK.1 hP 0 rfl rfl 1 (by decide) (hts (.fieldLink RX3 16 "LoafMarks" "trial" "LLoafMarks$Town;") (List.mem_of_getElem? (i := 1) rfl)) (fun _ h9 => h9) rfl dX3_hungryWithRation_33 ?_
  refine lv_iload_n hx hb dX3_hungryWithRation_36 rfl (lv_at hl 4 rfl) ?_
  refine xcV (As := [.int (nI n)]) (rest := []) ⟨hx, hb, hml, hown, hts⟩ (c_X2_goThrough l D cy a2 nS nB (st, (va_up bk j (upd (bk j) 2 p2)), nu) gate hq n eh hh hcS hcB (rat_of j hof)) (cwV 1 hts gX3_hungryWithRation_X2_goThrough rfl rfl rfl (by decide +kernel) ⟨Nat.le_of_ble_eq_true rfl, Nat.le_of_ble_eq_true rfl⟩) hK hP hD hS hA rfl rfl rfl (xE_trial) rfl hl.1 rfl (Nat.le_of_ble_eq_true rfl) dX3_hungryWithRation_37 ⟨Nat.le_of_ble_eq_true rfl, Nat.le_of_ble_eq_true rfl⟩ (fun _ H locs _ hP hD hS => ?_)
  have hP : va_P D vwCl (xw cy h ad nS nB st bk gate nu (a2 0) (tw cy a2 nS nB ((hrs nS nB hq gate (st, (va_up bk j (upd (bk j) 2 p2)), nu) n).1) ((hrs nS nB hq gate (st, (va_up bk j (upd (bk j) 2 p2)), nu) n).2.1) gate ((hrs nS nB hq gate (st, (va_up bk j (upd (bk j) 2 p2)), nu) n).2.2))) H := hP
  have hD : va_D A (xw cy h ad nS nB st bk gate nu (a2 0) (tw cy a2 nS nB ((hrs nS nB hq gate (st, (va_up bk j (upd (bk j) 2 p2)), nu) n).1) ((hrs nS nB hq gate (st, (va_up bk j (upd (bk j) 2 p2)), nu) n).2.1) gate ((hrs nS nB hq gate (st, (va_up bk j (upd (bk j) 2 p2)), nu) n).2.2))) := hD
  refine W.eq (g2 := F0 m 40 ls [.int (unf nS nB hq gate (st, (va_up bk j (upd (bk j) 2 p2)), nu) n)]) rfl ?_
  exact xri a2 hx hb hr hlocks hS (Nat.le_of_ble_eq_true rfl) (Nat.le_of_ble_eq_true rfl) dX3_hungryWithRation_40 hP hD rfl trivial

set_option maxHeartbeats 4000000 in
set_option maxRecDepth 100000 in
/-- advise -/
theorem c_X3_advise (l : Launch) (D : va_G) (cy : Nat → ClassId) (h : Nat) (ad av : Nat → Nat) (nS nB tS tB : Nat) (st bk ts tb : Nat → Iu) (gate nu tg tn : Iu) (hSM : tS ≤ nS) (hBM : tB ≤ nB) (hcS : nS ≤ 4) (hcB : nB ≤ 6) (hb7 : ∀ j, j < nB → bk j 7 = 0 ∨ bk j 7 = 1) (hq n j : Nat) (eh : nu 0 = nI hq) (hn1 : 1 ≤ n) (hn2 : n ≤ 96) (hh : hq + n < 2 ^ 31) (hj : j < nB) (hof : ∀ j, j < nB → ∃ i, i < nS ∧ bk j 0 = nI i) : xM l D cy yX3_advise wsX3_advise ({ frames := 7, cells := 100, slots := 600, locals := 230 } : Room) [.ref h, .int (nI j), .int (nI n)] (xw cy h ad nS nB st bk gate nu (av 0) (tw cy av tS tB ts tb tg tn)) (fun _ : (Nat → Nat) × TS => some (.int (nI (10 * (advN (fun k => unf nS nB hq gate (st, rat bk j k, nu) n) 9).1)))) (fun _ => True) (fun q => xw cy h ad nS nB st bk gate nu (q.1 0) (tw cy q.1 nS nB q.2.1 q.2.2.1 gate q.2.2.2)) := by
  refine xM.of cX3_advise 7 (some .int) RX3 (by decide +kernel) rfl rfl (Nat.le_of_ble_eq_true rfl) ?_
  intro p e s m below meth c A ls hx hb hr hts hown hlocks hml hin hK hA hP hD hS hl
  have hl : lv_has ls 7 [(0, .ref h), (1, .int (nI j)), (2, .int (nI n))] := hl
  have hinX3 : ∀ w ∈ wsX30, w ∈ wsX3_advise := fun _ h => List.mem_cons_of_mem _ (List.mem_append_left _ (List.mem_append_left _ (List.mem_append_left _ (List.mem_append_left _ (List.mem_append_left _ (List.mem_append_right _ h))))))
  refine lv_aload_n hx hb dX3_advise_0 rfl (lv_at hl 0 rfl) ?_
  refine va_get (D := D) (ci := 3) (v := .ref (ad 0)) (C := RX3) (T := TX3) (N := 2) hx hb hts hinX3 hown hK.1 hP 0 rfl rfl 0 (by decide) (hts (.fieldLink RX3 10 "LoafMarks" "town" "LLoafMarks$Town;") (List.mem_of_getElem? (i := 5) rfl)) (fun _ h9 => h9) rfl dX3_advise_1 ?_
  refine lv_iload_n hx hb dX3_advise_4 rfl (lv_at hl 1 rfl) ?_
  refine xcV (As := [.int (nI j)]) (rest := []) ⟨hx, hb, hml, hown, hts⟩ (c_X2_bakerAt l D cy ad nS nB st bk gate nu (nI j) (by omega)) (cwV 1 hts gX3_advise_X2_bakerAt rfl rfl rfl (by decide +kernel) ⟨Nat.le_of_ble_eq_true rfl, Nat.le_of_ble_eq_true rfl⟩) hK hP hD hS hA rfl rfl rfl (xE_town) rfl hl.1 rfl (Nat.le_of_ble_eq_true rfl) dX3_advise_5 ⟨Nat.le_of_ble_eq_true rfl, Nat.le_of_ble_eq_true rfl⟩ (fun _ H locs _ hP hD hS => ?_)
  have hP : va_P D vwCl (xw cy h ad nS nB st bk gate nu (av 0) (tw cy av tS tB ts tb tg tn)) H := hP
  have hD : va_D A (xw cy h ad nS nB st bk gate nu (av 0) (tw cy av tS tB ts tb tg tn)) := hD
  refine W.eq (g2 := F0 m 8 ls [va_rf (bAt ad nB (nI j))]) rfl ?_
  refine W.eq (g2 := F0 m 8 ls [.ref (ad (8 + j))]) (by show F0 m 8 ls (va_rf (bAt ad nB (nI j)) :: _) = _; rw [bAt_nI hj hcB]) ?_
  refine lv_ifnonnull (tgt := 21) hx hb dX3_advise_8 (by decide) ?_
  refine lv_iload_n hx hb dX3_advise_21 rfl (lv_at hl 2 rfl) ?_
  refine lv_iconst (v := 1) hx hb dX3_advise_22 (by decide) ?_
  refine lv_bipush (v := 96) hx hb dX3_advise_23 (by decide) ?_
  refine xcS (As := [.int (nI n), .int 1, .int 96]) (rest := []) ⟨hx, hb, hml, hown, hts⟩ (c_X3_isWithin l D cy (nI n) 1 96) (va_cwS 3 hts gX3_advise_X3_isWithin rfl rfl rfl (by decide +kernel) ⟨Nat.le_of_ble_eq_true rfl, Nat.le_of_ble_eq_true rfl⟩) hK hP hD hS hA (xE_nil) rfl hl.1 rfl (Nat.le_of_ble_eq_true rfl) dX3_advise_25 ⟨Nat.le_of_ble_eq_true rfl, Nat.le_of_ble_eq_true rfl⟩ (fun _ H locs _ hP hD hS => ?_)
  have hP : va_P D vwCl (xw cy h ad nS nB st bk gate nu (av 0) (tw cy av tS tB ts tb tg tn)) H := hP
  have hD : va_D A (xw cy h ad nS nB st bk gate nu (av 0) (tw cy av tS tB ts tb tg tn)) := hD
  refine W.eq (g2 := F0 m 28 ls [.int (wi (nI n) 1 96)]) rfl ?_
  refine lv_if_ne (tgt := 41) hx hb dX3_advise_28 (by decide) (fun _ => ?_) (fun z => absurd z (wi_ok ⟨nI_le (a := 1) (b := n) (by omega) (by omega), nI_le (a := n) (b := 96) (by omega) (by decide)⟩))
  refine lv_iconst (v := 0) hx hb dX3_advise_41 (by decide) ?_
  refine lv_istore_n (lv' := [(3, .int 0), (0, .ref h), (1, .int (nI j)), (2, .int (nI n))]) hx hb dX3_advise_42 rfl hl (by decide) rfl (fun ls hl => ?_)
  refine lv_aload_n hx hb dX3_advise_43 rfl (lv_at hl 1 rfl) ?_
  refine lv_iload_n hx hb dX3_advise_44 rfl (lv_at hl 2 rfl) ?_
  refine lv_iconst (v := 0) hx hb dX3_advise_45 (by decide) ?_
  refine W.eq (g2 := F0 m 46 ls [.int (nI (10 * 0)), .int (nI j), .ref h]) rfl ?_
  refine lv_iload_n hx hb dX3_advise_46 rfl (lv_at hl 3 rfl) ?_
  refine xcV (As := [.int (nI j), .int (nI (10 * 0)), .int (nI n)]) (rest := []) ⟨hx, hb, hml, hown, hts⟩ (c_X3_hungryWithRation l D cy h ad av nS nB tS tB st bk ts tb gate nu tg tn hSM hBM hcS hcB hb7 hq n j (nI (10 * 0)) eh hh hj hof) (cwV 3 hts gX3_advise_X3_hungryWithRation rfl rfl rfl (by decide +kernel) ⟨Nat.le_of_ble_eq_true rfl, Nat.le_of_ble_eq_true rfl⟩) hK hP hD hS hA rfl rfl rfl (xE_all) rfl hl.1 rfl (Nat.le_of_ble_eq_true rfl) dX3_advise_47 ⟨Nat.le_of_ble_eq_true rfl, Nat.le_of_ble_eq_true rfl⟩ (fun a1 H locs _ hP hD hS => ?_)
  have hP : va_P D vwCl (xw cy h ad nS nB st bk gate nu (a1 0) (tw cy a1 nS nB ((hrs nS nB hq gate (st, rat bk j 0, nu) n).1) ((hrs nS nB hq gate (st, rat bk j 0, nu) n).2.1) gate ((hrs nS nB hq gate (st, rat bk j 0, nu) n).2.2))) H := hP
  have hD : va_D A (xw cy h ad nS nB st bk gate nu (a1 0) (tw cy a1 nS nB ((hrs nS nB hq gate (st, rat bk j 0, nu) n).1) ((hrs nS nB hq gate (st, rat bk j 0, nu) n).2.1) gate ((hrs nS nB hq gate (st, rat bk j 0, nu) n).2.2))) := hD
  refine W.eq (g2 := F0 m 50 ls [.int (unf nS nB hq gate (st, rat bk j 0, nu) n)]) rfl ?_
  refine lv_istore (lv' := [(4, .int (unf nS nB hq gate (st, rat bk j 0, nu) n)), (3, .int 0), (0, .ref h), (1, .int (nI j)), (2, .int (nI n))]) hx hb dX3_advise_50 hl (by decide) rfl (fun ls hl => ?_)
  refine lv_bipush (v := 10) hx hb dX3_advise_52 (by decide) ?_
  refine lv_istore (lv' := [(5, .int 10), (4, .int (unf nS nB hq gate (st, rat bk j 0, nu) n)), (3, .int 0), (0, .ref h), (1, .int (nI j)), (2, .int (nI n))]) hx hb dX3_advise_54 hl (by decide) rfl (fun ls hl => ?_)
  have loop : ∀ (z k : Nat) (a : Nat → Nat) (v : TS) (H : Heap) (locs : List Loc) (ls : Array Slot), k + z = 9 → va_P D vwCl (xw cy h ad nS nB st bk gate nu (a 0) (tw cy a nS nB v.1 v.2.1 gate v.2.2)) H → va_D A (xw cy h ad nS nB st bk gate nu (a 0) (tw cy a nS nB v.1 v.2.1 gate v.2.2)) → va_S A s.heap H locs → lv_has ls 7 [(0, .ref h), (1, .int (nI j)), (2, .int (nI n)), (3, .int (nI (10 * (advN (fun k => unf nS nB hq gate (st, rat bk j k, nu) n) k).1))), (4, .int ((advN (fun k => unf nS nB hq gate (st, rat bk j k, nu) n) k).2)), (5, .int (nI (10 * (k + 1))))] → W p l e ({ frames := 7, cells := 100, slots := 600, locals := 230 } : Room) s m ([.ref h, .int (nI j), .int (nI n)] : List Value).toArray below meth c H locs (10 * (k + 1)) (60 * (k + 1)) (MQ below (xQ D A (fun _ : (Nat → Nat) × TS => some (.int (nI (10 * (advN (fun k => unf nS nB hq gate (st, rat bk j k, nu) n) 9).1)))) (fun _ => True) (fun q => xw cy h ad nS nB st bk gate nu (q.1 0) (tw cy q.1 nS nB q.2.1 q.2.2.1 gate q.2.2.2))) ([.ref h, .int (nI j), .int (nI n)] : List Value).toArray s 100 600 A) (F0 m 56 ls []) := by
    intro z
    induction z with
    | zero =>
      intro k a v H locs ls hns hP hD hS hl
      have hik : k = 9 := by omega
      refine lv_iload hx hb dX3_advise_56 (lv_at hl 5 rfl) ?_
      refine lv_bipush (v := 90) hx hb dX3_advise_58 (by decide) ?_
      refine lv_icmp_gt (tgt := 93) hx hb dX3_advise_60 (by decide) (fun _ => ?_) (fun h => absurd (by rw [hik]; decide) h)
      refine lv_iload_n hx hb dX3_advise_93 rfl (lv_at hl 3 rfl) ?_
      subst hik
      exact xri (a, v) hx hb hr hlocks hS (Nat.le_of_ble_eq_true rfl) (Nat.le_of_ble_eq_true rfl) dX3_advise_94 hP hD rfl trivial
    | succ z ih =>
      intro k a v H locs ls hns hP hD hS hl
      have hlt : k < 9 := by omega
      refine lv_iload hx hb dX3_advise_56 (lv_at hl 5 rfl) ?_
      refine lv_bipush (v := 90) hx hb dX3_advise_58 (by decide) ?_
      refine lv_icmp_gt (tgt := 93) hx hb dX3_advise_60 (by decide) (fun h => absurd h (fun z => absurd z (nI_nlt (b := 10 * (k + 1)) (a := 90) (by omega) (by decide)))) (fun _ => ?_)
      refine lv_aload_n hx hb dX3_advise_63 rfl (lv_at hl 0 rfl) ?_
      refine lv_iload_n hx hb dX3_advise_64 rfl (lv_at hl 1 rfl) ?_
      refine lv_iload hx hb dX3_advise_65 (lv_at hl 5 rfl) ?_
      refine lv_iload_n hx hb dX3_advise_67 rfl (lv_at hl 2 rfl) ?_
      refine xcV (As := [.int (nI j), .int (nI (10 * (k + 1))), .int (nI n)]) (rest := []) ⟨hx, hb, hml, hown, hts⟩ (c_X3_hungryWithRation l D cy h ad a nS nB nS nB st bk v.1 v.2.1 gate nu gate v.2.2 (Nat.le_refl _) (Nat.le_refl _) hcS hcB hb7 hq n j (nI (10 * (k + 1))) eh hh hj hof) (cwV 3 hts gX3_advise_X3_hungryWithRation rfl rfl rfl (by decide +kernel) ⟨Nat.le_of_ble_eq_true rfl, Nat.le_of_ble_eq_true rfl⟩) hK hP hD hS hA rfl rfl rfl (xE_all) rfl hl.1 rfl (Nat.le_of_ble_eq_true rfl) dX3_advise_68 ⟨by show 10 * (k + 1) + 10 ≤ 100; omega, by show 60 * (k + 1) + 60 ≤ 600; omega⟩ (fun a3 H locs _ hP hD hS => ?_)
      have hP : va_P D vwCl (xw cy h ad nS nB st bk gate nu (a3 0) (tw cy a3 nS nB ((hrs nS nB hq gate (st, rat bk j (k + 1), nu) n).1) ((hrs nS nB hq gate (st, rat bk j (k + 1), nu) n).2.1) gate ((hrs nS nB hq gate (st, rat bk j (k + 1), nu) n).2.2))) H := hP
      have hD : va_D A (xw cy h ad nS nB st bk gate nu (a3 0) (tw cy a3 nS nB ((hrs nS nB hq gate (st, rat bk j (k + 1), nu) n).1) ((hrs nS nB hq gate (st, rat bk j (k + 1), nu) n).2.1) gate ((hrs nS nB hq gate (st, rat bk j (k + 1), nu) n).2.2))) := hD
      refine W.eq (g2 := F0 m 71 ls [.int (unf nS nB hq gate (st, rat bk j (k + 1), nu) n)]) rfl ?_
      refine lv_istore (lv' := [(6, .int (unf nS nB hq gate (st, rat bk j (k + 1), nu) n)), (0, .ref h), (1, .int (nI j)), (2, .int (nI n)), (3, .int (nI (10 * (advN (fun k => unf nS nB hq gate (st, rat bk j k, nu) n) k).1))), (4, .int ((advN (fun k => unf nS nB hq gate (st, rat bk j k, nu) n) k).2)), (5, .int (nI (10 * (k + 1))))]) hx hb dX3_advise_71 hl (by decide) rfl (fun ls hl => ?_)
      refine lv_iload hx hb dX3_advise_73 (lv_at hl 0 rfl) ?_
      refine lv_iload hx hb dX3_advise_75 (lv_at hl 5 rfl) ?_
      refine lv_icmp_ge (tgt := 87) hx hb dX3_advise_77 (by decide) (fun c77 => ?_) (fun c77 => ?_)
      · have ea : advN (fun k => unf nS nB hq gate (st, rat bk j k, nu) n) (k + 1) = advN (fun k => unf nS nB hq gate (st, rat bk j k, nu) n) k := if_neg (Int32.not_lt.mpr c77)
        refine lv_iinc (v := (nI (10 * (k + 1 + 1)))) (lv' := [(5, .int (nI (10 * (k + 1 + 1)))), (6, .int (unf nS nB hq gate (st, rat bk j (k + 1), nu) n)), (0, .ref h), (1, .int (nI j)), (2, .int (nI n)), (3, .int (nI (10 * (advN (fun k => unf nS nB hq gate (st, rat bk j k, nu) n) k).1))), (4, .int ((advN (fun k => unf nS nB hq gate (st, rat bk j k, nu) n) k).2))]) hx hb dX3_advise_87 hl (k := 6) rfl ((nI_10 _)) (by decide) rfl (fun ls hl => ?_)
        refine lv_goto (tgt := 56) hx hb dX3_advise_90 (by decide) ?_
        refine W.cs (cells' := 10 * (k + 1 + 1)) (slots' := 60 * (k + 1 + 1)) rfl rfl ?_
        exact ih (k + 1) a3 (hrs nS nB hq gate (st, rat bk j (k + 1), nu) n) _ _ _ (by omega) hP hD hS (lv_sub hl [2, 3, 4, 5, 6, 0] (by rw [ea]; rfl))
      · have ea : advN (fun k => unf nS nB hq gate (st, rat bk j k, nu) n) (k + 1) = (k + 1, (fun k => unf nS nB hq gate (st, rat bk j k, nu) n) (k + 1)) := if_pos (Int32.not_le.mp c77)
        refine lv_iload hx hb dX3_advise_80 (lv_at hl 6 rfl) ?_
        refine lv_istore_n (lv' := [(3, .int (nI (10 * (k + 1)))), (6, .int (unf nS nB hq gate (st, rat bk j (k + 1), nu) n)), (0, .ref h), (1, .int (nI j)), (2, .int (nI n)), (4, .int ((advN (fun k => unf nS nB hq gate (st, rat bk j k, nu) n) k).2)), (5, .int (nI (10 * (k + 1))))]) hx hb dX3_advise_82 rfl hl (by decide) rfl (fun ls hl => ?_)
        refine lv_iload hx hb dX3_advise_83 (lv_at hl 1 rfl) ?_
        refine lv_istore (lv' := [(4, .int (unf nS nB hq gate (st, rat bk j (k + 1), nu) n)), (3, .int (nI (10 * (k + 1)))), (6, .int (unf nS nB hq gate (st, rat bk j (k + 1), nu) n)), (0, .ref h), (1, .int (nI j)), (2, .int (nI n)), (5, .int (nI (10 * (k + 1))))]) hx hb dX3_advise_85 hl (by decide) rfl (fun ls hl => ?_)
        refine lv_iinc (v := (nI (10 * (k + 1 + 1)))) (lv' := [(5, .int (nI (10 * (k + 1 + 1)))), (4, .int (unf nS nB hq gate (st, rat bk j (k + 1), nu) n)), (3, .int (nI (10 * (k + 1)))), (6, .int (unf nS nB hq gate (st, rat bk j (k + 1), nu) n)), (0, .ref h), (1, .int (nI j)), (2, .int (nI n))]) hx hb dX3_advise_87 hl (k := 6) rfl ((nI_10 _)) (by decide) rfl (fun ls hl => ?_)
        refine lv_goto (tgt := 56) hx hb dX3_advise_90 (by decide) ?_
        refine W.cs (cells' := 10 * (k + 1 + 1)) (slots' := 60 * (k + 1 + 1)) rfl rfl ?_
        exact ih (k + 1) a3 (hrs nS nB hq gate (st, rat bk j (k + 1), nu) n) _ _ _ (by omega) hP hD hS (lv_sub hl [4, 5, 6, 2, 1, 0] (by rw [ea]; rfl))
  exact loop 9 0 a1 (hrs nS nB hq gate (st, rat bk j 0, nu) n) _ _ _ (by omega) hP hD hS (lv_sub hl [3, 4, 5, 2, 1, 0] rfl)

set_option maxHeartbeats 4000000 in
set_option maxRecDepth 100000 in
theorem c_X3_advise_1 (l : Launch) (hst : l.stackTraces = false) (D : va_G) (cy : Nat → ClassId) (sa : Nat → Nat) (h : Nat) (ad : Nat → Nat) (nS nB : Nat) (st bk : Nat → Iu) (gate nu : Iu) (bt : Nat) (wt : va_W) (p0 p1 : Int32) (hv : ¬ vp_in p0 nB) (hcS : nS ≤ 4) (hcB : nB ≤ 6) : xT l D cy sa yX3_advise wsX3_advise ({ frames := 7, cells := 100, slots := 600, locals := 230 } : Room) [.ref h, .int p0, .int p1] (xw cy h ad nS nB st bk gate nu bt wt) E_I := by
  refine xT.of cX3_advise 7 (some .int) RX3 (by decide +kernel) rfl rfl (Nat.le_of_ble_eq_true rfl) ?_
  intro p e s m below meth c A ls hx hb hr hts hown hlocks hml hin hK hA hP hD hS hV hZ htb hl
  have hl : lv_has ls 7 [(0, .ref h), (1, .int p0), (2, .int p1)] := hl
  have hinX3 : ∀ w ∈ wsX30, w ∈ wsX3_advise := fun _ h => List.mem_cons_of_mem _ (List.mem_append_left _ (List.mem_append_left _ (List.mem_append_left _ (List.mem_append_left _ (List.mem_append_left _ (List.mem_append_right _ h))))))
  refine lv_aload_n hx hb dX3_advise_0 rfl (lv_at hl 0 rfl) ?_
  refine va_get (D := D) (ci := 3) (v := .ref (ad 0)) (C := RX3) (T := TX3) (N := 2) hx hb hts hinX3 hown hK.1 hP 0 rfl rfl 0 (by decide) (hts (.fieldLink RX3 10 "LoafMarks" "town" "LLoafMarks$Town;") (List.mem_of_getElem? (i := 5) rfl)) (fun _ h9 => h9) rfl dX3_advise_1 ?_
  refine lv_iload_n hx hb dX3_advise_4 rfl (lv_at hl 1 rfl) ?_
  refine xcV (As := [.int p0]) (rest := []) ⟨hx, hb, hml, hown, hts⟩ (c_X2_bakerAt l D cy ad nS nB st bk gate nu p0 (by omega)) (cwV 1 hts gX3_advise_X2_bakerAt rfl rfl rfl (by decide +kernel) ⟨Nat.le_of_ble_eq_true rfl, Nat.le_of_ble_eq_true rfl⟩) hK hP hD hS hA rfl rfl rfl (xE_town) rfl hl.1 rfl (Nat.le_of_ble_eq_true rfl) dX3_advise_5 ⟨Nat.le_of_ble_eq_true rfl, Nat.le_of_ble_eq_true rfl⟩ (fun _ H locs _ hP hD hS => ?_)
  have hP : va_P D vwCl (xw cy h ad nS nB st bk gate nu bt wt) H := hP
  have hD : va_D A (xw cy h ad nS nB st bk gate nu bt wt) := hD
  refine W.eq (g2 := F0 m 8 ls [va_rf (bAt ad nB p0)]) rfl ?_
  refine W.eq (g2 := F0 m 8 ls [.null]) (by show F0 m 8 ls (va_rf (bAt ad nB p0) :: _) = _; rw [bAt_none hv]) ?_
  refine lv_ifnonnullN hx hb dX3_advise_8 ?_
  exact xthrow (cls := E_I) (text := "there is no such baker") hx hb hst hown (by decide +kernel) (hts (.classLink RX3 34 "java/lang/IndexOutOfBoundsException") (List.mem_of_getElem? (i := 1) rfl)) (hts (.initialized "java/lang/IndexOutOfBoundsException") (List.mem_of_getElem? (i := 2) rfl)) (List.mem_of_getElem? (i := 12) rfl) hV hZ (fun w h => hts w (List.mem_cons_of_mem _ (List.mem_append_left _ (List.mem_append_right _ h)))) xcovI xotI hS hP (hl.1.trans hml.symm) dX3_advise_11 dX3_advise_14 dX3_advise_15 dX3_advise_17 dX3_advise_20 htb hlocks (Nat.le_of_ble_eq_true rfl) (Nat.le_of_ble_eq_true rfl) (Nat.le_of_ble_eq_true rfl) (Nat.le_of_ble_eq_true rfl) (Nat.le_of_ble_eq_true rfl) (Nat.le_of_ble_eq_true rfl)

set_option maxHeartbeats 4000000 in
set_option maxRecDepth 100000 in
theorem c_X3_advise_2 (l : Launch) (hst : l.stackTraces = false) (D : va_G) (cy : Nat → ClassId) (sa : Nat → Nat) (h : Nat) (ad : Nat → Nat) (nS nB : Nat) (st bk : Nat → Iu) (gate nu : Iu) (bt : Nat) (wt : va_W) (j : Nat) (hj : j < nB) (p1 : Int32) (h2 : ¬ ((1 : Int32) ≤ p1 ∧ p1 ≤ 96)) (hcS : nS ≤ 4) (hcB : nB ≤ 6) : xT l D cy sa yX3_advise wsX3_advise ({ frames := 7, cells := 100, slots := 600, locals := 230 } : Room) [.ref h, .int (nI j), .int p1] (xw cy h ad nS nB st bk gate nu bt wt) E_A := by
  refine xT.of cX3_advise 7 (some .int) RX3 (by decide +kernel) rfl rfl (Nat.le_of_ble_eq_true rfl) ?_
  intro p e s m below meth c A ls hx hb hr hts hown hlocks hml hin hK hA hP hD hS hV hZ htb hl
  have hl : lv_has ls 7 [(0, .ref h), (1, .int (nI j)), (2, .int p1)] := hl
  have hinX3 : ∀ w ∈ wsX30, w ∈ wsX3_advise := fun _ h => List.mem_cons_of_mem _ (List.mem_append_left _ (List.mem_append_left _ (List.mem_append_left _ (List.mem_append_left _ (List.mem_append_left _ (List.mem_append_right _ h))))))
  refine lv_aload_n hx hb dX3_advise_0 rfl (lv_at hl 0 rfl) ?_
  refine va_get (D := D) (ci := 3) (v := .ref (ad 0)) (C := RX3) (T := TX3) (N := 2) hx hb hts hinX3 hown hK.1 hP 0 rfl rfl 0 (by decide) (hts (.fieldLink RX3 10 "LoafMarks" "town" "LLoafMarks$Town;") (List.mem_of_getElem? (i := 5) rfl)) (fun _ h9 => h9) rfl dX3_advise_1 ?_
  refine lv_iload_n hx hb dX3_advise_4 rfl (lv_at hl 1 rfl) ?_
  refine xcV (As := [.int (nI j)]) (rest := []) ⟨hx, hb, hml, hown, hts⟩ (c_X2_bakerAt l D cy ad nS nB st bk gate nu (nI j) (by omega)) (cwV 1 hts gX3_advise_X2_bakerAt rfl rfl rfl (by decide +kernel) ⟨Nat.le_of_ble_eq_true rfl, Nat.le_of_ble_eq_true rfl⟩) hK hP hD hS hA rfl rfl rfl (xE_town) rfl hl.1 rfl (Nat.le_of_ble_eq_true rfl) dX3_advise_5 ⟨Nat.le_of_ble_eq_true rfl, Nat.le_of_ble_eq_true rfl⟩ (fun _ H locs _ hP hD hS => ?_)
  have hP : va_P D vwCl (xw cy h ad nS nB st bk gate nu bt wt) H := hP
  have hD : va_D A (xw cy h ad nS nB st bk gate nu bt wt) := hD
  refine W.eq (g2 := F0 m 8 ls [va_rf (bAt ad nB (nI j))]) rfl ?_
  refine W.eq (g2 := F0 m 8 ls [.ref (ad (8 + j))]) (by show F0 m 8 ls (va_rf (bAt ad nB (nI j)) :: _) = _; rw [bAt_nI hj hcB]) ?_
  refine lv_ifnonnull (tgt := 21) hx hb dX3_advise_8 (by decide) ?_
  refine lv_iload_n hx hb dX3_advise_21 rfl (lv_at hl 2 rfl) ?_
  refine lv_iconst (v := 1) hx hb dX3_advise_22 (by decide) ?_
  refine lv_bipush (v := 96) hx hb dX3_advise_23 (by decide) ?_
  refine xcS (As := [.int p1, .int 1, .int 96]) (rest := []) ⟨hx, hb, hml, hown, hts⟩ (c_X3_isWithin l D cy p1 1 96) (va_cwS 3 hts gX3_advise_X3_isWithin rfl rfl rfl (by decide +kernel) ⟨Nat.le_of_ble_eq_true rfl, Nat.le_of_ble_eq_true rfl⟩) hK hP hD hS hA (xE_nil) rfl hl.1 rfl (Nat.le_of_ble_eq_true rfl) dX3_advise_25 ⟨Nat.le_of_ble_eq_true rfl, Nat.le_of_ble_eq_true rfl⟩ (fun _ H locs _ hP hD hS => ?_)
  have hP : va_P D vwCl (xw cy h ad nS nB st bk gate nu bt wt) H := hP
  have hD : va_D A (xw cy h ad nS nB st bk gate nu bt wt) := hD
  refine W.eq (g2 := F0 m 28 ls [.int (wi p1 1 96)]) rfl ?_
  refine lv_if_ne (tgt := 41) hx hb dX3_advise_28 (by decide) (fun z => absurd (wi_no h2) z) (fun _ => ?_)
  exact xthrow (cls := E_A) (text := "hours is not 1 to 96") hx hb hst hown (by decide +kernel) (hts (.classLink RX3 23 "java/lang/IllegalArgumentException") (List.mem_of_getElem? (i := 3) rfl)) (hts (.initialized "java/lang/IllegalArgumentException") (List.mem_of_getElem? (i := 4) rfl)) (List.mem_of_getElem? (i := 18) rfl) hV hZ (fun w h => hts w (List.mem_cons_of_mem _ (List.mem_append_right _ h))) xcovA xotA hS hP (hl.1.trans hml.symm) dX3_advise_31 dX3_advise_34 dX3_advise_35 dX3_advise_37 dX3_advise_40 htb hlocks (Nat.le_of_ble_eq_true rfl) (Nat.le_of_ble_eq_true rfl) (Nat.le_of_ble_eq_true rfl) (Nat.le_of_ble_eq_true rfl) (Nat.le_of_ble_eq_true rfl) (Nat.le_of_ble_eq_true rfl)

set_option maxHeartbeats 4000000 in
set_option maxRecDepth 100000 in
/-- mixInStores -/
theorem c_X3_mixInStores (l : Launch) (D : va_G) (cy : Nat → ClassId) (h : Nat) (ad : Nat → Nat) (nS nB : Nat) (st bk : Nat → Iu) (gate nu : Iu) (bt : Nat) (wt : va_W) (d : Int64) (hcS : nS ≤ 4) (hcB : nB ≤ 6) : xM l D cy yX3_mixInStores wsX3_mixInStores ({ frames := 2, cells := 0, slots := 0, locals := 80 } : Room) [.ref h, .long d] (xw cy h ad nS nB st bk gate nu bt wt) (fun _ : Unit => some (.long (dgS st bk nB nS d))) (fun _ => True) (fun _ => xw cy h ad nS nB st bk gate nu bt wt) := by
  refine xM.of cX3_mixInStores 7 (some .long) RX3 (by decide +kernel) rfl rfl (Nat.le_of_ble_eq_true rfl) ?_
  intro p e s m below meth c A ls hx hb hr hts hown hlocks hml hin hK hA hP hD hS hl
  have hl : lv_has ls 7 [(0, .ref h), (1, .long d)] := hl
  have hinX3 : ∀ w ∈ wsX30, w ∈ wsX3_mixInStores := fun _ h => List.mem_cons_of_mem _ (List.mem_append_left _ (List.mem_append_left _ (List.mem_append_left _ (List.mem_append_right _ h))))
  refine lv_lload_n hx hb dX3_mixInStores_0 rfl (lv_at hl 1 rfl) ?_
  refine lv_lstore_n (lv' := [(3, .long d), (0, .ref h), (1, .long d)]) hx hb dX3_mixInStores_1 rfl hl (by decide) rfl (fun ls hl => ?_)
  refine lv_iconst (v := 0) hx hb dX3_mixInStores_2 (by decide) ?_
  refine lv_istore (lv' := [(5, .int 0), (3, .long d), (0, .ref h), (1, .long d)]) hx hb dX3_mixInStores_3 hl (by decide) rfl (fun ls hl => ?_)
  have loop : ∀ (n i : Nat)  (H : Heap) (locs : List Loc) (ls : Array Slot), i + n = 4 → va_P D vwCl (xw cy h ad nS nB st bk gate nu bt wt) H → va_D A (xw cy h ad nS nB st bk gate nu bt wt) → va_S A s.heap H locs → lv_has ls 7 [(0, .ref h), (3, .long (dgS st bk nB (min i nS) d)), (5, .int (nI i))] → W p l e ({ frames := 2, cells := 0, slots := 0, locals := 80 } : Room) s m ([.ref h, .long d] : List Value).toArray below meth c H locs 0 0 (MQ below (xQ D A (fun _ : Unit => some (.long (dgS st bk nB nS d))) (fun _ => True) (fun _ => xw cy h ad nS nB st bk gate nu bt wt)) ([.ref h, .long d] : List Value).toArray s 0 0 A) (F0 m 5 ls []) := by
    intro n
    induction n with
    | zero =>
      intro i  H locs ls hns hP hD hS hl
      have hii : i = 4 := by omega
      refine lv_iload hx hb dX3_mixInStores_5 (lv_at hl 2 rfl) ?_
      refine lv_iconst (v := 4) hx hb dX3_mixInStores_7 (by decide) ?_
      refine lv_icmp_ge (tgt := 60) hx hb dX3_mixInStores_8 (by decide) (fun _ => ?_) (fun h => absurd (by rw [hii]; exact Int32.le_refl _) h)
      refine lv_lload_n hx hb dX3_mixInStores_60 rfl (lv_at hl 1 rfl) ?_
      have em : min i nS = nS := by omega
      rw [em]
      exact xrl () hx hb hr hlocks hS (Nat.le_of_ble_eq_true rfl) (Nat.le_of_ble_eq_true rfl) dX3_mixInStores_61 hP hD rfl trivial
    | succ n ih =>
      intro i  H locs ls hns hP hD hS hl
      have hlt : i < 4 := by omega
      refine lv_iload hx hb dX3_mixInStores_5 (lv_at hl 2 rfl) ?_
      refine lv_iconst (v := 4) hx hb dX3_mixInStores_7 (by decide) ?_
      refine lv_icmp_ge (tgt := 60) hx hb dX3_mixInStores_8 (by decide) (fun h => absurd h (nI_ge (b := 4) hlt (by omega))) (fun _ => ?_)
      refine lv_aload_n hx hb dX3_mixInStores_11 rfl (lv_at hl 0 rfl) ?_
      refine va_get (D := D) (ci := 3) (v := .ref (ad 0)) (C := RX3) (T := TX3) (N := 2) hx hb hts hinX3 hown hK.1 hP 0 rfl rfl 0 (by decide) (hts (.fieldLink RX3 10 "LoafMarks" "town" "LLoafMarks$Town;") (List.mem_of_getElem? (i := 1) rfl)) (fun _ h9 => h9) rfl dX3_mixInStores_12 ?_
      refine lv_iload hx hb dX3_mixInStores_15 (lv_at hl 2 rfl) ?_
      refine xcV (As := [.int (nI i)]) (rest := []) ⟨hx, hb, hml, hown, hts⟩ (c_X2_storeAt l D cy ad nS nB st bk gate nu (nI i) hcS) (cwV 1 hts gX3_mixInStores_X2_storeAt rfl rfl rfl (by decide +kernel) ⟨Nat.le_of_ble_eq_true rfl, Nat.le_of_ble_eq_true rfl⟩) hK hP hD hS hA rfl rfl rfl (xE_town) rfl hl.1 rfl (Nat.le_of_ble_eq_true rfl) dX3_mixInStores_17 ⟨Nat.le_of_ble_eq_true rfl, Nat.le_of_ble_eq_true rfl⟩ (fun _ H locs _ hP hD hS => ?_)
      have hP : va_P D vwCl (xw cy h ad nS nB st bk gate nu bt wt) H := hP
      have hD : va_D A (xw cy h ad nS nB st bk gate nu bt wt) := hD
      refine W.eq (g2 := F0 m 20 ls [va_rf (sAt ad nS (nI i))]) rfl ?_
      rcases Nat.lt_or_ge i nS with hi | hi
      · refine W.eq (g2 := F0 m 20 ls [.ref (ad (4 + i))]) (by show F0 m 20 ls (va_rf (sAt ad nS (nI i)) :: _) = _; rw [sAt_nI hi hcS]) ?_
        refine lv_ifnull hx hb dX3_mixInStores_20 ?_
        refine lv_iconst (v := 0) hx hb dX3_mixInStores_23 (by decide) ?_
        refine lv_istore (lv' := [(6, .int 0), (0, .ref h), (3, .long (dgS st bk nB (min i nS) d)), (5, .int (nI i))]) hx hb dX3_mixInStores_24 hl (by decide) rfl (fun ls hl => ?_)
        have loop2 : ∀ (n k : Nat)  (H : Heap) (locs : List Loc) (ls : Array Slot), k + n = 4 → va_P D vwCl (xw cy h ad nS nB st bk gate nu bt wt) H → va_D A (xw cy h ad nS nB st bk gate nu bt wt) → va_S A s.heap H locs → lv_has ls 7 [(0, .ref h), (3, .long (dgN (stFact st bk nB i) k (dgS st bk nB (min i nS) d))), (5, .int (nI i)), (6, .int (nI k))] → W p l e ({ frames := 2, cells := 0, slots := 0, locals := 80 } : Room) s m ([.ref h, .long d] : List Value).toArray below meth c H locs 0 0 (MQ below (xQ D A (fun _ : Unit => some (.long (dgS st bk nB nS d))) (fun _ => True) (fun _ => xw cy h ad nS nB st bk gate nu bt wt)) ([.ref h, .long d] : List Value).toArray s 0 0 A) (F0 m 26 ls []) := by
          intro n
          induction n with
          | zero =>
            intro k  H locs ls hns hP hD hS hl
            have hik : k = 4 := by omega
            refine lv_iload hx hb dX3_mixInStores_26 (lv_at hl 3 rfl) ?_
            refine lv_iconst (v := 4) hx hb dX3_mixInStores_28 (by decide) ?_
            refine lv_icmp_ge (tgt := 54) hx hb dX3_mixInStores_29 (by decide) (fun _ => ?_) (fun h => absurd (by rw [hik]; exact Int32.le_refl _) h)
            refine lv_iinc (v := (nI (i + 1))) (lv' := [(5, .int (nI (i + 1))), (0, .ref h), (3, .long (dgN (stFact st bk nB i) k (dgS st bk nB (min i nS) d))), (6, .int (nI k))]) hx hb dX3_mixInStores_54 hl (k := 2) rfl ((nI_1 i)) (by decide) rfl (fun ls hl => ?_)
            refine lv_goto (tgt := 5) hx hb dX3_mixInStores_57 (by decide) ?_
            subst hik
            exact ih (i + 1)  _ _ _ (by omega) hP hD hS (lv_sub hl [1, 2, 0] (by rw [min_s hi, min_l hi]; rfl))
          | succ n ih =>
            intro k  H locs ls hns hP hD hS hl
            have hlt : k < 4 := by omega
            refine lv_iload hx hb dX3_mixInStores_26 (lv_at hl 3 rfl) ?_
            refine lv_iconst (v := 4) hx hb dX3_mixInStores_28 (by decide) ?_
            refine lv_icmp_ge (tgt := 54) hx hb dX3_mixInStores_29 (by decide) (fun h => absurd h (nI_ge (a := k) (b := 4) (by omega) (by omega))) (fun _ => ?_)
            refine lv_lload_n hx hb dX3_mixInStores_32 rfl (lv_at hl 1 rfl) ?_
            refine lv_aload_n hx hb dX3_mixInStores_33 rfl (lv_at hl 0 rfl) ?_
            refine va_get (D := D) (ci := 3) (v := .ref (ad 0)) (C := RX3) (T := TX3) (N := 2) hx hb hts hinX3 hown hK.1 hP 0 rfl rfl 0 (by decide) (hts (.fieldLink RX3 10 "LoafMarks" "town" "LLoafMarks$Town;") (List.mem_of_getElem? (i := 1) rfl)) (fun _ h9 => h9) rfl dX3_mixInStores_34 ?_
            refine lv_iload hx hb dX3_mixInStores_37 (lv_at hl 2 rfl) ?_
            refine lv_iload hx hb dX3_mixInStores_39 (lv_at hl 3 rfl) ?_
            refine xcV (As := [.int (nI i), .int (nI k)]) (rest := [.long (dgN (stFact st bk nB i) k (dgS st bk nB (min i nS) d))]) ⟨hx, hb, hml, hown, hts⟩ (c_X2_storeFact l D cy ad nS nB st bk gate nu i k hi (by omega) hcS hcB) (cwV 2 hts gX3_mixInStores_X2_storeFact rfl rfl rfl (by decide +kernel) ⟨Nat.le_of_ble_eq_true rfl, Nat.le_of_ble_eq_true rfl⟩) hK hP hD hS hA rfl rfl rfl (xE_town) rfl hl.1 rfl (Nat.le_of_ble_eq_true rfl) dX3_mixInStores_41 ⟨Nat.le_of_ble_eq_true rfl, Nat.le_of_ble_eq_true rfl⟩ (fun _ H locs _ hP hD hS => ?_)
            have hP : va_P D vwCl (xw cy h ad nS nB st bk gate nu bt wt) H := hP
            have hD : va_D A (xw cy h ad nS nB st bk gate nu bt wt) := hD
            refine W.eq (g2 := F0 m 44 ls [.int (stFact st bk nB i k), .long (dgN (stFact st bk nB i) k (dgS st bk nB (min i nS) d))]) rfl ?_
            refine xcS (As := [.long (dgN (stFact st bk nB i) k (dgS st bk nB (min i nS) d)), .int (stFact st bk nB i k)]) (rest := []) ⟨hx, hb, hml, hown, hts⟩ (c_X3_mixIn l D cy (dgN (stFact st bk nB i) k (dgS st bk nB (min i nS) d)) (stFact st bk nB i k)) (va_cwS 2 hts gX3_mixInStores_X3_mixIn rfl rfl rfl (by decide +kernel) ⟨Nat.le_of_ble_eq_true rfl, Nat.le_of_ble_eq_true rfl⟩) hK hP hD hS hA (xE_nil) rfl hl.1 rfl (Nat.le_of_ble_eq_true rfl) dX3_mixInStores_44 ⟨Nat.le_of_ble_eq_true rfl, Nat.le_of_ble_eq_true rfl⟩ (fun _ H locs _ hP hD hS => ?_)
            have hP : va_P D vwCl (xw cy h ad nS nB st bk gate nu bt wt) H := hP
            have hD : va_D A (xw cy h ad nS nB st bk gate nu bt wt) := hD
            refine W.eq (g2 := F0 m 47 ls [.long ((dgN (stFact st bk nB i) k (dgS st bk nB (min i nS) d)) * 31 + (stFact st bk nB i k).toInt64)]) rfl ?_
            refine lv_lstore_n (lv' := [(3, .long ((dgN (stFact st bk nB i) k (dgS st bk nB (min i nS) d)) * 31 + (stFact st bk nB i k).toInt64)), (0, .ref h), (5, .int (nI i)), (6, .int (nI k))]) hx hb dX3_mixInStores_47 rfl hl (by decide) rfl (fun ls hl => ?_)
            refine lv_iinc (v := (nI (k + 1))) (lv' := [(6, .int (nI (k + 1))), (3, .long ((dgN (stFact st bk nB i) k (dgS st bk nB (min i nS) d)) * 31 + (stFact st bk nB i k).toInt64)), (0, .ref h), (5, .int (nI i))]) hx hb dX3_mixInStores_48 hl (k := 3) rfl ((nI_1 k)) (by decide) rfl (fun ls hl => ?_)
            refine lv_goto (tgt := 26) hx hb dX3_mixInStores_51 (by decide) ?_
            exact ih (k + 1)  _ _ _ (by omega) hP hD hS (lv_sub hl [2, 1, 3, 0] rfl)
        exact loop2 4 0  _ _ _ (by omega) hP hD hS (lv_sub hl [1, 2, 3, 0] rfl)
      · refine W.eq (g2 := F0 m 20 ls [.null]) (by show F0 m 20 ls (va_rf (sAt ad nS (nI i)) :: _) = _; rw [sAt_ge hi (by omega)]) ?_
        refine lv_ifnullN (tgt := 54) hx hb dX3_mixInStores_20 (by decide) ?_
        refine lv_iinc (v := (nI (i + 1))) (lv' := [(5, .int (nI (i + 1))), (0, .ref h), (3, .long (dgS st bk nB (min i nS) d))]) hx hb dX3_mixInStores_54 hl (k := 2) rfl ((nI_1 i)) (by decide) rfl (fun ls hl => ?_)
        refine lv_goto (tgt := 5) hx hb dX3_mixInStores_57 (by decide) ?_
        exact ih (i + 1)  _ _ _ (by omega) hP hD hS (lv_sub hl [1, 2, 0] (by rw [min_g hi]; rfl))
  exact loop 4 0  _ _ _ (by omega) hP hD hS (lv_sub hl [2, 1, 0] rfl)

set_option maxHeartbeats 4000000 in
set_option maxRecDepth 100000 in
/-- mixInBakers -/
theorem c_X3_mixInBakers (l : Launch) (D : va_G) (cy : Nat → ClassId) (h : Nat) (ad : Nat → Nat) (nS nB : Nat) (st bk : Nat → Iu) (gate nu : Iu) (bt : Nat) (wt : va_W) (d : Int64) (hcS : nS ≤ 4) (hcB : nB ≤ 6) : xM l D cy yX3_mixInBakers wsX3_mixInBakers ({ frames := 2, cells := 0, slots := 0, locals := 80 } : Room) [.ref h, .long d] (xw cy h ad nS nB st bk gate nu bt wt) (fun _ : Unit => some (.long (dgB bk nB d))) (fun _ => True) (fun _ => xw cy h ad nS nB st bk gate nu bt wt) := by
  refine xM.of cX3_mixInBakers 8 (some .long) RX3 (by decide +kernel) rfl rfl (Nat.le_of_ble_eq_true rfl) ?_
  intro p e s m below meth c A ls hx hb hr hts hown hlocks hml hin hK hA hP hD hS hl
  have hl : lv_has ls 8 [(0, .ref h), (1, .long d)] := hl
  have hinX3 : ∀ w ∈ wsX30, w ∈ wsX3_mixInBakers := fun _ h => List.mem_cons_of_mem _ (List.mem_append_left _ (List.mem_append_left _ (List.mem_append_right _ h)))
  refine lv_lload_n hx hb dX3_mixInBakers_0 rfl (lv_at hl 1 rfl) ?_
  refine lv_lstore_n (lv' := [(3, .long d), (0, .ref h), (1, .long d)]) hx hb dX3_mixInBakers_1 rfl hl (by decide) rfl (fun ls hl => ?_)
  refine lv_iconst (v := 0) hx hb dX3_mixInBakers_2 (by decide) ?_
  refine lv_istore (lv' := [(5, .int 0), (3, .long d), (0, .ref h), (1, .long d)]) hx hb dX3_mixInBakers_3 hl (by decide) rfl (fun ls hl => ?_)
  have loop : ∀ (n i : Nat)  (H : Heap) (locs : List Loc) (ls : Array Slot), i + n = 6 → va_P D vwCl (xw cy h ad nS nB st bk gate nu bt wt) H → va_D A (xw cy h ad nS nB st bk gate nu bt wt) → va_S A s.heap H locs → lv_has ls 8 [(0, .ref h), (3, .long (dgB bk (min i nB) d)), (5, .int (nI i))] → W p l e ({ frames := 2, cells := 0, slots := 0, locals := 80 } : Room) s m ([.ref h, .long d] : List Value).toArray below meth c H locs 0 0 (MQ below (xQ D A (fun _ : Unit => some (.long (dgB bk nB d))) (fun _ => True) (fun _ => xw cy h ad nS nB st bk gate nu bt wt)) ([.ref h, .long d] : List Value).toArray s 0 0 A) (F0 m 5 ls []) := by
    intro n
    induction n with
    | zero =>
      intro i  H locs ls hns hP hD hS hl
      have hii : i = 6 := by omega
      refine lv_iload hx hb dX3_mixInBakers_5 (lv_at hl 2 rfl) ?_
      refine lv_bipush (v := 6) hx hb dX3_mixInBakers_7 (by decide) ?_
      refine lv_icmp_ge (tgt := 62) hx hb dX3_mixInBakers_9 (by decide) (fun _ => ?_) (fun h => absurd (by rw [hii]; exact Int32.le_refl _) h)
      refine lv_lload_n hx hb dX3_mixInBakers_62 rfl (lv_at hl 1 rfl) ?_
      have em : min i nB = nB := by omega
      rw [em]
      exact xrl () hx hb hr hlocks hS (Nat.le_of_ble_eq_true rfl) (Nat.le_of_ble_eq_true rfl) dX3_mixInBakers_63 hP hD rfl trivial
    | succ n ih =>
      intro i  H locs ls hns hP hD hS hl
      have hlt : i < 6 := by omega
      refine lv_iload hx hb dX3_mixInBakers_5 (lv_at hl 2 rfl) ?_
      refine lv_bipush (v := 6) hx hb dX3_mixInBakers_7 (by decide) ?_
      refine lv_icmp_ge (tgt := 62) hx hb dX3_mixInBakers_9 (by decide) (fun h => absurd h (nI_ge (b := 6) hlt (by omega))) (fun _ => ?_)
      refine lv_aload_n hx hb dX3_mixInBakers_12 rfl (lv_at hl 0 rfl) ?_
      refine va_get (D := D) (ci := 3) (v := .ref (ad 0)) (C := RX3) (T := TX3) (N := 2) hx hb hts hinX3 hown hK.1 hP 0 rfl rfl 0 (by decide) (hts (.fieldLink RX3 10 "LoafMarks" "town" "LLoafMarks$Town;") (List.mem_of_getElem? (i := 1) rfl)) (fun _ h9 => h9) rfl dX3_mixInBakers_13 ?_
      refine lv_iload hx hb dX3_mixInBakers_16 (lv_at hl 2 rfl) ?_
      refine xcV (As := [.int (nI i)]) (rest := []) ⟨hx, hb, hml, hown, hts⟩ (c_X2_bakerAt l D cy ad nS nB st bk gate nu (nI i) hcB) (cwV 1 hts gX3_mixInBakers_X2_bakerAt rfl rfl rfl (by decide +kernel) ⟨Nat.le_of_ble_eq_true rfl, Nat.le_of_ble_eq_true rfl⟩) hK hP hD hS hA rfl rfl rfl (xE_town) rfl hl.1 rfl (Nat.le_of_ble_eq_true rfl) dX3_mixInBakers_18 ⟨Nat.le_of_ble_eq_true rfl, Nat.le_of_ble_eq_true rfl⟩ (fun _ H locs _ hP hD hS => ?_)
      have hP : va_P D vwCl (xw cy h ad nS nB st bk gate nu bt wt) H := hP
      have hD : va_D A (xw cy h ad nS nB st bk gate nu bt wt) := hD
      refine W.eq (g2 := F0 m 21 ls [va_rf (bAt ad nB (nI i))]) rfl ?_
      rcases Nat.lt_or_ge i nB with hi | hi
      · refine W.eq (g2 := F0 m 21 ls [.ref (ad (8 + i))]) (by show F0 m 21 ls (va_rf (bAt ad nB (nI i)) :: _) = _; rw [bAt_nI hi hcB]) ?_
        refine lv_astore (lv' := [(6, .ref (ad (8 + i))), (0, .ref h), (3, .long (dgB bk (min i nB) d)), (5, .int (nI i))]) hx hb dX3_mixInBakers_21 hl (by decide) rfl (fun ls hl => ?_)
        refine lv_aload hx hb dX3_mixInBakers_23 (lv_at hl 0 rfl) ?_
        refine lv_ifnull hx hb dX3_mixInBakers_25 ?_
        refine lv_iconst (v := 0) hx hb dX3_mixInBakers_28 (by decide) ?_
        refine lv_istore (lv' := [(7, .int 0), (6, .ref (ad (8 + i))), (0, .ref h), (3, .long (dgB bk (min i nB) d)), (5, .int (nI i))]) hx hb dX3_mixInBakers_29 hl (by decide) rfl (fun ls hl => ?_)
        have loop2 : ∀ (n k : Nat)  (H : Heap) (locs : List Loc) (ls : Array Slot), k + n = 8 → va_P D vwCl (xw cy h ad nS nB st bk gate nu bt wt) H → va_D A (xw cy h ad nS nB st bk gate nu bt wt) → va_S A s.heap H locs → lv_has ls 8 [(0, .ref h), (3, .long (dgN (bFact (bk i)) k (dgB bk (min i nB) d))), (5, .int (nI i)), (6, .ref (ad (8 + i))), (7, .int (nI k))] → W p l e ({ frames := 2, cells := 0, slots := 0, locals := 80 } : Room) s m ([.ref h, .long d] : List Value).toArray below meth c H locs 0 0 (MQ below (xQ D A (fun _ : Unit => some (.long (dgB bk nB d))) (fun _ => True) (fun _ => xw cy h ad nS nB st bk gate nu bt wt)) ([.ref h, .long d] : List Value).toArray s 0 0 A) (F0 m 31 ls []) := by
          intro n
          induction n with
          | zero =>
            intro k  H locs ls hns hP hD hS hl
            have hik : k = 8 := by omega
            refine lv_iload hx hb dX3_mixInBakers_31 (lv_at hl 4 rfl) ?_
            refine lv_bipush (v := 8) hx hb dX3_mixInBakers_33 (by decide) ?_
            refine lv_icmp_ge (tgt := 56) hx hb dX3_mixInBakers_35 (by decide) (fun _ => ?_) (fun h => absurd (by rw [hik]; exact Int32.le_refl _) h)
            refine lv_iinc (v := (nI (i + 1))) (lv' := [(5, .int (nI (i + 1))), (0, .ref h), (3, .long (dgN (bFact (bk i)) k (dgB bk (min i nB) d))), (6, .ref (ad (8 + i))), (7, .int (nI k))]) hx hb dX3_mixInBakers_56 hl (k := 2) rfl ((nI_1 i)) (by decide) rfl (fun ls hl => ?_)
            refine lv_goto (tgt := 5) hx hb dX3_mixInBakers_59 (by decide) ?_
            subst hik
            exact ih (i + 1)  _ _ _ (by omega) hP hD hS (lv_sub hl [1, 2, 0] (by rw [min_s hi, min_l hi]; rfl))
          | succ n ih =>
            intro k  H locs ls hns hP hD hS hl
            have hlt : k < 8 := by omega
            refine lv_iload hx hb dX3_mixInBakers_31 (lv_at hl 4 rfl) ?_
            refine lv_bipush (v := 8) hx hb dX3_mixInBakers_33 (by decide) ?_
            refine lv_icmp_ge (tgt := 56) hx hb dX3_mixInBakers_35 (by decide) (fun h => absurd h (nI_ge (a := k) (b := 8) (by omega) (by omega))) (fun _ => ?_)
            refine lv_lload_n hx hb dX3_mixInBakers_38 rfl (lv_at hl 1 rfl) ?_
            refine lv_aload hx hb dX3_mixInBakers_39 (lv_at hl 3 rfl) ?_
            refine lv_iload hx hb dX3_mixInBakers_41 (lv_at hl 4 rfl) ?_
            refine xcV (As := [.int (nI k)]) (rest := [.long (dgN (bFact (bk i)) k (dgB bk (min i nB) d))]) ⟨hx, hb, hml, hown, hts⟩ (c_X0_fact l D cy (ad (8 + i)) (bk i) k (by omega)) (cwV 1 hts gX3_mixInBakers_X0_fact rfl rfl rfl (by decide +kernel) ⟨Nat.le_of_ble_eq_true rfl, Nat.le_of_ble_eq_true rfl⟩) hK hP hD hS hA rfl rfl rfl (xE_xbk (bk i) hi) rfl hl.1 rfl (Nat.le_of_ble_eq_true rfl) dX3_mixInBakers_43 ⟨Nat.le_of_ble_eq_true rfl, Nat.le_of_ble_eq_true rfl⟩ (fun _ H locs _ hP hD hS => ?_)
            refine W.eq (g2 := F0 m 46 ls [.int (bFact (bk i) k), .long (dgN (bFact (bk i)) k (dgB bk (min i nB) d))]) rfl ?_
            rw [up_self] at hP hD
            refine xcS (As := [.long (dgN (bFact (bk i)) k (dgB bk (min i nB) d)), .int (bFact (bk i) k)]) (rest := []) ⟨hx, hb, hml, hown, hts⟩ (c_X3_mixIn l D cy (dgN (bFact (bk i)) k (dgB bk (min i nB) d)) (bFact (bk i) k)) (va_cwS 2 hts gX3_mixInBakers_X3_mixIn rfl rfl rfl (by decide +kernel) ⟨Nat.le_of_ble_eq_true rfl, Nat.le_of_ble_eq_true rfl⟩) hK hP hD hS hA (xE_nil) rfl hl.1 rfl (Nat.le_of_ble_eq_true rfl) dX3_mixInBakers_46 ⟨Nat.le_of_ble_eq_true rfl, Nat.le_of_ble_eq_true rfl⟩ (fun _ H locs _ hP hD hS => ?_)
            have hP : va_P D vwCl (xw cy h ad nS nB st bk gate nu bt wt) H := hP
            have hD : va_D A (xw cy h ad nS nB st bk gate nu bt wt) := hD
            refine W.eq (g2 := F0 m 49 ls [.long ((dgN (bFact (bk i)) k (dgB bk (min i nB) d)) * 31 + (bFact (bk i) k).toInt64)]) rfl ?_
            refine lv_lstore_n (lv' := [(3, .long ((dgN (bFact (bk i)) k (dgB bk (min i nB) d)) * 31 + (bFact (bk i) k).toInt64)), (0, .ref h), (5, .int (nI i)), (6, .ref (ad (8 + i))), (7, .int (nI k))]) hx hb dX3_mixInBakers_49 rfl hl (by decide) rfl (fun ls hl => ?_)
            refine lv_iinc (v := (nI (k + 1))) (lv' := [(7, .int (nI (k + 1))), (3, .long ((dgN (bFact (bk i)) k (dgB bk (min i nB) d)) * 31 + (bFact (bk i) k).toInt64)), (0, .ref h), (5, .int (nI i)), (6, .ref (ad (8 + i)))]) hx hb dX3_mixInBakers_50 hl (k := 4) rfl ((nI_1 k)) (by decide) rfl (fun ls hl => ?_)
            refine lv_goto (tgt := 31) hx hb dX3_mixInBakers_53 (by decide) ?_
            exact ih (k + 1)  _ _ _ (by omega) hP hD hS (lv_sub hl [2, 1, 3, 4, 0] rfl)
        exact loop2 8 0  _ _ _ (by omega) hP hD hS (lv_sub hl [2, 3, 4, 1, 0] rfl)
      · refine W.eq (g2 := F0 m 21 ls [.null]) (by show F0 m 21 ls (va_rf (bAt ad nB (nI i)) :: _) = _; rw [bAt_ge hi (by omega)]) ?_
        refine lv_astoreN (lv' := [(6, .null), (0, .ref h), (3, .long (dgB bk (min i nB) d)), (5, .int (nI i))]) hx hb dX3_mixInBakers_21 hl (by decide) rfl (fun ls hl => ?_)
        refine lv_aloadN hx hb dX3_mixInBakers_23 (lv_at hl 0 rfl) ?_
        refine lv_ifnullN (tgt := 56) hx hb dX3_mixInBakers_25 (by decide) ?_
        refine lv_iinc (v := (nI (i + 1))) (lv' := [(5, .int (nI (i + 1))), (6, .null), (0, .ref h), (3, .long (dgB bk (min i nB) d))]) hx hb dX3_mixInBakers_56 hl (k := 3) rfl ((nI_1 i)) (by decide) rfl (fun ls hl => ?_)
        refine lv_goto (tgt := 5) hx hb dX3_mixInBakers_59 (by decide) ?_
        exact ih (i + 1)  _ _ _ (by omega) hP hD hS (lv_sub hl [2, 3, 0] (by rw [min_g hi]; rfl))
  exact loop 6 0  _ _ _ (by omega) hP hD hS (lv_sub hl [2, 1, 0] rfl)

set_option maxHeartbeats 4000000 in
set_option maxRecDepth 100000 in
/-- digest -/
theorem c_X3_digest (l : Launch) (D : va_G) (cy : Nat → ClassId) (h : Nat) (ad : Nat → Nat) (nS nB : Nat) (st bk : Nat → Iu) (gate nu : Iu) (bt : Nat) (wt : va_W) (hq : Nat) (eh : nu 0 = nI hq) (hh : hq < 2 ^ 31) (hcS : nS ≤ 4) (hcB : nB ≤ 6) : xM l D cy yX3_digest wsX3_digest ({ frames := 3, cells := 0, slots := 0, locals := 110 } : Room) [.ref h] (xw cy h ad nS nB st bk gate nu bt wt) (fun _ : Unit => some (.long (dgB bk nB (dgS st bk nB nS (dgN gate 24 (dgN (tFact nS nB st bk nu hq) 10 1051)))))) (fun _ => True) (fun _ => xw cy h ad nS nB st bk gate nu bt wt) := by
  refine xM.of cX3_digest 4 (some .long) RX3 (by decide +kernel) rfl rfl (Nat.le_of_ble_eq_true rfl) ?_
  intro p e s m below meth c A ls hx hb hr hts hown hlocks hml hin hK hA hP hD hS hl
  have hl : lv_has ls 4 [(0, .ref h)] := hl
  have hinX3 : ∀ w ∈ wsX30, w ∈ wsX3_digest := fun _ h => List.mem_cons_of_mem _ (List.mem_append_left _ (List.mem_append_left _ (List.mem_append_left _ (List.mem_append_right _ h))))
  refine lv_ldc2 hx hb hown (hts (.constantLong RX3 156 (1051)) (List.mem_of_getElem? (i := 1) rfl)) dX3_digest_0 ?_
  refine lv_lstore_n (lv' := [(1, .long 1051), (0, .ref h)]) hx hb dX3_digest_3 rfl hl (by decide) rfl (fun ls hl => ?_)
  refine lv_iconst (v := 0) hx hb dX3_digest_4 (by decide) ?_
  refine lv_istore_n (lv' := [(3, .int 0), (1, .long 1051), (0, .ref h)]) hx hb dX3_digest_5 rfl hl (by decide) rfl (fun ls hl => ?_)
  have loop : ∀ (n i : Nat)  (H : Heap) (locs : List Loc) (ls : Array Slot), i + n = 10 → va_P D vwCl (xw cy h ad nS nB st bk gate nu bt wt) H → va_D A (xw cy h ad nS nB st bk gate nu bt wt) → va_S A s.heap H locs → lv_has ls 4 [(0, .ref h), (1, .long (dgN (tFact nS nB st bk nu hq) i 1051)), (3, .int (nI i))] → W p l e ({ frames := 3, cells := 0, slots := 0, locals := 110 } : Room) s m ([.ref h] : List Value).toArray below meth c H locs 0 0 (MQ below (xQ D A (fun _ : Unit => some (.long (dgB bk nB (dgS st bk nB nS (dgN gate 24 (dgN (tFact nS nB st bk nu hq) 10 1051)))))) (fun _ => True) (fun _ => xw cy h ad nS nB st bk gate nu bt wt)) ([.ref h] : List Value).toArray s 0 0 A) (F0 m 6 ls []) := by
    intro n
    induction n with
    | zero =>
      intro i  H locs ls hns hP hD hS hl
      have hii : i = 10 := by omega
      refine lv_iload_n hx hb dX3_digest_6 rfl (lv_at hl 2 rfl) ?_
      refine lv_bipush (v := 10) hx hb dX3_digest_7 (by decide) ?_
      refine lv_icmp_ge (tgt := 31) hx hb dX3_digest_9 (by decide) (fun _ => ?_) (fun h => absurd (by rw [hii]; exact Int32.le_refl _) h)
      subst hii
      refine lv_iconst (v := 0) hx hb dX3_digest_31 (by decide) ?_
      refine lv_istore_n (lv' := [(3, .int 0), (0, .ref h), (1, .long (dgN (tFact nS nB st bk nu hq) 10 1051))]) hx hb dX3_digest_32 rfl hl (by decide) rfl (fun ls hl => ?_)
      have loop2 : ∀ (n k : Nat)  (H : Heap) (locs : List Loc) (ls : Array Slot), k + n = 24 → va_P D vwCl (xw cy h ad nS nB st bk gate nu bt wt) H → va_D A (xw cy h ad nS nB st bk gate nu bt wt) → va_S A s.heap H locs → lv_has ls 4 [(0, .ref h), (1, .long (dgN gate k (dgN (tFact nS nB st bk nu hq) 10 1051))), (3, .int (nI k))] → W p l e ({ frames := 3, cells := 0, slots := 0, locals := 110 } : Room) s m ([.ref h] : List Value).toArray below meth c H locs 0 0 (MQ below (xQ D A (fun _ : Unit => some (.long (dgB bk nB (dgS st bk nB nS (dgN gate 24 (dgN (tFact nS nB st bk nu hq) 10 1051)))))) (fun _ => True) (fun _ => xw cy h ad nS nB st bk gate nu bt wt)) ([.ref h] : List Value).toArray s 0 0 A) (F0 m 33 ls []) := by
        intro n
        induction n with
        | zero =>
          intro k  H locs ls hns hP hD hS hl
          have hik : k = 24 := by omega
          refine lv_iload_n hx hb dX3_digest_33 rfl (lv_at hl 2 rfl) ?_
          refine lv_bipush (v := 24) hx hb dX3_digest_34 (by decide) ?_
          refine lv_icmp_ge (tgt := 58) hx hb dX3_digest_36 (by decide) (fun _ => ?_) (fun h => absurd (by rw [hik]; exact Int32.le_refl _) h)
          subst hik
          refine lv_aload_n hx hb dX3_digest_58 rfl (lv_at hl 0 rfl) ?_
          refine lv_lload_n hx hb dX3_digest_59 rfl (lv_at hl 1 rfl) ?_
          refine xcV (As := [.long (dgN gate 24 (dgN (tFact nS nB st bk nu hq) 10 1051))]) (rest := []) ⟨hx, hb, hml, hown, hts⟩ (c_X3_mixInStores l D cy h ad nS nB st bk gate nu bt wt (dgN gate 24 (dgN (tFact nS nB st bk nu hq) 10 1051)) hcS hcB) (cwV 1 hts gX3_digest_X3_mixInStores rfl rfl rfl (by decide +kernel) ⟨Nat.le_of_ble_eq_true rfl, Nat.le_of_ble_eq_true rfl⟩) hK hP hD hS hA rfl rfl rfl (xE_all) rfl hl.1 rfl (Nat.le_of_ble_eq_true rfl) dX3_digest_60 ⟨Nat.le_of_ble_eq_true rfl, Nat.le_of_ble_eq_true rfl⟩ (fun _ H locs _ hP hD hS => ?_)
          have hP : va_P D vwCl (xw cy h ad nS nB st bk gate nu bt wt) H := hP
          have hD : va_D A (xw cy h ad nS nB st bk gate nu bt wt) := hD
          refine W.eq (g2 := F0 m 63 ls [.long (dgS st bk nB nS (dgN gate 24 (dgN (tFact nS nB st bk nu hq) 10 1051)))]) rfl ?_
          refine lv_lstore_n (lv' := [(1, .long (dgS st bk nB nS (dgN gate 24 (dgN (tFact nS nB st bk nu hq) 10 1051)))), (0, .ref h), (3, .int (nI 24))]) hx hb dX3_digest_63 rfl hl (by decide) rfl (fun ls hl => ?_)
          refine lv_aload_n hx hb dX3_digest_64 rfl (lv_at hl 1 rfl) ?_
          refine lv_lload_n hx hb dX3_digest_65 rfl (lv_at hl 0 rfl) ?_
          refine xcV (As := [.long (dgS st bk nB nS (dgN gate 24 (dgN (tFact nS nB st bk nu hq) 10 1051)))]) (rest := []) ⟨hx, hb, hml, hown, hts⟩ (c_X3_mixInBakers l D cy h ad nS nB st bk gate nu bt wt (dgS st bk nB nS (dgN gate 24 (dgN (tFact nS nB st bk nu hq) 10 1051))) hcS hcB) (cwV 1 hts gX3_digest_X3_mixInBakers rfl rfl rfl (by decide +kernel) ⟨Nat.le_of_ble_eq_true rfl, Nat.le_of_ble_eq_true rfl⟩) hK hP hD hS hA rfl rfl rfl (xE_all) rfl hl.1 rfl (Nat.le_of_ble_eq_true rfl) dX3_digest_66 ⟨Nat.le_of_ble_eq_true rfl, Nat.le_of_ble_eq_true rfl⟩ (fun _ H locs _ hP hD hS => ?_)
          have hP : va_P D vwCl (xw cy h ad nS nB st bk gate nu bt wt) H := hP
          have hD : va_D A (xw cy h ad nS nB st bk gate nu bt wt) := hD
          refine W.eq (g2 := F0 m 69 ls [.long (dgB bk nB (dgS st bk nB nS (dgN gate 24 (dgN (tFact nS nB st bk nu hq) 10 1051))))]) rfl ?_
          exact xrl () hx hb hr hlocks hS (Nat.le_of_ble_eq_true rfl) (Nat.le_of_ble_eq_true rfl) dX3_digest_69 hP hD rfl trivial
        | succ n ih =>
          intro k  H locs ls hns hP hD hS hl
          have hlt : k < 24 := by omega
          refine lv_iload_n hx hb dX3_digest_33 rfl (lv_at hl 2 rfl) ?_
          refine lv_bipush (v := 24) hx hb dX3_digest_34 (by decide) ?_
          refine lv_icmp_ge (tgt := 58) hx hb dX3_digest_36 (by decide) (fun h => absurd h (nI_ge (a := k) (b := 24) (by omega) (by omega))) (fun _ => ?_)
          refine lv_lload_n hx hb dX3_digest_39 rfl (lv_at hl 1 rfl) ?_
          refine lv_aload_n hx hb dX3_digest_40 rfl (lv_at hl 0 rfl) ?_
          refine va_get (D := D) (ci := 3) (v := .ref (ad 0)) (C := RX3) (T := TX3) (N := 2) hx hb hts hinX3 hown hK.1 hP 0 rfl rfl 0 (by decide) (hts (.fieldLink RX3 10 "LoafMarks" "town" "LLoafMarks$Town;") (List.mem_of_getElem? (i := 2) rfl)) (fun _ h9 => h9) rfl dX3_digest_41 ?_
          refine lv_iload_n hx hb dX3_digest_44 rfl (lv_at hl 2 rfl) ?_
          refine xcV (As := [.int (nI k)]) (rest := [.long (dgN gate k (dgN (tFact nS nB st bk nu hq) 10 1051))]) ⟨hx, hb, hml, hown, hts⟩ (c_X2_gateAt l D cy ad nS nB st bk gate nu k (by omega)) (cwV 1 hts gX3_digest_X2_gateAt rfl rfl rfl (by decide +kernel) ⟨Nat.le_of_ble_eq_true rfl, Nat.le_of_ble_eq_true rfl⟩) hK hP hD hS hA rfl rfl rfl (xE_town) rfl hl.1 rfl (Nat.le_of_ble_eq_true rfl) dX3_digest_45 ⟨Nat.le_of_ble_eq_true rfl, Nat.le_of_ble_eq_true rfl⟩ (fun _ H locs _ hP hD hS => ?_)
          have hP : va_P D vwCl (xw cy h ad nS nB st bk gate nu bt wt) H := hP
          have hD : va_D A (xw cy h ad nS nB st bk gate nu bt wt) := hD
          refine W.eq (g2 := F0 m 48 ls [.int (gate k), .long (dgN gate k (dgN (tFact nS nB st bk nu hq) 10 1051))]) rfl ?_
          refine xcS (As := [.long (dgN gate k (dgN (tFact nS nB st bk nu hq) 10 1051)), .int (gate k)]) (rest := []) ⟨hx, hb, hml, hown, hts⟩ (c_X3_mixIn l D cy (dgN gate k (dgN (tFact nS nB st bk nu hq) 10 1051)) (gate k)) (va_cwS 2 hts gX3_digest_X3_mixIn rfl rfl rfl (by decide +kernel) ⟨Nat.le_of_ble_eq_true rfl, Nat.le_of_ble_eq_true rfl⟩) hK hP hD hS hA (xE_nil) rfl hl.1 rfl (Nat.le_of_ble_eq_true rfl) dX3_digest_48 ⟨Nat.le_of_ble_eq_true rfl, Nat.le_of_ble_eq_true rfl⟩ (fun _ H locs _ hP hD hS => ?_)
          have hP : va_P D vwCl (xw cy h ad nS nB st bk gate nu bt wt) H := hP
          have hD : va_D A (xw cy h ad nS nB st bk gate nu bt wt) := hD
          refine W.eq (g2 := F0 m 51 ls [.long ((dgN gate k (dgN (tFact nS nB st bk nu hq) 10 1051)) * 31 + (gate k).toInt64)]) rfl ?_
          refine lv_lstore_n (lv' := [(1, .long ((dgN gate k (dgN (tFact nS nB st bk nu hq) 10 1051)) * 31 + (gate k).toInt64)), (0, .ref h), (3, .int (nI k))]) hx hb dX3_digest_51 rfl hl (by decide) rfl (fun ls hl => ?_)
          refine lv_iinc (v := (nI (k + 1))) (lv' := [(3, .int (nI (k + 1))), (1, .long ((dgN gate k (dgN (tFact nS nB st bk nu hq) 10 1051)) * 31 + (gate k).toInt64)), (0, .ref h)]) hx hb dX3_digest_52 hl (k := 2) rfl ((nI_1 k)) (by decide) rfl (fun ls hl => ?_)
          refine lv_goto (tgt := 33) hx hb dX3_digest_55 (by decide) ?_
          exact ih (k + 1)  _ _ _ (by omega) hP hD hS (lv_sub hl [2, 1, 0] rfl)
      exact loop2 24 0  _ _ _ (by omega) hP hD hS (lv_sub hl [1, 2, 0] rfl)
    | succ n ih =>
      intro i  H locs ls hns hP hD hS hl
      have hlt : i < 10 := by omega
      refine lv_iload_n hx hb dX3_digest_6 rfl (lv_at hl 2 rfl) ?_
      refine lv_bipush (v := 10) hx hb dX3_digest_7 (by decide) ?_
      refine lv_icmp_ge (tgt := 31) hx hb dX3_digest_9 (by decide) (fun h => absurd h (nI_ge (b := 10) hlt (by omega))) (fun _ => ?_)
      refine lv_lload_n hx hb dX3_digest_12 rfl (lv_at hl 1 rfl) ?_
      refine lv_aload_n hx hb dX3_digest_13 rfl (lv_at hl 0 rfl) ?_
      refine va_get (D := D) (ci := 3) (v := .ref (ad 0)) (C := RX3) (T := TX3) (N := 2) hx hb hts hinX3 hown hK.1 hP 0 rfl rfl 0 (by decide) (hts (.fieldLink RX3 10 "LoafMarks" "town" "LLoafMarks$Town;") (List.mem_of_getElem? (i := 2) rfl)) (fun _ h9 => h9) rfl dX3_digest_14 ?_
      refine lv_iload_n hx hb dX3_digest_17 rfl (lv_at hl 2 rfl) ?_
      refine xcV (As := [.int (nI i)]) (rest := [.long (dgN (tFact nS nB st bk nu hq) i 1051)]) ⟨hx, hb, hml, hown, hts⟩ (c_X2_fact l D cy ad nS nB st bk gate nu hq i eh hh (by omega) hcS hcB) (cwV 1 hts gX3_digest_X2_fact rfl rfl rfl (by decide +kernel) ⟨Nat.le_of_ble_eq_true rfl, Nat.le_of_ble_eq_true rfl⟩) hK hP hD hS hA rfl rfl rfl (xE_town) rfl hl.1 rfl (Nat.le_of_ble_eq_true rfl) dX3_digest_18 ⟨Nat.le_of_ble_eq_true rfl, Nat.le_of_ble_eq_true rfl⟩ (fun _ H locs _ hP hD hS => ?_)
      have hP : va_P D vwCl (xw cy h ad nS nB st bk gate nu bt wt) H := hP
      have hD : va_D A (xw cy h ad nS nB st bk gate nu bt wt) := hD
      refine W.eq (g2 := F0 m 21 ls [.int (tFact nS nB st bk nu hq i), .long (dgN (tFact nS nB st bk nu hq) i 1051)]) rfl ?_
      refine xcS (As := [.long (dgN (tFact nS nB st bk nu hq) i 1051), .int (tFact nS nB st bk nu hq i)]) (rest := []) ⟨hx, hb, hml, hown, hts⟩ (c_X3_mixIn l D cy (dgN (tFact nS nB st bk nu hq) i 1051) (tFact nS nB st bk nu hq i)) (va_cwS 2 hts gX3_digest_X3_mixIn rfl rfl rfl (by decide +kernel) ⟨Nat.le_of_ble_eq_true rfl, Nat.le_of_ble_eq_true rfl⟩) hK hP hD hS hA (xE_nil) rfl hl.1 rfl (Nat.le_of_ble_eq_true rfl) dX3_digest_21 ⟨Nat.le_of_ble_eq_true rfl, Nat.le_of_ble_eq_true rfl⟩ (fun _ H locs _ hP hD hS => ?_)
      have hP : va_P D vwCl (xw cy h ad nS nB st bk gate nu bt wt) H := hP
      have hD : va_D A (xw cy h ad nS nB st bk gate nu bt wt) := hD
      refine W.eq (g2 := F0 m 24 ls [.long ((dgN (tFact nS nB st bk nu hq) i 1051) * 31 + (tFact nS nB st bk nu hq i).toInt64)]) rfl ?_
      refine lv_lstore_n (lv' := [(1, .long ((dgN (tFact nS nB st bk nu hq) i 1051) * 31 + (tFact nS nB st bk nu hq i).toInt64)), (0, .ref h), (3, .int (nI i))]) hx hb dX3_digest_24 rfl hl (by decide) rfl (fun ls hl => ?_)
      refine lv_iinc (v := (nI (i + 1))) (lv' := [(3, .int (nI (i + 1))), (1, .long ((dgN (tFact nS nB st bk nu hq) i 1051) * 31 + (tFact nS nB st bk nu hq i).toInt64)), (0, .ref h)]) hx hb dX3_digest_25 hl (k := 2) rfl ((nI_1 i)) (by decide) rfl (fun ls hl => ?_)
      refine lv_goto (tgt := 6) hx hb dX3_digest_28 (by decide) ?_
      exact ih (i + 1)  _ _ _ (by omega) hP hD hS (lv_sub hl [2, 1, 0] rfl)
  exact loop 10 0  _ _ _ (by omega) hP hD hS (lv_sub hl [2, 1, 0] rfl)
