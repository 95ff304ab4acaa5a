/-! ===== the town: copies (laid by gen15.py) ===== -/
theorem sAt_ge {ad : Nat → Nat} {n i : Nat} (h : n ≤ i) (hi : i < 2 ^ 31) : va_rf (sAt ad n (nI i)) = .null := by
  unfold sAt
  rw [if_neg (nI_pos hi), nI_clamp hi]
  exact rS_ge h
theorem bAt_ge {ad : Nat → Nat} {n i : Nat} (h : n ≤ i) (hi : i < 2 ^ 31) : va_rf (bAt ad n (nI i)) = .null := by
  unfold bAt
  rw [if_neg (nI_pos hi), nI_clamp hi]
  exact rB_ge h
theorem rS_null {ad : Nat → Nat} {n i : Nat} (h : n ≤ i) : va_up (rS ad n) i none = rS ad n := by
  funext k
  unfold va_up
  split
  · rename_i e; subst e; unfold rS; rw [if_neg (by omega)]
  · rfl
theorem rB_null {ad : Nat → Nat} {n i : Nat} (h : n ≤ i) : va_up (rB ad n) i none = rB ad n := by
  funext k
  unfold va_up
  split
  · rename_i e; subst e; unfold rB; rw [if_neg (by omega)]
  · rfl
theorem rS_same {ad : Nat → Nat} {n i : Nat} (h : i < n) : va_up (rS ad n) i (some (ad (4 + i))) = rS ad n := by
  funext k
  unfold va_up
  split
  · rename_i e; subst e; unfold rS; rw [if_pos h]
  · rfl
theorem rB_same {ad : Nat → Nat} {n i : Nat} (h : i < n) : va_up (rB ad n) i (some (ad (8 + i))) = rB ad n := by
  funext k
  unfold va_up
  split
  · rename_i e; subst e; unfold rB; rw [if_pos h]
  · rfl
section CPY
variable {cy : Nat → ClassId} {ad ao : Nat → Nat} {nS nB mS mB : Nat} {st bk so bo : Nat → Iu} {gate nu go no : Iu}
theorem tw_len : (tw cy ad nS nB st bk gate nu).length = 4 + nS + nB := by unfold tw; simp [zS_len, zB_len]; omega
theorem at_l {ws wt : va_W} {k : Nat} {q : Nat × va_E} (h : ws[k]? = some q) : (ws ++ wt)[k]? = some q := by
  rw [List.getElem?_append_left (List.getElem?_eq_some_iff.mp h).1]; exact h
theorem at_r {ws wt : va_W} {k : Nat} {q : Nat × va_E} (h : wt[k]? = some q) : (ws ++ wt)[ws.length + k]? = some q := by
  rw [List.getElem?_append_right (by omega), Nat.add_sub_cancel_left]; exact h
theorem set_l {ws wt : va_W} {k : Nat} {q x : Nat × va_E} (h : ws[k]? = some q) : (ws ++ wt).set k x = ws.set k x ++ wt := List.set_append_left k x (List.getElem?_eq_some_iff.mp h).1
theorem xE_cst {i : Nat} (h : i < nS) (hm : i < mS) : xE (tw cy ad nS nB st bk gate nu ++ tw cy ao mS mB so bo go no) [(ad (4 + i), cSt (st i)), (ao (4 + i), cSt (so i))] (fun _ : Unit => [(ad (4 + i), cSt (so i)), (ao (4 + i), cSt (so i))]) (fun _ => tw cy ad nS nB (va_up st i (so i)) bk gate nu ++ tw cy ao mS mB so bo go no) := by
  have h1 := tw_st (cy := cy) (ad := ad) (nB := nB) (st := st) (bk := bk) (gate := gate) (nu := nu) h
  have h2 := xE_two (S := Unit) (e1 := fun _ => cSt (so i)) (4 + i) ((tw cy ad nS nB st bk gate nu).length + (4 + i)) (by rw [tw_len]; omega) (at_l (wt := tw cy ao mS mB so bo go no) h1) (at_r (tw_st hm))
  rw [set_l h1, tw_set_st h] at h2
  exact h2
theorem xE_cbk {i : Nat} (h : i < nB) (hm : i < mB) : xE (tw cy ad nS nB st bk gate nu ++ tw cy ao mS mB so bo go no) [(ad (8 + i), cBk (bk i)), (ao (8 + i), cBk (bo i))] (fun _ : Unit => [(ad (8 + i), cBk (bo i)), (ao (8 + i), cBk (bo i))]) (fun _ => tw cy ad nS nB st (va_up bk i (bo i)) gate nu ++ tw cy ao mS mB so bo go no) := by
  have h1 := tw_bk (cy := cy) (ad := ad) (nS := nS) (st := st) (bk := bk) (gate := gate) (nu := nu) h
  have h2 := xE_two (S := Unit) (e1 := fun _ => cBk (bo i)) (4 + nS + i) ((tw cy ad nS nB st bk gate nu).length + (4 + mS + i)) (by rw [tw_len]; omega) (at_l (wt := tw cy ao mS mB so bo go no) h1) (at_r (tw_bk hm))
  rw [set_l h1, tw_set_bk h] at h2
  exact h2
/-- a new cell behind a world, and one in the world's second half -/
theorem xE_nw {wa wb : va_W} {q b : Nat} {e f e2 : va_E} {k : Nat} (h : wb[k]? = some (b, f)) : xE ((wa ++ wb) ++ [(q, e)]) [(q, e), (b, f)] (fun _ : Unit => [(q, e2), (b, f)]) (fun _ => (wa ++ wb) ++ [(q, e2)]) := by
  have hk := (List.getElem?_eq_some_iff.mp h).1
  have h2 := xE_two (S := Unit) (ws := (wa ++ wb) ++ [(q, e)]) (e1 := fun _ => e2) (wa ++ wb).length (wa.length + k) (by rw [List.length_append]; omega) last_at (at_l (at_r h))
  rw [List.set_append_right _ _ (Nat.le_refl _), Nat.sub_self] at h2
  exact h2
theorem perm_mid {wa wb : va_W} {x y : Nat × va_E} {k : Nat} {z : Nat × va_E} (h : wa[k]? = some z) : List.Perm (((wa ++ wb) ++ [x]).set k y) (((wa ++ [x]).set k y) ++ wb) := by
  rw [set_l (at_l h), set_l h, set_l h, List.append_assoc, List.append_assoc]
  exact List.perm_append_comm.append_left _
theorem tw_cst {z : Nat → Iu} (h : ∀ j, j < nS → z j = st j) : tw cy ad nS nB z bk gate nu = tw cy ad nS nB st bk gate nu := by
  unfold tw
  rw [zS_cong (fun _ _ => rfl) h]
theorem tw_cbk {z : Nat → Iu} (h : ∀ j, j < nB → z j = bk j) : tw cy ad nS nB st z gate nu = tw cy ad nS nB st bk gate nu := by
  unfold tw
  rw [zB_cong (fun _ _ => rfl) h]
end CPY
set_option maxHeartbeats 4000000 in
set_option maxRecDepth 100000 in
/-- copyStores -/
theorem c_X2_copyStores (l : Launch) (D : va_G) (cy : Nat → ClassId) (ad ao : Nat → Nat) (nS nB mS mB : Nat) (st bk so bo : Nat → Iu) (gate nu go no : Iu) (hSM : nS ≤ mS) (hM : mS ≤ 4) : xM l D cy yX2_copyStores wsX2_copyStores ({ frames := 2, cells := 4, slots := 12, locals := 50 } : Room) [.ref (ad 0), .ref (ao 0)] (tw cy ad nS nB st bk gate nu ++ tw cy ao mS mB so bo go no) (fun _ : Nat → Nat => none) (fun a => ∀ j, (j < 4 ∨ 8 ≤ j) → a j = ad j) (fun a => tw cy a mS nB so bk gate nu ++ tw cy ao mS mB so bo go no) := by
  refine xM.of cX2_copyStores 5 none RX2 (by decide +kernel) rfl rfl (Nat.le_of_ble_eq_true rfl) ?_
  intro p e s m below meth c A ls hx hb hr hts hown hlocks hml hin hK hA hP hD hS hl
  have hl : lv_has ls 5 [(0, .ref (ad 0)), (1, .ref (ao 0))] := hl
  have hinX1 : ∀ w ∈ wsX10, w ∈ wsX2_copyStores := fun _ h => List.mem_cons_of_mem _ (List.mem_append_right _ h)
  have hinX2 : ∀ w ∈ wsX20, w ∈ wsX2_copyStores := fun _ h => List.mem_cons_of_mem _ (List.mem_append_left _ (List.mem_append_right _ h))
  refine lv_iconst (v := 0) hx hb dX2_copyStores_0 (by decide) ?_
  refine lv_istore_n (lv' := [(2, .int 0), (0, .ref (ad 0)), (1, .ref (ao 0))]) hx hb dX2_copyStores_1 rfl hl (by decide) rfl (fun ls hl => ?_)
  have loop : ∀ (n i : Nat) (a : Nat → Nat) (M : Nat) (z : Nat → Iu) (H : Heap) (locs : List Loc) (ls : Array Slot), i + n = 4 → (M = max nS (min i mS) ∧ (∀ j, j < min i mS → z j = so j) ∧ (∀ j, (j < 4 ∨ 8 ≤ j) → a j = ad j)) → va_P D vwCl (tw cy a M nB z bk gate nu ++ tw cy ao mS mB so bo go no) H → va_D A (tw cy a M nB z bk gate nu ++ tw cy ao mS mB so bo go no) → va_S A s.heap H locs → lv_has ls 5 [(0, .ref (a 0)), (1, .ref (ao 0)), (2, .int (nI i))] → W p l e ({ frames := 2, cells := 4, slots := 12, locals := 50 } : Room) s m ([.ref (ad 0), .ref (ao 0)] : List Value).toArray below meth c H locs i (3 * i) (MQ below (xQ D A (fun _ : Nat → Nat => none) (fun a => ∀ j, (j < 4 ∨ 8 ≤ j) → a j = ad j) (fun a => tw cy a mS nB so bk gate nu ++ tw cy ao mS mB so bo go no)) ([.ref (ad 0), .ref (ao 0)] : List Value).toArray s 4 12 A) (F0 m 2 ls []) := by
    intro n
    induction n with
    | zero =>
      intro i a M z H locs ls hns hinv hP hD hS hl
      have hii : i = 4 := by omega
      obtain ⟨hN, hz, ha⟩ := hinv
      refine lv_iload_n hx hb dX2_copyStores_2 rfl (lv_at hl 2 rfl) ?_
      refine lv_aload_n hx hb dX2_copyStores_3 rfl (lv_at hl 0 rfl) ?_
      refine va_get (D := D) (ci := 2) (v := .ref (a 2)) (C := RX2) (T := TX2) (N := 9) hx hb hts hinX2 hown hK.1 hP 0 rfl rfl 1 (by decide) (hts (.fieldLink RX2 17 "LoafMarks$Town" "stores" "[LLoafMarks$Store;") (List.mem_of_getElem? (i := 1) rfl)) (fun _ h9 => h9) rfl dX2_copyStores_4 ?_
      refine va_alen hx hb hK.1 hP 2 1 rfl rfl (v := 4) rfl dX2_copyStores_7 ?_
      refine lv_icmp_ge (tgt := 80) hx hb dX2_copyStores_8 (by decide) (fun _ => ?_) (fun h => absurd (by rw [hii]; exact Int32.le_refl _) h)
      have hNm : M = mS := by omega
      subst hNm
      have ez := tw_cst (cy := cy) (ad := a) (nS := M) (nB := nB) (bk := bk) (gate := gate) (nu := nu) (st := so) (z := z) (fun j hj => hz j (by omega))
      exact xrv a hx hb hr hlocks hS (by show i ≤ 4; omega) (by show 3 * i ≤ 12; omega) dX2_copyStores_80 (by rw [← ez]; exact hP) (by rw [← ez]; exact hD) rfl ha
    | succ n ih =>
      intro i a M z H locs ls hns hinv hP hD hS hl
      have hlt : i < 4 := by omega
      obtain ⟨hN, hz, ha⟩ := hinv
      refine lv_iload_n hx hb dX2_copyStores_2 rfl (lv_at hl 2 rfl) ?_
      refine lv_aload_n hx hb dX2_copyStores_3 rfl (lv_at hl 0 rfl) ?_
      refine va_get (D := D) (ci := 2) (v := .ref (a 2)) (C := RX2) (T := TX2) (N := 9) hx hb hts hinX2 hown hK.1 hP 0 rfl rfl 1 (by decide) (hts (.fieldLink RX2 17 "LoafMarks$Town" "stores" "[LLoafMarks$Store;") (List.mem_of_getElem? (i := 1) rfl)) (fun _ h9 => h9) rfl dX2_copyStores_4 ?_
      refine va_alen hx hb hK.1 hP 2 1 rfl rfl (v := 4) rfl dX2_copyStores_7 ?_
      refine lv_icmp_ge (tgt := 80) hx hb dX2_copyStores_8 (by decide) (fun h => absurd h (nI_ge (b := 4) hlt (by omega))) (fun _ => ?_)
      refine lv_aload_n hx hb dX2_copyStores_11 rfl (lv_at hl 1 rfl) ?_
      refine lv_iload_n hx hb dX2_copyStores_12 rfl (lv_at hl 2 rfl) ?_
      refine xcV (As := [.int (nI i)]) (rest := []) ⟨hx, hb, hml, hown, hts⟩ (c_X2_storeAt l D cy ao mS mB so bo go no (nI i) (by omega)) (cwV 1 hts gX2_copyStores_X2_storeAt rfl rfl rfl (by decide +kernel) ⟨Nat.le_of_ble_eq_true rfl, Nat.le_of_ble_eq_true rfl⟩) hK hP hD hS hA rfl rfl rfl (xE_r) rfl hl.1 rfl (Nat.le_of_ble_eq_true rfl) dX2_copyStores_13 ⟨by show i + 0 ≤ 4; omega, by show 3 * i + 0 ≤ 12; omega⟩ (fun _ H locs _ hP hD hS => ?_)
      have hP : va_P D vwCl (tw cy a M nB z bk gate nu ++ tw cy ao mS mB so bo go no) H := hP
      have hD : va_D A (tw cy a M nB z bk gate nu ++ tw cy ao mS mB so bo go no) := hD
      refine W.eq (g2 := F0 m 16 ls [va_rf (sAt ao mS (nI i))]) rfl ?_
      rcases Nat.lt_or_ge i mS with hi | hi
      · refine W.eq (g2 := F0 m 16 ls [.ref (ao (4 + i))]) (by show F0 m 16 ls (va_rf (sAt ao mS (nI i)) :: _) = _; rw [sAt_nI hi (by omega)]) ?_
        refine lv_astore_n (lv' := [(3, .ref (ao (4 + i))), (0, .ref (a 0)), (1, .ref (ao 0)), (2, .int (nI i))]) hx hb dX2_copyStores_16 rfl hl (by decide) rfl (fun ls hl => ?_)
        refine lv_aload_n hx hb dX2_copyStores_17 rfl (lv_at hl 0 rfl) ?_
        refine lv_ifnonnull (tgt := 31) hx hb dX2_copyStores_18 (by decide) ?_
        refine lv_aload_n hx hb dX2_copyStores_31 rfl (lv_at hl 1 rfl) ?_
        refine va_get (D := D) (ci := 2) (v := .ref (a 2)) (C := RX2) (T := TX2) (N := 9) hx hb hts hinX2 hown hK.1 hP 0 rfl rfl 1 (by decide) (hts (.fieldLink RX2 17 "LoafMarks$Town" "stores" "[LLoafMarks$Store;") (List.mem_of_getElem? (i := 1) rfl)) (fun _ h9 => h9) rfl dX2_copyStores_32 ?_
        refine lv_iload_n hx hb dX2_copyStores_35 rfl (lv_at hl 3 rfl) ?_
        refine xaldq hx hb hK hP 2 1 rfl rfl i rfl (by omega) (by decide) dX2_copyStores_36 ?_
        rcases Nat.lt_or_ge i M with hiN | hiN
        · refine W.eq (g2 := F0 m 37 ls [.ref (a (4 + i))]) (by rw [rS_lt hiN]) ?_
          refine lv_ifnonnull (tgt := 52) hx hb dX2_copyStores_37 (by decide) ?_
          refine lv_aload_n hx hb dX2_copyStores_52 rfl (lv_at hl 1 rfl) ?_
          refine va_get (D := D) (ci := 2) (v := .ref (a 2)) (C := RX2) (T := TX2) (N := 9) hx hb hts hinX2 hown hK.1 hP 0 rfl rfl 1 (by decide) (hts (.fieldLink RX2 17 "LoafMarks$Town" "stores" "[LLoafMarks$Store;") (List.mem_of_getElem? (i := 1) rfl)) (fun _ h9 => h9) rfl dX2_copyStores_53 ?_
          refine lv_iload_n hx hb dX2_copyStores_56 rfl (lv_at hl 3 rfl) ?_
          refine xaldq hx hb hK hP 2 1 rfl rfl i rfl (by omega) (by decide) dX2_copyStores_57 ?_
          refine W.eq (g2 := F0 m 58 ls [.ref (a (4 + i))]) (by rw [rS_lt hiN]) ?_
          refine lv_astore (lv' := [(4, .ref (a (4 + i))), (3, .ref (ao (4 + i))), (0, .ref (a 0)), (1, .ref (ao 0)), (2, .int (nI i))]) hx hb dX2_copyStores_58 hl (by decide) rfl (fun ls hl => ?_)
          refine lv_aload hx hb dX2_copyStores_60 (lv_at hl 0 rfl) ?_
          refine lv_aload_n hx hb dX2_copyStores_62 rfl (lv_at hl 1 rfl) ?_
          refine xcV (As := [.ref (ao (4 + i))]) (rest := []) ⟨hx, hb, hml, hown, hts⟩ (c_X1_becomeLike l D cy (a (4 + i)) (ao (4 + i)) (z i) (so i)) (cwV 1 hts gX2_copyStores_X1_becomeLike rfl rfl rfl (by decide +kernel) ⟨Nat.le_of_ble_eq_true rfl, Nat.le_of_ble_eq_true rfl⟩) hK hP hD hS hA rfl rfl rfl (xE_cst hiN hi) rfl hl.1 rfl (Nat.le_of_ble_eq_true rfl) dX2_copyStores_63 ⟨by show i + 0 ≤ 4; omega, by show 3 * i + 0 ≤ 12; omega⟩ (fun _ H locs _ hP hD hS => ?_)
          have hP : va_P D vwCl (tw cy a M nB (va_up z i (so i)) bk gate nu ++ tw cy ao mS mB so bo go no) H := hP
          have hD : va_D A (tw cy a M nB (va_up z i (so i)) bk gate nu ++ tw cy ao mS mB so bo go no) := hD
          refine W.eq (g2 := F0 m 66 ls []) rfl ?_
          refine lv_aload_n hx hb dX2_copyStores_66 rfl (lv_at hl 2 rfl) ?_
          refine va_get (D := D) (ci := 2) (v := .ref (a 2)) (C := RX2) (T := TX2) (N := 9) hx hb hts hinX2 hown hK.1 hP 0 rfl rfl 1 (by decide) (hts (.fieldLink RX2 17 "LoafMarks$Town" "stores" "[LLoafMarks$Store;") (List.mem_of_getElem? (i := 1) rfl)) (fun _ h9 => h9) rfl dX2_copyStores_67 ?_
          refine lv_iload_n hx hb dX2_copyStores_70 rfl (lv_at hl 4 rfl) ?_
          refine lv_aload hx hb dX2_copyStores_71 (lv_at hl 0 rfl) ?_
          refine xastq hx hb hK hP hD hS 2 1 (4 + i) 1 rfl rfl (at_l (tw_st hiN)) rfl i rfl (by omega) (by decide) dX2_copyStores_73 (fun H locs hP hD hS => ?_)
          rw [rS_same hiN] at hP hD
          have hP : va_P D vwCl (tw cy a M nB (va_up z i (so i)) bk gate nu ++ tw cy ao mS mB so bo go no) H := hP
          have hD : va_D A (tw cy a M nB (va_up z i (so i)) bk gate nu ++ tw cy ao mS mB so bo go no) := hD
          refine lv_iinc (v := (nI (i + 1))) (lv' := [(2, .int (nI (i + 1))), (4, .ref (a (4 + i))), (3, .ref (ao (4 + i))), (0, .ref (a 0)), (1, .ref (ao 0))]) hx hb dX2_copyStores_74 hl (k := 4) rfl ((nI_1 i)) (by decide) rfl (fun ls hl => ?_)
          refine lv_goto (tgt := 2) hx hb dX2_copyStores_77 (by decide) ?_
          refine W.cs (cells' := i + 0) (slots' := 3 * i + 0) rfl rfl ?_
          refine W.widen (k := i + 1) (n := 3 * (i + 1)) (by omega) (by omega) ?_
          exact ih (i + 1) a M (va_up z i (so i)) _ _ _ (by omega) (⟨by omega, (fun j hj => (Decidable.em (j = i)).elim (fun hji => by subst hji; exact up_at) (fun hji => by rw [up_ne hji]; exact hz j (by omega))), ha⟩) hP hD hS (lv_sub hl [3, 4, 0] rfl)
        · refine W.eq (g2 := F0 m 37 ls [.null]) (by rw [rS_ge hiN]) ?_
          have hNi : i = M := by omega
          subst hNi
          have hP : va_P D vwCl (tw cy a i nB z bk gate nu ++ tw cy ao mS mB so bo go no) H := hP
          refine lv_ifnonnullN hx hb dX2_copyStores_37 ?_
          refine va_new (ci := 1) (fs := [.int 0, .int 0, .int 0]) (C := RX1) (T := TX1) (N := 3) hx hb hts hinX1 tyX1 tyX1_ok hown (hts (.classLink RX2 15 RX1) (List.mem_of_getElem? (i := 2) rfl)) (hts (.instantiable RX1 3) (List.mem_of_getElem? (i := 3) rfl)) (hts (.initialized RX1) (List.mem_of_getElem? (i := 4) rfl)) hK.1 hP hD hS hA rfl (fun j hj => by rcases (show j = 0 ∨ j = 1 ∨ j = 2 by omega) with rfl | rfl | rfl <;> rfl) (by show i + 1 ≤ 4; omega) (by show 3 * i + 3 ≤ 12; omega) dX2_copyStores_40 (fun q40 H hP hD hS => ?_)
          have hP : va_P D vwCl ((tw cy a i nB z bk gate nu ++ tw cy ao mS mB so bo go no) ++ [(q40, cSt (fun _ => 0))]) H := hP
          have hD : va_D A ((tw cy a i nB z bk gate nu ++ tw cy ao mS mB so bo go no) ++ [(q40, cSt (fun _ => 0))]) := hD
          refine lv_dup hx hb dX2_copyStores_43 rfl ?_
          refine lv_iconst (v := 0) hx hb dX2_copyStores_44 (by decide) ?_
          refine lv_iconst (v := 0) hx hb dX2_copyStores_45 (by decide) ?_
          refine xcI (As := [.int 0, .int 0]) (rest := [.ref q40]) ⟨hx, hb, hml, hown, hts⟩ (c_X1_init l D cy q40 0 0) (cwI 2 hts gX2_copyStores_X1_init rfl rfl rfl (hts (.initialized RX1) (List.mem_of_getElem? (i := 4) rfl)) (hts (.methodLink RX2 61 yX1_init) (List.mem_of_getElem? (i := 10) rfl)) (hts (.instanceMethod yX1_init) (List.mem_of_getElem? (i := 11) rfl)) rfl (by decide +kernel) ⟨Nat.le_of_ble_eq_true rfl, Nat.le_of_ble_eq_true rfl⟩) hK hP hD hS hA (xE_r) rfl hl.1 rfl (Nat.le_of_ble_eq_true rfl) dX2_copyStores_46 ⟨by show i + 1 + 0 ≤ 4; omega, by show 3 * i + 3 + 0 ≤ 12; omega⟩ (fun _ H locs _ hP hD hS => ?_)
          have hP : va_P D vwCl ((tw cy a i nB z bk gate nu ++ tw cy ao mS mB so bo go no) ++ [(q40, cSt (newS 0 0))]) H := hP
          have hD : va_D A ((tw cy a i nB z bk gate nu ++ tw cy ao mS mB so bo go no) ++ [(q40, cSt (newS 0 0))]) := hD
          refine W.eq (g2 := F0 m 49 ls [.ref q40]) rfl ?_
          refine lv_goto (tgt := 58) hx hb dX2_copyStores_49 (by decide) ?_
          refine lv_astore (lv' := [(4, .ref q40), (3, .ref (ao (4 + i))), (0, .ref (a 0)), (1, .ref (ao 0)), (2, .int (nI i))]) hx hb dX2_copyStores_58 hl (by decide) rfl (fun ls hl => ?_)
          refine lv_aload hx hb dX2_copyStores_60 (lv_at hl 0 rfl) ?_
          refine lv_aload_n hx hb dX2_copyStores_62 rfl (lv_at hl 1 rfl) ?_
          refine xcV (As := [.ref (ao (4 + i))]) (rest := []) ⟨hx, hb, hml, hown, hts⟩ (c_X1_becomeLike l D cy q40 (ao (4 + i)) (newS 0 0) (so i)) (cwV 1 hts gX2_copyStores_X1_becomeLike rfl rfl rfl (by decide +kernel) ⟨Nat.le_of_ble_eq_true rfl, Nat.le_of_ble_eq_true rfl⟩) hK hP hD hS hA rfl rfl rfl (xE_nw (tw_st hi)) rfl hl.1 rfl (Nat.le_of_ble_eq_true rfl) dX2_copyStores_63 ⟨by show i + 1 + 0 + 0 ≤ 4; omega, by show 3 * i + 3 + 0 + 0 ≤ 12; omega⟩ (fun _ H locs _ hP hD hS => ?_)
          have hP : va_P D vwCl ((tw cy a i nB z bk gate nu ++ tw cy ao mS mB so bo go no) ++ [(q40, cSt (so i))]) H := hP
          have hD : va_D A ((tw cy a i nB z bk gate nu ++ tw cy ao mS mB so bo go no) ++ [(q40, cSt (so i))]) := hD
          refine W.eq (g2 := F0 m 66 ls []) rfl ?_
          refine lv_aload_n hx hb dX2_copyStores_66 rfl (lv_at hl 2 rfl) ?_
          refine va_get (D := D) (ci := 2) (v := .ref (a 2)) (C := RX2) (T := TX2) (N := 9) hx hb hts hinX2 hown hK.1 hP 0 rfl rfl 1 (by decide) (hts (.fieldLink RX2 17 "LoafMarks$Town" "stores" "[LLoafMarks$Store;") (List.mem_of_getElem? (i := 1) rfl)) (fun _ h9 => h9) rfl dX2_copyStores_67 ?_
          refine lv_iload_n hx hb dX2_copyStores_70 rfl (lv_at hl 4 rfl) ?_
          refine lv_aload hx hb dX2_copyStores_71 (lv_at hl 0 rfl) ?_
          refine xastq hx hb hK hP hD hS 2 1 (tw cy a i nB z bk gate nu ++ tw cy ao mS mB so bo go no).length 1 rfl rfl last_at rfl i rfl (by omega) (by decide) dX2_copyStores_73 (fun H locs hP hD hS => ?_)
          have hP := xP_perm ((perm_mid rfl).trans ((tw_push_st hlt).append_right _)) hP
          have hD := xD_perm ((perm_mid rfl).trans ((tw_push_st hlt).append_right _)) hD
          have hP : va_P D vwCl (tw cy (va_up a (4 + i) q40) (i + 1) nB (va_up z i (so i)) bk gate nu ++ tw cy ao mS mB so bo go no) H := hP
          have hD : va_D A (tw cy (va_up a (4 + i) q40) (i + 1) nB (va_up z i (so i)) bk gate nu ++ tw cy ao mS mB so bo go no) := hD
          refine lv_iinc (v := (nI (i + 1))) (lv' := [(2, .int (nI (i + 1))), (4, .ref q40), (3, .ref (ao (4 + i))), (0, .ref (a 0)), (1, .ref (ao 0))]) hx hb dX2_copyStores_74 hl (k := 4) rfl ((nI_1 i)) (by decide) rfl (fun ls hl => ?_)
          refine lv_goto (tgt := 2) hx hb dX2_copyStores_77 (by decide) ?_
          refine W.cs (cells' := i + 1) (slots' := 3 * i + 3) rfl rfl ?_
          refine W.widen (k := i + 1) (n := 3 * (i + 1)) (by omega) (by omega) ?_
          exact ih (i + 1) (va_up a (4 + i) q40) (i + 1) (va_up z i (so i)) _ _ _ (by omega) (⟨by omega, (fun j hj => (Decidable.em (j = i)).elim (fun hji => by subst hji; exact up_at) (fun hji => by rw [up_ne hji]; exact hz j (by omega))), fun j hj => by rw [up_ne (by omega)]; exact ha j hj⟩) hP hD hS (lv_sub hl [3, 4, 0] (by rw [up_ne (by omega)]; rfl))
      · refine W.eq (g2 := F0 m 16 ls [.null]) (by show F0 m 16 ls (va_rf (sAt ao mS (nI i)) :: _) = _; rw [sAt_ge hi (by omega)]) ?_
        refine lv_astore_nN (lv' := [(3, .null), (0, .ref (a 0)), (1, .ref (ao 0)), (2, .int (nI i))]) hx hb dX2_copyStores_16 rfl hl (by decide) rfl (fun ls hl => ?_)
        refine lv_aload_nN hx hb dX2_copyStores_17 rfl (lv_at hl 0 rfl) ?_
        refine lv_ifnonnullN hx hb dX2_copyStores_18 ?_
        refine lv_aload_n hx hb dX2_copyStores_21 rfl (lv_at hl 1 rfl) ?_
        refine va_get (D := D) (ci := 2) (v := .ref (a 2)) (C := RX2) (T := TX2) (N := 9) hx hb hts hinX2 hown hK.1 hP 0 rfl rfl 1 (by decide) (hts (.fieldLink RX2 17 "LoafMarks$Town" "stores" "[LLoafMarks$Store;") (List.mem_of_getElem? (i := 1) rfl)) (fun _ h9 => h9) rfl dX2_copyStores_22 ?_
        refine lv_iload_n hx hb dX2_copyStores_25 rfl (lv_at hl 3 rfl) ?_
        refine lv_null hx hb dX2_copyStores_26 ?_
        refine xastqN hx hb hK hP hD hS 2 1 rfl rfl i rfl (by omega) (by decide) dX2_copyStores_27 (fun H locs hP hD hS => ?_)
        rw [rS_null (by omega)] at hP hD
        have hP : va_P D vwCl (tw cy a M nB z bk gate nu ++ tw cy ao mS mB so bo go no) H := hP
        have hD : va_D A (tw cy a M nB z bk gate nu ++ tw cy ao mS mB so bo go no) := hD
        refine lv_goto (tgt := 74) hx hb dX2_copyStores_28 (by decide) ?_
        refine lv_iinc (v := (nI (i + 1))) (lv' := [(2, .int (nI (i + 1))), (3, .null), (0, .ref (a 0)), (1, .ref (ao 0))]) hx hb dX2_copyStores_74 hl (k := 3) rfl ((nI_1 i)) (by decide) rfl (fun ls hl => ?_)
        refine lv_goto (tgt := 2) hx hb dX2_copyStores_77 (by decide) ?_
        refine W.cs (cells' := i + 0) (slots' := 3 * i + 0) rfl rfl ?_
        refine W.widen (k := i + 1) (n := 3 * (i + 1)) (by omega) (by omega) ?_
        exact ih (i + 1) a M z _ _ _ (by omega) (⟨by omega, fun j hj => hz j (by omega), ha⟩) hP hD hS (lv_sub hl [2, 3, 0] rfl)
  exact loop 4 0 ad nS st _ _ _ (by omega) (⟨by omega, fun j hj => absurd hj (by omega), fun _ _ => rfl⟩) hP hD hS (lv_sub hl [1, 2, 0] rfl)

set_option maxHeartbeats 4000000 in
set_option maxRecDepth 100000 in
/-- copyBakers -/
theorem c_X2_copyBakers (l : Launch) (D : va_G) (cy : Nat → ClassId) (ad ao : Nat → Nat) (nS nB mS mB : Nat) (st bk so bo : Nat → Iu) (gate nu go no : Iu) (hSM : nB ≤ mB) (hM : mB ≤ 6) (hS4 : nS ≤ 4) (hb7 : ∀ j, j < mB → bo j 7 = 0 ∨ bo j 7 = 1) : xM l D cy yX2_copyBakers wsX2_copyBakers ({ frames := 2, cells := 6, slots := 48, locals := 50 } : Room) [.ref (ad 0), .ref (ao 0)] (tw cy ad nS nB st bk gate nu ++ tw cy ao mS mB so bo go no) (fun _ : Nat → Nat => none) (fun a => ∀ j, j < 8 → a j = ad j) (fun a => tw cy a nS mB st bo gate nu ++ tw cy ao mS mB so bo go no) := by
  refine xM.of cX2_copyBakers 5 none RX2 (by decide +kernel) rfl rfl (Nat.le_of_ble_eq_true rfl) ?_
  intro p e s m below meth c A ls hx hb hr hts hown hlocks hml hin hK hA hP hD hS hl
  have hl : lv_has ls 5 [(0, .ref (ad 0)), (1, .ref (ao 0))] := hl
  have hinX0 : ∀ w ∈ wsX00, w ∈ wsX2_copyBakers := fun _ h => List.mem_cons_of_mem _ (List.mem_append_right _ h)
  have hinX2 : ∀ w ∈ wsX20, w ∈ wsX2_copyBakers := fun _ h => List.mem_cons_of_mem _ (List.mem_append_left _ (List.mem_append_right _ h))
  refine lv_iconst (v := 0) hx hb dX2_copyBakers_0 (by decide) ?_
  refine lv_istore_n (lv' := [(2, .int 0), (0, .ref (ad 0)), (1, .ref (ao 0))]) hx hb dX2_copyBakers_1 rfl hl (by decide) rfl (fun ls hl => ?_)
  have loop : ∀ (n i : Nat) (a : Nat → Nat) (M : Nat) (z : Nat → Iu) (H : Heap) (locs : List Loc) (ls : Array Slot), i + n = 6 → (M = max nB (min i mB) ∧ (∀ j, j < min i mB → z j = bo j) ∧ (∀ j, j < 8 → a j = ad j)) → va_P D vwCl (tw cy a nS M st z gate nu ++ tw cy ao mS mB so bo go no) H → va_D A (tw cy a nS M st z gate nu ++ tw cy ao mS mB so bo go no) → va_S A s.heap H locs → lv_has ls 5 [(0, .ref (a 0)), (1, .ref (ao 0)), (2, .int (nI i))] → W p l e ({ frames := 2, cells := 6, slots := 48, locals := 50 } : Room) s m ([.ref (ad 0), .ref (ao 0)] : List Value).toArray below meth c H locs i (8 * i) (MQ below (xQ D A (fun _ : Nat → Nat => none) (fun a => ∀ j, j < 8 → a j = ad j) (fun a => tw cy a nS mB st bo gate nu ++ tw cy ao mS mB so bo go no)) ([.ref (ad 0), .ref (ao 0)] : List Value).toArray s 6 48 A) (F0 m 2 ls []) := by
    intro n
    induction n with
    | zero =>
      intro i a M z H locs ls hns hinv hP hD hS hl
      have hii : i = 6 := by omega
      obtain ⟨hN, hz, ha⟩ := hinv
      refine lv_iload_n hx hb dX2_copyBakers_2 rfl (lv_at hl 2 rfl) ?_
      refine lv_aload_n hx hb dX2_copyBakers_3 rfl (lv_at hl 0 rfl) ?_
      refine va_get (D := D) (ci := 2) (v := .ref (a 3)) (C := RX2) (T := TX2) (N := 9) hx hb hts hinX2 hown hK.1 hP 0 rfl rfl 2 (by decide) (hts (.fieldLink RX2 23 "LoafMarks$Town" "bakers" "[LLoafMarks$Baker;") (List.mem_of_getElem? (i := 1) rfl)) (fun _ h9 => h9) rfl dX2_copyBakers_4 ?_
      refine va_alen hx hb hK.1 hP 3 2 rfl rfl (v := 6) rfl dX2_copyBakers_7 ?_
      refine lv_icmp_ge (tgt := 82) hx hb dX2_copyBakers_8 (by decide) (fun _ => ?_) (fun h => absurd (by rw [hii]; exact Int32.le_refl _) h)
      have hNm : M = mB := by omega
      subst hNm
      have ez := tw_cbk (cy := cy) (ad := a) (nB := M) (nS := nS) (st := st) (gate := gate) (nu := nu) (bk := bo) (z := z) (fun j hj => hz j (by omega))
      exact xrv a hx hb hr hlocks hS (by show i ≤ 6; omega) (by show 8 * i ≤ 48; omega) dX2_copyBakers_82 (by rw [← ez]; exact hP) (by rw [← ez]; exact hD) rfl ha
    | succ n ih =>
      intro i a M z H locs ls hns hinv hP hD hS hl
      have hlt : i < 6 := by omega
      obtain ⟨hN, hz, ha⟩ := hinv
      refine lv_iload_n hx hb dX2_copyBakers_2 rfl (lv_at hl 2 rfl) ?_
      refine lv_aload_n hx hb dX2_copyBakers_3 rfl (lv_at hl 0 rfl) ?_
      refine va_get (D := D) (ci := 2) (v := .ref (a 3)) (C := RX2) (T := TX2) (N := 9) hx hb hts hinX2 hown hK.1 hP 0 rfl rfl 2 (by decide) (hts (.fieldLink RX2 23 "LoafMarks$Town" "bakers" "[LLoafMarks$Baker;") (List.mem_of_getElem? (i := 1) rfl)) (fun _ h9 => h9) rfl dX2_copyBakers_4 ?_
      refine va_alen hx hb hK.1 hP 3 2 rfl rfl (v := 6) rfl dX2_copyBakers_7 ?_
      refine lv_icmp_ge (tgt := 82) hx hb dX2_copyBakers_8 (by decide) (fun h => absurd h (nI_ge (b := 6) hlt (by omega))) (fun _ => ?_)
      refine lv_aload_n hx hb dX2_copyBakers_11 rfl (lv_at hl 1 rfl) ?_
      refine lv_iload_n hx hb dX2_copyBakers_12 rfl (lv_at hl 2 rfl) ?_
      refine xcV (As := [.int (nI i)]) (rest := []) ⟨hx, hb, hml, hown, hts⟩ (c_X2_bakerAt l D cy ao mS mB so bo go no (nI i) (by omega)) (cwV 1 hts gX2_copyBakers_X2_bakerAt rfl rfl rfl (by decide +kernel) ⟨Nat.le_of_ble_eq_true rfl, Nat.le_of_ble_eq_true rfl⟩) hK hP hD hS hA rfl rfl rfl (xE_r) rfl hl.1 rfl (Nat.le_of_ble_eq_true rfl) dX2_copyBakers_13 ⟨by show i + 0 ≤ 6; omega, by show 8 * i + 0 ≤ 48; omega⟩ (fun _ H locs _ hP hD hS => ?_)
      have hP : va_P D vwCl (tw cy a nS M st z gate nu ++ tw cy ao mS mB so bo go no) H := hP
      have hD : va_D A (tw cy a nS M st z gate nu ++ tw cy ao mS mB so bo go no) := hD
      refine W.eq (g2 := F0 m 16 ls [va_rf (bAt ao mB (nI i))]) rfl ?_
      rcases Nat.lt_or_ge i mB with hi | hi
      · refine W.eq (g2 := F0 m 16 ls [.ref (ao (8 + i))]) (by show F0 m 16 ls (va_rf (bAt ao mB (nI i)) :: _) = _; rw [bAt_nI hi (by omega)]) ?_
        refine lv_astore_n (lv' := [(3, .ref (ao (8 + i))), (0, .ref (a 0)), (1, .ref (ao 0)), (2, .int (nI i))]) hx hb dX2_copyBakers_16 rfl hl (by decide) rfl (fun ls hl => ?_)
        refine lv_aload_n hx hb dX2_copyBakers_17 rfl (lv_at hl 0 rfl) ?_
        refine lv_ifnonnull (tgt := 31) hx hb dX2_copyBakers_18 (by decide) ?_
        refine lv_aload_n hx hb dX2_copyBakers_31 rfl (lv_at hl 1 rfl) ?_
        refine va_get (D := D) (ci := 2) (v := .ref (a 3)) (C := RX2) (T := TX2) (N := 9) hx hb hts hinX2 hown hK.1 hP 0 rfl rfl 2 (by decide) (hts (.fieldLink RX2 23 "LoafMarks$Town" "bakers" "[LLoafMarks$Baker;") (List.mem_of_getElem? (i := 1) rfl)) (fun _ h9 => h9) rfl dX2_copyBakers_32 ?_
        refine lv_iload_n hx hb dX2_copyBakers_35 rfl (lv_at hl 3 rfl) ?_
        refine xaldq hx hb hK hP 3 2 rfl rfl i rfl (by omega) (by decide) dX2_copyBakers_36 ?_
        rcases Nat.lt_or_ge i M with hiN | hiN
        · refine W.eq (g2 := F0 m 37 ls [.ref (a (8 + i))]) (by rw [rB_lt hiN]) ?_
          refine lv_ifnonnull (tgt := 54) hx hb dX2_copyBakers_37 (by decide) ?_
          refine lv_aload_n hx hb dX2_copyBakers_54 rfl (lv_at hl 1 rfl) ?_
          refine va_get (D := D) (ci := 2) (v := .ref (a 3)) (C := RX2) (T := TX2) (N := 9) hx hb hts hinX2 hown hK.1 hP 0 rfl rfl 2 (by decide) (hts (.fieldLink RX2 23 "LoafMarks$Town" "bakers" "[LLoafMarks$Baker;") (List.mem_of_getElem? (i := 1) rfl)) (fun _ h9 => h9) rfl dX2_copyBakers_55 ?_
          refine lv_iload_n hx hb dX2_copyBakers_58 rfl (lv_at hl 3 rfl) ?_
          refine xaldq hx hb hK hP 3 2 rfl rfl i rfl (by omega) (by decide) dX2_copyBakers_59 ?_
          refine W.eq (g2 := F0 m 60 ls [.ref (a (8 + i))]) (by rw [rB_lt hiN]) ?_
          refine lv_astore (lv' := [(4, .ref (a (8 + i))), (3, .ref (ao (8 + i))), (0, .ref (a 0)), (1, .ref (ao 0)), (2, .int (nI i))]) hx hb dX2_copyBakers_60 hl (by decide) rfl (fun ls hl => ?_)
          refine lv_aload hx hb dX2_copyBakers_62 (lv_at hl 0 rfl) ?_
          refine lv_aload_n hx hb dX2_copyBakers_64 rfl (lv_at hl 1 rfl) ?_
          refine xcV (As := [.ref (ao (8 + i))]) (rest := []) ⟨hx, hb, hml, hown, hts⟩ (c_X0_becomeLike l D cy (a (8 + i)) (ao (8 + i)) (z i) (bo i) (hb7 i hi)) (cwV 1 hts gX2_copyBakers_X0_becomeLike rfl rfl rfl (by decide +kernel) ⟨Nat.le_of_ble_eq_true rfl, Nat.le_of_ble_eq_true rfl⟩) hK hP hD hS hA rfl rfl rfl (xE_cbk hiN hi) rfl hl.1 rfl (Nat.le_of_ble_eq_true rfl) dX2_copyBakers_65 ⟨by show i + 0 ≤ 6; omega, by show 8 * i + 0 ≤ 48; omega⟩ (fun _ H locs _ hP hD hS => ?_)
          have hP : va_P D vwCl (tw cy a nS M st (va_up z i (bo i)) gate nu ++ tw cy ao mS mB so bo go no) H := hP
          have hD : va_D A (tw cy a nS M st (va_up z i (bo i)) gate nu ++ tw cy ao mS mB so bo go no) := hD
          refine W.eq (g2 := F0 m 68 ls []) rfl ?_
          refine lv_aload_n hx hb dX2_copyBakers_68 rfl (lv_at hl 2 rfl) ?_
          refine va_get (D := D) (ci := 2) (v := .ref (a 3)) (C := RX2) (T := TX2) (N := 9) hx hb hts hinX2 hown hK.1 hP 0 rfl rfl 2 (by decide) (hts (.fieldLink RX2 23 "LoafMarks$Town" "bakers" "[LLoafMarks$Baker;") (List.mem_of_getElem? (i := 1) rfl)) (fun _ h9 => h9) rfl dX2_copyBakers_69 ?_
          refine lv_iload_n hx hb dX2_copyBakers_72 rfl (lv_at hl 4 rfl) ?_
          refine lv_aload hx hb dX2_copyBakers_73 (lv_at hl 0 rfl) ?_
          refine xastq hx hb hK hP hD hS 3 2 (4 + nS + i) 0 rfl rfl (at_l (tw_bk hiN)) rfl i rfl (by omega) (by decide) dX2_copyBakers_75 (fun H locs hP hD hS => ?_)
          rw [rB_same hiN] at hP hD
          have hP : va_P D vwCl (tw cy a nS M st (va_up z i (bo i)) gate nu ++ tw cy ao mS mB so bo go no) H := hP
          have hD : va_D A (tw cy a nS M st (va_up z i (bo i)) gate nu ++ tw cy ao mS mB so bo go no) := hD
          refine lv_iinc (v := (nI (i + 1))) (lv' := [(2, .int (nI (i + 1))), (4, .ref (a (8 + i))), (3, .ref (ao (8 + i))), (0, .ref (a 0)), (1, .ref (ao 0))]) hx hb dX2_copyBakers_76 hl (k := 4) rfl ((nI_1 i)) (by decide) rfl (fun ls hl => ?_)
          refine lv_goto (tgt := 2) hx hb dX2_copyBakers_79 (by decide) ?_
          refine W.cs (cells' := i + 0) (slots' := 8 * i + 0) rfl rfl ?_
          refine W.widen (k := i + 1) (n := 8 * (i + 1)) (by omega) (by omega) ?_
          exact ih (i + 1) a M (va_up z i (bo i)) _ _ _ (by omega) (⟨by omega, (fun j hj => (Decidable.em (j = i)).elim (fun hji => by subst hji; exact up_at) (fun hji => by rw [up_ne hji]; exact hz j (by omega))), ha⟩) hP hD hS (lv_sub hl [3, 4, 0] rfl)
        · refine W.eq (g2 := F0 m 37 ls [.null]) (by rw [rB_ge hiN]) ?_
          have hNi : i = M := by omega
          subst hNi
          have hP : va_P D vwCl (tw cy a nS i st z gate nu ++ tw cy ao mS mB so bo go no) H := hP
          refine lv_ifnonnullN hx hb dX2_copyBakers_37 ?_
          refine va_new (ci := 0) (fs := [.int 0, .int 0, .int 0, .int 0, .int 0, .int 0, .int 0, .int 0]) (C := RX0) (T := TX0) (N := 8) hx hb hts hinX0 tyX0 tyX0_ok hown (hts (.classLink RX2 21 RX0) (List.mem_of_getElem? (i := 2) rfl)) (hts (.instantiable RX0 8) (List.mem_of_getElem? (i := 3) rfl)) (hts (.initialized RX0) (List.mem_of_getElem? (i := 4) rfl)) hK.1 hP hD hS hA rfl (fun j hj => by rcases (show j = 0 ∨ j = 1 ∨ j = 2 ∨ j = 3 ∨ j = 4 ∨ j = 5 ∨ j = 6 ∨ j = 7 by omega) with rfl | rfl | rfl | rfl | rfl | rfl | rfl | rfl <;> rfl) (by show i + 1 ≤ 6; omega) (by show 8 * i + 8 ≤ 48; omega) dX2_copyBakers_40 (fun q40 H hP hD hS => ?_)
          have hP : va_P D vwCl ((tw cy a nS i st z gate nu ++ tw cy ao mS mB so bo go no) ++ [(q40, cBk (fun _ => 0))]) H := hP
          have hD : va_D A ((tw cy a nS i st z gate nu ++ tw cy ao mS mB so bo go no) ++ [(q40, cBk (fun _ => 0))]) := hD
          refine lv_dup hx hb dX2_copyBakers_43 rfl ?_
          refine lv_iconst (v := 0) hx hb dX2_copyBakers_44 (by decide) ?_
          refine lv_iconst (v := 0) hx hb dX2_copyBakers_45 (by decide) ?_
          refine lv_iconst (v := 0) hx hb dX2_copyBakers_46 (by decide) ?_
          refine lv_iconst (v := 0) hx hb dX2_copyBakers_47 (by decide) ?_
          refine xcI (As := [.int 0, .int 0, .int 0, .int 0]) (rest := [.ref q40]) ⟨hx, hb, hml, hown, hts⟩ (c_X0_init l D cy q40 0 0 0 0) (cwI 4 hts gX2_copyBakers_X0_init rfl rfl rfl (hts (.initialized RX0) (List.mem_of_getElem? (i := 4) rfl)) (hts (.methodLink RX2 72 yX0_init) (List.mem_of_getElem? (i := 10) rfl)) (hts (.instanceMethod yX0_init) (List.mem_of_getElem? (i := 11) rfl)) rfl (by decide +kernel) ⟨Nat.le_of_ble_eq_true rfl, Nat.le_of_ble_eq_true rfl⟩) hK hP hD hS hA (xE_r) rfl hl.1 rfl (Nat.le_of_ble_eq_true rfl) dX2_copyBakers_48 ⟨by show i + 1 + 0 ≤ 6; omega, by show 8 * i + 8 + 0 ≤ 48; omega⟩ (fun _ H locs _ hP hD hS => ?_)
          have hP : va_P D vwCl ((tw cy a nS i st z gate nu ++ tw cy ao mS mB so bo go no) ++ [(q40, cBk (newB 0 0 0 0))]) H := hP
          have hD : va_D A ((tw cy a nS i st z gate nu ++ tw cy ao mS mB so bo go no) ++ [(q40, cBk (newB 0 0 0 0))]) := hD
          refine W.eq (g2 := F0 m 51 ls [.ref q40]) rfl ?_
          refine lv_goto (tgt := 60) hx hb dX2_copyBakers_51 (by decide) ?_
          refine lv_astore (lv' := [(4, .ref q40), (3, .ref (ao (8 + i))), (0, .ref (a 0)), (1, .ref (ao 0)), (2, .int (nI i))]) hx hb dX2_copyBakers_60 hl (by decide) rfl (fun ls hl => ?_)
          refine lv_aload hx hb dX2_copyBakers_62 (lv_at hl 0 rfl) ?_
          refine lv_aload_n hx hb dX2_copyBakers_64 rfl (lv_at hl 1 rfl) ?_
          refine xcV (As := [.ref (ao (8 + i))]) (rest := []) ⟨hx, hb, hml, hown, hts⟩ (c_X0_becomeLike l D cy q40 (ao (8 + i)) (newB 0 0 0 0) (bo i) (hb7 i hi)) (cwV 1 hts gX2_copyBakers_X0_becomeLike rfl rfl rfl (by decide +kernel) ⟨Nat.le_of_ble_eq_true rfl, Nat.le_of_ble_eq_true rfl⟩) hK hP hD hS hA rfl rfl rfl (xE_nw (tw_bk hi)) rfl hl.1 rfl (Nat.le_of_ble_eq_true rfl) dX2_copyBakers_65 ⟨by show i + 1 + 0 + 0 ≤ 6; omega, by show 8 * i + 8 + 0 + 0 ≤ 48; omega⟩ (fun _ H locs _ hP hD hS => ?_)
          have hP : va_P D vwCl ((tw cy a nS i st z gate nu ++ tw cy ao mS mB so bo go no) ++ [(q40, cBk (bo i))]) H := hP
          have hD : va_D A ((tw cy a nS i st z gate nu ++ tw cy ao mS mB so bo go no) ++ [(q40, cBk (bo i))]) := hD
          refine W.eq (g2 := F0 m 68 ls []) rfl ?_
          refine lv_aload_n hx hb dX2_copyBakers_68 rfl (lv_at hl 2 rfl) ?_
          refine va_get (D := D) (ci := 2) (v := .ref (a 3)) (C := RX2) (T := TX2) (N := 9) hx hb hts hinX2 hown hK.1 hP 0 rfl rfl 2 (by decide) (hts (.fieldLink RX2 23 "LoafMarks$Town" "bakers" "[LLoafMarks$Baker;") (List.mem_of_getElem? (i := 1) rfl)) (fun _ h9 => h9) rfl dX2_copyBakers_69 ?_
          refine lv_iload_n hx hb dX2_copyBakers_72 rfl (lv_at hl 4 rfl) ?_
          refine lv_aload hx hb dX2_copyBakers_73 (lv_at hl 0 rfl) ?_
          refine xastq hx hb hK hP hD hS 3 2 (tw cy a nS i st z gate nu ++ tw cy ao mS mB so bo go no).length 0 rfl rfl last_at rfl i rfl (by omega) (by decide) dX2_copyBakers_75 (fun H locs hP hD hS => ?_)
          have hP := xP_perm ((perm_mid rfl).trans ((tw_push_bk hS4).append_right _)) hP
          have hD := xD_perm ((perm_mid rfl).trans ((tw_push_bk hS4).append_right _)) hD
          have hP : va_P D vwCl (tw cy (va_up a (8 + i) q40) nS (i + 1) st (va_up z i (bo i)) gate nu ++ tw cy ao mS mB so bo go no) H := hP
          have hD : va_D A (tw cy (va_up a (8 + i) q40) nS (i + 1) st (va_up z i (bo i)) gate nu ++ tw cy ao mS mB so bo go no) := hD
          refine lv_iinc (v := (nI (i + 1))) (lv' := [(2, .int (nI (i + 1))), (4, .ref q40), (3, .ref (ao (8 + i))), (0, .ref (a 0)), (1, .ref (ao 0))]) hx hb dX2_copyBakers_76 hl (k := 4) rfl ((nI_1 i)) (by decide) rfl (fun ls hl => ?_)
          refine lv_goto (tgt := 2) hx hb dX2_copyBakers_79 (by decide) ?_
          refine W.cs (cells' := i + 1) (slots' := 8 * i + 8) rfl rfl ?_
          refine W.widen (k := i + 1) (n := 8 * (i + 1)) (by omega) (by omega) ?_
          exact ih (i + 1) (va_up a (8 + i) q40) (i + 1) (va_up z i (bo i)) _ _ _ (by omega) (⟨by omega, (fun j hj => (Decidable.em (j = i)).elim (fun hji => by subst hji; exact up_at) (fun hji => by rw [up_ne hji]; exact hz j (by omega))), fun j hj => by rw [up_ne (by omega)]; exact ha j hj⟩) hP hD hS (lv_sub hl [3, 4, 0] (by rw [up_ne (by omega)]; rfl))
      · refine W.eq (g2 := F0 m 16 ls [.null]) (by show F0 m 16 ls (va_rf (bAt ao mB (nI i)) :: _) = _; rw [bAt_ge hi (by omega)]) ?_
        refine lv_astore_nN (lv' := [(3, .null), (0, .ref (a 0)), (1, .ref (ao 0)), (2, .int (nI i))]) hx hb dX2_copyBakers_16 rfl hl (by decide) rfl (fun ls hl => ?_)
        refine lv_aload_nN hx hb dX2_copyBakers_17 rfl (lv_at hl 0 rfl) ?_
        refine lv_ifnonnullN hx hb dX2_copyBakers_18 ?_
        refine lv_aload_n hx hb dX2_copyBakers_21 rfl (lv_at hl 1 rfl) ?_
        refine va_get (D := D) (ci := 2) (v := .ref (a 3)) (C := RX2) (T := TX2) (N := 9) hx hb hts hinX2 hown hK.1 hP 0 rfl rfl 2 (by decide) (hts (.fieldLink RX2 23 "LoafMarks$Town" "bakers" "[LLoafMarks$Baker;") (List.mem_of_getElem? (i := 1) rfl)) (fun _ h9 => h9) rfl dX2_copyBakers_22 ?_
        refine lv_iload_n hx hb dX2_copyBakers_25 rfl (lv_at hl 3 rfl) ?_
        refine lv_null hx hb dX2_copyBakers_26 ?_
        refine xastqN hx hb hK hP hD hS 3 2 rfl rfl i rfl (by omega) (by decide) dX2_copyBakers_27 (fun H locs hP hD hS => ?_)
        rw [rB_null (by omega)] at hP hD
        have hP : va_P D vwCl (tw cy a nS M st z gate nu ++ tw cy ao mS mB so bo go no) H := hP
        have hD : va_D A (tw cy a nS M st z gate nu ++ tw cy ao mS mB so bo go no) := hD
        refine lv_goto (tgt := 76) hx hb dX2_copyBakers_28 (by decide) ?_
        refine lv_iinc (v := (nI (i + 1))) (lv' := [(2, .int (nI (i + 1))), (3, .null), (0, .ref (a 0)), (1, .ref (ao 0))]) hx hb dX2_copyBakers_76 hl (k := 3) rfl ((nI_1 i)) (by decide) rfl (fun ls hl => ?_)
        refine lv_goto (tgt := 2) hx hb dX2_copyBakers_79 (by decide) ?_
        refine W.cs (cells' := i + 0) (slots' := 8 * i + 0) rfl rfl ?_
        refine W.widen (k := i + 1) (n := 8 * (i + 1)) (by omega) (by omega) ?_
        exact ih (i + 1) a M z _ _ _ (by omega) (⟨by omega, fun j hj => hz j (by omega), ha⟩) hP hD hS (lv_sub hl [2, 3, 0] rfl)
  exact loop 6 0 ad nB bk _ _ _ (by omega) (⟨by omega, fun j hj => absurd hj (by omega), fun _ _ => rfl⟩) hP hD hS (lv_sub hl [1, 2, 0] rfl)
