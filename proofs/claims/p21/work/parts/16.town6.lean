/-! ===== the town: becomeLike, its start (laid by gen16.py) ===== -/
theorem vp_cell_cong {cA : ClassId} {n : Nat} {f g : Iu} (h : ∀ j, j < n → f j = g j) : vp_cell cA (n, .inl f) = vp_cell cA (n, .inl g) := by
  rw [vp_cell_i, vp_cell_i]
  unfold arrV
  congr 1
  apply Array.ext
  · simp
  · intro i h1 h2
    simp at h1 ⊢
    exact h i h1
section GATE
variable {cy : Nat → ClassId} {ad : Nat → Nat} {nS nB : Nat} {st bk : Nat → Iu} {g g2 nu : Iu} {D : va_G} {H : Heap} {A : Nat → Prop} {wt : va_W}
theorem tw_gateP (h : ∀ j, j < 24 → g j = g2 j) (hP : va_P D vwCl (tw cy ad nS nB st bk g nu ++ wt) H) : va_P D vwCl (tw cy ad nS nB st bk g2 nu ++ wt) H := by
  intro k q hq
  by_cases hk : k = 1
  · subst hk
    have e : q = (ad 1, .inl (cy 0, 24, .inl g2)) := (Option.some.inj hq).symm
    subst e
    have h1 := hP 1 (ad 1, .inl (cy 0, 24, .inl g)) rfl
    show H[ad 1]? = some (vp_cell (cy 0) (24, .inl g2))
    rw [← vp_cell_cong h]
    exact h1
  · refine hP k q ?_
    rw [← hq]
    match k, hk with
    | 0, _ => rfl
    | 1, hk => exact absurd rfl hk
    | k + 2, _ => rfl
theorem tw_gateD (hD : va_D A (tw cy ad nS nB st bk g nu ++ wt)) : va_D A (tw cy ad nS nB st bk g2 nu ++ wt) := by
  rw [xD_iff] at hD ⊢
  refine ⟨hD.1, fun q hq => ?_⟩
  have hm : q.1 ∈ (tw cy ad nS nB st bk g2 nu ++ wt).map Prod.fst := List.mem_map.mpr ⟨q, hq, rfl⟩
  have hm2 : q.1 ∈ (tw cy ad nS nB st bk g nu ++ wt).map Prod.fst := hm
  obtain ⟨q2, h2, e2⟩ := List.mem_map.mp hm2
  rw [← e2]
  exact hD.2 q2 h2
end GATE
theorem rS_zero (ad : Nat → Nat) : rS ad 0 = fun _ => none := by funext k; unfold rS; rw [if_neg (by omega)]
theorem rB_zero (ad : Nat → Nat) : rB ad 0 = fun _ => none := by funext k; unfold rB; rw [if_neg (by omega)]
def adT (a b c d : Nat) : Nat → Nat := fun k => if k = 0 then a else if k = 1 then b else if k = 2 then c else d
def nu0 : Iu := upd (fun _ => 0) 1 20
set_option maxHeartbeats 4000000 in
set_option maxRecDepth 100000 in
/-- becomeLike -/
theorem c_X2_becomeLike (l : Launch) (D : va_G) (cy : Nat → ClassId) (ad ao : Nat → Nat) (nS nB mS mB : Nat) (st bk so bo : Nat → Iu) (gate nu go no : Iu) (hSM : nS ≤ mS) (hM : mS ≤ 4) (hBM : nB ≤ mB) (hMB : mB ≤ 6) (hb7 : ∀ j, j < mB → bo j 7 = 0 ∨ bo j 7 = 1) : xM l D cy yX2_becomeLike wsX2_becomeLike ({ frames := 3, cells := 10, slots := 60, locals := 80 } : Room) [.ref (ad 0), .ref (ao 0)] (tw cy ad nS nB st bk gate nu ++ tw cy ao mS mB so bo go no) (fun _ : Nat → Nat => none) (fun a => ∀ j, j < 4 → a j = ad j) (fun a => tw cy a mS mB so bo go no ++ tw cy ao mS mB so bo go no) := by
  refine xM.of cX2_becomeLike 3 none RX2 (by decide +kernel) rfl rfl (Nat.le_of_ble_eq_true rfl) ?_
  intro p e s m below meth c A ls hx hb hr hts hown hlocks hml hin hK hA hP hD hS hl
  have hl : lv_has ls 3 [(0, .ref (ad 0)), (1, .ref (ao 0))] := hl
  have hinX2 : ∀ w ∈ wsX20, w ∈ wsX2_becomeLike := fun _ h => List.mem_cons_of_mem _ (List.mem_append_left _ (List.mem_append_left _ (List.mem_append_right _ h)))
  refine lv_aload_n hx hb dX2_becomeLike_0 rfl (lv_at hl 0 rfl) ?_
  refine lv_aload_n hx hb dX2_becomeLike_1 rfl (lv_at hl 1 rfl) ?_
  refine va_get (D := D) (ci := 2) (v := .int (no 0)) (C := RX2) (T := TX2) (N := 9) hx hb hts hinX2 hown hK.1 (xP_app.mp hP).2 0 rfl rfl 3 (by decide) (hts (.fieldLink RX2 31 "LoafMarks$Town" "hour" "I") (List.mem_of_getElem? (i := 1) rfl)) (fun _ h9 => h9) rfl dX2_becomeLike_2 ?_
  refine va_put (D := D) (ci := 2) (v := .int (no 0)) (ty := .int) (C := RX2) (T := TX2) (N := 9) hx hb hts hinX2 tyX2 tyX2_ok nmX2 hown hK.1 hP hD hS 0 rfl rfl 3 (by decide) (hts (.fieldLink RX2 31 "LoafMarks$Town" "hour" "I") (List.mem_of_getElem? (i := 1) rfl)) (fun _ h9 => h9) rfl (by decide +kernel) rfl rfl (Nat.le_of_ble_eq_true rfl) dX2_becomeLike_5 (fun H locs hP hD hS => ?_)
  have hP : va_P D vwCl (tw cy ad nS nB st bk gate (upd nu 0 (no 0)) ++ tw cy ao mS mB so bo go no) H := hP
  have hD : va_D A (tw cy ad nS nB st bk gate (upd nu 0 (no 0)) ++ tw cy ao mS mB so bo go no) := hD
  refine lv_aload_n hx hb dX2_becomeLike_8 rfl (lv_at hl 0 rfl) ?_
  refine lv_aload_n hx hb dX2_becomeLike_9 rfl (lv_at hl 1 rfl) ?_
  refine va_get (D := D) (ci := 2) (v := .int (no 1)) (C := RX2) (T := TX2) (N := 9) hx hb hts hinX2 hown hK.1 (xP_app.mp hP).2 0 rfl rfl 4 (by decide) (hts (.fieldLink RX2 27 "LoafMarks$Town" "people" "I") (List.mem_of_getElem? (i := 2) rfl)) (fun _ h9 => h9) rfl dX2_becomeLike_10 ?_
  refine va_put (D := D) (ci := 2) (v := .int (no 1)) (ty := .int) (C := RX2) (T := TX2) (N := 9) hx hb hts hinX2 tyX2 tyX2_ok nmX2 hown hK.1 hP hD hS 0 rfl rfl 4 (by decide) (hts (.fieldLink RX2 27 "LoafMarks$Town" "people" "I") (List.mem_of_getElem? (i := 2) rfl)) (fun _ h9 => h9) rfl (by decide +kernel) rfl rfl (Nat.le_of_ble_eq_true rfl) dX2_becomeLike_13 (fun H locs hP hD hS => ?_)
  have hP : va_P D vwCl (tw cy ad nS nB st bk gate (upd (upd nu 0 (no 0)) 1 (no 1)) ++ tw cy ao mS mB so bo go no) H := hP
  have hD : va_D A (tw cy ad nS nB st bk gate (upd (upd nu 0 (no 0)) 1 (no 1)) ++ tw cy ao mS mB so bo go no) := hD
  refine lv_aload_n hx hb dX2_becomeLike_16 rfl (lv_at hl 0 rfl) ?_
  refine lv_aload_n hx hb dX2_becomeLike_17 rfl (lv_at hl 1 rfl) ?_
  refine va_get (D := D) (ci := 2) (v := .int (no 2)) (C := RX2) (T := TX2) (N := 9) hx hb hts hinX2 hown hK.1 (xP_app.mp hP).2 0 rfl rfl 5 (by decide) (hts (.fieldLink RX2 34 "LoafMarks$Town" "bought" "I") (List.mem_of_getElem? (i := 3) rfl)) (fun _ h9 => h9) rfl dX2_becomeLike_18 ?_
  refine va_put (D := D) (ci := 2) (v := .int (no 2)) (ty := .int) (C := RX2) (T := TX2) (N := 9) hx hb hts hinX2 tyX2 tyX2_ok nmX2 hown hK.1 hP hD hS 0 rfl rfl 5 (by decide) (hts (.fieldLink RX2 34 "LoafMarks$Town" "bought" "I") (List.mem_of_getElem? (i := 3) rfl)) (fun _ h9 => h9) rfl (by decide +kernel) rfl rfl (Nat.le_of_ble_eq_true rfl) dX2_becomeLike_21 (fun H locs hP hD hS => ?_)
  have hP : va_P D vwCl (tw cy ad nS nB st bk gate (upd (upd (upd nu 0 (no 0)) 1 (no 1)) 2 (no 2)) ++ tw cy ao mS mB so bo go no) H := hP
  have hD : va_D A (tw cy ad nS nB st bk gate (upd (upd (upd nu 0 (no 0)) 1 (no 1)) 2 (no 2)) ++ tw cy ao mS mB so bo go no) := hD
  refine lv_aload_n hx hb dX2_becomeLike_24 rfl (lv_at hl 0 rfl) ?_
  refine lv_aload_n hx hb dX2_becomeLike_25 rfl (lv_at hl 1 rfl) ?_
  refine va_get (D := D) (ci := 2) (v := .int (no 3)) (C := RX2) (T := TX2) (N := 9) hx hb hts hinX2 hown hK.1 (xP_app.mp hP).2 0 rfl rfl 6 (by decide) (hts (.fieldLink RX2 37 "LoafMarks$Town" "light" "I") (List.mem_of_getElem? (i := 4) rfl)) (fun _ h9 => h9) rfl dX2_becomeLike_26 ?_
  refine va_put (D := D) (ci := 2) (v := .int (no 3)) (ty := .int) (C := RX2) (T := TX2) (N := 9) hx hb hts hinX2 tyX2 tyX2_ok nmX2 hown hK.1 hP hD hS 0 rfl rfl 6 (by decide) (hts (.fieldLink RX2 37 "LoafMarks$Town" "light" "I") (List.mem_of_getElem? (i := 4) rfl)) (fun _ h9 => h9) rfl (by decide +kernel) rfl rfl (Nat.le_of_ble_eq_true rfl) dX2_becomeLike_29 (fun H locs hP hD hS => ?_)
  have hP : va_P D vwCl (tw cy ad nS nB st bk gate (upd (upd (upd (upd nu 0 (no 0)) 1 (no 1)) 2 (no 2)) 3 (no 3)) ++ tw cy ao mS mB so bo go no) H := hP
  have hD : va_D A (tw cy ad nS nB st bk gate (upd (upd (upd (upd nu 0 (no 0)) 1 (no 1)) 2 (no 2)) 3 (no 3)) ++ tw cy ao mS mB so bo go no) := hD
  refine lv_aload_n hx hb dX2_becomeLike_32 rfl (lv_at hl 0 rfl) ?_
  refine lv_aload_n hx hb dX2_becomeLike_33 rfl (lv_at hl 1 rfl) ?_
  refine va_get (D := D) (ci := 2) (v := .int (no 4)) (C := RX2) (T := TX2) (N := 9) hx hb hts hinX2 hown hK.1 (xP_app.mp hP).2 0 rfl rfl 7 (by decide) (hts (.fieldLink RX2 40 "LoafMarks$Town" "hungry" "I") (List.mem_of_getElem? (i := 5) rfl)) (fun _ h9 => h9) rfl dX2_becomeLike_34 ?_
  refine va_put (D := D) (ci := 2) (v := .int (no 4)) (ty := .int) (C := RX2) (T := TX2) (N := 9) hx hb hts hinX2 tyX2 tyX2_ok nmX2 hown hK.1 hP hD hS 0 rfl rfl 7 (by decide) (hts (.fieldLink RX2 40 "LoafMarks$Town" "hungry" "I") (List.mem_of_getElem? (i := 5) rfl)) (fun _ h9 => h9) rfl (by decide +kernel) rfl rfl (Nat.le_of_ble_eq_true rfl) dX2_becomeLike_37 (fun H locs hP hD hS => ?_)
  have hP : va_P D vwCl (tw cy ad nS nB st bk gate (upd (upd (upd (upd (upd nu 0 (no 0)) 1 (no 1)) 2 (no 2)) 3 (no 3)) 4 (no 4)) ++ tw cy ao mS mB so bo go no) H := hP
  have hD : va_D A (tw cy ad nS nB st bk gate (upd (upd (upd (upd (upd nu 0 (no 0)) 1 (no 1)) 2 (no 2)) 3 (no 3)) 4 (no 4)) ++ tw cy ao mS mB so bo go no) := hD
  refine lv_aload_n hx hb dX2_becomeLike_40 rfl (lv_at hl 0 rfl) ?_
  refine lv_aload_n hx hb dX2_becomeLike_41 rfl (lv_at hl 1 rfl) ?_
  refine va_get (D := D) (ci := 2) (v := .int (no 5)) (C := RX2) (T := TX2) (N := 9) hx hb hts hinX2 hown hK.1 (xP_app.mp hP).2 0 rfl rfl 8 (by decide) (hts (.fieldLink RX2 43 "LoafMarks$Town" "lost" "I") (List.mem_of_getElem? (i := 6) rfl)) (fun _ h9 => h9) rfl dX2_becomeLike_42 ?_
  refine va_put (D := D) (ci := 2) (v := .int (no 5)) (ty := .int) (C := RX2) (T := TX2) (N := 9) hx hb hts hinX2 tyX2 tyX2_ok nmX2 hown hK.1 hP hD hS 0 rfl rfl 8 (by decide) (hts (.fieldLink RX2 43 "LoafMarks$Town" "lost" "I") (List.mem_of_getElem? (i := 6) rfl)) (fun _ h9 => h9) rfl (by decide +kernel) rfl rfl (Nat.le_of_ble_eq_true rfl) dX2_becomeLike_45 (fun H locs hP hD hS => ?_)
  have hP : va_P D vwCl (tw cy ad nS nB st bk gate (upd (upd (upd (upd (upd (upd nu 0 (no 0)) 1 (no 1)) 2 (no 2)) 3 (no 3)) 4 (no 4)) 5 (no 5)) ++ tw cy ao mS mB so bo go no) H := hP
  have hD : va_D A (tw cy ad nS nB st bk gate (upd (upd (upd (upd (upd (upd nu 0 (no 0)) 1 (no 1)) 2 (no 2)) 3 (no 3)) 4 (no 4)) 5 (no 5)) ++ tw cy ao mS mB so bo go no) := hD
  refine lv_iconst (v := 0) hx hb dX2_becomeLike_48 (by decide) ?_
  refine lv_istore_n (lv' := [(2, .int 0), (0, .ref (ad 0)), (1, .ref (ao 0))]) hx hb dX2_becomeLike_49 rfl hl (by decide) rfl (fun ls hl => ?_)
  have loop : ∀ (n i : Nat) (g : Iu) (H : Heap) (locs : List Loc) (ls : Array Slot), i + n = 24 → (∀ j, j < i → g j = go j) → va_P D vwCl (tw cy ad nS nB st bk g (upd (upd (upd (upd (upd (upd nu 0 (no 0)) 1 (no 1)) 2 (no 2)) 3 (no 3)) 4 (no 4)) 5 (no 5)) ++ tw cy ao mS mB so bo go no) H → va_D A (tw cy ad nS nB st bk g (upd (upd (upd (upd (upd (upd nu 0 (no 0)) 1 (no 1)) 2 (no 2)) 3 (no 3)) 4 (no 4)) 5 (no 5)) ++ tw cy ao mS mB so bo go no) → va_S A s.heap H locs → lv_has ls 3 [(0, .ref (ad 0)), (1, .ref (ao 0)), (2, .int (nI i))] → W p l e ({ frames := 3, cells := 10, slots := 60, locals := 80 } : Room) s m ([.ref (ad 0), .ref (ao 0)] : List Value).toArray below meth c H locs 0 0 (MQ below (xQ D A (fun _ : Nat → Nat => none) (fun a => ∀ j, j < 4 → a j = ad j) (fun a => tw cy a mS mB so bo go no ++ tw cy ao mS mB so bo go no)) ([.ref (ad 0), .ref (ao 0)] : List Value).toArray s 10 60 A) (F0 m 50 ls []) := by
    intro n
    induction n with
    | zero =>
      intro i g H locs ls hns hinv hP hD hS hl
      have hii : i = 24 := by omega
      refine lv_iload_n hx hb dX2_becomeLike_50 rfl (lv_at hl 2 rfl) ?_
      refine lv_aload_n hx hb dX2_becomeLike_51 rfl (lv_at hl 0 rfl) ?_
      refine va_get (D := D) (ci := 2) (v := .ref (ad 1)) (C := RX2) (T := TX2) (N := 9) hx hb hts hinX2 hown hK.1 hP 0 rfl rfl 0 (by decide) (hts (.fieldLink RX2 9 "LoafMarks$Town" "gate" "[I") (List.mem_of_getElem? (i := 7) rfl)) (fun _ h9 => h9) rfl dX2_becomeLike_52 ?_
      refine va_alen hx hb hK.1 hP 1 0 rfl rfl (v := 24) rfl dX2_becomeLike_55 ?_
      refine lv_icmp_ge (tgt := 76) hx hb dX2_becomeLike_56 (by decide) (fun _ => ?_) (fun h => absurd (by rw [hii]; exact Int32.le_refl _) h)
      refine lv_aload_n hx hb dX2_becomeLike_76 rfl (lv_at hl 0 rfl) ?_
      refine lv_aload_n hx hb dX2_becomeLike_77 rfl (lv_at hl 1 rfl) ?_
      refine xcV (As := [.ref (ao 0)]) (rest := []) ⟨hx, hb, hml, hown, hts⟩ (c_X2_copyStores l D cy ad ao nS nB mS mB st bk so bo g (upd (upd (upd (upd (upd (upd nu 0 (no 0)) 1 (no 1)) 2 (no 2)) 3 (no 3)) 4 (no 4)) 5 (no 5)) go no hSM hM) (cwV 1 hts gX2_becomeLike_X2_copyStores rfl rfl rfl (by decide +kernel) ⟨Nat.le_of_ble_eq_true rfl, Nat.le_of_ble_eq_true rfl⟩) hK hP hD hS hA rfl rfl rfl (xE_all) rfl hl.1 rfl (Nat.le_of_ble_eq_true rfl) dX2_becomeLike_78 ⟨Nat.le_of_ble_eq_true rfl, Nat.le_of_ble_eq_true rfl⟩ (fun a H locs ha hP hD hS => ?_)
      have hP : va_P D vwCl (tw cy a mS nB so bk g (upd (upd (upd (upd (upd (upd nu 0 (no 0)) 1 (no 1)) 2 (no 2)) 3 (no 3)) 4 (no 4)) 5 (no 5)) ++ tw cy ao mS mB so bo go no) H := hP
      have hD : va_D A (tw cy a mS nB so bk g (upd (upd (upd (upd (upd (upd nu 0 (no 0)) 1 (no 1)) 2 (no 2)) 3 (no 3)) 4 (no 4)) 5 (no 5)) ++ tw cy ao mS mB so bo go no) := hD
      refine W.eq (g2 := F0 m 81 ls []) rfl ?_
      refine lv_aload_n hx hb dX2_becomeLike_81 rfl (lv_at hl 0 rfl) ?_
      refine lv_aload_n hx hb dX2_becomeLike_82 rfl (lv_at hl 1 rfl) ?_
      refine W.eq (g2 := F0 m 83 ls [.ref (ao 0), .ref (a 0)]) (by rw [ha 0 (Or.inl (by decide))]) ?_
      refine xcV (As := [.ref (ao 0)]) (rest := []) ⟨hx, hb, hml, hown, hts⟩ (c_X2_copyBakers l D cy a ao mS nB mS mB so bk so bo g (upd (upd (upd (upd (upd (upd nu 0 (no 0)) 1 (no 1)) 2 (no 2)) 3 (no 3)) 4 (no 4)) 5 (no 5)) go no hBM hMB hM hb7) (cwV 1 hts gX2_becomeLike_X2_copyBakers rfl rfl rfl (by decide +kernel) ⟨Nat.le_of_ble_eq_true rfl, Nat.le_of_ble_eq_true rfl⟩) hK hP hD hS hA rfl rfl rfl (xE_all) rfl hl.1 rfl (Nat.le_of_ble_eq_true rfl) dX2_becomeLike_83 ⟨Nat.le_of_ble_eq_true rfl, Nat.le_of_ble_eq_true rfl⟩ (fun a2 H locs ha2 hP hD hS => ?_)
      have hP : va_P D vwCl (tw cy a2 mS mB so bo g (upd (upd (upd (upd (upd (upd nu 0 (no 0)) 1 (no 1)) 2 (no 2)) 3 (no 3)) 4 (no 4)) 5 (no 5)) ++ tw cy ao mS mB so bo go no) H := hP
      have hD : va_D A (tw cy a2 mS mB so bo g (upd (upd (upd (upd (upd (upd nu 0 (no 0)) 1 (no 1)) 2 (no 2)) 3 (no 3)) 4 (no 4)) 5 (no 5)) ++ tw cy ao mS mB so bo go no) := hD
      refine W.eq (g2 := F0 m 86 ls []) rfl ?_
      exact xrv a2 hx hb hr hlocks hS (Nat.le_of_ble_eq_true rfl) (Nat.le_of_ble_eq_true rfl) dX2_becomeLike_86 (tw_gateP (nu := no) (fun j hj => hinv j (by omega)) hP) (tw_gateD (nu := no) (g := g) hD) rfl (fun j hj => (ha2 j (by omega)).trans (ha j (Or.inl hj)))
    | succ n ih =>
      intro i g H locs ls hns hinv hP hD hS hl
      have hlt : i < 24 := by omega
      refine lv_iload_n hx hb dX2_becomeLike_50 rfl (lv_at hl 2 rfl) ?_
      refine lv_aload_n hx hb dX2_becomeLike_51 rfl (lv_at hl 0 rfl) ?_
      refine va_get (D := D) (ci := 2) (v := .ref (ad 1)) (C := RX2) (T := TX2) (N := 9) hx hb hts hinX2 hown hK.1 hP 0 rfl rfl 0 (by decide) (hts (.fieldLink RX2 9 "LoafMarks$Town" "gate" "[I") (List.mem_of_getElem? (i := 7) rfl)) (fun _ h9 => h9) rfl dX2_becomeLike_52 ?_
      refine va_alen hx hb hK.1 hP 1 0 rfl rfl (v := 24) rfl dX2_becomeLike_55 ?_
      refine lv_icmp_ge (tgt := 76) hx hb dX2_becomeLike_56 (by decide) (fun h => absurd h (nI_ge (b := 24) hlt (by omega))) (fun _ => ?_)
      refine lv_aload_n hx hb dX2_becomeLike_59 rfl (lv_at hl 0 rfl) ?_
      refine va_get (D := D) (ci := 2) (v := .ref (ad 1)) (C := RX2) (T := TX2) (N := 9) hx hb hts hinX2 hown hK.1 hP 0 rfl rfl 0 (by decide) (hts (.fieldLink RX2 9 "LoafMarks$Town" "gate" "[I") (List.mem_of_getElem? (i := 7) rfl)) (fun _ h9 => h9) rfl dX2_becomeLike_60 ?_
      refine lv_iload_n hx hb dX2_becomeLike_63 rfl (lv_at hl 2 rfl) ?_
      refine lv_aload_n hx hb dX2_becomeLike_64 rfl (lv_at hl 1 rfl) ?_
      refine lv_iload_n hx hb dX2_becomeLike_65 rfl (lv_at hl 2 rfl) ?_
      refine xcV (As := [.int (nI i)]) (rest := [.int (nI i), .ref (ad 1)]) ⟨hx, hb, hml, hown, hts⟩ (c_X2_gateAt l D cy ao mS mB so bo go no i (by omega)) (cwV 1 hts gX2_becomeLike_X2_gateAt rfl rfl rfl (by decide +kernel) ⟨Nat.le_of_ble_eq_true rfl, Nat.le_of_ble_eq_true rfl⟩) hK hP hD hS hA rfl rfl rfl (xE_r) rfl hl.1 rfl (Nat.le_of_ble_eq_true rfl) dX2_becomeLike_66 ⟨Nat.le_of_ble_eq_true rfl, Nat.le_of_ble_eq_true rfl⟩ (fun _ H locs _ hP hD hS => ?_)
      have hP : va_P D vwCl (tw cy ad nS nB st bk g (upd (upd (upd (upd (upd (upd nu 0 (no 0)) 1 (no 1)) 2 (no 2)) 3 (no 3)) 4 (no 4)) 5 (no 5)) ++ tw cy ao mS mB so bo go no) H := hP
      have hD : va_D A (tw cy ad nS nB st bk g (upd (upd (upd (upd (upd (upd nu 0 (no 0)) 1 (no 1)) 2 (no 2)) 3 (no 3)) 4 (no 4)) 5 (no 5)) ++ tw cy ao mS mB so bo go no) := hD
      refine W.eq (g2 := F0 m 69 ls [.int (go i), .int (nI i), .ref (ad 1)]) rfl ?_
      refine xiast hx hb hK hP hD hS 1 rfl i rfl (by omega) (by decide) dX2_becomeLike_69 (fun H locs hP hD hS => ?_)
      have hP : va_P D vwCl (tw cy ad nS nB st bk (upd g i (go i)) (upd (upd (upd (upd (upd (upd nu 0 (no 0)) 1 (no 1)) 2 (no 2)) 3 (no 3)) 4 (no 4)) 5 (no 5)) ++ tw cy ao mS mB so bo go no) H := hP
      have hD : va_D A (tw cy ad nS nB st bk (upd g i (go i)) (upd (upd (upd (upd (upd (upd nu 0 (no 0)) 1 (no 1)) 2 (no 2)) 3 (no 3)) 4 (no 4)) 5 (no 5)) ++ tw cy ao mS mB so bo go no) := hD
      refine lv_iinc (v := (nI (i + 1))) (lv' := [(2, .int (nI (i + 1))), (0, .ref (ad 0)), (1, .ref (ao 0))]) hx hb dX2_becomeLike_70 hl (k := 2) rfl ((nI_1 i)) (by decide) rfl (fun ls hl => ?_)
      refine lv_goto (tgt := 50) hx hb dX2_becomeLike_73 (by decide) ?_
      exact ih (i + 1) (upd g i (go i)) _ _ _ (by omega) (fun j hj => (Decidable.em (j = i)).elim (fun hji => by subst hji; exact upd_at) (fun hji => by rw [upd_ne hji]; exact hinv j (by omega))) hP hD hS (lv_sub hl [1, 2, 0] rfl)
  exact loop 24 0 gate _ _ _ (by omega) (fun j hj => absurd hj (by omega)) hP hD hS (lv_sub hl [1, 2, 0] rfl)

set_option maxHeartbeats 4000000 in
set_option maxRecDepth 100000 in
/-- Town() -/
theorem c_X2_init (l : Launch) (D : va_G) (cy : Nat → ClassId) (h : Nat) : xM l D cy yX2_init wsX2_init ({ frames := 1, cells := 3, slots := 34, locals := 12 } : Room) [.ref h] ([(h, .inr (2, [.null, .null, .null, .int 0, .int 0, .int 0, .int 0, .int 0, .int 0]))]) (fun _ : Nat → Nat => none) (fun a => a 0 = h) (fun a => tw cy a 0 0 (fun _ _ => 0) (fun _ _ => 0) (fun _ => 0) nu0) := by
  refine xM.of cX2_init 1 none RX2 (by decide +kernel) rfl rfl (Nat.le_of_ble_eq_true rfl) ?_
  intro p e s m below meth c A ls hx hb hr hts hown hlocks hml hin hK hA hP hD hS hl
  have hl : lv_has ls 1 [(0, .ref h)] := hl
  have hinX2 : ∀ w ∈ wsX20, w ∈ wsX2_init := fun _ h => List.mem_cons_of_mem _ (List.mem_append_right _ h)
  refine lv_aload_n hx hb dX2_init_0 rfl (lv_at hl 0 rfl) ?_
  refine W.objInit hx hb hown (hts (.methodLink RX2 3 objectInit) (List.mem_of_getElem? (i := 1) rfl)) (hts (.instanceMethod objectInit) (List.mem_of_getElem? (i := 2) rfl)) (hts (.code objectInit ⟨#[0xb1]⟩ 1 none) (List.mem_of_getElem? (i := 3) rfl)) rfl (by rw [hml]; exact hl.1) rfl dX2_init_1 (Nat.le_of_ble_eq_true rfl) (Nat.le_of_ble_eq_true rfl) ?_
  refine W.eq (g2 := F0 m 4 ls []) rfl ?_
  refine lv_aload_n hx hb dX2_init_4 rfl (lv_at hl 0 rfl) ?_
  refine lv_bipush (v := 24) hx hb dX2_init_5 (by decide) ?_
  refine va_newa (atype := .int) (N' := 24) (a0 := (24, .inl (fun _ => 0))) hx hb (hts (.arrayClass .int) (List.mem_of_getElem? (i := 4) rfl)) rfl hK.1 hP hD hS hA (fun _ => rfl) (by decide) (by decide) (by decide) (Nat.le_of_ble_eq_true rfl) (Nat.le_of_ble_eq_true rfl) dX2_init_7 (fun q7 cA H hK1 hP hD hS => ?_)
  obtain rfl : cA = cy 0 := x_cA hK.1 hK1 (i := 0) rfl rfl
  have hP : va_P D vwCl ([(h, .inr (2, [.null, .null, .null, .int 0, .int 0, .int 0, .int 0, .int 0, .int 0])), (q7, .inl (cy 0, 24, .inl (fun _ => 0)))]) H := hP
  have hD : va_D A ([(h, .inr (2, [.null, .null, .null, .int 0, .int 0, .int 0, .int 0, .int 0, .int 0])), (q7, .inl (cy 0, 24, .inl (fun _ => 0)))]) := hD
  refine va_putF (D := D) (ci := 2) (v := .ref q7) (ty := .array .int) (C := RX2) (T := TX2) (N := 9) hx hb hts hinX2 tyX2 tyX2_ok nmX2 hown hK.1 hP hD hS 0 rfl rfl 0 (by decide) (hts (.fieldLink RX2 9 "LoafMarks$Town" "gate" "[I") (List.mem_of_getElem? (i := 5) rfl)) (fun _ h9 => h9) rfl hin rfl (by decide +kernel) rfl rfl (Nat.le_of_ble_eq_true rfl) dX2_init_9 (fun H locs hP hD hS => ?_)
  have hP : va_P D vwCl ([(h, .inr (2, [.ref q7, .null, .null, .int 0, .int 0, .int 0, .int 0, .int 0, .int 0])), (q7, .inl (cy 0, 24, .inl (fun _ => 0)))]) H := hP
  have hD : va_D A ([(h, .inr (2, [.ref q7, .null, .null, .int 0, .int 0, .int 0, .int 0, .int 0, .int 0])), (q7, .inl (cy 0, 24, .inl (fun _ => 0)))]) := hD
  refine lv_aload_n hx hb dX2_init_12 rfl (lv_at hl 0 rfl) ?_
  refine lv_iconst (v := 4) hx hb dX2_init_13 (by decide) ?_
  refine va_newq (C := RX1) (N' := 4) hx hb hown (hts (.classLink RX2 15 RX1) (List.mem_of_getElem? (i := 6) rfl)) hK.2.1 hK.1 hP hD hS hA (by decide) (by decide) (by decide) (Nat.le_of_ble_eq_true rfl) (Nat.le_of_ble_eq_true rfl) dX2_init_14 (fun q14 cA H hK1 hP hD hS => ?_)
  obtain rfl : cA = cy 1 := x_cA hK.1 hK1 (i := 1) rfl rfl
  have hP : va_P D vwCl ([(h, .inr (2, [.ref q7, .null, .null, .int 0, .int 0, .int 0, .int 0, .int 0, .int 0])), (q7, .inl (cy 0, 24, .inl (fun _ => 0))), (q14, .inl (cy 1, 4, .inr (.inr (.inr (.inr (fun _ => none))))))]) H := hP
  have hD : va_D A ([(h, .inr (2, [.ref q7, .null, .null, .int 0, .int 0, .int 0, .int 0, .int 0, .int 0])), (q7, .inl (cy 0, 24, .inl (fun _ => 0))), (q14, .inl (cy 1, 4, .inr (.inr (.inr (.inr (fun _ => none))))))]) := hD
  refine va_putF (D := D) (ci := 2) (v := .ref q14) (ty := .array (.object "LoafMarks$Store")) (C := RX2) (T := TX2) (N := 9) hx hb hts hinX2 tyX2 tyX2_ok nmX2 hown hK.1 hP hD hS 0 rfl rfl 1 (by decide) (hts (.fieldLink RX2 17 "LoafMarks$Town" "stores" "[LLoafMarks$Store;") (List.mem_of_getElem? (i := 7) rfl)) (fun _ h9 => h9) rfl hin rfl (by decide +kernel) rfl rfl (Nat.le_of_ble_eq_true rfl) dX2_init_17 (fun H locs hP hD hS => ?_)
  have hP : va_P D vwCl ([(h, .inr (2, [.ref q7, .ref q14, .null, .int 0, .int 0, .int 0, .int 0, .int 0, .int 0])), (q7, .inl (cy 0, 24, .inl (fun _ => 0))), (q14, .inl (cy 1, 4, .inr (.inr (.inr (.inr (fun _ => none))))))]) H := hP
  have hD : va_D A ([(h, .inr (2, [.ref q7, .ref q14, .null, .int 0, .int 0, .int 0, .int 0, .int 0, .int 0])), (q7, .inl (cy 0, 24, .inl (fun _ => 0))), (q14, .inl (cy 1, 4, .inr (.inr (.inr (.inr (fun _ => none))))))]) := hD
  refine lv_aload_n hx hb dX2_init_20 rfl (lv_at hl 0 rfl) ?_
  refine lv_bipush (v := 6) hx hb dX2_init_21 (by decide) ?_
  refine va_newq (C := RX0) (N' := 6) hx hb hown (hts (.classLink RX2 21 RX0) (List.mem_of_getElem? (i := 8) rfl)) hK.2.2.1 hK.1 hP hD hS hA (by decide) (by decide) (by decide) (Nat.le_of_ble_eq_true rfl) (Nat.le_of_ble_eq_true rfl) dX2_init_23 (fun q23 cA H hK1 hP hD hS => ?_)
  obtain rfl : cA = cy 2 := x_cA hK.1 hK1 (i := 2) rfl rfl
  have hP : va_P D vwCl ([(h, .inr (2, [.ref q7, .ref q14, .null, .int 0, .int 0, .int 0, .int 0, .int 0, .int 0])), (q7, .inl (cy 0, 24, .inl (fun _ => 0))), (q14, .inl (cy 1, 4, .inr (.inr (.inr (.inr (fun _ => none)))))), (q23, .inl (cy 2, 6, .inr (.inr (.inr (.inr (fun _ => none))))))]) H := hP
  have hD : va_D A ([(h, .inr (2, [.ref q7, .ref q14, .null, .int 0, .int 0, .int 0, .int 0, .int 0, .int 0])), (q7, .inl (cy 0, 24, .inl (fun _ => 0))), (q14, .inl (cy 1, 4, .inr (.inr (.inr (.inr (fun _ => none)))))), (q23, .inl (cy 2, 6, .inr (.inr (.inr (.inr (fun _ => none))))))]) := hD
  refine va_putF (D := D) (ci := 2) (v := .ref q23) (ty := .array (.object "LoafMarks$Baker")) (C := RX2) (T := TX2) (N := 9) hx hb hts hinX2 tyX2 tyX2_ok nmX2 hown hK.1 hP hD hS 0 rfl rfl 2 (by decide) (hts (.fieldLink RX2 23 "LoafMarks$Town" "bakers" "[LLoafMarks$Baker;") (List.mem_of_getElem? (i := 9) rfl)) (fun _ h9 => h9) rfl hin rfl (by decide +kernel) rfl rfl (Nat.le_of_ble_eq_true rfl) dX2_init_26 (fun H locs hP hD hS => ?_)
  have hP : va_P D vwCl ([(h, .inr (2, [.ref q7, .ref q14, .ref q23, .int 0, .int 0, .int 0, .int 0, .int 0, .int 0])), (q7, .inl (cy 0, 24, .inl (fun _ => 0))), (q14, .inl (cy 1, 4, .inr (.inr (.inr (.inr (fun _ => none)))))), (q23, .inl (cy 2, 6, .inr (.inr (.inr (.inr (fun _ => none))))))]) H := hP
  have hD : va_D A ([(h, .inr (2, [.ref q7, .ref q14, .ref q23, .int 0, .int 0, .int 0, .int 0, .int 0, .int 0])), (q7, .inl (cy 0, 24, .inl (fun _ => 0))), (q14, .inl (cy 1, 4, .inr (.inr (.inr (.inr (fun _ => none)))))), (q23, .inl (cy 2, 6, .inr (.inr (.inr (.inr (fun _ => none))))))]) := hD
  refine lv_aload_n hx hb dX2_init_29 rfl (lv_at hl 0 rfl) ?_
  refine lv_bipush (v := 20) hx hb dX2_init_30 (by decide) ?_
  refine va_put (D := D) (ci := 2) (v := .int 20) (ty := .int) (C := RX2) (T := TX2) (N := 9) hx hb hts hinX2 tyX2 tyX2_ok nmX2 hown hK.1 hP hD hS 0 rfl rfl 4 (by decide) (hts (.fieldLink RX2 27 "LoafMarks$Town" "people" "I") (List.mem_of_getElem? (i := 10) rfl)) (fun _ h9 => h9) rfl (by decide +kernel) rfl rfl (Nat.le_of_ble_eq_true rfl) dX2_init_32 (fun H locs hP hD hS => ?_)
  have hP : va_P D vwCl ([(h, .inr (2, [.ref q7, .ref q14, .ref q23, .int 0, .int 20, .int 0, .int 0, .int 0, .int 0])), (q7, .inl (cy 0, 24, .inl (fun _ => 0))), (q14, .inl (cy 1, 4, .inr (.inr (.inr (.inr (fun _ => none)))))), (q23, .inl (cy 2, 6, .inr (.inr (.inr (.inr (fun _ => none))))))]) H := hP
  have hD : va_D A ([(h, .inr (2, [.ref q7, .ref q14, .ref q23, .int 0, .int 20, .int 0, .int 0, .int 0, .int 0])), (q7, .inl (cy 0, 24, .inl (fun _ => 0))), (q14, .inl (cy 1, 4, .inr (.inr (.inr (.inr (fun _ => none)))))), (q23, .inl (cy 2, 6, .inr (.inr (.inr (.inr (fun _ => none))))))]) := hD
  have e : tw cy (adT h q7 q14 q23) 0 0 (fun _ _ => 0) (fun _ _ => 0) (fun _ => 0) nu0 = [(h, .inr (2, [.ref q7, .ref q14, .ref q23, .int 0, .int 20, .int 0, .int 0, .int 0, .int 0])), (q7, .inl (cy 0, 24, .inl (fun _ => 0))), (q14, .inl (cy 1, 4, .inr (.inr (.inr (.inr (fun _ => none)))))), (q23, .inl (cy 2, 6, .inr (.inr (.inr (.inr (fun _ => none))))))] := by unfold tw tw4 zS zB; rw [rS_zero, rB_zero]; rfl
  exact xrv (adT h q7 q14 q23) hx hb hr hlocks hS (Nat.le_of_ble_eq_true rfl) (Nat.le_of_ble_eq_true rfl) dX2_init_35 (by rw [e]; exact hP) (by rw [e]; exact hD) rfl rfl
