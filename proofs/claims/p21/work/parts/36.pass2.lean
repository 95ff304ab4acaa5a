/-! ===== the law: its own hour, whole (laid by g36.py) ===== -/
set_option maxHeartbeats 4000000 in
set_option maxRecDepth 100000 in
/-- the hour is over -/
theorem p_g {S : Type} {p : Program} {l : Launch} {e : Env} {R : Room} {s : State} {m : MethodId} {below : List Frame} {meth : Method} {c : Code} {D : va_G} {cy : Nat → ClassId} {A : Nat → Prop} {am : Nat → Nat} {nS nB : Nat} {st bk : Nat → Iu} {gate nu : Iu} {rv : S → Option Value} {P : S → Prop} {w1 : S → va_W} {mc ms : Nat} (F : pF p s m meth c D cy A am) (hr : meth.sig.returnType = some .int) (u : S) (x : Int32) (hv : rv u = some (.int x)) (hu : P u) (hPw : ∀ H, va_P D vwCl (sw cy am nS nB st bk gate (upd (upd nu 4 (nu 4 + x)) 0 (nu 0 + 1)) []) H → va_P D vwCl (w1 u) H) (hDw : va_D A (sw cy am nS nB st bk gate (upd (upd nu 4 (nu 4 + x)) 0 (nu 0 + 1)) []) → va_D A (w1 u)) : pS p l e R s m below meth c (MQ below (xQ D A rv P w1) ([.ref (am 0)] : List Value).toArray s mc ms A) D A am 538 [(0, .ref (am 0)), (3, .int x)] (sw cy am nS nB st bk gate nu []) := by
  obtain ⟨hx, hb, hts, hown, hlocks, hml, hK, hA⟩ := F
  intro H locs ls hP hD hS hl
  have hinX4 : ∀ w ∈ wsX40, w ∈ wsX4_pass := fun _ h => List.mem_cons_of_mem _ (List.mem_append_right _ h)
  refine lv_aload_n hx hb dX4_pass_538 rfl (lv_at hl 0 rfl) ?_
  refine lv_dup hx hb dX4_pass_539 rfl ?_
  refine va_get (D := D) (ci := 4) (v := .int (nu 4)) (C := RX4) (T := TX4) (N := 9) hx hb hts hinX4 hown hK.1 hP 0 rfl rfl 7 (by decide) (hts (.fieldLink RX4 42 "LoafMarksLaw$Sim" "hungry" "I") (List.mem_of_getElem? (i := 9) rfl)) (fun _ h9 => h9) rfl dX4_pass_540 ?_
  refine lv_iload_n hx hb dX4_pass_543 rfl (lv_at hl 1 rfl) ?_
  refine lv_iadd hx hb dX4_pass_544 ?_
  refine va_put (D := D) (ci := 4) (v := .int ((nu 4) + x)) (ty := .int) (C := RX4) (T := TX4) (N := 9) hx hb hts hinX4 tyX4 tyX4_ok nmX4 hown hK.1 hP hD hS 0 rfl rfl 7 (by decide) (hts (.fieldLink RX4 42 "LoafMarksLaw$Sim" "hungry" "I") (List.mem_of_getElem? (i := 9) rfl)) (fun _ h9 => h9) rfl (by decide +kernel) rfl rfl (Nat.le_of_ble_eq_true rfl) dX4_pass_545 (fun H locs hP hD hS => ?_)
  have hP : va_P D vwCl (sw cy am nS nB st bk gate (upd nu 4 ((nu 4) + x)) []) H := hP
  have hD : va_D A (sw cy am nS nB st bk gate (upd nu 4 ((nu 4) + x)) []) := hD
  refine lv_aload_n hx hb dX4_pass_548 rfl (lv_at hl 0 rfl) ?_
  refine lv_dup hx hb dX4_pass_549 rfl ?_
  refine va_get (D := D) (ci := 4) (v := .int (nu 0)) (C := RX4) (T := TX4) (N := 9) hx hb hts hinX4 hown hK.1 hP 0 rfl rfl 4 (by decide) (hts (.fieldLink RX4 30 "LoafMarksLaw$Sim" "hour" "I") (List.mem_of_getElem? (i := 1) rfl)) (fun _ h9 => h9) rfl dX4_pass_550 ?_
  refine lv_iconst (v := 1) hx hb dX4_pass_553 (by decide) ?_
  refine lv_iadd hx hb dX4_pass_554 ?_
  refine va_put (D := D) (ci := 4) (v := .int ((nu 0) + 1)) (ty := .int) (C := RX4) (T := TX4) (N := 9) hx hb hts hinX4 tyX4 tyX4_ok nmX4 hown hK.1 hP hD hS 0 rfl rfl 4 (by decide) (hts (.fieldLink RX4 30 "LoafMarksLaw$Sim" "hour" "I") (List.mem_of_getElem? (i := 1) rfl)) (fun _ h9 => h9) rfl (by decide +kernel) rfl rfl (Nat.le_of_ble_eq_true rfl) dX4_pass_555 (fun H locs hP hD hS => ?_)
  have hP : va_P D vwCl (sw cy am nS nB st bk gate (upd (upd nu 4 ((nu 4) + x)) 0 ((nu 0) + 1)) []) H := hP
  have hD : va_D A (sw cy am nS nB st bk gate (upd (upd nu 4 ((nu 4) + x)) 0 ((nu 0) + 1)) []) := hD
  refine lv_iload_n hx hb dX4_pass_558 rfl (lv_at hl 1 rfl) ?_
  exact xri u hx hb hr hlocks hS (Nat.zero_le _) (Nat.zero_le _) dX4_pass_559 (hPw _ hP) (hDw hD) hv hu

set_option maxHeartbeats 4000000 in
/-- pass -/
theorem c_X4_pass (l : Launch) (D : va_G) (cy : Nat → ClassId) (am : Nat → Nat) (nS nB : Nat) (st bk : Nat → Iu) (gate nu : Iu) (hq : Nat) (hI : tInv nS nB gate hq (st, bk, nu)) (hq1 : hq ≤ 200000) (hcS : nS ≤ 4) (hcB : nB ≤ 6) : xM l D cy yX4_pass wsX4_pass ({ frames := 0, cells := 0, slots := 0, locals := 0 } : Room) [.ref (am 0)] (sw cy am nS nB st bk gate nu []) (fun _ : Unit => some (.int (hUnfed nS nB (hq % 24) gate (st, bk, nu)))) (fun _ => True) (fun _ => sw cy am nS nB (hour1 nS nB (hq % 24) gate (st, bk, nu)).1 (hour1 nS nB (hq % 24) gate (st, bk, nu)).2.1 gate (hour1 nS nB (hq % 24) gate (st, bk, nu)).2.2 []) := by
  refine xM.of cX4_pass 9 (some .int) RX4 (by decide +kernel) rfl rfl (Nat.le_of_ble_eq_true rfl) ?_
  intro p e s m below meth c A ls hx hb hr hts hown hlocks hml hin hK hA hP hD hS hl
  have hl : lv_has ls 9 [(0, .ref (am 0))] := hl
  have F : pF p s m meth c D cy A am := ⟨hx, hb, hts, hown, hlocks, hml, hK, hA⟩
  have hk24 : hq % 24 < 24 := Nat.mod_lt _ (by decide)
  have eh : nu 0 = nI hq := hI.2.2.2.2.1
  have hC := cart_OK (nB := nB) hI.1 (hI.2.2.2.2.2 (hq % 24) hk24)
  obtain ⟨hP1, hP2⟩ := hPre_OK hcS hq1 hI
  obtain ⟨hM1, hM2⟩ := hMorn_OK hcS hq1 hI
  -- the sale and the end
  have g422 : pS p l e { frames := 0, cells := 0, slots := 0, locals := 0 } s m below meth c (MQ below (xQ D A (fun _ : Unit => some (.int (hUnfed nS nB (hq % 24) gate (st, bk, nu)))) (fun _ => True) (fun _ => sw cy am nS nB (hour1 nS nB (hq % 24) gate (st, bk, nu)).1 (hour1 nS nB (hq % 24) gate (st, bk, nu)).2.1 gate (hour1 nS nB (hq % 24) gate (st, bk, nu)).2.2 [])) ([.ref (am 0)] : List Value).toArray s 0 0 A) D A am 422 [(0, .ref (am 0)), (1, .int (nI (hq % 24)))] (sw cy am nS nB (hMorn nS nB (hq % 24) gate (st, bk, nu)).1 (hMorn nS nB (hq % 24) gate (st, bk, nu)).2.1 gate (hMorn nS nB (hq % 24) gate (st, bk, nu)).2.2 []) := by
    have h1 : rgI 0 500 ((hMorn nS nB (hq % 24) gate (st, bk, nu)).2.2 1) := by rw [hMorn_nu _ _ _ _ _ (by decide)]; exact hI.2.2.1
    generalize hM : hMorn nS nB (hq % 24) gate (st, bk, nu) = M at hM1 hM2 h1 ⊢
    rcases Decidable.em (hq % 24 = 12) with hk | hk
    · have e1 : hour1 nS nB (hq % 24) gate (st, bk, nu) = (M.1, (slN (M.2.2 1, M.2.1, M.2.2) nB).2.1, upd (upd (slN (M.2.2 1, M.2.1, M.2.2) nB).2.2 4 ((slN (M.2.2 1, M.2.1, M.2.2) nB).2.2 4 + (slN (M.2.2 1, M.2.1, M.2.2) nB).1)) 0 ((slN (M.2.2 1, M.2.1, M.2.2) nB).2.2 0 + 1)) := by
        unfold hour1 hTick hSale
        rw [if_pos hk, hM]
        rfl
      have e2 : hUnfed nS nB (hq % 24) gate (st, bk, nu) = (slN (M.2.2 1, M.2.1, M.2.2) nB).1 := by
        unfold hUnfed
        rw [if_pos hk, hM]
        rfl
      have hsl := slN_OK (nS := nS) (nB := nB) (H := 90 * hq + 90) (S := 4 * hq + 4) (M := 500) (M.2.2 1, M.2.1, M.2.2) h1 hM2
      refine p_f (hq % 24) (by rw [hk]; rfl) hcB (fun j hj z => ?_) (fun j hj => ((hsl j (by omega)).2 j hj).2.2.2.2.2.1) F (p_g F hr () _ (by rw [e2]) trivial (fun H h => by rw [e1]; exact h) (fun h => by rw [e1]; exact h))
      have := Int32.lt_iff_toInt_lt.mp z
      have o : (0 : Int32).toInt = 0 := rfl
      have := (hsl j hj).1.1
      omega
    · have e1 : hour1 nS nB (hq % 24) gate (st, bk, nu) = (M.1, M.2.1, upd (upd M.2.2 4 (M.2.2 4 + 0)) 0 (M.2.2 0 + 1)) := by
        unfold hour1 hTick hSale
        rw [if_neg hk, hM, Int32.add_zero, upd_self]
      have e2 : hUnfed nS nB (hq % 24) gate (st, bk, nu) = 0 := by
        unfold hUnfed
        rw [if_neg hk]
      exact p_f1 (hq % 24) (fun z => hk ((nI_eq (a := hq % 24) (b := 12) (by omega) (by decide)).mp z)) hcB F (p_g F hr () 0 (by rw [e2]) trivial (fun H h => by rw [e1]; exact h) (fun h => by rw [e1]; exact h))
  -- the ovens
  have g338 := p_e (st := (hPre nS nB (hq % 24) gate (st, bk, nu)).1) (bk := (hPre nS nB (hq % 24) gate (st, bk, nu)).2.1) (nu := (hPre nS nB (hq % 24) gate (st, bk, nu)).2.2) (hq % 24) hcB (90 * hq + 90) (4 * hq) (by omega) hP2 F g422
  -- rations and weevils
  have hof : ∀ j, j < nB → ∃ i, i < nS ∧ (hCart nS (gate (hq % 24)) (st, bk, nu)).2.1 j 0 = nI i := by rw [hCart_bk]; exact fun j hj => (hI.2.1 j hj).1
  have hb7 : ∀ j, j < nB → (hCart nS (gate (hq % 24)) (st, bk, nu)).2.1 j 7 = 0 ∨ (hCart nS (gate (hq % 24)) (st, bk, nu)).2.1 j 7 = 1 := by rw [hCart_bk]; exact fun j hj => (hI.2.1 j hj).2.1
  have hbC : ∀ j, j < nB → bOK nS (90 * hq) (4 * hq) ((hCart nS (gate (hq % 24)) (st, bk, nu)).2.1 j) := by rw [hCart_bk]; exact hI.2.1
  have g100 : pS p l e { frames := 0, cells := 0, slots := 0, locals := 0 } s m below meth c (MQ below (xQ D A (fun _ : Unit => some (.int (hUnfed nS nB (hq % 24) gate (st, bk, nu)))) (fun _ => True) (fun _ => sw cy am nS nB (hour1 nS nB (hq % 24) gate (st, bk, nu)).1 (hour1 nS nB (hq % 24) gate (st, bk, nu)).2.1 gate (hour1 nS nB (hq % 24) gate (st, bk, nu)).2.2 [])) ([.ref (am 0)] : List Value).toArray s 0 0 A) D A am 100 [(0, .ref (am 0)), (1, .int (nI (hq % 24)))] (sw cy am nS nB (hCart nS (gate (hq % 24)) (st, bk, nu)).1 (hCart nS (gate (hq % 24)) (st, bk, nu)).2.1 gate (hCart nS (gate (hq % 24)) (st, bk, nu)).2.2 []) := by
    rcases Decidable.em (hq % 24 = 0) with hk | hk
    · have eP : hPre nS nB (hq % 24) gate (st, bk, nu) = (feedN (dlN ((hCart nS (gate (hq % 24)) (st, bk, nu)).1, (hCart nS (gate (hq % 24)) (st, bk, nu)).2.1) nB).1 nS, (dlN ((hCart nS (gate (hq % 24)) (st, bk, nu)).1, (hCart nS (gate (hq % 24)) (st, bk, nu)).2.1) nB).2, (hCart nS (gate (hq % 24)) (st, bk, nu)).2.2) := by
        unfold hPre
        rw [if_pos hk]
        rfl
      rw [eP] at g338
      have hdl := dlN_OK (nB := nB) (H := 90 * hq) (S := 4 * hq) hcS (by omega) ((hCart nS (gate (hq % 24)) (st, bk, nu)).1, (hCart nS (gate (hq % 24)) (st, bk, nu)).2.1) hC hbC nB (Nat.le_refl _)
      exact p_c0 (hq % 24) (by rw [hk]; decide) hcS hcB hof hb7 F (p_d0 (hq % 24) (by rw [hk]; decide) hcS hdl.1 F g338)
    · have eP : hPre nS nB (hq % 24) gate (st, bk, nu) = hCart nS (gate (hq % 24)) (st, bk, nu) := if_neg hk
      rw [eP] at g338
      have hpos : 0 < nI (hq % 24) := nI_lt (a := 0) (b := hq % 24) (by omega) (by omega)
      exact p_c1 (hq % 24) hpos hcB F (p_d1 (hq % 24) (Int32.not_le.mpr hpos) hcS F g338)
  -- the cart
  rcases Nat.eq_zero_or_pos nS with hn0 | hn0
  · have eC : hCart nS (gate (hq % 24)) (st, bk, nu) = (st, bk, nu) := if_pos hn0
    rw [eC] at g100
    exact p_a0 hq (hq % 24) eh (by omega) rfl hn0 F g100 _ _ _ hP hD hS hl
  · have hE : emp st nS < nS := emp_lt hn0
    exact p_a1 hq (hq % 24) eh (by omega) rfl hn0 hcS F (p_b (hq % 24) hk24 hn0 hcS hE (hI.1 _ hE).1 (hI.2.2.2.2.2 _ hk24) F g100) _ _ _ hP hD hS hl
