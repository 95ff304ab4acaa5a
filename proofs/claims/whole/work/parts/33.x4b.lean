/-! ===== the reference: its hour (laid by gen33.py) ===== -/
theorem i_add {x y : Int32} (h1 : -2147483648 ≤ x.toInt + y.toInt) (h2 : x.toInt + y.toInt < 2147483648) : (x + y).toInt = x.toInt + y.toInt := by
  rw [Int32.toInt_add]
  exact Int.bmod_eq_of_le (by omega) (by omega)
theorem i_sub {x y : Int32} (h1 : -2147483648 ≤ x.toInt - y.toInt) (h2 : x.toInt - y.toInt < 2147483648) : (x - y).toInt = x.toInt - y.toInt := by
  rw [Int32.toInt_sub]
  exact Int.bmod_eq_of_le (by omega) (by omega)
theorem i_900 : (900 : Int32).toInt = 900 := by decide
theorem mn_int (x y : Int32) : (mn x y).toInt = min x.toInt y.toInt := by
  unfold mn
  split
  · rename_i h; have := Int32.lt_iff_toInt_lt.mp h; omega
  · rename_i h; have := Int32.le_iff_toInt_le.mp (Int32.not_lt.mp h); omega
theorem mx_int (x y : Int32) : (mx x y).toInt = max x.toInt y.toInt := by
  unfold mx
  split
  · rename_i h; have := Int32.lt_iff_toInt_lt.mp h; omega
  · rename_i h; have := Int32.le_iff_toInt_le.mp (Int32.not_lt.mp h); omega
theorem cart_eq {f n : Int32} (h : 0 ≤ f.toInt ∧ f.toInt ≤ 900) (g : 0 ≤ n.toInt ∧ n.toInt ≤ 99) : mn 900 (f + n) = f + mn n (900 - f) ∧ mx 0 (f + n - 900) = n - mn n (900 - f) := by
  have e1 : (f + n).toInt = f.toInt + n.toInt := i_add (by omega) (by omega)
  have e2 : (900 - f).toInt = 900 - f.toInt := by rw [i_sub (by rw [i_900]; omega) (by rw [i_900]; omega), i_900]
  have e3 : (mn n (900 - f)).toInt = min n.toInt (900 - f.toInt) := by rw [mn_int, e2]
  have e4 : (f + n - 900).toInt = f.toInt + n.toInt - 900 := by rw [i_sub (by rw [i_900, e1]; omega) (by rw [i_900, e1]; omega), i_900, e1]
  refine ⟨Int32.toInt_inj.mp ?_, Int32.toInt_inj.mp ?_⟩
  · rw [mn_int, e1, i_900, i_add (by rw [e3]; omega) (by rw [e3]; omega), e3]; omega
  · rw [mx_int, e4, i_sub (by rw [e3]; omega) (by rw [e3]; omega), e3, show (0 : Int32).toInt = 0 from rfl]; omega
theorem dlN_ne (u : T2) (j : Nat) {k : Nat} (h3 : k ≠ 3) : ∀ n, (dlN u n).2 j k = u.2 j k
  | 0 => rfl
  | n + 1 => by
    show (dlStep (dlN u n) n _).2 j k = _
    unfold dlStep
    split
    · show va_up (dlN u n).2 n _ j k = _
      by_cases h : j = n
      · subst h; rw [up_at, upd_ne h3]; exact dlN_ne u j h3 j
      · rw [up_ne h]; exact dlN_ne u j h3 n
    · exact dlN_ne u j h3 n
/-- what an hour of the reference wants of the town -/
def okH (nS nB : Nat) (gate : Iu) (u : TS) : Prop := (∀ i, i < nS → 0 ≤ (u.1 i 0).toInt ∧ (u.1 i 0).toInt ≤ 900) ∧ (∀ j, j < nB → (∃ i, i < nS ∧ u.2.1 j 0 = nI i) ∧ (u.2.1 j 7 = 0 ∨ u.2.1 j 7 = 1) ∧ 0 < u.2.1 j 4) ∧ (∀ k, k < 24 → 0 ≤ (gate k).toInt ∧ (gate k).toInt ≤ 99)
/-- the hour before the ovens -/
def hPre (nS nB k : Nat) (gate : Iu) (u : TS) : TS := if k = 0 then hNight nS nB (hCart nS (gate k) u) else hCart nS (gate k) u
theorem hPre_ne (nS nB k : Nat) (gate : Iu) (u : TS) (j : Nat) {q : Nat} (h3 : q ≠ 3) : (hPre nS nB k gate u).2.1 j q = u.2.1 j q := by
  unfold hPre
  split
  · show (dlN ((hCart nS (gate k) u).1, (hCart nS (gate k) u).2.1) nB).2 j q = _
    rw [dlN_ne _ _ h3, hCart_bk]
  · rw [hCart_bk]
theorem one_ne {x : Int32} (h : x = 0 ∨ x = 1) (g : ¬ x = 1) : x = 0 := h.elim id (fun z => absurd z g)
set_option maxHeartbeats 4000000 in
set_option maxRecDepth 100000 in
/-- carts -/
theorem c_X4_carts (l : Launch) (D : va_G) (cy : Nat → ClassId) (b : Nat) (am : Nat → Nat) (thr : Int32) (nS nB : Nat) (st bk : Nat → Iu) (gate nu : Iu) (p0 : Int32) (hcS : nS ≤ 4) (hfl : ∀ i, i < nS → 0 ≤ (st i 0).toInt ∧ (st i 0).toInt ≤ 900) (hp : 0 ≤ p0.toInt ∧ p0.toInt ≤ 99) : xM l D cy yX4_carts wsX4_carts ({ frames := 1, cells := 0, slots := 0, locals := 30 } : Room) [.ref b, .int p0] (mw cy b am thr nS nB st bk gate nu) (fun _ : Unit => none) (fun _ => True) (fun _ => mw cy b am thr nS nB (hCart nS p0 (st, bk, nu)).1 (hCart nS p0 (st, bk, nu)).2.1 gate (hCart nS p0 (st, bk, nu)).2.2) := by
  refine xM.of cX4_carts 4 none RX4 (by decide +kernel) rfl rfl (Nat.le_of_ble_eq_true rfl) ?_
  intro p e s m below meth c A ls hx hb hr hts hown hlocks hml hin hK hA hP hD hS hl
  have hl : lv_has ls 4 [(0, .ref b), (1, .int p0)] := hl
  have hinX4 : ∀ w ∈ wsX40, w ∈ wsX4_carts := fun _ h => List.mem_cons_of_mem _ (List.mem_append_right _ h)
  rcases Nat.eq_zero_or_pos nS with hn0 | hn0
  · refine lv_aload_n hx hb dX4_carts_0 rfl (lv_at hl 0 rfl) ?_
    refine va_get (D := D) (ci := 4) (v := .int (nI nS)) (C := RX4) (T := TX4) (N := 8) hx hb hts hinX4 hown hK.1 hP 0 rfl rfl 1 (by decide) (hts (.fieldLink RX4 29 "LoafMarksModel" "stores" "I") (List.mem_of_getElem? (i := 1) rfl)) (fun _ h9 => h9) rfl dX4_carts_1 ?_
    refine lv_if_ne (tgt := 8) hx hb dX4_carts_4 (by decide) (fun h => absurd h (fun z => z (by rw [hn0]; rfl))) (fun _ => ?_)
    have e : hCart nS p0 (st, bk, nu) = (st, bk, nu) := if_pos hn0
    exact xrv () hx hb hr hlocks hS (Nat.le_of_ble_eq_true rfl) (Nat.le_of_ble_eq_true rfl) dX4_carts_7 (by rw [e]; exact hP) (by rw [e]; exact hD) rfl trivial
  · refine lv_aload_n hx hb dX4_carts_0 rfl (lv_at hl 0 rfl) ?_
    refine va_get (D := D) (ci := 4) (v := .int (nI nS)) (C := RX4) (T := TX4) (N := 8) hx hb hts hinX4 hown hK.1 hP 0 rfl rfl 1 (by decide) (hts (.fieldLink RX4 29 "LoafMarksModel" "stores" "I") (List.mem_of_getElem? (i := 1) rfl)) (fun _ h9 => h9) rfl dX4_carts_1 ?_
    refine lv_if_ne (tgt := 8) hx hb dX4_carts_4 (by decide) (fun _ => ?_) (fun z => absurd z (nI_ne0 hn0 (by omega)))
    refine lv_iconst (v := 0) hx hb dX4_carts_8 (by decide) ?_
    refine lv_istore_n (lv' := [(2, .int 0), (0, .ref b), (1, .int p0)]) hx hb dX4_carts_9 rfl hl (by decide) rfl (fun ls hl => ?_)
    refine lv_iconst (v := 1) hx hb dX4_carts_10 (by decide) ?_
    refine lv_istore_n (lv' := [(3, .int 1), (2, .int 0), (0, .ref b), (1, .int p0)]) hx hb dX4_carts_11 rfl hl (by decide) rfl (fun ls hl => ?_)
    have loop : ∀ (n i : Nat)  (H : Heap) (locs : List Loc) (ls : Array Slot), i + n = nS → (1 ≤ i) → va_P D vwCl (mw cy b am thr nS nB st bk gate nu) H → va_D A (mw cy b am thr nS nB st bk gate nu) → va_S A s.heap H locs → lv_has ls 4 [(0, .ref b), (1, .int p0), (2, .int (nI (emp st i))), (3, .int (nI i))] → W p l e ({ frames := 1, cells := 0, slots := 0, locals := 30 } : Room) s m ([.ref b, .int p0] : List Value).toArray below meth c H locs 0 0 (MQ below (xQ D A (fun _ : Unit => none) (fun _ => True) (fun _ => mw cy b am thr nS nB (hCart nS p0 (st, bk, nu)).1 (hCart nS p0 (st, bk, nu)).2.1 gate (hCart nS p0 (st, bk, nu)).2.2)) ([.ref b, .int p0] : List Value).toArray s 0 0 A) (F0 m 12 ls []) := by
      intro n
      induction n with
      | zero =>
        intro i  H locs ls hns hinv hP hD hS hl
        have hii : i = nS := by omega
        have hlt3 : emp st i < 4 := by have := emp_lt (st := st) (n := i) (by omega); omega
        refine lv_iload_n hx hb dX4_carts_12 rfl (lv_at hl 3 rfl) ?_
        refine lv_aload_n hx hb dX4_carts_13 rfl (lv_at hl 0 rfl) ?_
        refine va_get (D := D) (ci := 4) (v := .int (nI nS)) (C := RX4) (T := TX4) (N := 8) hx hb hts hinX4 hown hK.1 hP 0 rfl rfl 1 (by decide) (hts (.fieldLink RX4 29 "LoafMarksModel" "stores" "I") (List.mem_of_getElem? (i := 1) rfl)) (fun _ h9 => h9) rfl dX4_carts_14 ?_
        refine lv_icmp_ge (tgt := 43) hx hb dX4_carts_17 (by decide) (fun _ => ?_) (fun h => absurd (by rw [hii]; exact Int32.le_refl _) h)
        refine lv_aload_n hx hb dX4_carts_43 rfl (lv_at hl 0 rfl) ?_
        refine lv_iload_n hx hb dX4_carts_44 rfl (lv_at hl 2 rfl) ?_
        refine lv_iconst (v := 0) hx hb dX4_carts_45 (by decide) ?_
        refine xcV (As := [.int (nI (emp st i)), .int 0]) (rest := []) ⟨hx, hb, hml, hown, hts⟩ (c_X4_ba l D cy b am thr nS nB st bk gate nu (emp st i) 0 (by have := hlt3; omega) (by omega)) (cwV 2 hts gX4_carts_X4_ba rfl rfl rfl (by decide +kernel) ⟨Nat.le_of_ble_eq_true rfl, Nat.le_of_ble_eq_true rfl⟩) hK hP hD hS hA rfl rfl rfl (xE_all) rfl hl.1 rfl (Nat.le_of_ble_eq_true rfl) dX4_carts_46 ⟨Nat.le_of_ble_eq_true rfl, Nat.le_of_ble_eq_true rfl⟩ (fun _ H locs _ hP hD hS => ?_)
        have hP : va_P D vwCl (mw cy b am thr nS nB st bk gate nu) H := hP
        have hD : va_D A (mw cy b am thr nS nB st bk gate nu) := hD
        refine W.eq (g2 := F0 m 49 ls [.int (st (emp st i) 0)]) rfl ?_
        refine lv_iload_n hx hb dX4_carts_49 rfl (lv_at hl 1 rfl) ?_
        refine lv_iadd hx hb dX4_carts_50 ?_
        refine lv_istore_n (lv' := [(3, .int ((st (emp st i) 0) + p0)), (0, .ref b), (1, .int p0), (2, .int (nI (emp st i)))]) hx hb dX4_carts_51 rfl hl (by decide) rfl (fun ls hl => ?_)
        refine lv_aload_n hx hb dX4_carts_52 rfl (lv_at hl 1 rfl) ?_
        refine lv_iload_n hx hb dX4_carts_53 rfl (lv_at hl 3 rfl) ?_
        refine lv_iconst (v := 0) hx hb dX4_carts_54 (by decide) ?_
        refine lv_sipush (v := 900) hx hb dX4_carts_55 (by decide) ?_
        refine lv_iload_n hx hb dX4_carts_58 rfl (lv_at hl 0 rfl) ?_
        refine va_mmin hx hb (hml.trans hl.1.symm) hown (hts (.methodLink RX4 90 Lib.Math.min.name) (List.mem_of_getElem? (i := 2) rfl)) (hts (.static Lib.Math.min.name) (List.mem_of_getElem? (i := 3) rfl)) (hts (.initialized "java/lang/Math") (List.mem_of_getElem? (i := 4) rfl)) (hts (.code Lib.Math.min.name Lib.Math.min.code 2 (some .int)) (List.mem_of_getElem? (i := 5) rfl)) (Nat.le_of_ble_eq_true rfl) (Nat.le_of_ble_eq_true rfl) (Nat.le_of_ble_eq_true rfl) (Nat.le_of_ble_eq_true rfl) dX4_carts_59 ?_
        refine W.eq (g2 := F0 m 62 ls [.int (mn 900 ((st (emp st i) 0) + p0)), .int 0, .int (nI (emp st i)), .ref b]) rfl ?_
        refine xcV (As := [.int (nI (emp st i)), .int 0, .int (mn 900 ((st (emp st i) 0) + p0))]) (rest := []) ⟨hx, hb, hml, hown, hts⟩ (c_X4_setStore l D cy b am thr nS nB st bk gate nu (emp st i) 0 (mn 900 ((st (emp st i) 0) + p0)) (by have := hlt3; omega) (by omega)) (cwV 3 hts gX4_carts_X4_setStore rfl rfl rfl (by decide +kernel) ⟨Nat.le_of_ble_eq_true rfl, Nat.le_of_ble_eq_true rfl⟩) hK hP hD hS hA rfl rfl rfl (xE_all) rfl hl.1 rfl (Nat.le_of_ble_eq_true rfl) dX4_carts_62 ⟨Nat.le_of_ble_eq_true rfl, Nat.le_of_ble_eq_true rfl⟩ (fun _ H locs _ hP hD hS => ?_)
        have hP : va_P D vwCl (mw cy b am thr nS nB (va_up st (emp st i) (upd (st (emp st i)) 0 (mn 900 ((st (emp st i) 0) + p0)))) bk gate nu) H := hP
        have hD : va_D A (mw cy b am thr nS nB (va_up st (emp st i) (upd (st (emp st i)) 0 (mn 900 ((st (emp st i) 0) + p0)))) bk gate nu) := hD
        refine W.eq (g2 := F0 m 65 ls []) rfl ?_
        refine lv_aload_n hx hb dX4_carts_65 rfl (lv_at hl 1 rfl) ?_
        refine va_get (D := D) (ci := 4) (v := .ref (am 3)) (C := RX4) (T := TX4) (N := 8) hx hb hts hinX4 hown hK.1 hP 0 rfl rfl 7 (by decide) (hts (.fieldLink RX4 23 "LoafMarksModel" "numbers" "[I") (List.mem_of_getElem? (i := 6) rfl)) (fun _ h9 => h9) rfl dX4_carts_66 ?_
        refine lv_iconst (v := 4) hx hb dX4_carts_69 (by decide) ?_
        refine lv_dup2_11 hx hb dX4_carts_70 rfl rfl ?_
        refine xiald hx hb hK hP 4 rfl 4 (by decide) (by decide) (by decide) dX4_carts_71 ?_
        refine W.eq (g2 := F0 m 72 ls [.int (nu 5), .int 4, .ref (am 3)]) rfl ?_
        refine lv_iconst (v := 0) hx hb dX4_carts_72 (by decide) ?_
        refine lv_iload_n hx hb dX4_carts_73 rfl (lv_at hl 0 rfl) ?_
        refine lv_sipush (v := 900) hx hb dX4_carts_74 (by decide) ?_
        refine lv_isub hx hb dX4_carts_77 ?_
        refine va_mmax hx hb (hml.trans hl.1.symm) hown (hts (.methodLink RX4 73 Lib.Math.max.name) (List.mem_of_getElem? (i := 7) rfl)) (hts (.static Lib.Math.max.name) (List.mem_of_getElem? (i := 8) rfl)) (hts (.initialized "java/lang/Math") (List.mem_of_getElem? (i := 4) rfl)) (hts (.code Lib.Math.max.name Lib.Math.max.code 2 (some .int)) (List.mem_of_getElem? (i := 9) rfl)) (Nat.le_of_ble_eq_true rfl) (Nat.le_of_ble_eq_true rfl) (Nat.le_of_ble_eq_true rfl) (Nat.le_of_ble_eq_true rfl) dX4_carts_78 ?_
        refine W.eq (g2 := F0 m 81 ls [.int (mx 0 (((st (emp st i) 0) + p0) - 900)), .int (nu 5), .int 4, .ref (am 3)]) rfl ?_
        refine lv_iadd hx hb dX4_carts_81 ?_
        refine xiast hx hb hK hP hD hS 4 rfl 4 (by decide) (by decide) (by decide) dX4_carts_82 (fun H locs hP hD hS => ?_)
        have hP := hP
        have eN : upd (fN nu) 4 ((nu 5) + (mx 0 (((st (emp st i) 0) + p0) - 900))) = fN (upd nu 5 ((nu 5) + (mx 0 (((st (emp st i) 0) + p0) - 900)))) := fN_put
        have hP : va_P D vwCl (mw cy b am thr nS nB (va_up st (emp st i) (upd (st (emp st i)) 0 (mn 900 ((st (emp st i) 0) + p0)))) bk gate (upd nu 5 ((nu 5) + (mx 0 (((st (emp st i) 0) + p0) - 900))))) H := by unfold mw; rw [← eN]; exact hP
        have hD : va_D A (mw cy b am thr nS nB (va_up st (emp st i) (upd (st (emp st i)) 0 (mn 900 ((st (emp st i) 0) + p0)))) bk gate (upd nu 5 ((nu 5) + (mx 0 (((st (emp st i) 0) + p0) - 900))))) := by unfold mw; rw [← eN]; exact hD
        have hq := cart_eq (hfl (emp st i) (by have := emp_lt (st := st) (n := i) (by omega); omega)) hp
        have e : hCart nS p0 (st, bk, nu) = (va_up st (emp st i) (upd (st (emp st i)) 0 (mn 900 ((st (emp st i) 0) + p0))), bk, upd nu 5 ((nu 5) + (mx 0 (((st (emp st i) 0) + p0) - 900)))) := by
          unfold hCart
          rw [if_neg (by omega), ← hii]
          show (va_up st (emp st i) (sTake (st (emp st i)) p0), bk, _) = _
          unfold sTake
          rw [← hq.1, ← hq.2]
        exact xrv () hx hb hr hlocks hS (Nat.le_of_ble_eq_true rfl) (Nat.le_of_ble_eq_true rfl) dX4_carts_83 (by rw [e]; exact hP) (by rw [e]; exact hD) rfl trivial
      | succ n ih =>
        intro i  H locs ls hns hinv hP hD hS hl
        have hlt : i < nS := by omega
        have hlt3 : emp st i < 4 := by have := emp_lt (st := st) (n := i) (by omega); omega
        refine lv_iload_n hx hb dX4_carts_12 rfl (lv_at hl 3 rfl) ?_
        refine lv_aload_n hx hb dX4_carts_13 rfl (lv_at hl 0 rfl) ?_
        refine va_get (D := D) (ci := 4) (v := .int (nI nS)) (C := RX4) (T := TX4) (N := 8) hx hb hts hinX4 hown hK.1 hP 0 rfl rfl 1 (by decide) (hts (.fieldLink RX4 29 "LoafMarksModel" "stores" "I") (List.mem_of_getElem? (i := 1) rfl)) (fun _ h9 => h9) rfl dX4_carts_14 ?_
        refine lv_icmp_ge (tgt := 43) hx hb dX4_carts_17 (by decide) (fun h => absurd h (nI_ge (a := i) (b := nS) (by omega) (by omega))) (fun _ => ?_)
        refine lv_aload_n hx hb dX4_carts_20 rfl (lv_at hl 0 rfl) ?_
        refine lv_iload_n hx hb dX4_carts_21 rfl (lv_at hl 3 rfl) ?_
        refine lv_iconst (v := 0) hx hb dX4_carts_22 (by decide) ?_
        refine xcV (As := [.int (nI i), .int 0]) (rest := []) ⟨hx, hb, hml, hown, hts⟩ (c_X4_ba l D cy b am thr nS nB st bk gate nu i 0 (by omega) (by omega)) (cwV 2 hts gX4_carts_X4_ba rfl rfl rfl (by decide +kernel) ⟨Nat.le_of_ble_eq_true rfl, Nat.le_of_ble_eq_true rfl⟩) hK hP hD hS hA rfl rfl rfl (xE_all) rfl hl.1 rfl (Nat.le_of_ble_eq_true rfl) dX4_carts_23 ⟨Nat.le_of_ble_eq_true rfl, Nat.le_of_ble_eq_true rfl⟩ (fun _ H locs _ hP hD hS => ?_)
        have hP : va_P D vwCl (mw cy b am thr nS nB st bk gate nu) H := hP
        have hD : va_D A (mw cy b am thr nS nB st bk gate nu) := hD
        refine W.eq (g2 := F0 m 26 ls [.int (st i 0)]) rfl ?_
        refine lv_aload_n hx hb dX4_carts_26 rfl (lv_at hl 0 rfl) ?_
        refine lv_iload_n hx hb dX4_carts_27 rfl (lv_at hl 2 rfl) ?_
        refine lv_iconst (v := 0) hx hb dX4_carts_28 (by decide) ?_
        refine xcV (As := [.int (nI (emp st i)), .int 0]) (rest := [.int (st i 0)]) ⟨hx, hb, hml, hown, hts⟩ (c_X4_ba l D cy b am thr nS nB st bk gate nu (emp st i) 0 (by have := hlt3; omega) (by omega)) (cwV 2 hts gX4_carts_X4_ba rfl rfl rfl (by decide +kernel) ⟨Nat.le_of_ble_eq_true rfl, Nat.le_of_ble_eq_true rfl⟩) hK hP hD hS hA rfl rfl rfl (xE_all) rfl hl.1 rfl (Nat.le_of_ble_eq_true rfl) dX4_carts_29 ⟨Nat.le_of_ble_eq_true rfl, Nat.le_of_ble_eq_true rfl⟩ (fun _ H locs _ hP hD hS => ?_)
        have hP : va_P D vwCl (mw cy b am thr nS nB st bk gate nu) H := hP
        have hD : va_D A (mw cy b am thr nS nB st bk gate nu) := hD
        refine W.eq (g2 := F0 m 32 ls [.int (st (emp st i) 0), .int (st i 0)]) rfl ?_
        refine lv_icmp_ge (tgt := 37) hx hb dX4_carts_32 (by decide) (fun c32 => ?_) (fun c32 => ?_)
        · have ee : emp st (i + 1) = emp st i := by show (if i = 0 then 0 else if st i 0 < st (emp st i) 0 then i else emp st i) = _; rw [if_neg (by omega), if_neg (Int32.not_lt.mpr c32)]
          refine lv_iinc (v := (nI (i + 1))) (lv' := [(3, .int (nI (i + 1))), (0, .ref b), (1, .int p0), (2, .int (nI (emp st i)))]) hx hb dX4_carts_37 hl (k := 3) rfl ((nI_1 i)) (by decide) rfl (fun ls hl => ?_)
          refine lv_goto (tgt := 12) hx hb dX4_carts_40 (by decide) ?_
          exact ih (i + 1)  _ _ _ (by omega) (by omega) hP hD hS (lv_sub hl [1, 2, 3, 0] (by rw [ee]; rfl))
        · have ee : emp st (i + 1) = i := by show (if i = 0 then 0 else if st i 0 < st (emp st i) 0 then i else emp st i) = _; rw [if_neg (by omega), if_pos (Int32.not_le.mp c32)]
          refine lv_iload_n hx hb dX4_carts_35 rfl (lv_at hl 3 rfl) ?_
          refine lv_istore_n (lv' := [(2, .int (nI i)), (0, .ref b), (1, .int p0), (3, .int (nI i))]) hx hb dX4_carts_36 rfl hl (by decide) rfl (fun ls hl => ?_)
          refine lv_iinc (v := (nI (i + 1))) (lv' := [(3, .int (nI (i + 1))), (2, .int (nI i)), (0, .ref b), (1, .int p0)]) hx hb dX4_carts_37 hl (k := 3) rfl ((nI_1 i)) (by decide) rfl (fun ls hl => ?_)
          refine lv_goto (tgt := 12) hx hb dX4_carts_40 (by decide) ?_
          exact ih (i + 1)  _ _ _ (by omega) (by omega) hP hD hS (lv_sub hl [2, 3, 1, 0] (by rw [ee]; rfl))
    exact loop (nS - 1) 1  _ _ _ (by omega) (Nat.le_refl 1) hP hD hS (lv_sub hl [2, 3, 1, 0] rfl)

set_option maxHeartbeats 4000000 in
set_option maxRecDepth 100000 in
/-- night -/
theorem c_X4_night (l : Launch) (D : va_G) (cy : Nat → ClassId) (b : Nat) (am : Nat → Nat) (thr : Int32) (nS nB : Nat) (st bk : Nat → Iu) (gate nu : Iu) (hcS : nS ≤ 4) (hcB : nB ≤ 6) (hof : ∀ j, j < nB → ∃ i, i < nS ∧ bk j 0 = nI i) (hb7 : ∀ j, j < nB → bk j 7 = 0 ∨ bk j 7 = 1) : xM l D cy yX4_night wsX4_night ({ frames := 1, cells := 0, slots := 0, locals := 30 } : Room) [.ref b] (mw cy b am thr nS nB st bk gate nu) (fun _ : Unit => none) (fun _ => True) (fun _ => mw cy b am thr nS nB (feedN (dlN (st, bk) nB).1 nS) (dlN (st, bk) nB).2 gate nu) := by
  refine xM.of cX4_night 4 none RX4 (by decide +kernel) rfl rfl (Nat.le_of_ble_eq_true rfl) ?_
  intro p e s m below meth c A ls hx hb hr hts hown hlocks hml hin hK hA hP hD hS hl
  have hl : lv_has ls 4 [(0, .ref b)] := hl
  have hinX4 : ∀ w ∈ wsX40, w ∈ wsX4_night := fun _ h => List.mem_cons_of_mem _ (List.mem_append_right _ h)
  refine lv_iconst (v := 0) hx hb dX4_night_0 (by decide) ?_
  refine lv_istore_n (lv' := [(1, .int 0), (0, .ref b)]) hx hb dX4_night_1 rfl hl (by decide) rfl (fun ls hl => ?_)
  have loop : ∀ (n j : Nat)  (H : Heap) (locs : List Loc) (ls : Array Slot), j + n = nB → va_P D vwCl (mw cy b am thr nS nB ((dlN (st, bk) j).1) ((dlN (st, bk) j).2) gate nu) H → va_D A (mw cy b am thr nS nB ((dlN (st, bk) j).1) ((dlN (st, bk) j).2) gate nu) → va_S A s.heap H locs → lv_has ls 4 [(0, .ref b), (1, .int (nI j))] → W p l e ({ frames := 1, cells := 0, slots := 0, locals := 30 } : Room) s m ([.ref b] : List Value).toArray below meth c H locs 0 0 (MQ below (xQ D A (fun _ : Unit => none) (fun _ => True) (fun _ => mw cy b am thr nS nB (feedN (dlN (st, bk) nB).1 nS) (dlN (st, bk) nB).2 gate nu)) ([.ref b] : List Value).toArray s 0 0 A) (F0 m 2 ls []) := by
    intro n
    induction n with
    | zero =>
      intro j  H locs ls hns hP hD hS hl
      have hij : j = nB := by omega
      refine lv_iload_n hx hb dX4_night_2 rfl (lv_at hl 1 rfl) ?_
      refine lv_aload_n hx hb dX4_night_3 rfl (lv_at hl 0 rfl) ?_
      refine va_get (D := D) (ci := 4) (v := .int (nI nB)) (C := RX4) (T := TX4) (N := 8) hx hb hts hinX4 hown hK.1 hP 0 rfl rfl 2 (by decide) (hts (.fieldLink RX4 36 "LoafMarksModel" "bakers" "I") (List.mem_of_getElem? (i := 1) rfl)) (fun _ h9 => h9) rfl dX4_night_4 ?_
      refine lv_icmp_ge (tgt := 89) hx hb dX4_night_7 (by decide) (fun _ => ?_) (fun h => absurd (by rw [hij]; exact Int32.le_refl _) h)
      have hP : va_P D vwCl (mw cy b am thr nS nB ((dlN (st, bk) nB).1) ((dlN (st, bk) nB).2) gate nu) H := by rw [hij] at hP; exact hP
      have hD : va_D A (mw cy b am thr nS nB ((dlN (st, bk) nB).1) ((dlN (st, bk) nB).2) gate nu) := by rw [hij] at hD; exact hD
      refine lv_iconst (v := 0) hx hb dX4_night_89 (by decide) ?_
      refine lv_istore_n (lv' := [(1, .int 0), (0, .ref b)]) hx hb dX4_night_90 rfl hl (by decide) rfl (fun ls hl => ?_)
      have loop2 : ∀ (n i : Nat)  (H : Heap) (locs : List Loc) (ls : Array Slot), i + n = nS → va_P D vwCl (mw cy b am thr nS nB (feedN (dlN (st, bk) nB).1 i) ((dlN (st, bk) nB).2) gate nu) H → va_D A (mw cy b am thr nS nB (feedN (dlN (st, bk) nB).1 i) ((dlN (st, bk) nB).2) gate nu) → va_S A s.heap H locs → lv_has ls 4 [(0, .ref b), (1, .int (nI i))] → W p l e ({ frames := 1, cells := 0, slots := 0, locals := 30 } : Room) s m ([.ref b] : List Value).toArray below meth c H locs 0 0 (MQ below (xQ D A (fun _ : Unit => none) (fun _ => True) (fun _ => mw cy b am thr nS nB (feedN (dlN (st, bk) nB).1 nS) (dlN (st, bk) nB).2 gate nu)) ([.ref b] : List Value).toArray s 0 0 A) (F0 m 91 ls []) := by
        intro n
        induction n with
        | zero =>
          intro i  H locs ls hns hP hD hS hl
          have hii : i = nS := by omega
          refine lv_iload_n hx hb dX4_night_91 rfl (lv_at hl 1 rfl) ?_
          refine lv_aload_n hx hb dX4_night_92 rfl (lv_at hl 0 rfl) ?_
          refine va_get (D := D) (ci := 4) (v := .int (nI nS)) (C := RX4) (T := TX4) (N := 8) hx hb hts hinX4 hown hK.1 hP 0 rfl rfl 1 (by decide) (hts (.fieldLink RX4 29 "LoafMarksModel" "stores" "I") (List.mem_of_getElem? (i := 6) rfl)) (fun _ h9 => h9) rfl dX4_night_93 ?_
          refine lv_icmp_ge (tgt := 184) hx hb dX4_night_96 (by decide) (fun _ => ?_) (fun h => absurd (by rw [hii]; exact Int32.le_refl _) h)
          exact xrv () hx hb hr hlocks hS (Nat.le_of_ble_eq_true rfl) (Nat.le_of_ble_eq_true rfl) dX4_night_184 (by rw [hii] at hP; exact hP) (by rw [hii] at hD; exact hD) rfl trivial
        | succ n ih =>
          intro i  H locs ls hns hP hD hS hl
          have hlt : i < nS := by omega
          refine lv_iload_n hx hb dX4_night_91 rfl (lv_at hl 1 rfl) ?_
          refine lv_aload_n hx hb dX4_night_92 rfl (lv_at hl 0 rfl) ?_
          refine va_get (D := D) (ci := 4) (v := .int (nI nS)) (C := RX4) (T := TX4) (N := 8) hx hb hts hinX4 hown hK.1 hP 0 rfl rfl 1 (by decide) (hts (.fieldLink RX4 29 "LoafMarksModel" "stores" "I") (List.mem_of_getElem? (i := 6) rfl)) (fun _ h9 => h9) rfl dX4_night_93 ?_
          refine lv_icmp_ge (tgt := 184) hx hb dX4_night_96 (by decide) (fun h => absurd h (nI_ge (a := i) (b := nS) (by omega) (by omega))) (fun _ => ?_)
          refine lv_aload_n hx hb dX4_night_99 rfl (lv_at hl 0 rfl) ?_
          refine lv_iload_n hx hb dX4_night_100 rfl (lv_at hl 1 rfl) ?_
          refine lv_iconst (v := 1) hx hb dX4_night_101 (by decide) ?_
          refine xcV (As := [.int (nI i), .int 1]) (rest := []) ⟨hx, hb, hml, hown, hts⟩ (c_X4_ba l D cy b am thr nS nB (feedN (dlN (st, bk) nB).1 i) ((dlN (st, bk) nB).2) gate nu i 1 (by omega) (by omega)) (cwV 2 hts gX4_night_X4_ba rfl rfl rfl (by decide +kernel) ⟨Nat.le_of_ble_eq_true rfl, Nat.le_of_ble_eq_true rfl⟩) hK hP hD hS hA rfl rfl rfl (xE_all) rfl hl.1 rfl (Nat.le_of_ble_eq_true rfl) dX4_night_102 ⟨Nat.le_of_ble_eq_true rfl, Nat.le_of_ble_eq_true rfl⟩ (fun _ H locs _ hP hD hS => ?_)
          have hP : va_P D vwCl (mw cy b am thr nS nB (feedN (dlN (st, bk) nB).1 i) ((dlN (st, bk) nB).2) gate nu) H := hP
          have hD : va_D A (mw cy b am thr nS nB (feedN (dlN (st, bk) nB).1 i) ((dlN (st, bk) nB).2) gate nu) := hD
          refine W.eq (g2 := F0 m 105 ls [.int ((feedN (dlN (st, bk) nB).1 i) i 1)]) rfl ?_
          refine lv_istore_n (lv' := [(2, .int ((feedN (dlN (st, bk) nB).1 i) i 1)), (0, .ref b), (1, .int (nI i))]) hx hb dX4_night_105 rfl hl (by decide) rfl (fun ls hl => ?_)
          refine lv_iload_n hx hb dX4_night_106 rfl (lv_at hl 0 rfl) ?_
          refine lv_aload_n hx hb dX4_night_107 rfl (lv_at hl 1 rfl) ?_
          refine lv_iload_n hx hb dX4_night_108 rfl (lv_at hl 2 rfl) ?_
          refine lv_iconst (v := 0) hx hb dX4_night_109 (by decide) ?_
          refine xcV (As := [.int (nI i), .int 0]) (rest := [.int ((feedN (dlN (st, bk) nB).1 i) i 1)]) ⟨hx, hb, hml, hown, hts⟩ (c_X4_ba l D cy b am thr nS nB (feedN (dlN (st, bk) nB).1 i) ((dlN (st, bk) nB).2) gate nu i 0 (by omega) (by omega)) (cwV 2 hts gX4_night_X4_ba rfl rfl rfl (by decide +kernel) ⟨Nat.le_of_ble_eq_true rfl, Nat.le_of_ble_eq_true rfl⟩) hK hP hD hS hA rfl rfl rfl (xE_all) rfl hl.1 rfl (Nat.le_of_ble_eq_true rfl) dX4_night_110 ⟨Nat.le_of_ble_eq_true rfl, Nat.le_of_ble_eq_true rfl⟩ (fun _ H locs _ hP hD hS => ?_)
          have hP : va_P D vwCl (mw cy b am thr nS nB (feedN (dlN (st, bk) nB).1 i) ((dlN (st, bk) nB).2) gate nu) H := hP
          have hD : va_D A (mw cy b am thr nS nB (feedN (dlN (st, bk) nB).1 i) ((dlN (st, bk) nB).2) gate nu) := hD
          refine W.eq (g2 := F0 m 113 ls [.int ((feedN (dlN (st, bk) nB).1 i) i 0), .int ((feedN (dlN (st, bk) nB).1 i) i 1)]) rfl ?_
          refine va_mmin hx hb (hml.trans hl.1.symm) hown (hts (.methodLink RX4 90 Lib.Math.min.name) (List.mem_of_getElem? (i := 2) rfl)) (hts (.static Lib.Math.min.name) (List.mem_of_getElem? (i := 3) rfl)) (hts (.initialized "java/lang/Math") (List.mem_of_getElem? (i := 4) rfl)) (hts (.code Lib.Math.min.name Lib.Math.min.code 2 (some .int)) (List.mem_of_getElem? (i := 5) rfl)) (Nat.le_of_ble_eq_true rfl) (Nat.le_of_ble_eq_true rfl) (Nat.le_of_ble_eq_true rfl) (Nat.le_of_ble_eq_true rfl) dX4_night_113 ?_
          refine W.eq (g2 := F0 m 116 ls [.int (mn ((feedN (dlN (st, bk) nB).1 i) i 1) ((feedN (dlN (st, bk) nB).1 i) i 0))]) rfl ?_
          refine lv_istore_n (lv' := [(3, .int (mn ((feedN (dlN (st, bk) nB).1 i) i 1) ((feedN (dlN (st, bk) nB).1 i) i 0))), (2, .int ((feedN (dlN (st, bk) nB).1 i) i 1)), (0, .ref b), (1, .int (nI i))]) hx hb dX4_night_116 rfl hl (by decide) rfl (fun ls hl => ?_)
          refine lv_aload_n hx hb dX4_night_117 rfl (lv_at hl 2 rfl) ?_
          refine lv_iload_n hx hb dX4_night_118 rfl (lv_at hl 3 rfl) ?_
          refine lv_iconst (v := 0) hx hb dX4_night_119 (by decide) ?_
          refine lv_aload_n hx hb dX4_night_120 rfl (lv_at hl 2 rfl) ?_
          refine lv_iload_n hx hb dX4_night_121 rfl (lv_at hl 3 rfl) ?_
          refine lv_iconst (v := 0) hx hb dX4_night_122 (by decide) ?_
          refine xcV (As := [.int (nI i), .int 0]) (rest := [.int 0, .int (nI i), .ref b]) ⟨hx, hb, hml, hown, hts⟩ (c_X4_ba l D cy b am thr nS nB (feedN (dlN (st, bk) nB).1 i) ((dlN (st, bk) nB).2) gate nu i 0 (by omega) (by omega)) (cwV 2 hts gX4_night_X4_ba rfl rfl rfl (by decide +kernel) ⟨Nat.le_of_ble_eq_true rfl, Nat.le_of_ble_eq_true rfl⟩) hK hP hD hS hA rfl rfl rfl (xE_all) rfl hl.1 rfl (Nat.le_of_ble_eq_true rfl) dX4_night_123 ⟨Nat.le_of_ble_eq_true rfl, Nat.le_of_ble_eq_true rfl⟩ (fun _ H locs _ hP hD hS => ?_)
          have hP : va_P D vwCl (mw cy b am thr nS nB (feedN (dlN (st, bk) nB).1 i) ((dlN (st, bk) nB).2) gate nu) H := hP
          have hD : va_D A (mw cy b am thr nS nB (feedN (dlN (st, bk) nB).1 i) ((dlN (st, bk) nB).2) gate nu) := hD
          refine W.eq (g2 := F0 m 126 ls [.int ((feedN (dlN (st, bk) nB).1 i) i 0), .int 0, .int (nI i), .ref b]) rfl ?_
          refine lv_iload_n hx hb dX4_night_126 rfl (lv_at hl 0 rfl) ?_
          refine lv_isub hx hb dX4_night_127 ?_
          refine xcV (As := [.int (nI i), .int 0, .int (((feedN (dlN (st, bk) nB).1 i) i 0) - (mn ((feedN (dlN (st, bk) nB).1 i) i 1) ((feedN (dlN (st, bk) nB).1 i) i 0)))]) (rest := []) ⟨hx, hb, hml, hown, hts⟩ (c_X4_setStore l D cy b am thr nS nB (feedN (dlN (st, bk) nB).1 i) ((dlN (st, bk) nB).2) gate nu i 0 (((feedN (dlN (st, bk) nB).1 i) i 0) - (mn ((feedN (dlN (st, bk) nB).1 i) i 1) ((feedN (dlN (st, bk) nB).1 i) i 0))) (by omega) (by omega)) (cwV 3 hts gX4_night_X4_setStore rfl rfl rfl (by decide +kernel) ⟨Nat.le_of_ble_eq_true rfl, Nat.le_of_ble_eq_true rfl⟩) hK hP hD hS hA rfl rfl rfl (xE_all) rfl hl.1 rfl (Nat.le_of_ble_eq_true rfl) dX4_night_128 ⟨Nat.le_of_ble_eq_true rfl, Nat.le_of_ble_eq_true rfl⟩ (fun _ H locs _ hP hD hS => ?_)
          have hP : va_P D vwCl (mw cy b am thr nS nB (va_up (feedN (dlN (st, bk) nB).1 i) i (upd ((feedN (dlN (st, bk) nB).1 i) i) 0 (((feedN (dlN (st, bk) nB).1 i) i 0) - (mn ((feedN (dlN (st, bk) nB).1 i) i 1) ((feedN (dlN (st, bk) nB).1 i) i 0))))) ((dlN (st, bk) nB).2) gate nu) H := hP
          have hD : va_D A (mw cy b am thr nS nB (va_up (feedN (dlN (st, bk) nB).1 i) i (upd ((feedN (dlN (st, bk) nB).1 i) i) 0 (((feedN (dlN (st, bk) nB).1 i) i 0) - (mn ((feedN (dlN (st, bk) nB).1 i) i 1) ((feedN (dlN (st, bk) nB).1 i) i 0))))) ((dlN (st, bk) nB).2) gate nu) := hD
          refine W.eq (g2 := F0 m 131 ls []) rfl ?_
          refine lv_aload_n hx hb dX4_night_131 rfl (lv_at hl 2 rfl) ?_
          refine lv_iload_n hx hb dX4_night_132 rfl (lv_at hl 3 rfl) ?_
          refine lv_iconst (v := 2) hx hb dX4_night_133 (by decide) ?_
          refine lv_aload_n hx hb dX4_night_134 rfl (lv_at hl 2 rfl) ?_
          refine lv_iload_n hx hb dX4_night_135 rfl (lv_at hl 3 rfl) ?_
          refine lv_iconst (v := 2) hx hb dX4_night_136 (by decide) ?_
          refine xcV (As := [.int (nI i), .int 2]) (rest := [.int 2, .int (nI i), .ref b]) ⟨hx, hb, hml, hown, hts⟩ (c_X4_ba l D cy b am thr nS nB (va_up (feedN (dlN (st, bk) nB).1 i) i (upd ((feedN (dlN (st, bk) nB).1 i) i) 0 (((feedN (dlN (st, bk) nB).1 i) i 0) - (mn ((feedN (dlN (st, bk) nB).1 i) i 1) ((feedN (dlN (st, bk) nB).1 i) i 0))))) ((dlN (st, bk) nB).2) gate nu i 2 (by omega) (by omega)) (cwV 2 hts gX4_night_X4_ba rfl rfl rfl (by decide +kernel) ⟨Nat.le_of_ble_eq_true rfl, Nat.le_of_ble_eq_true rfl⟩) hK hP hD hS hA rfl rfl rfl (xE_all) rfl hl.1 rfl (Nat.le_of_ble_eq_true rfl) dX4_night_137 ⟨Nat.le_of_ble_eq_true rfl, Nat.le_of_ble_eq_true rfl⟩ (fun _ H locs _ hP hD hS => ?_)
          have hP : va_P D vwCl (mw cy b am thr nS nB (va_up (feedN (dlN (st, bk) nB).1 i) i (upd ((feedN (dlN (st, bk) nB).1 i) i) 0 (((feedN (dlN (st, bk) nB).1 i) i 0) - (mn ((feedN (dlN (st, bk) nB).1 i) i 1) ((feedN (dlN (st, bk) nB).1 i) i 0))))) ((dlN (st, bk) nB).2) gate nu) H := hP
          have hD : va_D A (mw cy b am thr nS nB (va_up (feedN (dlN (st, bk) nB).1 i) i (upd ((feedN (dlN (st, bk) nB).1 i) i) 0 (((feedN (dlN (st, bk) nB).1 i) i 0) - (mn ((feedN (dlN (st, bk) nB).1 i) i 1) ((feedN (dlN (st, bk) nB).1 i) i 0))))) ((dlN (st, bk) nB).2) gate nu) := hD
          refine W.eq (g2 := F0 m 140 ls [.int (((feedN (dlN (st, bk) nB).1 i) i) 2), .int 2, .int (nI i), .ref b]) (by show F0 m 140 ls (.int ((va_up (feedN (dlN (st, bk) nB).1 i) i (upd ((feedN (dlN (st, bk) nB).1 i) i) 0 (((feedN (dlN (st, bk) nB).1 i) i 0) - (mn ((feedN (dlN (st, bk) nB).1 i) i 1) ((feedN (dlN (st, bk) nB).1 i) i 0))))) i 2) :: _) = _; first | (rw [up_at]; done) | (rw [up_at]; rfl)) ?_
          refine lv_iload_n hx hb dX4_night_140 rfl (lv_at hl 0 rfl) ?_
          refine lv_iadd hx hb dX4_night_141 ?_
          refine xcV (As := [.int (nI i), .int 2, .int ((((feedN (dlN (st, bk) nB).1 i) i) 2) + (mn ((feedN (dlN (st, bk) nB).1 i) i 1) ((feedN (dlN (st, bk) nB).1 i) i 0)))]) (rest := []) ⟨hx, hb, hml, hown, hts⟩ (c_X4_setStore l D cy b am thr nS nB (va_up (feedN (dlN (st, bk) nB).1 i) i (upd ((feedN (dlN (st, bk) nB).1 i) i) 0 (((feedN (dlN (st, bk) nB).1 i) i 0) - (mn ((feedN (dlN (st, bk) nB).1 i) i 1) ((feedN (dlN (st, bk) nB).1 i) i 0))))) ((dlN (st, bk) nB).2) gate nu i 2 ((((feedN (dlN (st, bk) nB).1 i) i) 2) + (mn ((feedN (dlN (st, bk) nB).1 i) i 1) ((feedN (dlN (st, bk) nB).1 i) i 0))) (by omega) (by omega)) (cwV 3 hts gX4_night_X4_setStore rfl rfl rfl (by decide +kernel) ⟨Nat.le_of_ble_eq_true rfl, Nat.le_of_ble_eq_true rfl⟩) hK hP hD hS hA rfl rfl rfl (xE_all) rfl hl.1 rfl (Nat.le_of_ble_eq_true rfl) dX4_night_142 ⟨Nat.le_of_ble_eq_true rfl, Nat.le_of_ble_eq_true rfl⟩ (fun _ H locs _ hP hD hS => ?_)
          have hP : va_P D vwCl (mw cy b am thr nS nB (va_up (feedN (dlN (st, bk) nB).1 i) i (upd (upd ((feedN (dlN (st, bk) nB).1 i) i) 0 (((feedN (dlN (st, bk) nB).1 i) i 0) - (mn ((feedN (dlN (st, bk) nB).1 i) i 1) ((feedN (dlN (st, bk) nB).1 i) i 0)))) 2 ((((feedN (dlN (st, bk) nB).1 i) i) 2) + (mn ((feedN (dlN (st, bk) nB).1 i) i 1) ((feedN (dlN (st, bk) nB).1 i) i 0))))) ((dlN (st, bk) nB).2) gate nu) H := (by rw [← up_upd]; exact hP)
          have hD : va_D A (mw cy b am thr nS nB (va_up (feedN (dlN (st, bk) nB).1 i) i (upd (upd ((feedN (dlN (st, bk) nB).1 i) i) 0 (((feedN (dlN (st, bk) nB).1 i) i 0) - (mn ((feedN (dlN (st, bk) nB).1 i) i 1) ((feedN (dlN (st, bk) nB).1 i) i 0)))) 2 ((((feedN (dlN (st, bk) nB).1 i) i) 2) + (mn ((feedN (dlN (st, bk) nB).1 i) i 1) ((feedN (dlN (st, bk) nB).1 i) i 0))))) ((dlN (st, bk) nB).2) gate nu) := (by rw [← up_upd]; exact hD)
          refine W.eq (g2 := F0 m 145 ls []) rfl ?_
          refine lv_aload_n hx hb dX4_night_145 rfl (lv_at hl 2 rfl) ?_
          refine lv_iload_n hx hb dX4_night_146 rfl (lv_at hl 3 rfl) ?_
          refine lv_iconst (v := 1) hx hb dX4_night_147 (by decide) ?_
          refine lv_aload_n hx hb dX4_night_148 rfl (lv_at hl 2 rfl) ?_
          refine lv_iload_n hx hb dX4_night_149 rfl (lv_at hl 3 rfl) ?_
          refine lv_iconst (v := 0) hx hb dX4_night_150 (by decide) ?_
          refine xcV (As := [.int (nI i), .int 0]) (rest := [.int 1, .int (nI i), .ref b]) ⟨hx, hb, hml, hown, hts⟩ (c_X4_ba l D cy b am thr nS nB (va_up (feedN (dlN (st, bk) nB).1 i) i (upd (upd ((feedN (dlN (st, bk) nB).1 i) i) 0 (((feedN (dlN (st, bk) nB).1 i) i 0) - (mn ((feedN (dlN (st, bk) nB).1 i) i 1) ((feedN (dlN (st, bk) nB).1 i) i 0)))) 2 ((((feedN (dlN (st, bk) nB).1 i) i) 2) + (mn ((feedN (dlN (st, bk) nB).1 i) i 1) ((feedN (dlN (st, bk) nB).1 i) i 0))))) ((dlN (st, bk) nB).2) gate nu i 0 (by omega) (by omega)) (cwV 2 hts gX4_night_X4_ba rfl rfl rfl (by decide +kernel) ⟨Nat.le_of_ble_eq_true rfl, Nat.le_of_ble_eq_true rfl⟩) hK hP hD hS hA rfl rfl rfl (xE_all) rfl hl.1 rfl (Nat.le_of_ble_eq_true rfl) dX4_night_151 ⟨Nat.le_of_ble_eq_true rfl, Nat.le_of_ble_eq_true rfl⟩ (fun _ H locs _ hP hD hS => ?_)
          have hP : va_P D vwCl (mw cy b am thr nS nB (va_up (feedN (dlN (st, bk) nB).1 i) i (upd (upd ((feedN (dlN (st, bk) nB).1 i) i) 0 (((feedN (dlN (st, bk) nB).1 i) i 0) - (mn ((feedN (dlN (st, bk) nB).1 i) i 1) ((feedN (dlN (st, bk) nB).1 i) i 0)))) 2 ((((feedN (dlN (st, bk) nB).1 i) i) 2) + (mn ((feedN (dlN (st, bk) nB).1 i) i 1) ((feedN (dlN (st, bk) nB).1 i) i 0))))) ((dlN (st, bk) nB).2) gate nu) H := hP
          have hD : va_D A (mw cy b am thr nS nB (va_up (feedN (dlN (st, bk) nB).1 i) i (upd (upd ((feedN (dlN (st, bk) nB).1 i) i) 0 (((feedN (dlN (st, bk) nB).1 i) i 0) - (mn ((feedN (dlN (st, bk) nB).1 i) i 1) ((feedN (dlN (st, bk) nB).1 i) i 0)))) 2 ((((feedN (dlN (st, bk) nB).1 i) i) 2) + (mn ((feedN (dlN (st, bk) nB).1 i) i 1) ((feedN (dlN (st, bk) nB).1 i) i 0))))) ((dlN (st, bk) nB).2) gate nu) := hD
          refine W.eq (g2 := F0 m 154 ls [.int (((feedN (dlN (st, bk) nB).1 i) i 0) - (mn ((feedN (dlN (st, bk) nB).1 i) i 1) ((feedN (dlN (st, bk) nB).1 i) i 0))), .int 1, .int (nI i), .ref b]) (by show F0 m 154 ls (.int ((va_up (feedN (dlN (st, bk) nB).1 i) i (upd (upd ((feedN (dlN (st, bk) nB).1 i) i) 0 (((feedN (dlN (st, bk) nB).1 i) i 0) - (mn ((feedN (dlN (st, bk) nB).1 i) i 1) ((feedN (dlN (st, bk) nB).1 i) i 0)))) 2 ((((feedN (dlN (st, bk) nB).1 i) i) 2) + (mn ((feedN (dlN (st, bk) nB).1 i) i 1) ((feedN (dlN (st, bk) nB).1 i) i 0))))) i 0) :: _) = _; first | (rw [up_at]; done) | (rw [up_at]; rfl)) ?_
          refine lv_if_le (tgt := 172) hx hb dX4_night_154 (by decide) (fun c154 => ?_) (fun c154 => ?_)
          · refine lv_iload_n hx hb dX4_night_172 rfl (lv_at hl 1 rfl) ?_
            refine lv_iconst (v := 2) hx hb dX4_night_173 (by decide) ?_
            refine lv_idiv hx hb dX4_night_174 (by decide) ?_
            refine xcV (As := [.int (nI i), .int 1, .int (((feedN (dlN (st, bk) nB).1 i) i 1) / 2)]) (rest := []) ⟨hx, hb, hml, hown, hts⟩ (c_X4_setStore l D cy b am thr nS nB (va_up (feedN (dlN (st, bk) nB).1 i) i (upd (upd ((feedN (dlN (st, bk) nB).1 i) i) 0 (((feedN (dlN (st, bk) nB).1 i) i 0) - (mn ((feedN (dlN (st, bk) nB).1 i) i 1) ((feedN (dlN (st, bk) nB).1 i) i 0)))) 2 ((((feedN (dlN (st, bk) nB).1 i) i) 2) + (mn ((feedN (dlN (st, bk) nB).1 i) i 1) ((feedN (dlN (st, bk) nB).1 i) i 0))))) ((dlN (st, bk) nB).2) gate nu i 1 (((feedN (dlN (st, bk) nB).1 i) i 1) / 2) (by omega) (by omega)) (cwV 3 hts gX4_night_X4_setStore rfl rfl rfl (by decide +kernel) ⟨Nat.le_of_ble_eq_true rfl, Nat.le_of_ble_eq_true rfl⟩) hK hP hD hS hA rfl rfl rfl (xE_all) rfl hl.1 rfl (Nat.le_of_ble_eq_true rfl) dX4_night_175 ⟨Nat.le_of_ble_eq_true rfl, Nat.le_of_ble_eq_true rfl⟩ (fun _ H locs _ hP hD hS => ?_)
            have hP : va_P D vwCl (mw cy b am thr nS nB (va_up (feedN (dlN (st, bk) nB).1 i) i (upd (upd (upd ((feedN (dlN (st, bk) nB).1 i) i) 0 (((feedN (dlN (st, bk) nB).1 i) i 0) - (mn ((feedN (dlN (st, bk) nB).1 i) i 1) ((feedN (dlN (st, bk) nB).1 i) i 0)))) 2 ((((feedN (dlN (st, bk) nB).1 i) i) 2) + (mn ((feedN (dlN (st, bk) nB).1 i) i 1) ((feedN (dlN (st, bk) nB).1 i) i 0)))) 1 (((feedN (dlN (st, bk) nB).1 i) i 1) / 2))) ((dlN (st, bk) nB).2) gate nu) H := (by rw [← up_upd]; exact hP)
            have hD : va_D A (mw cy b am thr nS nB (va_up (feedN (dlN (st, bk) nB).1 i) i (upd (upd (upd ((feedN (dlN (st, bk) nB).1 i) i) 0 (((feedN (dlN (st, bk) nB).1 i) i 0) - (mn ((feedN (dlN (st, bk) nB).1 i) i 1) ((feedN (dlN (st, bk) nB).1 i) i 0)))) 2 ((((feedN (dlN (st, bk) nB).1 i) i) 2) + (mn ((feedN (dlN (st, bk) nB).1 i) i 1) ((feedN (dlN (st, bk) nB).1 i) i 0)))) 1 (((feedN (dlN (st, bk) nB).1 i) i 1) / 2))) ((dlN (st, bk) nB).2) gate nu) := (by rw [← up_upd]; exact hD)
            refine W.eq (g2 := F0 m 178 ls []) rfl ?_
            refine lv_iinc (v := (nI (i + 1))) (lv' := [(1, .int (nI (i + 1))), (3, .int (mn ((feedN (dlN (st, bk) nB).1 i) i 1) ((feedN (dlN (st, bk) nB).1 i) i 0))), (2, .int ((feedN (dlN (st, bk) nB).1 i) i 1)), (0, .ref b)]) hx hb dX4_night_178 hl (k := 3) rfl ((nI_1 i)) (by decide) rfl (fun ls hl => ?_)
            refine lv_goto (tgt := 91) hx hb dX4_night_181 (by decide) ?_
            have e : feedN (dlN (st, bk) nB).1 (i + 1) = va_up (feedN (dlN (st, bk) nB).1 i) i (upd (upd (upd ((feedN (dlN (st, bk) nB).1 i) i) 0 (((feedN (dlN (st, bk) nB).1 i) i 0) - (mn ((feedN (dlN (st, bk) nB).1 i) i 1) ((feedN (dlN (st, bk) nB).1 i) i 0)))) 2 ((((feedN (dlN (st, bk) nB).1 i) i) 2) + (mn ((feedN (dlN (st, bk) nB).1 i) i 1) ((feedN (dlN (st, bk) nB).1 i) i 0)))) 1 (((feedN (dlN (st, bk) nB).1 i) i 1) / 2)) := by show va_up _ _ (sFeed _) = _; unfold sFeed; rw [if_neg (Int32.not_lt.mpr c154)]; rfl
            exact ih (i + 1)  _ _ _ (by omega) (by rw [e]; exact hP) (by rw [e]; exact hD) hS (lv_sub hl [3, 0] rfl)
          · refine lv_bipush (v := 50) hx hb dX4_night_157 (by decide) ?_
            refine lv_iload_n hx hb dX4_night_159 rfl (lv_at hl 1 rfl) ?_
            refine lv_iload_n hx hb dX4_night_160 rfl (lv_at hl 1 rfl) ?_
            refine lv_iconst (v := 4) hx hb dX4_night_161 (by decide) ?_
            refine lv_idiv hx hb dX4_night_162 (by decide) ?_
            refine lv_iadd hx hb dX4_night_163 ?_
            refine lv_iconst (v := 1) hx hb dX4_night_164 (by decide) ?_
            refine lv_iadd hx hb dX4_night_165 ?_
            refine va_mmin hx hb (hml.trans hl.1.symm) hown (hts (.methodLink RX4 90 Lib.Math.min.name) (List.mem_of_getElem? (i := 2) rfl)) (hts (.static Lib.Math.min.name) (List.mem_of_getElem? (i := 3) rfl)) (hts (.initialized "java/lang/Math") (List.mem_of_getElem? (i := 4) rfl)) (hts (.code Lib.Math.min.name Lib.Math.min.code 2 (some .int)) (List.mem_of_getElem? (i := 5) rfl)) (Nat.le_of_ble_eq_true rfl) (Nat.le_of_ble_eq_true rfl) (Nat.le_of_ble_eq_true rfl) (Nat.le_of_ble_eq_true rfl) dX4_night_166 ?_
            refine W.eq (g2 := F0 m 169 ls [.int (mn 50 ((((feedN (dlN (st, bk) nB).1 i) i 1) + (((feedN (dlN (st, bk) nB).1 i) i 1) / 4)) + 1)), .int 1, .int (nI i), .ref b]) rfl ?_
            refine lv_goto (tgt := 175) hx hb dX4_night_169 (by decide) ?_
            refine xcV (As := [.int (nI i), .int 1, .int (mn 50 ((((feedN (dlN (st, bk) nB).1 i) i 1) + (((feedN (dlN (st, bk) nB).1 i) i 1) / 4)) + 1))]) (rest := []) ⟨hx, hb, hml, hown, hts⟩ (c_X4_setStore l D cy b am thr nS nB (va_up (feedN (dlN (st, bk) nB).1 i) i (upd (upd ((feedN (dlN (st, bk) nB).1 i) i) 0 (((feedN (dlN (st, bk) nB).1 i) i 0) - (mn ((feedN (dlN (st, bk) nB).1 i) i 1) ((feedN (dlN (st, bk) nB).1 i) i 0)))) 2 ((((feedN (dlN (st, bk) nB).1 i) i) 2) + (mn ((feedN (dlN (st, bk) nB).1 i) i 1) ((feedN (dlN (st, bk) nB).1 i) i 0))))) ((dlN (st, bk) nB).2) gate nu i 1 (mn 50 ((((feedN (dlN (st, bk) nB).1 i) i 1) + (((feedN (dlN (st, bk) nB).1 i) i 1) / 4)) + 1)) (by omega) (by omega)) (cwV 3 hts gX4_night_X4_setStore rfl rfl rfl (by decide +kernel) ⟨Nat.le_of_ble_eq_true rfl, Nat.le_of_ble_eq_true rfl⟩) hK hP hD hS hA rfl rfl rfl (xE_all) rfl hl.1 rfl (Nat.le_of_ble_eq_true rfl) dX4_night_175 ⟨Nat.le_of_ble_eq_true rfl, Nat.le_of_ble_eq_true rfl⟩ (fun _ H locs _ hP hD hS => ?_)
            have hP : va_P D vwCl (mw cy b am thr nS nB (va_up (feedN (dlN (st, bk) nB).1 i) i (upd (upd (upd ((feedN (dlN (st, bk) nB).1 i) i) 0 (((feedN (dlN (st, bk) nB).1 i) i 0) - (mn ((feedN (dlN (st, bk) nB).1 i) i 1) ((feedN (dlN (st, bk) nB).1 i) i 0)))) 2 ((((feedN (dlN (st, bk) nB).1 i) i) 2) + (mn ((feedN (dlN (st, bk) nB).1 i) i 1) ((feedN (dlN (st, bk) nB).1 i) i 0)))) 1 (mn 50 ((((feedN (dlN (st, bk) nB).1 i) i 1) + (((feedN (dlN (st, bk) nB).1 i) i 1) / 4)) + 1)))) ((dlN (st, bk) nB).2) gate nu) H := (by rw [← up_upd]; exact hP)
            have hD : va_D A (mw cy b am thr nS nB (va_up (feedN (dlN (st, bk) nB).1 i) i (upd (upd (upd ((feedN (dlN (st, bk) nB).1 i) i) 0 (((feedN (dlN (st, bk) nB).1 i) i 0) - (mn ((feedN (dlN (st, bk) nB).1 i) i 1) ((feedN (dlN (st, bk) nB).1 i) i 0)))) 2 ((((feedN (dlN (st, bk) nB).1 i) i) 2) + (mn ((feedN (dlN (st, bk) nB).1 i) i 1) ((feedN (dlN (st, bk) nB).1 i) i 0)))) 1 (mn 50 ((((feedN (dlN (st, bk) nB).1 i) i 1) + (((feedN (dlN (st, bk) nB).1 i) i 1) / 4)) + 1)))) ((dlN (st, bk) nB).2) gate nu) := (by rw [← up_upd]; exact hD)
            refine W.eq (g2 := F0 m 178 ls []) rfl ?_
            refine lv_iinc (v := (nI (i + 1))) (lv' := [(1, .int (nI (i + 1))), (3, .int (mn ((feedN (dlN (st, bk) nB).1 i) i 1) ((feedN (dlN (st, bk) nB).1 i) i 0))), (2, .int ((feedN (dlN (st, bk) nB).1 i) i 1)), (0, .ref b)]) hx hb dX4_night_178 hl (k := 3) rfl ((nI_1 i)) (by decide) rfl (fun ls hl => ?_)
            refine lv_goto (tgt := 91) hx hb dX4_night_181 (by decide) ?_
            have e : feedN (dlN (st, bk) nB).1 (i + 1) = va_up (feedN (dlN (st, bk) nB).1 i) i (upd (upd (upd ((feedN (dlN (st, bk) nB).1 i) i) 0 (((feedN (dlN (st, bk) nB).1 i) i 0) - (mn ((feedN (dlN (st, bk) nB).1 i) i 1) ((feedN (dlN (st, bk) nB).1 i) i 0)))) 2 ((((feedN (dlN (st, bk) nB).1 i) i) 2) + (mn ((feedN (dlN (st, bk) nB).1 i) i 1) ((feedN (dlN (st, bk) nB).1 i) i 0)))) 1 (mn 50 ((((feedN (dlN (st, bk) nB).1 i) i 1) + (((feedN (dlN (st, bk) nB).1 i) i 1) / 4)) + 1))) := by show va_up _ _ (sFeed _) = _; unfold sFeed; rw [if_pos (Int32.not_le.mp c154), mn_comm]; rfl
            exact ih (i + 1)  _ _ _ (by omega) (by rw [e]; exact hP) (by rw [e]; exact hD) hS (lv_sub hl [3, 0] rfl)
      exact loop2 nS 0  _ _ _ (by omega) hP hD hS (lv_sub hl [1, 0] rfl)
    | succ n ih =>
      intro j  H locs ls hns hP hD hS hl
      have hlt : j < nB := by omega
      obtain ⟨i, hi, hi0⟩ := hof j hlt
      have h0 : (dlN (st, bk) j).2 j 0 = nI i := by rw [dlN_0]; exact hi0
      have h7 : (dlN (st, bk) j).2 j 7 = 0 ∨ (dlN (st, bk) j).2 j 7 = 1 := by rw [dlN_ne _ _ (by decide)]; exact hb7 j hlt
      refine lv_iload_n hx hb dX4_night_2 rfl (lv_at hl 1 rfl) ?_
      refine lv_aload_n hx hb dX4_night_3 rfl (lv_at hl 0 rfl) ?_
      refine va_get (D := D) (ci := 4) (v := .int (nI nB)) (C := RX4) (T := TX4) (N := 8) hx hb hts hinX4 hown hK.1 hP 0 rfl rfl 2 (by decide) (hts (.fieldLink RX4 36 "LoafMarksModel" "bakers" "I") (List.mem_of_getElem? (i := 1) rfl)) (fun _ h9 => h9) rfl dX4_night_4 ?_
      refine lv_icmp_ge (tgt := 89) hx hb dX4_night_7 (by decide) (fun h => absurd h (nI_ge (a := j) (b := nB) (by omega) (by omega))) (fun _ => ?_)
      refine lv_aload_n hx hb dX4_night_10 rfl (lv_at hl 0 rfl) ?_
      refine lv_iload_n hx hb dX4_night_11 rfl (lv_at hl 1 rfl) ?_
      refine lv_bipush (v := 7) hx hb dX4_night_12 (by decide) ?_
      refine xcV (As := [.int (nI j), .int 7]) (rest := []) ⟨hx, hb, hml, hown, hts⟩ (c_X4_sh l D cy b am thr nS nB ((dlN (st, bk) j).1) ((dlN (st, bk) j).2) gate nu j 7 (by omega) (by omega)) (cwV 2 hts gX4_night_X4_sh rfl rfl rfl (by decide +kernel) ⟨Nat.le_of_ble_eq_true rfl, Nat.le_of_ble_eq_true rfl⟩) hK hP hD hS hA rfl rfl rfl (xE_all) rfl hl.1 rfl (Nat.le_of_ble_eq_true rfl) dX4_night_14 ⟨Nat.le_of_ble_eq_true rfl, Nat.le_of_ble_eq_true rfl⟩ (fun _ H locs _ hP hD hS => ?_)
      have hP : va_P D vwCl (mw cy b am thr nS nB ((dlN (st, bk) j).1) ((dlN (st, bk) j).2) gate nu) H := hP
      have hD : va_D A (mw cy b am thr nS nB ((dlN (st, bk) j).1) ((dlN (st, bk) j).2) gate nu) := hD
      refine W.eq (g2 := F0 m 17 ls [.int (((dlN (st, bk) j).2) j 7)]) rfl ?_
      refine lv_iconst (v := 1) hx hb dX4_night_17 (by decide) ?_
      refine lv_icmp_ne (tgt := 24) hx hb dX4_night_18 (by decide) (fun c18 => ?_) (fun c18 => ?_)
      · refine lv_aload_n hx hb dX4_night_24 rfl (lv_at hl 0 rfl) ?_
        refine lv_iload_n hx hb dX4_night_25 rfl (lv_at hl 1 rfl) ?_
        refine lv_iconst (v := 2) hx hb dX4_night_26 (by decide) ?_
        refine xcV (As := [.int (nI j), .int 2]) (rest := []) ⟨hx, hb, hml, hown, hts⟩ (c_X4_sh l D cy b am thr nS nB ((dlN (st, bk) j).1) ((dlN (st, bk) j).2) gate nu j 2 (by omega) (by omega)) (cwV 2 hts gX4_night_X4_sh rfl rfl rfl (by decide +kernel) ⟨Nat.le_of_ble_eq_true rfl, Nat.le_of_ble_eq_true rfl⟩) hK hP hD hS hA rfl rfl rfl (xE_all) rfl hl.1 rfl (Nat.le_of_ble_eq_true rfl) dX4_night_27 ⟨Nat.le_of_ble_eq_true rfl, Nat.le_of_ble_eq_true rfl⟩ (fun _ H locs _ hP hD hS => ?_)
        have hP : va_P D vwCl (mw cy b am thr nS nB ((dlN (st, bk) j).1) ((dlN (st, bk) j).2) gate nu) H := hP
        have hD : va_D A (mw cy b am thr nS nB ((dlN (st, bk) j).1) ((dlN (st, bk) j).2) gate nu) := hD
        refine W.eq (g2 := F0 m 30 ls [.int (((dlN (st, bk) j).2) j 2)]) rfl ?_
        refine lv_aload_n hx hb dX4_night_30 rfl (lv_at hl 0 rfl) ?_
        refine lv_aload_n hx hb dX4_night_31 rfl (lv_at hl 0 rfl) ?_
        refine lv_iload_n hx hb dX4_night_32 rfl (lv_at hl 1 rfl) ?_
        refine lv_iconst (v := 0) hx hb dX4_night_33 (by decide) ?_
        refine xcV (As := [.int (nI j), .int 0]) (rest := [.ref b, .int (((dlN (st, bk) j).2) j 2)]) ⟨hx, hb, hml, hown, hts⟩ (c_X4_sh l D cy b am thr nS nB ((dlN (st, bk) j).1) ((dlN (st, bk) j).2) gate nu j 0 (by omega) (by omega)) (cwV 2 hts gX4_night_X4_sh rfl rfl rfl (by decide +kernel) ⟨Nat.le_of_ble_eq_true rfl, Nat.le_of_ble_eq_true rfl⟩) hK hP hD hS hA rfl rfl rfl (xE_all) rfl hl.1 rfl (Nat.le_of_ble_eq_true rfl) dX4_night_34 ⟨Nat.le_of_ble_eq_true rfl, Nat.le_of_ble_eq_true rfl⟩ (fun _ H locs _ hP hD hS => ?_)
        have hP : va_P D vwCl (mw cy b am thr nS nB ((dlN (st, bk) j).1) ((dlN (st, bk) j).2) gate nu) H := hP
        have hD : va_D A (mw cy b am thr nS nB ((dlN (st, bk) j).1) ((dlN (st, bk) j).2) gate nu) := hD
        refine W.eq (g2 := F0 m 37 ls [.int (nI i), .ref b, .int (((dlN (st, bk) j).2) j 2)]) (by show F0 m 37 ls (.int ((dlN (st, bk) j).2 j 0) :: _) = _; rw [h0]; rfl) ?_
        refine lv_iconst (v := 0) hx hb dX4_night_37 (by decide) ?_
        refine xcV (As := [.int (nI i), .int 0]) (rest := [.int (((dlN (st, bk) j).2) j 2)]) ⟨hx, hb, hml, hown, hts⟩ (c_X4_ba l D cy b am thr nS nB ((dlN (st, bk) j).1) ((dlN (st, bk) j).2) gate nu i 0 (by omega) (by omega)) (cwV 2 hts gX4_night_X4_ba rfl rfl rfl (by decide +kernel) ⟨Nat.le_of_ble_eq_true rfl, Nat.le_of_ble_eq_true rfl⟩) hK hP hD hS hA rfl rfl rfl (xE_all) rfl hl.1 rfl (Nat.le_of_ble_eq_true rfl) dX4_night_38 ⟨Nat.le_of_ble_eq_true rfl, Nat.le_of_ble_eq_true rfl⟩ (fun _ H locs _ hP hD hS => ?_)
        have hP : va_P D vwCl (mw cy b am thr nS nB ((dlN (st, bk) j).1) ((dlN (st, bk) j).2) gate nu) H := hP
        have hD : va_D A (mw cy b am thr nS nB ((dlN (st, bk) j).1) ((dlN (st, bk) j).2) gate nu) := hD
        refine W.eq (g2 := F0 m 41 ls [.int (((dlN (st, bk) j).1) i 0), .int (((dlN (st, bk) j).2) j 2)]) rfl ?_
        refine va_mmin hx hb (hml.trans hl.1.symm) hown (hts (.methodLink RX4 90 Lib.Math.min.name) (List.mem_of_getElem? (i := 2) rfl)) (hts (.static Lib.Math.min.name) (List.mem_of_getElem? (i := 3) rfl)) (hts (.initialized "java/lang/Math") (List.mem_of_getElem? (i := 4) rfl)) (hts (.code Lib.Math.min.name Lib.Math.min.code 2 (some .int)) (List.mem_of_getElem? (i := 5) rfl)) (Nat.le_of_ble_eq_true rfl) (Nat.le_of_ble_eq_true rfl) (Nat.le_of_ble_eq_true rfl) (Nat.le_of_ble_eq_true rfl) dX4_night_41 ?_
        refine W.eq (g2 := F0 m 44 ls [.int (mn (((dlN (st, bk) j).2) j 2) (((dlN (st, bk) j).1) i 0))]) rfl ?_
        refine lv_istore_n (lv' := [(2, .int (mn (((dlN (st, bk) j).2) j 2) (((dlN (st, bk) j).1) i 0))), (0, .ref b), (1, .int (nI j))]) hx hb dX4_night_44 rfl hl (by decide) rfl (fun ls hl => ?_)
        refine lv_aload_n hx hb dX4_night_45 rfl (lv_at hl 1 rfl) ?_
        refine lv_aload_n hx hb dX4_night_46 rfl (lv_at hl 1 rfl) ?_
        refine lv_iload_n hx hb dX4_night_47 rfl (lv_at hl 2 rfl) ?_
        refine lv_iconst (v := 0) hx hb dX4_night_48 (by decide) ?_
        refine xcV (As := [.int (nI j), .int 0]) (rest := [.ref b]) ⟨hx, hb, hml, hown, hts⟩ (c_X4_sh l D cy b am thr nS nB ((dlN (st, bk) j).1) ((dlN (st, bk) j).2) gate nu j 0 (by omega) (by omega)) (cwV 2 hts gX4_night_X4_sh rfl rfl rfl (by decide +kernel) ⟨Nat.le_of_ble_eq_true rfl, Nat.le_of_ble_eq_true rfl⟩) hK hP hD hS hA rfl rfl rfl (xE_all) rfl hl.1 rfl (Nat.le_of_ble_eq_true rfl) dX4_night_49 ⟨Nat.le_of_ble_eq_true rfl, Nat.le_of_ble_eq_true rfl⟩ (fun _ H locs _ hP hD hS => ?_)
        have hP : va_P D vwCl (mw cy b am thr nS nB ((dlN (st, bk) j).1) ((dlN (st, bk) j).2) gate nu) H := hP
        have hD : va_D A (mw cy b am thr nS nB ((dlN (st, bk) j).1) ((dlN (st, bk) j).2) gate nu) := hD
        refine W.eq (g2 := F0 m 52 ls [.int (nI i), .ref b]) (by show F0 m 52 ls (.int ((dlN (st, bk) j).2 j 0) :: _) = _; rw [h0]; rfl) ?_
        refine lv_iconst (v := 0) hx hb dX4_night_52 (by decide) ?_
        refine lv_aload_n hx hb dX4_night_53 rfl (lv_at hl 1 rfl) ?_
        refine lv_aload_n hx hb dX4_night_54 rfl (lv_at hl 1 rfl) ?_
        refine lv_iload_n hx hb dX4_night_55 rfl (lv_at hl 2 rfl) ?_
        refine lv_iconst (v := 0) hx hb dX4_night_56 (by decide) ?_
        refine xcV (As := [.int (nI j), .int 0]) (rest := [.ref b, .int 0, .int (nI i), .ref b]) ⟨hx, hb, hml, hown, hts⟩ (c_X4_sh l D cy b am thr nS nB ((dlN (st, bk) j).1) ((dlN (st, bk) j).2) gate nu j 0 (by omega) (by omega)) (cwV 2 hts gX4_night_X4_sh rfl rfl rfl (by decide +kernel) ⟨Nat.le_of_ble_eq_true rfl, Nat.le_of_ble_eq_true rfl⟩) hK hP hD hS hA rfl rfl rfl (xE_all) rfl hl.1 rfl (Nat.le_of_ble_eq_true rfl) dX4_night_57 ⟨Nat.le_of_ble_eq_true rfl, Nat.le_of_ble_eq_true rfl⟩ (fun _ H locs _ hP hD hS => ?_)
        have hP : va_P D vwCl (mw cy b am thr nS nB ((dlN (st, bk) j).1) ((dlN (st, bk) j).2) gate nu) H := hP
        have hD : va_D A (mw cy b am thr nS nB ((dlN (st, bk) j).1) ((dlN (st, bk) j).2) gate nu) := hD
        refine W.eq (g2 := F0 m 60 ls [.int (nI i), .ref b, .int 0, .int (nI i), .ref b]) (by show F0 m 60 ls (.int ((dlN (st, bk) j).2 j 0) :: _) = _; rw [h0]; rfl) ?_
        refine lv_iconst (v := 0) hx hb dX4_night_60 (by decide) ?_
        refine xcV (As := [.int (nI i), .int 0]) (rest := [.int 0, .int (nI i), .ref b]) ⟨hx, hb, hml, hown, hts⟩ (c_X4_ba l D cy b am thr nS nB ((dlN (st, bk) j).1) ((dlN (st, bk) j).2) gate nu i 0 (by omega) (by omega)) (cwV 2 hts gX4_night_X4_ba rfl rfl rfl (by decide +kernel) ⟨Nat.le_of_ble_eq_true rfl, Nat.le_of_ble_eq_true rfl⟩) hK hP hD hS hA rfl rfl rfl (xE_all) rfl hl.1 rfl (Nat.le_of_ble_eq_true rfl) dX4_night_61 ⟨Nat.le_of_ble_eq_true rfl, Nat.le_of_ble_eq_true rfl⟩ (fun _ H locs _ hP hD hS => ?_)
        have hP : va_P D vwCl (mw cy b am thr nS nB ((dlN (st, bk) j).1) ((dlN (st, bk) j).2) gate nu) H := hP
        have hD : va_D A (mw cy b am thr nS nB ((dlN (st, bk) j).1) ((dlN (st, bk) j).2) gate nu) := hD
        refine W.eq (g2 := F0 m 64 ls [.int (((dlN (st, bk) j).1) i 0), .int 0, .int (nI i), .ref b]) rfl ?_
        refine lv_iload_n hx hb dX4_night_64 rfl (lv_at hl 0 rfl) ?_
        refine lv_isub hx hb dX4_night_65 ?_
        refine xcV (As := [.int (nI i), .int 0, .int ((((dlN (st, bk) j).1) i 0) - (mn (((dlN (st, bk) j).2) j 2) (((dlN (st, bk) j).1) i 0)))]) (rest := []) ⟨hx, hb, hml, hown, hts⟩ (c_X4_setStore l D cy b am thr nS nB ((dlN (st, bk) j).1) ((dlN (st, bk) j).2) gate nu i 0 ((((dlN (st, bk) j).1) i 0) - (mn (((dlN (st, bk) j).2) j 2) (((dlN (st, bk) j).1) i 0))) (by omega) (by omega)) (cwV 3 hts gX4_night_X4_setStore rfl rfl rfl (by decide +kernel) ⟨Nat.le_of_ble_eq_true rfl, Nat.le_of_ble_eq_true rfl⟩) hK hP hD hS hA rfl rfl rfl (xE_all) rfl hl.1 rfl (Nat.le_of_ble_eq_true rfl) dX4_night_66 ⟨Nat.le_of_ble_eq_true rfl, Nat.le_of_ble_eq_true rfl⟩ (fun _ H locs _ hP hD hS => ?_)
        have hP : va_P D vwCl (mw cy b am thr nS nB (va_up ((dlN (st, bk) j).1) i (upd (((dlN (st, bk) j).1) i) 0 ((((dlN (st, bk) j).1) i 0) - (mn (((dlN (st, bk) j).2) j 2) (((dlN (st, bk) j).1) i 0))))) ((dlN (st, bk) j).2) gate nu) H := hP
        have hD : va_D A (mw cy b am thr nS nB (va_up ((dlN (st, bk) j).1) i (upd (((dlN (st, bk) j).1) i) 0 ((((dlN (st, bk) j).1) i 0) - (mn (((dlN (st, bk) j).2) j 2) (((dlN (st, bk) j).1) i 0))))) ((dlN (st, bk) j).2) gate nu) := hD
        refine W.eq (g2 := F0 m 69 ls []) rfl ?_
        refine lv_aload_n hx hb dX4_night_69 rfl (lv_at hl 1 rfl) ?_
        refine lv_iload_n hx hb dX4_night_70 rfl (lv_at hl 2 rfl) ?_
        refine lv_iconst (v := 3) hx hb dX4_night_71 (by decide) ?_
        refine lv_aload_n hx hb dX4_night_72 rfl (lv_at hl 1 rfl) ?_
        refine lv_iload_n hx hb dX4_night_73 rfl (lv_at hl 2 rfl) ?_
        refine lv_iconst (v := 3) hx hb dX4_night_74 (by decide) ?_
        refine xcV (As := [.int (nI j), .int 3]) (rest := [.int 3, .int (nI j), .ref b]) ⟨hx, hb, hml, hown, hts⟩ (c_X4_sh l D cy b am thr nS nB (va_up ((dlN (st, bk) j).1) i (upd (((dlN (st, bk) j).1) i) 0 ((((dlN (st, bk) j).1) i 0) - (mn (((dlN (st, bk) j).2) j 2) (((dlN (st, bk) j).1) i 0))))) ((dlN (st, bk) j).2) gate nu j 3 (by omega) (by omega)) (cwV 2 hts gX4_night_X4_sh rfl rfl rfl (by decide +kernel) ⟨Nat.le_of_ble_eq_true rfl, Nat.le_of_ble_eq_true rfl⟩) hK hP hD hS hA rfl rfl rfl (xE_all) rfl hl.1 rfl (Nat.le_of_ble_eq_true rfl) dX4_night_75 ⟨Nat.le_of_ble_eq_true rfl, Nat.le_of_ble_eq_true rfl⟩ (fun _ H locs _ hP hD hS => ?_)
        have hP : va_P D vwCl (mw cy b am thr nS nB (va_up ((dlN (st, bk) j).1) i (upd (((dlN (st, bk) j).1) i) 0 ((((dlN (st, bk) j).1) i 0) - (mn (((dlN (st, bk) j).2) j 2) (((dlN (st, bk) j).1) i 0))))) ((dlN (st, bk) j).2) gate nu) H := hP
        have hD : va_D A (mw cy b am thr nS nB (va_up ((dlN (st, bk) j).1) i (upd (((dlN (st, bk) j).1) i) 0 ((((dlN (st, bk) j).1) i 0) - (mn (((dlN (st, bk) j).2) j 2) (((dlN (st, bk) j).1) i 0))))) ((dlN (st, bk) j).2) gate nu) := hD
        refine W.eq (g2 := F0 m 78 ls [.int (((dlN (st, bk) j).2) j 3), .int 3, .int (nI j), .ref b]) rfl ?_
        refine lv_iload_n hx hb dX4_night_78 rfl (lv_at hl 0 rfl) ?_
        refine lv_iadd hx hb dX4_night_79 ?_
        refine xcV (As := [.int (nI j), .int 3, .int ((((dlN (st, bk) j).2) j 3) + (mn (((dlN (st, bk) j).2) j 2) (((dlN (st, bk) j).1) i 0)))]) (rest := []) ⟨hx, hb, hml, hown, hts⟩ (c_X4_put l D cy b am thr nS nB (va_up ((dlN (st, bk) j).1) i (upd (((dlN (st, bk) j).1) i) 0 ((((dlN (st, bk) j).1) i 0) - (mn (((dlN (st, bk) j).2) j 2) (((dlN (st, bk) j).1) i 0))))) ((dlN (st, bk) j).2) gate nu j 3 ((((dlN (st, bk) j).2) j 3) + (mn (((dlN (st, bk) j).2) j 2) (((dlN (st, bk) j).1) i 0))) (by omega) (by omega)) (cwV 3 hts gX4_night_X4_put rfl rfl rfl (by decide +kernel) ⟨Nat.le_of_ble_eq_true rfl, Nat.le_of_ble_eq_true rfl⟩) hK hP hD hS hA rfl rfl rfl (xE_all) rfl hl.1 rfl (Nat.le_of_ble_eq_true rfl) dX4_night_80 ⟨Nat.le_of_ble_eq_true rfl, Nat.le_of_ble_eq_true rfl⟩ (fun _ H locs _ hP hD hS => ?_)
        have hP : va_P D vwCl (mw cy b am thr nS nB (va_up ((dlN (st, bk) j).1) i (upd (((dlN (st, bk) j).1) i) 0 ((((dlN (st, bk) j).1) i 0) - (mn (((dlN (st, bk) j).2) j 2) (((dlN (st, bk) j).1) i 0))))) (va_up ((dlN (st, bk) j).2) j (upd (((dlN (st, bk) j).2) j) 3 ((((dlN (st, bk) j).2) j 3) + (mn (((dlN (st, bk) j).2) j 2) (((dlN (st, bk) j).1) i 0))))) gate nu) H := hP
        have hD : va_D A (mw cy b am thr nS nB (va_up ((dlN (st, bk) j).1) i (upd (((dlN (st, bk) j).1) i) 0 ((((dlN (st, bk) j).1) i 0) - (mn (((dlN (st, bk) j).2) j 2) (((dlN (st, bk) j).1) i 0))))) (va_up ((dlN (st, bk) j).2) j (upd (((dlN (st, bk) j).2) j) 3 ((((dlN (st, bk) j).2) j 3) + (mn (((dlN (st, bk) j).2) j 2) (((dlN (st, bk) j).1) i 0))))) gate nu) := hD
        refine W.eq (g2 := F0 m 83 ls []) rfl ?_
        refine lv_iinc (v := (nI (j + 1))) (lv' := [(1, .int (nI (j + 1))), (2, .int (mn (((dlN (st, bk) j).2) j 2) (((dlN (st, bk) j).1) i 0))), (0, .ref b)]) hx hb dX4_night_83 hl (k := 2) rfl ((nI_1 j)) (by decide) rfl (fun ls hl => ?_)
        refine lv_goto (tgt := 2) hx hb dX4_night_86 (by decide) ?_
        have hz := one_ne h7 c18
        have e : dlN (st, bk) (j + 1) = (va_up (dlN (st, bk) j).1 i (upd ((dlN (st, bk) j).1 i) 0 ((dlN (st, bk) j).1 i 0 - mn ((dlN (st, bk) j).2 j 2) ((dlN (st, bk) j).1 i 0))), va_up (dlN (st, bk) j).2 j (upd ((dlN (st, bk) j).2 j) 3 ((dlN (st, bk) j).2 j 3 + mn ((dlN (st, bk) j).2 j 2) ((dlN (st, bk) j).1 i 0)))) := by show dlStep _ _ _ = _; rw [h0, nI_clamp (by omega)]; exact if_pos hz
        exact ih (j + 1)  _ _ _ (by omega) (by rw [e]; exact hP) (by rw [e]; exact hD) hS (lv_sub hl [2, 0] rfl)
      · refine lv_goto (tgt := 83) hx hb dX4_night_21 (by decide) ?_
        refine lv_iinc (v := (nI (j + 1))) (lv' := [(1, .int (nI (j + 1))), (0, .ref b)]) hx hb dX4_night_83 hl (k := 1) rfl ((nI_1 j)) (by decide) rfl (fun ls hl => ?_)
        refine lv_goto (tgt := 2) hx hb dX4_night_86 (by decide) ?_
        have e : dlN (st, bk) (j + 1) = (dlN (st, bk) j) := by show dlStep _ _ _ = _; exact if_neg (by rw [c18]; decide)
        exact ih (j + 1)  _ _ _ (by omega) (by rw [e]; exact hP) (by rw [e]; exact hD) hS (lv_sub hl [1, 0] rfl)
  exact loop nB 0  _ _ _ (by omega) hP hD hS (lv_sub hl [1, 0] rfl)

set_option maxHeartbeats 4000000 in
set_option maxRecDepth 100000 in
/-- noon -/
theorem c_X4_noon (l : Launch) (D : va_G) (cy : Nat → ClassId) (b : Nat) (am : Nat → Nat) (thr : Int32) (nS nB : Nat) (st bk : Nat → Iu) (gate nu : Iu) (hcB : nB ≤ 6) : xM l D cy yX4_noon wsX4_noon ({ frames := 1, cells := 0, slots := 0, locals := 30 } : Room) [.ref b] (mw cy b am thr nS nB st bk gate nu) (fun _ : Unit => none) (fun _ => True) (fun _ => mw cy b am thr nS nB (hNoon nB (st, bk, nu)).1 (hNoon nB (st, bk, nu)).2.1 gate (hNoon nB (st, bk, nu)).2.2) := by
  refine xM.of cX4_noon 4 none RX4 (by decide +kernel) rfl rfl (Nat.le_of_ble_eq_true rfl) ?_
  intro p e s m below meth c A ls hx hb hr hts hown hlocks hml hin hK hA hP hD hS hl
  have hl : lv_has ls 4 [(0, .ref b)] := hl
  have hinX4 : ∀ w ∈ wsX40, w ∈ wsX4_noon := fun _ h => List.mem_cons_of_mem _ (List.mem_append_right _ h)
  refine lv_aload_n hx hb dX4_noon_0 rfl (lv_at hl 0 rfl) ?_
  refine va_get (D := D) (ci := 4) (v := .int (nu 1)) (C := RX4) (T := TX4) (N := 8) hx hb hts hinX4 hown hK.1 hP 0 rfl rfl 3 (by decide) (hts (.fieldLink RX4 7 "LoafMarksModel" "people" "I") (List.mem_of_getElem? (i := 1) rfl)) (fun _ h9 => h9) rfl dX4_noon_1 ?_
  refine lv_istore_n (lv' := [(1, .int (nu 1)), (0, .ref b)]) hx hb dX4_noon_4 rfl hl (by decide) rfl (fun ls hl => ?_)
  refine lv_iconst (v := 0) hx hb dX4_noon_5 (by decide) ?_
  refine lv_istore_n (lv' := [(2, .int 0), (1, .int (nu 1)), (0, .ref b)]) hx hb dX4_noon_6 rfl hl (by decide) rfl (fun ls hl => ?_)
  have loop : ∀ (n j : Nat)  (H : Heap) (locs : List Loc) (ls : Array Slot), j + n = nB → va_P D vwCl (mw cy b am thr nS nB st ((slN (nu 1, bk, nu) j).2.1) gate ((slN (nu 1, bk, nu) j).2.2)) H → va_D A (mw cy b am thr nS nB st ((slN (nu 1, bk, nu) j).2.1) gate ((slN (nu 1, bk, nu) j).2.2)) → va_S A s.heap H locs → lv_has ls 4 [(0, .ref b), (1, .int ((slN (nu 1, bk, nu) j).1)), (2, .int (nI j))] → W p l e ({ frames := 1, cells := 0, slots := 0, locals := 30 } : Room) s m ([.ref b] : List Value).toArray below meth c H locs 0 0 (MQ below (xQ D A (fun _ : Unit => none) (fun _ => True) (fun _ => mw cy b am thr nS nB (hNoon nB (st, bk, nu)).1 (hNoon nB (st, bk, nu)).2.1 gate (hNoon nB (st, bk, nu)).2.2)) ([.ref b] : List Value).toArray s 0 0 A) (F0 m 7 ls []) := by
    intro n
    induction n with
    | zero =>
      intro j  H locs ls hns hP hD hS hl
      have hij : j = nB := by omega
      refine lv_iload_n hx hb dX4_noon_7 rfl (lv_at hl 2 rfl) ?_
      refine lv_aload_n hx hb dX4_noon_8 rfl (lv_at hl 0 rfl) ?_
      refine va_get (D := D) (ci := 4) (v := .int (nI nB)) (C := RX4) (T := TX4) (N := 8) hx hb hts hinX4 hown hK.1 hP 0 rfl rfl 2 (by decide) (hts (.fieldLink RX4 36 "LoafMarksModel" "bakers" "I") (List.mem_of_getElem? (i := 2) rfl)) (fun _ h9 => h9) rfl dX4_noon_9 ?_
      refine lv_icmp_ge (tgt := 97) hx hb dX4_noon_12 (by decide) (fun _ => ?_) (fun h => absurd (by rw [hij]; exact Int32.le_refl _) h)
      refine lv_aload_n hx hb dX4_noon_97 rfl (lv_at hl 0 rfl) ?_
      refine va_get (D := D) (ci := 4) (v := .ref (am 3)) (C := RX4) (T := TX4) (N := 8) hx hb hts hinX4 hown hK.1 hP 0 rfl rfl 7 (by decide) (hts (.fieldLink RX4 23 "LoafMarksModel" "numbers" "[I") (List.mem_of_getElem? (i := 7) rfl)) (fun _ h9 => h9) rfl dX4_noon_98 ?_
      refine lv_iconst (v := 3) hx hb dX4_noon_101 (by decide) ?_
      refine lv_dup2_11 hx hb dX4_noon_102 rfl rfl ?_
      refine xiald hx hb hK hP 4 rfl 3 (by decide) (by decide) (by decide) dX4_noon_103 ?_
      refine W.eq (g2 := F0 m 104 ls [.int (((slN (nu 1, bk, nu) j).2.2) 4), .int 3, .ref (am 3)]) rfl ?_
      refine lv_iload_n hx hb dX4_noon_104 rfl (lv_at hl 1 rfl) ?_
      refine lv_iadd hx hb dX4_noon_105 ?_
      refine xiast hx hb hK hP hD hS 4 rfl 3 (by decide) (by decide) (by decide) dX4_noon_106 (fun H locs hP hD hS => ?_)
      have hP := hP
      have eN : upd (fN ((slN (nu 1, bk, nu) j).2.2)) 3 ((((slN (nu 1, bk, nu) j).2.2) 4) + ((slN (nu 1, bk, nu) j).1)) = fN (upd ((slN (nu 1, bk, nu) j).2.2) 4 ((((slN (nu 1, bk, nu) j).2.2) 4) + ((slN (nu 1, bk, nu) j).1))) := fN_put
      have hP : va_P D vwCl (mw cy b am thr nS nB st ((slN (nu 1, bk, nu) j).2.1) gate (upd ((slN (nu 1, bk, nu) j).2.2) 4 ((((slN (nu 1, bk, nu) j).2.2) 4) + ((slN (nu 1, bk, nu) j).1)))) H := by unfold mw; rw [← eN]; exact hP
      have hD : va_D A (mw cy b am thr nS nB st ((slN (nu 1, bk, nu) j).2.1) gate (upd ((slN (nu 1, bk, nu) j).2.2) 4 ((((slN (nu 1, bk, nu) j).2.2) 4) + ((slN (nu 1, bk, nu) j).1)))) := by unfold mw; rw [← eN]; exact hD
      have e : hNoon nB (st, bk, nu) = (st, (slN (nu 1, bk, nu) j).2.1, upd (slN (nu 1, bk, nu) j).2.2 4 ((slN (nu 1, bk, nu) j).2.2 4 + (slN (nu 1, bk, nu) j).1)) := by rw [hij]; rfl
      exact xrv () hx hb hr hlocks hS (Nat.le_of_ble_eq_true rfl) (Nat.le_of_ble_eq_true rfl) dX4_noon_107 (by rw [e]; exact hP) (by rw [e]; exact hD) rfl trivial
    | succ n ih =>
      intro j  H locs ls hns hP hD hS hl
      have hlt : j < nB := by omega
      refine lv_iload_n hx hb dX4_noon_7 rfl (lv_at hl 2 rfl) ?_
      refine lv_aload_n hx hb dX4_noon_8 rfl (lv_at hl 0 rfl) ?_
      refine va_get (D := D) (ci := 4) (v := .int (nI nB)) (C := RX4) (T := TX4) (N := 8) hx hb hts hinX4 hown hK.1 hP 0 rfl rfl 2 (by decide) (hts (.fieldLink RX4 36 "LoafMarksModel" "bakers" "I") (List.mem_of_getElem? (i := 2) rfl)) (fun _ h9 => h9) rfl dX4_noon_9 ?_
      refine lv_icmp_ge (tgt := 97) hx hb dX4_noon_12 (by decide) (fun h => absurd h (nI_ge (a := j) (b := nB) (by omega) (by omega))) (fun _ => ?_)
      refine lv_iload_n hx hb dX4_noon_15 rfl (lv_at hl 1 rfl) ?_
      refine lv_aload_n hx hb dX4_noon_16 rfl (lv_at hl 0 rfl) ?_
      refine lv_iload_n hx hb dX4_noon_17 rfl (lv_at hl 2 rfl) ?_
      refine lv_iconst (v := 5) hx hb dX4_noon_18 (by decide) ?_
      refine xcV (As := [.int (nI j), .int 5]) (rest := [.int ((slN (nu 1, bk, nu) j).1)]) ⟨hx, hb, hml, hown, hts⟩ (c_X4_sh l D cy b am thr nS nB st ((slN (nu 1, bk, nu) j).2.1) gate ((slN (nu 1, bk, nu) j).2.2) j 5 (by omega) (by omega)) (cwV 2 hts gX4_noon_X4_sh rfl rfl rfl (by decide +kernel) ⟨Nat.le_of_ble_eq_true rfl, Nat.le_of_ble_eq_true rfl⟩) hK hP hD hS hA rfl rfl rfl (xE_all) rfl hl.1 rfl (Nat.le_of_ble_eq_true rfl) dX4_noon_19 ⟨Nat.le_of_ble_eq_true rfl, Nat.le_of_ble_eq_true rfl⟩ (fun _ H locs _ hP hD hS => ?_)
      have hP : va_P D vwCl (mw cy b am thr nS nB st ((slN (nu 1, bk, nu) j).2.1) gate ((slN (nu 1, bk, nu) j).2.2)) H := hP
      have hD : va_D A (mw cy b am thr nS nB st ((slN (nu 1, bk, nu) j).2.1) gate ((slN (nu 1, bk, nu) j).2.2)) := hD
      refine W.eq (g2 := F0 m 22 ls [.int (((slN (nu 1, bk, nu) j).2.1) j 5), .int ((slN (nu 1, bk, nu) j).1)]) rfl ?_
      refine va_mmin hx hb (hml.trans hl.1.symm) hown (hts (.methodLink RX4 90 Lib.Math.min.name) (List.mem_of_getElem? (i := 3) rfl)) (hts (.static Lib.Math.min.name) (List.mem_of_getElem? (i := 4) rfl)) (hts (.initialized "java/lang/Math") (List.mem_of_getElem? (i := 5) rfl)) (hts (.code Lib.Math.min.name Lib.Math.min.code 2 (some .int)) (List.mem_of_getElem? (i := 6) rfl)) (Nat.le_of_ble_eq_true rfl) (Nat.le_of_ble_eq_true rfl) (Nat.le_of_ble_eq_true rfl) (Nat.le_of_ble_eq_true rfl) dX4_noon_22 ?_
      refine W.eq (g2 := F0 m 25 ls [.int (mn ((slN (nu 1, bk, nu) j).1) (((slN (nu 1, bk, nu) j).2.1) j 5))]) rfl ?_
      refine lv_istore_n (lv' := [(3, .int (mn ((slN (nu 1, bk, nu) j).1) (((slN (nu 1, bk, nu) j).2.1) j 5))), (0, .ref b), (1, .int ((slN (nu 1, bk, nu) j).1)), (2, .int (nI j))]) hx hb dX4_noon_25 rfl hl (by decide) rfl (fun ls hl => ?_)
      refine lv_iload_n hx hb dX4_noon_26 rfl (lv_at hl 2 rfl) ?_
      refine lv_iload_n hx hb dX4_noon_27 rfl (lv_at hl 0 rfl) ?_
      refine lv_isub hx hb dX4_noon_28 ?_
      refine lv_istore_n (lv' := [(1, .int (((slN (nu 1, bk, nu) j).1) - (mn ((slN (nu 1, bk, nu) j).1) (((slN (nu 1, bk, nu) j).2.1) j 5)))), (3, .int (mn ((slN (nu 1, bk, nu) j).1) (((slN (nu 1, bk, nu) j).2.1) j 5))), (0, .ref b), (2, .int (nI j))]) hx hb dX4_noon_29 rfl hl (by decide) rfl (fun ls hl => ?_)
      refine lv_aload_n hx hb dX4_noon_30 rfl (lv_at hl 2 rfl) ?_
      refine lv_iload_n hx hb dX4_noon_31 rfl (lv_at hl 3 rfl) ?_
      refine lv_iconst (v := 5) hx hb dX4_noon_32 (by decide) ?_
      refine lv_aload_n hx hb dX4_noon_33 rfl (lv_at hl 2 rfl) ?_
      refine lv_iload_n hx hb dX4_noon_34 rfl (lv_at hl 3 rfl) ?_
      refine lv_iconst (v := 5) hx hb dX4_noon_35 (by decide) ?_
      refine xcV (As := [.int (nI j), .int 5]) (rest := [.int 5, .int (nI j), .ref b]) ⟨hx, hb, hml, hown, hts⟩ (c_X4_sh l D cy b am thr nS nB st ((slN (nu 1, bk, nu) j).2.1) gate ((slN (nu 1, bk, nu) j).2.2) j 5 (by omega) (by omega)) (cwV 2 hts gX4_noon_X4_sh rfl rfl rfl (by decide +kernel) ⟨Nat.le_of_ble_eq_true rfl, Nat.le_of_ble_eq_true rfl⟩) hK hP hD hS hA rfl rfl rfl (xE_all) rfl hl.1 rfl (Nat.le_of_ble_eq_true rfl) dX4_noon_36 ⟨Nat.le_of_ble_eq_true rfl, Nat.le_of_ble_eq_true rfl⟩ (fun _ H locs _ hP hD hS => ?_)
      have hP : va_P D vwCl (mw cy b am thr nS nB st ((slN (nu 1, bk, nu) j).2.1) gate ((slN (nu 1, bk, nu) j).2.2)) H := hP
      have hD : va_D A (mw cy b am thr nS nB st ((slN (nu 1, bk, nu) j).2.1) gate ((slN (nu 1, bk, nu) j).2.2)) := hD
      refine W.eq (g2 := F0 m 39 ls [.int (((slN (nu 1, bk, nu) j).2.1) j 5), .int 5, .int (nI j), .ref b]) rfl ?_
      refine lv_iload_n hx hb dX4_noon_39 rfl (lv_at hl 1 rfl) ?_
      refine lv_isub hx hb dX4_noon_40 ?_
      refine xcV (As := [.int (nI j), .int 5, .int ((((slN (nu 1, bk, nu) j).2.1) j 5) - (mn ((slN (nu 1, bk, nu) j).1) (((slN (nu 1, bk, nu) j).2.1) j 5)))]) (rest := []) ⟨hx, hb, hml, hown, hts⟩ (c_X4_put l D cy b am thr nS nB st ((slN (nu 1, bk, nu) j).2.1) gate ((slN (nu 1, bk, nu) j).2.2) j 5 ((((slN (nu 1, bk, nu) j).2.1) j 5) - (mn ((slN (nu 1, bk, nu) j).1) (((slN (nu 1, bk, nu) j).2.1) j 5))) (by omega) (by omega)) (cwV 3 hts gX4_noon_X4_put rfl rfl rfl (by decide +kernel) ⟨Nat.le_of_ble_eq_true rfl, Nat.le_of_ble_eq_true rfl⟩) hK hP hD hS hA rfl rfl rfl (xE_all) rfl hl.1 rfl (Nat.le_of_ble_eq_true rfl) dX4_noon_41 ⟨Nat.le_of_ble_eq_true rfl, Nat.le_of_ble_eq_true rfl⟩ (fun _ H locs _ hP hD hS => ?_)
      have hP : va_P D vwCl (mw cy b am thr nS nB st (va_up ((slN (nu 1, bk, nu) j).2.1) j (upd (((slN (nu 1, bk, nu) j).2.1) j) 5 ((((slN (nu 1, bk, nu) j).2.1) j 5) - (mn ((slN (nu 1, bk, nu) j).1) (((slN (nu 1, bk, nu) j).2.1) j 5))))) gate ((slN (nu 1, bk, nu) j).2.2)) H := hP
      have hD : va_D A (mw cy b am thr nS nB st (va_up ((slN (nu 1, bk, nu) j).2.1) j (upd (((slN (nu 1, bk, nu) j).2.1) j) 5 ((((slN (nu 1, bk, nu) j).2.1) j 5) - (mn ((slN (nu 1, bk, nu) j).1) (((slN (nu 1, bk, nu) j).2.1) j 5))))) gate ((slN (nu 1, bk, nu) j).2.2)) := hD
      refine W.eq (g2 := F0 m 44 ls []) rfl ?_
      refine lv_aload_n hx hb dX4_noon_44 rfl (lv_at hl 2 rfl) ?_
      refine lv_iload_n hx hb dX4_noon_45 rfl (lv_at hl 3 rfl) ?_
      refine lv_bipush (v := 6) hx hb dX4_noon_46 (by decide) ?_
      refine lv_aload_n hx hb dX4_noon_48 rfl (lv_at hl 2 rfl) ?_
      refine lv_iload_n hx hb dX4_noon_49 rfl (lv_at hl 3 rfl) ?_
      refine lv_bipush (v := 6) hx hb dX4_noon_50 (by decide) ?_
      refine xcV (As := [.int (nI j), .int 6]) (rest := [.int 6, .int (nI j), .ref b]) ⟨hx, hb, hml, hown, hts⟩ (c_X4_sh l D cy b am thr nS nB st (va_up ((slN (nu 1, bk, nu) j).2.1) j (upd (((slN (nu 1, bk, nu) j).2.1) j) 5 ((((slN (nu 1, bk, nu) j).2.1) j 5) - (mn ((slN (nu 1, bk, nu) j).1) (((slN (nu 1, bk, nu) j).2.1) j 5))))) gate ((slN (nu 1, bk, nu) j).2.2) j 6 (by omega) (by omega)) (cwV 2 hts gX4_noon_X4_sh rfl rfl rfl (by decide +kernel) ⟨Nat.le_of_ble_eq_true rfl, Nat.le_of_ble_eq_true rfl⟩) hK hP hD hS hA rfl rfl rfl (xE_all) rfl hl.1 rfl (Nat.le_of_ble_eq_true rfl) dX4_noon_52 ⟨Nat.le_of_ble_eq_true rfl, Nat.le_of_ble_eq_true rfl⟩ (fun _ H locs _ hP hD hS => ?_)
      have hP : va_P D vwCl (mw cy b am thr nS nB st (va_up ((slN (nu 1, bk, nu) j).2.1) j (upd (((slN (nu 1, bk, nu) j).2.1) j) 5 ((((slN (nu 1, bk, nu) j).2.1) j 5) - (mn ((slN (nu 1, bk, nu) j).1) (((slN (nu 1, bk, nu) j).2.1) j 5))))) gate ((slN (nu 1, bk, nu) j).2.2)) H := hP
      have hD : va_D A (mw cy b am thr nS nB st (va_up ((slN (nu 1, bk, nu) j).2.1) j (upd (((slN (nu 1, bk, nu) j).2.1) j) 5 ((((slN (nu 1, bk, nu) j).2.1) j 5) - (mn ((slN (nu 1, bk, nu) j).1) (((slN (nu 1, bk, nu) j).2.1) j 5))))) gate ((slN (nu 1, bk, nu) j).2.2)) := hD
      refine W.eq (g2 := F0 m 55 ls [.int ((((slN (nu 1, bk, nu) j).2.1) j) 6), .int 6, .int (nI j), .ref b]) (by show F0 m 55 ls (.int ((va_up ((slN (nu 1, bk, nu) j).2.1) j (upd (((slN (nu 1, bk, nu) j).2.1) j) 5 ((((slN (nu 1, bk, nu) j).2.1) j 5) - (mn ((slN (nu 1, bk, nu) j).1) (((slN (nu 1, bk, nu) j).2.1) j 5))))) j 6) :: _) = _; first | (rw [up_at]; done) | (rw [up_at]; rfl)) ?_
      refine lv_iload_n hx hb dX4_noon_55 rfl (lv_at hl 1 rfl) ?_
      refine lv_iadd hx hb dX4_noon_56 ?_
      refine xcV (As := [.int (nI j), .int 6, .int (((((slN (nu 1, bk, nu) j).2.1) j) 6) + (mn ((slN (nu 1, bk, nu) j).1) (((slN (nu 1, bk, nu) j).2.1) j 5)))]) (rest := []) ⟨hx, hb, hml, hown, hts⟩ (c_X4_put l D cy b am thr nS nB st (va_up ((slN (nu 1, bk, nu) j).2.1) j (upd (((slN (nu 1, bk, nu) j).2.1) j) 5 ((((slN (nu 1, bk, nu) j).2.1) j 5) - (mn ((slN (nu 1, bk, nu) j).1) (((slN (nu 1, bk, nu) j).2.1) j 5))))) gate ((slN (nu 1, bk, nu) j).2.2) j 6 (((((slN (nu 1, bk, nu) j).2.1) j) 6) + (mn ((slN (nu 1, bk, nu) j).1) (((slN (nu 1, bk, nu) j).2.1) j 5))) (by omega) (by omega)) (cwV 3 hts gX4_noon_X4_put rfl rfl rfl (by decide +kernel) ⟨Nat.le_of_ble_eq_true rfl, Nat.le_of_ble_eq_true rfl⟩) hK hP hD hS hA rfl rfl rfl (xE_all) rfl hl.1 rfl (Nat.le_of_ble_eq_true rfl) dX4_noon_57 ⟨Nat.le_of_ble_eq_true rfl, Nat.le_of_ble_eq_true rfl⟩ (fun _ H locs _ hP hD hS => ?_)
      have hP : va_P D vwCl (mw cy b am thr nS nB st (va_up ((slN (nu 1, bk, nu) j).2.1) j (upd (upd (((slN (nu 1, bk, nu) j).2.1) j) 5 ((((slN (nu 1, bk, nu) j).2.1) j 5) - (mn ((slN (nu 1, bk, nu) j).1) (((slN (nu 1, bk, nu) j).2.1) j 5)))) 6 (((((slN (nu 1, bk, nu) j).2.1) j) 6) + (mn ((slN (nu 1, bk, nu) j).1) (((slN (nu 1, bk, nu) j).2.1) j 5))))) gate ((slN (nu 1, bk, nu) j).2.2)) H := (by rw [← up_upd]; exact hP)
      have hD : va_D A (mw cy b am thr nS nB st (va_up ((slN (nu 1, bk, nu) j).2.1) j (upd (upd (((slN (nu 1, bk, nu) j).2.1) j) 5 ((((slN (nu 1, bk, nu) j).2.1) j 5) - (mn ((slN (nu 1, bk, nu) j).1) (((slN (nu 1, bk, nu) j).2.1) j 5)))) 6 (((((slN (nu 1, bk, nu) j).2.1) j) 6) + (mn ((slN (nu 1, bk, nu) j).1) (((slN (nu 1, bk, nu) j).2.1) j 5))))) gate ((slN (nu 1, bk, nu) j).2.2)) := (by rw [← up_upd]; exact hD)
      refine W.eq (g2 := F0 m 60 ls []) rfl ?_
      refine lv_aload_n hx hb dX4_noon_60 rfl (lv_at hl 2 rfl) ?_
      refine va_get (D := D) (ci := 4) (v := .ref (am 3)) (C := RX4) (T := TX4) (N := 8) hx hb hts hinX4 hown hK.1 hP 0 rfl rfl 7 (by decide) (hts (.fieldLink RX4 23 "LoafMarksModel" "numbers" "[I") (List.mem_of_getElem? (i := 7) rfl)) (fun _ h9 => h9) rfl dX4_noon_61 ?_
      refine lv_iconst (v := 1) hx hb dX4_noon_64 (by decide) ?_
      refine lv_dup2_11 hx hb dX4_noon_65 rfl rfl ?_
      refine xiald hx hb hK hP 4 rfl 1 (by decide) (by decide) (by decide) dX4_noon_66 ?_
      refine W.eq (g2 := F0 m 67 ls [.int (((slN (nu 1, bk, nu) j).2.2) 2), .int 1, .ref (am 3)]) rfl ?_
      refine lv_iload_n hx hb dX4_noon_67 rfl (lv_at hl 1 rfl) ?_
      refine lv_iadd hx hb dX4_noon_68 ?_
      refine xiast hx hb hK hP hD hS 4 rfl 1 (by decide) (by decide) (by decide) dX4_noon_69 (fun H locs hP hD hS => ?_)
      have hP := hP
      have eN : upd (fN ((slN (nu 1, bk, nu) j).2.2)) 1 ((((slN (nu 1, bk, nu) j).2.2) 2) + (mn ((slN (nu 1, bk, nu) j).1) (((slN (nu 1, bk, nu) j).2.1) j 5))) = fN (upd ((slN (nu 1, bk, nu) j).2.2) 2 ((((slN (nu 1, bk, nu) j).2.2) 2) + (mn ((slN (nu 1, bk, nu) j).1) (((slN (nu 1, bk, nu) j).2.1) j 5)))) := fN_put
      have hP : va_P D vwCl (mw cy b am thr nS nB st (va_up ((slN (nu 1, bk, nu) j).2.1) j (upd (upd (((slN (nu 1, bk, nu) j).2.1) j) 5 ((((slN (nu 1, bk, nu) j).2.1) j 5) - (mn ((slN (nu 1, bk, nu) j).1) (((slN (nu 1, bk, nu) j).2.1) j 5)))) 6 (((((slN (nu 1, bk, nu) j).2.1) j) 6) + (mn ((slN (nu 1, bk, nu) j).1) (((slN (nu 1, bk, nu) j).2.1) j 5))))) gate (upd ((slN (nu 1, bk, nu) j).2.2) 2 ((((slN (nu 1, bk, nu) j).2.2) 2) + (mn ((slN (nu 1, bk, nu) j).1) (((slN (nu 1, bk, nu) j).2.1) j 5))))) H := by unfold mw; rw [← eN]; exact hP
      have hD : va_D A (mw cy b am thr nS nB st (va_up ((slN (nu 1, bk, nu) j).2.1) j (upd (upd (((slN (nu 1, bk, nu) j).2.1) j) 5 ((((slN (nu 1, bk, nu) j).2.1) j 5) - (mn ((slN (nu 1, bk, nu) j).1) (((slN (nu 1, bk, nu) j).2.1) j 5)))) 6 (((((slN (nu 1, bk, nu) j).2.1) j) 6) + (mn ((slN (nu 1, bk, nu) j).1) (((slN (nu 1, bk, nu) j).2.1) j 5))))) gate (upd ((slN (nu 1, bk, nu) j).2.2) 2 ((((slN (nu 1, bk, nu) j).2.2) 2) + (mn ((slN (nu 1, bk, nu) j).1) (((slN (nu 1, bk, nu) j).2.1) j 5))))) := by unfold mw; rw [← eN]; exact hD
      refine lv_aload_n hx hb dX4_noon_70 rfl (lv_at hl 2 rfl) ?_
      refine lv_iload_n hx hb dX4_noon_71 rfl (lv_at hl 3 rfl) ?_
      refine lv_iconst (v := 4) hx hb dX4_noon_72 (by decide) ?_
      refine xcV (As := [.int (nI j), .int 4]) (rest := []) ⟨hx, hb, hml, hown, hts⟩ (c_X4_sh l D cy b am thr nS nB st (va_up ((slN (nu 1, bk, nu) j).2.1) j (upd (upd (((slN (nu 1, bk, nu) j).2.1) j) 5 ((((slN (nu 1, bk, nu) j).2.1) j 5) - (mn ((slN (nu 1, bk, nu) j).1) (((slN (nu 1, bk, nu) j).2.1) j 5)))) 6 (((((slN (nu 1, bk, nu) j).2.1) j) 6) + (mn ((slN (nu 1, bk, nu) j).1) (((slN (nu 1, bk, nu) j).2.1) j 5))))) gate (upd ((slN (nu 1, bk, nu) j).2.2) 2 ((((slN (nu 1, bk, nu) j).2.2) 2) + (mn ((slN (nu 1, bk, nu) j).1) (((slN (nu 1, bk, nu) j).2.1) j 5)))) j 4 (by omega) (by omega)) (cwV 2 hts gX4_noon_X4_sh rfl rfl rfl (by decide +kernel) ⟨Nat.le_of_ble_eq_true rfl, Nat.le_of_ble_eq_true rfl⟩) hK hP hD hS hA rfl rfl rfl (xE_all) rfl hl.1 rfl (Nat.le_of_ble_eq_true rfl) dX4_noon_73 ⟨Nat.le_of_ble_eq_true rfl, Nat.le_of_ble_eq_true rfl⟩ (fun _ H locs _ hP hD hS => ?_)
      have hP : va_P D vwCl (mw cy b am thr nS nB st (va_up ((slN (nu 1, bk, nu) j).2.1) j (upd (upd (((slN (nu 1, bk, nu) j).2.1) j) 5 ((((slN (nu 1, bk, nu) j).2.1) j 5) - (mn ((slN (nu 1, bk, nu) j).1) (((slN (nu 1, bk, nu) j).2.1) j 5)))) 6 (((((slN (nu 1, bk, nu) j).2.1) j) 6) + (mn ((slN (nu 1, bk, nu) j).1) (((slN (nu 1, bk, nu) j).2.1) j 5))))) gate (upd ((slN (nu 1, bk, nu) j).2.2) 2 ((((slN (nu 1, bk, nu) j).2.2) 2) + (mn ((slN (nu 1, bk, nu) j).1) (((slN (nu 1, bk, nu) j).2.1) j 5))))) H := hP
      have hD : va_D A (mw cy b am thr nS nB st (va_up ((slN (nu 1, bk, nu) j).2.1) j (upd (upd (((slN (nu 1, bk, nu) j).2.1) j) 5 ((((slN (nu 1, bk, nu) j).2.1) j 5) - (mn ((slN (nu 1, bk, nu) j).1) (((slN (nu 1, bk, nu) j).2.1) j 5)))) 6 (((((slN (nu 1, bk, nu) j).2.1) j) 6) + (mn ((slN (nu 1, bk, nu) j).1) (((slN (nu 1, bk, nu) j).2.1) j 5))))) gate (upd ((slN (nu 1, bk, nu) j).2.2) 2 ((((slN (nu 1, bk, nu) j).2.2) 2) + (mn ((slN (nu 1, bk, nu) j).1) (((slN (nu 1, bk, nu) j).2.1) j 5))))) := hD
      refine W.eq (g2 := F0 m 76 ls [.int ((((slN (nu 1, bk, nu) j).2.1) j) 4)]) (by show F0 m 76 ls (.int ((va_up ((slN (nu 1, bk, nu) j).2.1) j (upd (upd (((slN (nu 1, bk, nu) j).2.1) j) 5 ((((slN (nu 1, bk, nu) j).2.1) j 5) - (mn ((slN (nu 1, bk, nu) j).1) (((slN (nu 1, bk, nu) j).2.1) j 5)))) 6 (((((slN (nu 1, bk, nu) j).2.1) j) 6) + (mn ((slN (nu 1, bk, nu) j).1) (((slN (nu 1, bk, nu) j).2.1) j 5))))) j 4) :: _) = _; first | (rw [up_at]; done) | (rw [up_at]; rfl)) ?_
      refine lv_bipush (v := 10) hx hb dX4_noon_76 (by decide) ?_
      refine lv_icmp_ge (tgt := 91) hx hb dX4_noon_78 (by decide) (fun c78 => ?_) (fun c78 => ?_)
      · refine lv_iinc (v := (nI (j + 1))) (lv' := [(2, .int (nI (j + 1))), (1, .int (((slN (nu 1, bk, nu) j).1) - (mn ((slN (nu 1, bk, nu) j).1) (((slN (nu 1, bk, nu) j).2.1) j 5)))), (3, .int (mn ((slN (nu 1, bk, nu) j).1) (((slN (nu 1, bk, nu) j).2.1) j 5))), (0, .ref b)]) hx hb dX4_noon_91 hl (k := 3) rfl ((nI_1 j)) (by decide) rfl (fun ls hl => ?_)
        refine lv_goto (tgt := 7) hx hb dX4_noon_94 (by decide) ?_
        have e : slN (nu 1, bk, nu) (j + 1) = ((slN (nu 1, bk, nu) j).1 - mn (slN (nu 1, bk, nu) j).1 ((slN (nu 1, bk, nu) j).2.1 j 5), va_up ((slN (nu 1, bk, nu) j).2.1) j (upd (upd (((slN (nu 1, bk, nu) j).2.1) j) 5 ((((slN (nu 1, bk, nu) j).2.1) j 5) - (mn ((slN (nu 1, bk, nu) j).1) (((slN (nu 1, bk, nu) j).2.1) j 5)))) 6 (((((slN (nu 1, bk, nu) j).2.1) j) 6) + (mn ((slN (nu 1, bk, nu) j).1) (((slN (nu 1, bk, nu) j).2.1) j 5)))), upd ((slN (nu 1, bk, nu) j).2.2) 2 ((((slN (nu 1, bk, nu) j).2.2) 2) + (mn ((slN (nu 1, bk, nu) j).1) (((slN (nu 1, bk, nu) j).2.1) j 5)))) := by show slStep _ _ = _; unfold slStep; rw [if_neg (Int32.not_lt.mpr c78)]; rfl
        exact ih (j + 1)  _ _ _ (by omega) (by rw [e]; exact hP) (by rw [e]; exact hD) hS (lv_sub hl [3, 1, 0] (by rw [e]; rfl))
      · refine lv_aload_n hx hb dX4_noon_81 rfl (lv_at hl 2 rfl) ?_
        refine va_get (D := D) (ci := 4) (v := .ref (am 3)) (C := RX4) (T := TX4) (N := 8) hx hb hts hinX4 hown hK.1 hP 0 rfl rfl 7 (by decide) (hts (.fieldLink RX4 23 "LoafMarksModel" "numbers" "[I") (List.mem_of_getElem? (i := 7) rfl)) (fun _ h9 => h9) rfl dX4_noon_82 ?_
        refine lv_iconst (v := 2) hx hb dX4_noon_85 (by decide) ?_
        refine lv_dup2_11 hx hb dX4_noon_86 rfl rfl ?_
        refine xiald hx hb hK hP 4 rfl 2 (by decide) (by decide) (by decide) dX4_noon_87 ?_
        refine W.eq (g2 := F0 m 88 ls [.int (((slN (nu 1, bk, nu) j).2.2) 3), .int 2, .ref (am 3)]) rfl ?_
        refine lv_iload_n hx hb dX4_noon_88 rfl (lv_at hl 1 rfl) ?_
        refine lv_iadd hx hb dX4_noon_89 ?_
        refine xiast hx hb hK hP hD hS 4 rfl 2 (by decide) (by decide) (by decide) dX4_noon_90 (fun H locs hP hD hS => ?_)
        have hP := hP
        have eN : upd (fN (upd ((slN (nu 1, bk, nu) j).2.2) 2 ((((slN (nu 1, bk, nu) j).2.2) 2) + (mn ((slN (nu 1, bk, nu) j).1) (((slN (nu 1, bk, nu) j).2.1) j 5))))) 2 ((((slN (nu 1, bk, nu) j).2.2) 3) + (mn ((slN (nu 1, bk, nu) j).1) (((slN (nu 1, bk, nu) j).2.1) j 5))) = fN (upd (upd ((slN (nu 1, bk, nu) j).2.2) 2 ((((slN (nu 1, bk, nu) j).2.2) 2) + (mn ((slN (nu 1, bk, nu) j).1) (((slN (nu 1, bk, nu) j).2.1) j 5)))) 3 ((((slN (nu 1, bk, nu) j).2.2) 3) + (mn ((slN (nu 1, bk, nu) j).1) (((slN (nu 1, bk, nu) j).2.1) j 5)))) := fN_put
        have hP : va_P D vwCl (mw cy b am thr nS nB st (va_up ((slN (nu 1, bk, nu) j).2.1) j (upd (upd (((slN (nu 1, bk, nu) j).2.1) j) 5 ((((slN (nu 1, bk, nu) j).2.1) j 5) - (mn ((slN (nu 1, bk, nu) j).1) (((slN (nu 1, bk, nu) j).2.1) j 5)))) 6 (((((slN (nu 1, bk, nu) j).2.1) j) 6) + (mn ((slN (nu 1, bk, nu) j).1) (((slN (nu 1, bk, nu) j).2.1) j 5))))) gate (upd (upd ((slN (nu 1, bk, nu) j).2.2) 2 ((((slN (nu 1, bk, nu) j).2.2) 2) + (mn ((slN (nu 1, bk, nu) j).1) (((slN (nu 1, bk, nu) j).2.1) j 5)))) 3 ((((slN (nu 1, bk, nu) j).2.2) 3) + (mn ((slN (nu 1, bk, nu) j).1) (((slN (nu 1, bk, nu) j).2.1) j 5))))) H := by unfold mw; rw [← eN]; exact hP
        have hD : va_D A (mw cy b am thr nS nB st (va_up ((slN (nu 1, bk, nu) j).2.1) j (upd (upd (((slN (nu 1, bk, nu) j).2.1) j) 5 ((((slN (nu 1, bk, nu) j).2.1) j 5) - (mn ((slN (nu 1, bk, nu) j).1) (((slN (nu 1, bk, nu) j).2.1) j 5)))) 6 (((((slN (nu 1, bk, nu) j).2.1) j) 6) + (mn ((slN (nu 1, bk, nu) j).1) (((slN (nu 1, bk, nu) j).2.1) j 5))))) gate (upd (upd ((slN (nu 1, bk, nu) j).2.2) 2 ((((slN (nu 1, bk, nu) j).2.2) 2) + (mn ((slN (nu 1, bk, nu) j).1) (((slN (nu 1, bk, nu) j).2.1) j 5)))) 3 ((((slN (nu 1, bk, nu) j).2.2) 3) + (mn ((slN (nu 1, bk, nu) j).1) (((slN (nu 1, bk, nu) j).2.1) j 5))))) := by unfold mw; rw [← eN]; exact hD
        refine lv_iinc (v := (nI (j + 1))) (lv' := [(2, .int (nI (j + 1))), (1, .int (((slN (nu 1, bk, nu) j).1) - (mn ((slN (nu 1, bk, nu) j).1) (((slN (nu 1, bk, nu) j).2.1) j 5)))), (3, .int (mn ((slN (nu 1, bk, nu) j).1) (((slN (nu 1, bk, nu) j).2.1) j 5))), (0, .ref b)]) hx hb dX4_noon_91 hl (k := 3) rfl ((nI_1 j)) (by decide) rfl (fun ls hl => ?_)
        refine lv_goto (tgt := 7) hx hb dX4_noon_94 (by decide) ?_
        have e : slN (nu 1, bk, nu) (j + 1) = ((slN (nu 1, bk, nu) j).1 - mn (slN (nu 1, bk, nu) j).1 ((slN (nu 1, bk, nu) j).2.1 j 5), va_up ((slN (nu 1, bk, nu) j).2.1) j (upd (upd (((slN (nu 1, bk, nu) j).2.1) j) 5 ((((slN (nu 1, bk, nu) j).2.1) j 5) - (mn ((slN (nu 1, bk, nu) j).1) (((slN (nu 1, bk, nu) j).2.1) j 5)))) 6 (((((slN (nu 1, bk, nu) j).2.1) j) 6) + (mn ((slN (nu 1, bk, nu) j).1) (((slN (nu 1, bk, nu) j).2.1) j 5)))), upd (upd ((slN (nu 1, bk, nu) j).2.2) 2 ((((slN (nu 1, bk, nu) j).2.2) 2) + (mn ((slN (nu 1, bk, nu) j).1) (((slN (nu 1, bk, nu) j).2.1) j 5)))) 3 ((((slN (nu 1, bk, nu) j).2.2) 3) + (mn ((slN (nu 1, bk, nu) j).1) (((slN (nu 1, bk, nu) j).2.1) j 5)))) := by show slStep _ _ = _; unfold slStep; rw [if_pos (Int32.not_le.mp c78)]; rfl
        exact ih (j + 1)  _ _ _ (by omega) (by rw [e]; exact hP) (by rw [e]; exact hD) hS (lv_sub hl [3, 1, 0] (by rw [e]; rfl))
  exact loop nB 0  _ _ _ (by omega) hP hD hS (lv_sub hl [2, 1, 0] rfl)

set_option maxHeartbeats 4000000 in
set_option maxRecDepth 100000 in
/-- hourOn -/
theorem c_X4_hourOn (l : Launch) (D : va_G) (cy : Nat → ClassId) (b : Nat) (am : Nat → Nat) (thr : Int32) (nS nB : Nat) (u : TS) (gate : Iu) (h k : Nat) (eh : u.2.2 0 = nI h) (hh : h < 2 ^ 31) (hk : h % 24 = k) (hcS : nS ≤ 4) (hcB : nB ≤ 6) (ok : okH nS nB gate u) : xM l D cy yX4_hourOn wsX4_hourOn ({ frames := 2, cells := 0, slots := 0, locals := 60 } : Room) [.ref b] (mw cy b am thr nS nB u.1 u.2.1 gate u.2.2) (fun _ : Unit => none) (fun _ => True) (fun _ => mw cy b am thr nS nB ((hour1 nS nB k gate u).1) ((hour1 nS nB k gate u).2.1) gate ((hour1 nS nB k gate u).2.2)) := by
  refine xM.of cX4_hourOn 4 none RX4 (by decide +kernel) rfl rfl (Nat.le_of_ble_eq_true rfl) ?_
  intro p e s m below meth c A ls hx hb hr hts hown hlocks hml hin hK hA hP hD hS hl
  have hl : lv_has ls 4 [(0, .ref b)] := hl
  have hinX4 : ∀ w ∈ wsX40, w ∈ wsX4_hourOn := fun _ h => List.mem_cons_of_mem _ (List.mem_append_right _ h)
  refine lv_aload_n hx hb dX4_hourOn_0 rfl (lv_at hl 0 rfl) ?_
  refine va_get (D := D) (ci := 4) (v := .ref (am 3)) (C := RX4) (T := TX4) (N := 8) hx hb hts hinX4 hown hK.1 hP 0 rfl rfl 7 (by decide) (hts (.fieldLink RX4 23 "LoafMarksModel" "numbers" "[I") (List.mem_of_getElem? (i := 1) rfl)) (fun _ h9 => h9) rfl dX4_hourOn_1 ?_
  refine lv_iconst (v := 0) hx hb dX4_hourOn_4 (by decide) ?_
  refine xiald hx hb hK hP 4 rfl 0 (by decide) (by decide) (by decide) dX4_hourOn_5 ?_
  refine W.eq (g2 := F0 m 6 ls [.int (u.2.2 0)]) rfl ?_
  refine lv_bipush (v := 24) hx hb dX4_hourOn_6 (by decide) ?_
  refine lv_irem hx hb dX4_hourOn_8 (by decide) ?_
  have er : nI h - nI h / 24 * 24 = nI k := (pk_rem (d := 24) hh (by decide) (by decide)).trans (by rw [hk])
  refine W.eq (g2 := F0 m 9 ls [.int (nI k)]) (by first | (rw [eh, er]; done) | (rw [eh, er]; rfl)) ?_
  refine lv_istore_n (lv' := [(1, .int (nI k)), (0, .ref b)]) hx hb dX4_hourOn_9 rfl hl (by decide) rfl (fun ls hl => ?_)
  refine lv_aload_n hx hb dX4_hourOn_10 rfl (lv_at hl 1 rfl) ?_
  refine lv_aload_n hx hb dX4_hourOn_11 rfl (lv_at hl 1 rfl) ?_
  refine va_get (D := D) (ci := 4) (v := .ref (am 0)) (C := RX4) (T := TX4) (N := 8) hx hb hts hinX4 hown hK.1 hP 0 rfl rfl 4 (by decide) (hts (.fieldLink RX4 13 "LoafMarksModel" "gate" "[I") (List.mem_of_getElem? (i := 2) rfl)) (fun _ h9 => h9) rfl dX4_hourOn_12 ?_
  refine lv_iload_n hx hb dX4_hourOn_15 rfl (lv_at hl 0 rfl) ?_
  refine xiald hx hb hK hP 1 rfl k rfl (by omega) (by decide) dX4_hourOn_16 ?_
  refine xcV (As := [.int (gate k)]) (rest := []) ⟨hx, hb, hml, hown, hts⟩ (c_X4_carts l D cy b am thr nS nB u.1 u.2.1 gate u.2.2 (gate k) hcS ok.1 (ok.2.2 k (by omega))) (cwV 1 hts gX4_hourOn_X4_carts rfl rfl rfl (by decide +kernel) ⟨Nat.le_of_ble_eq_true rfl, Nat.le_of_ble_eq_true rfl⟩) hK hP hD hS hA rfl rfl rfl (xE_all) rfl hl.1 rfl (Nat.le_of_ble_eq_true rfl) dX4_hourOn_17 ⟨Nat.le_of_ble_eq_true rfl, Nat.le_of_ble_eq_true rfl⟩ (fun _ H locs _ hP hD hS => ?_)
  have hP : va_P D vwCl (mw cy b am thr nS nB ((hCart nS (gate k) u).1) ((hCart nS (gate k) u).2.1) gate ((hCart nS (gate k) u).2.2)) H := hP
  have hD : va_D A (mw cy b am thr nS nB ((hCart nS (gate k) u).1) ((hCart nS (gate k) u).2.1) gate ((hCart nS (gate k) u).2.2)) := hD
  refine W.eq (g2 := F0 m 20 ls []) rfl ?_
  refine lv_iload_n hx hb dX4_hourOn_20 rfl (lv_at hl 0 rfl) ?_
  refine lv_if_ne (tgt := 28) hx hb dX4_hourOn_21 (by decide) (fun c21 => ?_) (fun c21 => ?_)
  · have k0 : ¬ k = 0 := fun h => c21 (by rw [h]; rfl)
    have ep : hPre nS nB k gate u = hCart nS (gate k) u := if_neg k0
    have hP : va_P D vwCl (mw cy b am thr nS nB ((hPre nS nB k gate u).1) ((hPre nS nB k gate u).2.1) gate ((hPre nS nB k gate u).2.2)) H := by rw [ep]; exact hP
    have hD : va_D A (mw cy b am thr nS nB ((hPre nS nB k gate u).1) ((hPre nS nB k gate u).2.1) gate ((hPre nS nB k gate u).2.2)) := by rw [ep]; exact hD
    refine lv_iconst (v := 0) hx hb dX4_hourOn_28 (by decide) ?_
    refine lv_istore_n (lv' := [(2, .int 0), (1, .int (nI k)), (0, .ref b)]) hx hb dX4_hourOn_29 rfl hl (by decide) rfl (fun ls hl => ?_)
    have loop : ∀ (n j : Nat)  (H : Heap) (locs : List Loc) (ls : Array Slot), j + n = nB → va_P D vwCl (mw cy b am thr nS nB ((hPre nS nB k gate u).1) (bakeN (hPre nS nB k gate u).2.1 j) gate ((hPre nS nB k gate u).2.2)) H → va_D A (mw cy b am thr nS nB ((hPre nS nB k gate u).1) (bakeN (hPre nS nB k gate u).2.1 j) gate ((hPre nS nB k gate u).2.2)) → va_S A s.heap H locs → lv_has ls 4 [(0, .ref b), (1, .int (nI k)), (2, .int (nI j))] → W p l e ({ frames := 2, cells := 0, slots := 0, locals := 60 } : Room) s m ([.ref b] : List Value).toArray below meth c H locs 0 0 (MQ below (xQ D A (fun _ : Unit => none) (fun _ => True) (fun _ => mw cy b am thr nS nB ((hour1 nS nB k gate u).1) ((hour1 nS nB k gate u).2.1) gate ((hour1 nS nB k gate u).2.2))) ([.ref b] : List Value).toArray s 0 0 A) (F0 m 30 ls []) := by
      intro n
      induction n with
      | zero =>
        intro j  H locs ls hns hP hD hS hl
        have hij : j = nB := by omega
        refine lv_iload_n hx hb dX4_hourOn_30 rfl (lv_at hl 2 rfl) ?_
        refine lv_aload_n hx hb dX4_hourOn_31 rfl (lv_at hl 0 rfl) ?_
        refine va_get (D := D) (ci := 4) (v := .int (nI nB)) (C := RX4) (T := TX4) (N := 8) hx hb hts hinX4 hown hK.1 hP 0 rfl rfl 2 (by decide) (hts (.fieldLink RX4 36 "LoafMarksModel" "bakers" "I") (List.mem_of_getElem? (i := 3) rfl)) (fun _ h9 => h9) rfl dX4_hourOn_32 ?_
        refine lv_icmp_ge (tgt := 111) hx hb dX4_hourOn_35 (by decide) (fun _ => ?_) (fun h => absurd (by rw [hij]; exact Int32.le_refl _) h)
        have em : hMorn nS nB k gate u = ((hPre nS nB k gate u).1, (bakeN (hPre nS nB k gate u).2.1 j), (hPre nS nB k gate u).2.2) := by rw [hij]; rfl
        have hP : va_P D vwCl (mw cy b am thr nS nB ((hMorn nS nB k gate u).1) ((hMorn nS nB k gate u).2.1) gate ((hMorn nS nB k gate u).2.2)) H := by rw [em]; exact hP
        have hD : va_D A (mw cy b am thr nS nB ((hMorn nS nB k gate u).1) ((hMorn nS nB k gate u).2.1) gate ((hMorn nS nB k gate u).2.2)) := by rw [em]; exact hD
        refine lv_iload_n hx hb dX4_hourOn_111 rfl (lv_at hl 1 rfl) ?_
        refine lv_bipush (v := 12) hx hb dX4_hourOn_112 (by decide) ?_
        refine lv_icmp_ne (tgt := 121) hx hb dX4_hourOn_114 (by decide) (fun c114 => ?_) (fun c114 => ?_)
        · have k12 : ¬ k = 12 := fun h => c114 (by rw [h]; rfl)
          refine lv_aload_n hx hb dX4_hourOn_121 rfl (lv_at hl 0 rfl) ?_
          refine va_get (D := D) (ci := 4) (v := .ref (am 3)) (C := RX4) (T := TX4) (N := 8) hx hb hts hinX4 hown hK.1 hP 0 rfl rfl 7 (by decide) (hts (.fieldLink RX4 23 "LoafMarksModel" "numbers" "[I") (List.mem_of_getElem? (i := 1) rfl)) (fun _ h9 => h9) rfl dX4_hourOn_122 ?_
          refine lv_iconst (v := 0) hx hb dX4_hourOn_125 (by decide) ?_
          refine lv_dup2_11 hx hb dX4_hourOn_126 rfl rfl ?_
          refine xiald hx hb hK hP 4 rfl 0 (by decide) (by decide) (by decide) dX4_hourOn_127 ?_
          refine W.eq (g2 := F0 m 128 ls [.int (((hMorn nS nB k gate u).2.2) 0), .int 0, .ref (am 3)]) rfl ?_
          refine lv_iconst (v := 1) hx hb dX4_hourOn_128 (by decide) ?_
          refine lv_iadd hx hb dX4_hourOn_129 ?_
          refine xiast hx hb hK hP hD hS 4 rfl 0 (by decide) (by decide) (by decide) dX4_hourOn_130 (fun H locs hP hD hS => ?_)
          have hP := hP
          have eN : upd (fN ((hMorn nS nB k gate u).2.2)) 0 ((((hMorn nS nB k gate u).2.2) 0) + 1) = fN (upd ((hMorn nS nB k gate u).2.2) 0 ((((hMorn nS nB k gate u).2.2) 0) + 1)) := fN_put0
          have hP : va_P D vwCl (mw cy b am thr nS nB ((hMorn nS nB k gate u).1) ((hMorn nS nB k gate u).2.1) gate (upd ((hMorn nS nB k gate u).2.2) 0 ((((hMorn nS nB k gate u).2.2) 0) + 1))) H := by unfold mw; rw [← eN]; exact hP
          have hD : va_D A (mw cy b am thr nS nB ((hMorn nS nB k gate u).1) ((hMorn nS nB k gate u).2.1) gate (upd ((hMorn nS nB k gate u).2.2) 0 ((((hMorn nS nB k gate u).2.2) 0) + 1))) := by unfold mw; rw [← eN]; exact hD
          have e : hour1 nS nB k gate u = hTick (hMorn nS nB k gate u) := by unfold hour1 hSale; rw [if_neg k12]
          exact xrv () hx hb hr hlocks hS (Nat.le_of_ble_eq_true rfl) (Nat.le_of_ble_eq_true rfl) dX4_hourOn_131 (by rw [e]; exact hP) (by rw [e]; exact hD) rfl trivial
        · have k12 : k = 12 := t_eq (by omega) (by omega) c114
          refine lv_aload_n hx hb dX4_hourOn_117 rfl (lv_at hl 0 rfl) ?_
          refine xcV (As := []) (rest := []) ⟨hx, hb, hml, hown, hts⟩ (c_X4_noon l D cy b am thr nS nB ((hMorn nS nB k gate u).1) ((hMorn nS nB k gate u).2.1) gate ((hMorn nS nB k gate u).2.2) hcB) (cwV 0 hts gX4_hourOn_X4_noon rfl rfl rfl (by decide +kernel) ⟨Nat.le_of_ble_eq_true rfl, Nat.le_of_ble_eq_true rfl⟩) hK hP hD hS hA rfl rfl rfl (xE_all) rfl hl.1 rfl (Nat.le_of_ble_eq_true rfl) dX4_hourOn_118 ⟨Nat.le_of_ble_eq_true rfl, Nat.le_of_ble_eq_true rfl⟩ (fun _ H locs _ hP hD hS => ?_)
          have hP : va_P D vwCl (mw cy b am thr nS nB ((hNoon nB (hMorn nS nB k gate u)).1) ((hNoon nB (hMorn nS nB k gate u)).2.1) gate ((hNoon nB (hMorn nS nB k gate u)).2.2)) H := hP
          have hD : va_D A (mw cy b am thr nS nB ((hNoon nB (hMorn nS nB k gate u)).1) ((hNoon nB (hMorn nS nB k gate u)).2.1) gate ((hNoon nB (hMorn nS nB k gate u)).2.2)) := hD
          refine W.eq (g2 := F0 m 121 ls []) rfl ?_
          refine lv_aload_n hx hb dX4_hourOn_121 rfl (lv_at hl 0 rfl) ?_
          refine va_get (D := D) (ci := 4) (v := .ref (am 3)) (C := RX4) (T := TX4) (N := 8) hx hb hts hinX4 hown hK.1 hP 0 rfl rfl 7 (by decide) (hts (.fieldLink RX4 23 "LoafMarksModel" "numbers" "[I") (List.mem_of_getElem? (i := 1) rfl)) (fun _ h9 => h9) rfl dX4_hourOn_122 ?_
          refine lv_iconst (v := 0) hx hb dX4_hourOn_125 (by decide) ?_
          refine lv_dup2_11 hx hb dX4_hourOn_126 rfl rfl ?_
          refine xiald hx hb hK hP 4 rfl 0 (by decide) (by decide) (by decide) dX4_hourOn_127 ?_
          refine W.eq (g2 := F0 m 128 ls [.int (((hNoon nB (hMorn nS nB k gate u)).2.2) 0), .int 0, .ref (am 3)]) rfl ?_
          refine lv_iconst (v := 1) hx hb dX4_hourOn_128 (by decide) ?_
          refine lv_iadd hx hb dX4_hourOn_129 ?_
          refine xiast hx hb hK hP hD hS 4 rfl 0 (by decide) (by decide) (by decide) dX4_hourOn_130 (fun H locs hP hD hS => ?_)
          have hP := hP
          have eN : upd (fN ((hNoon nB (hMorn nS nB k gate u)).2.2)) 0 ((((hNoon nB (hMorn nS nB k gate u)).2.2) 0) + 1) = fN (upd ((hNoon nB (hMorn nS nB k gate u)).2.2) 0 ((((hNoon nB (hMorn nS nB k gate u)).2.2) 0) + 1)) := fN_put0
          have hP : va_P D vwCl (mw cy b am thr nS nB ((hNoon nB (hMorn nS nB k gate u)).1) ((hNoon nB (hMorn nS nB k gate u)).2.1) gate (upd ((hNoon nB (hMorn nS nB k gate u)).2.2) 0 ((((hNoon nB (hMorn nS nB k gate u)).2.2) 0) + 1))) H := by unfold mw; rw [← eN]; exact hP
          have hD : va_D A (mw cy b am thr nS nB ((hNoon nB (hMorn nS nB k gate u)).1) ((hNoon nB (hMorn nS nB k gate u)).2.1) gate (upd ((hNoon nB (hMorn nS nB k gate u)).2.2) 0 ((((hNoon nB (hMorn nS nB k gate u)).2.2) 0) + 1))) := by unfold mw; rw [← eN]; exact hD
          have e : hour1 nS nB k gate u = hTick (hNoon nB (hMorn nS nB k gate u)) := by unfold hour1 hSale; rw [if_pos k12]
          exact xrv () hx hb hr hlocks hS (Nat.le_of_ble_eq_true rfl) (Nat.le_of_ble_eq_true rfl) dX4_hourOn_131 (by rw [e]; exact hP) (by rw [e]; exact hD) rfl trivial
      | succ n ih =>
        intro j  H locs ls hns hP hD hS hl
        have hlt : j < nB := by omega
        have eh7 : (bakeN (hPre nS nB k gate u).2.1 j) j 7 = u.2.1 j 7 := by rw [bakeN_ne _ _ (by decide) (by decide), hPre_ne _ _ _ _ _ _ (by decide)]
        have eh4 : (bakeN (hPre nS nB k gate u).2.1 j) j 4 = u.2.1 j 4 := by rw [bakeN_ne _ _ (by decide) (by decide), hPre_ne _ _ _ _ _ _ (by decide)]
        have h7 : (bakeN (hPre nS nB k gate u).2.1 j) j 7 = 0 ∨ (bakeN (hPre nS nB k gate u).2.1 j) j 7 = 1 := by rw [eh7]; exact (ok.2.1 j hlt).2.1
        have h4 : 0 < (bakeN (hPre nS nB k gate u).2.1 j) j 4 := by rw [eh4]; exact (ok.2.1 j hlt).2.2
        have h4n : (bakeN (hPre nS nB k gate u).2.1 j) j 4 ≠ 0 := fun z => absurd h4 (by rw [z]; decide)
        refine lv_iload_n hx hb dX4_hourOn_30 rfl (lv_at hl 2 rfl) ?_
        refine lv_aload_n hx hb dX4_hourOn_31 rfl (lv_at hl 0 rfl) ?_
        refine va_get (D := D) (ci := 4) (v := .int (nI nB)) (C := RX4) (T := TX4) (N := 8) hx hb hts hinX4 hown hK.1 hP 0 rfl rfl 2 (by decide) (hts (.fieldLink RX4 36 "LoafMarksModel" "bakers" "I") (List.mem_of_getElem? (i := 3) rfl)) (fun _ h9 => h9) rfl dX4_hourOn_32 ?_
        refine lv_icmp_ge (tgt := 111) hx hb dX4_hourOn_35 (by decide) (fun h => absurd h (nI_ge (a := j) (b := nB) (by omega) (by omega))) (fun _ => ?_)
        refine lv_aload_n hx hb dX4_hourOn_38 rfl (lv_at hl 0 rfl) ?_
        refine lv_iload_n hx hb dX4_hourOn_39 rfl (lv_at hl 2 rfl) ?_
        refine lv_bipush (v := 7) hx hb dX4_hourOn_40 (by decide) ?_
        refine xcV (As := [.int (nI j), .int 7]) (rest := []) ⟨hx, hb, hml, hown, hts⟩ (c_X4_sh l D cy b am thr nS nB ((hPre nS nB k gate u).1) (bakeN (hPre nS nB k gate u).2.1 j) gate ((hPre nS nB k gate u).2.2) j 7 (by omega) (by omega)) (cwV 2 hts gX4_hourOn_X4_sh rfl rfl rfl (by decide +kernel) ⟨Nat.le_of_ble_eq_true rfl, Nat.le_of_ble_eq_true rfl⟩) hK hP hD hS hA rfl rfl rfl (xE_all) rfl hl.1 rfl (Nat.le_of_ble_eq_true rfl) dX4_hourOn_42 ⟨Nat.le_of_ble_eq_true rfl, Nat.le_of_ble_eq_true rfl⟩ (fun _ H locs _ hP hD hS => ?_)
        have hP : va_P D vwCl (mw cy b am thr nS nB ((hPre nS nB k gate u).1) (bakeN (hPre nS nB k gate u).2.1 j) gate ((hPre nS nB k gate u).2.2)) H := hP
        have hD : va_D A (mw cy b am thr nS nB ((hPre nS nB k gate u).1) (bakeN (hPre nS nB k gate u).2.1 j) gate ((hPre nS nB k gate u).2.2)) := hD
        refine W.eq (g2 := F0 m 45 ls [.int ((bakeN (hPre nS nB k gate u).2.1 j) j 7)]) rfl ?_
        refine lv_iconst (v := 1) hx hb dX4_hourOn_45 (by decide) ?_
        refine lv_icmp_ne (tgt := 52) hx hb dX4_hourOn_46 (by decide) (fun c46 => ?_) (fun c46 => ?_)
        · refine lv_iconst (v := 4) hx hb dX4_hourOn_52 (by decide) ?_
          refine lv_aload_n hx hb dX4_hourOn_53 rfl (lv_at hl 0 rfl) ?_
          refine lv_iload_n hx hb dX4_hourOn_54 rfl (lv_at hl 2 rfl) ?_
          refine lv_iconst (v := 3) hx hb dX4_hourOn_55 (by decide) ?_
          refine xcV (As := [.int (nI j), .int 3]) (rest := [.int 4]) ⟨hx, hb, hml, hown, hts⟩ (c_X4_sh l D cy b am thr nS nB ((hPre nS nB k gate u).1) (bakeN (hPre nS nB k gate u).2.1 j) gate ((hPre nS nB k gate u).2.2) j 3 (by omega) (by omega)) (cwV 2 hts gX4_hourOn_X4_sh rfl rfl rfl (by decide +kernel) ⟨Nat.le_of_ble_eq_true rfl, Nat.le_of_ble_eq_true rfl⟩) hK hP hD hS hA rfl rfl rfl (xE_all) rfl hl.1 rfl (Nat.le_of_ble_eq_true rfl) dX4_hourOn_56 ⟨Nat.le_of_ble_eq_true rfl, Nat.le_of_ble_eq_true rfl⟩ (fun _ H locs _ hP hD hS => ?_)
          have hP : va_P D vwCl (mw cy b am thr nS nB ((hPre nS nB k gate u).1) (bakeN (hPre nS nB k gate u).2.1 j) gate ((hPre nS nB k gate u).2.2)) H := hP
          have hD : va_D A (mw cy b am thr nS nB ((hPre nS nB k gate u).1) (bakeN (hPre nS nB k gate u).2.1 j) gate ((hPre nS nB k gate u).2.2)) := hD
          refine W.eq (g2 := F0 m 59 ls [.int ((bakeN (hPre nS nB k gate u).2.1 j) j 3), .int 4]) rfl ?_
          refine lv_aload_n hx hb dX4_hourOn_59 rfl (lv_at hl 0 rfl) ?_
          refine lv_iload_n hx hb dX4_hourOn_60 rfl (lv_at hl 2 rfl) ?_
          refine lv_iconst (v := 4) hx hb dX4_hourOn_61 (by decide) ?_
          refine xcV (As := [.int (nI j), .int 4]) (rest := [.int ((bakeN (hPre nS nB k gate u).2.1 j) j 3), .int 4]) ⟨hx, hb, hml, hown, hts⟩ (c_X4_sh l D cy b am thr nS nB ((hPre nS nB k gate u).1) (bakeN (hPre nS nB k gate u).2.1 j) gate ((hPre nS nB k gate u).2.2) j 4 (by omega) (by omega)) (cwV 2 hts gX4_hourOn_X4_sh rfl rfl rfl (by decide +kernel) ⟨Nat.le_of_ble_eq_true rfl, Nat.le_of_ble_eq_true rfl⟩) hK hP hD hS hA rfl rfl rfl (xE_all) rfl hl.1 rfl (Nat.le_of_ble_eq_true rfl) dX4_hourOn_62 ⟨Nat.le_of_ble_eq_true rfl, Nat.le_of_ble_eq_true rfl⟩ (fun _ H locs _ hP hD hS => ?_)
          have hP : va_P D vwCl (mw cy b am thr nS nB ((hPre nS nB k gate u).1) (bakeN (hPre nS nB k gate u).2.1 j) gate ((hPre nS nB k gate u).2.2)) H := hP
          have hD : va_D A (mw cy b am thr nS nB ((hPre nS nB k gate u).1) (bakeN (hPre nS nB k gate u).2.1 j) gate ((hPre nS nB k gate u).2.2)) := hD
          refine W.eq (g2 := F0 m 65 ls [.int ((bakeN (hPre nS nB k gate u).2.1 j) j 4), .int ((bakeN (hPre nS nB k gate u).2.1 j) j 3), .int 4]) rfl ?_
          refine lv_idiv hx hb dX4_hourOn_65 h4n ?_
          refine va_mmin hx hb (hml.trans hl.1.symm) hown (hts (.methodLink RX4 90 Lib.Math.min.name) (List.mem_of_getElem? (i := 4) rfl)) (hts (.static Lib.Math.min.name) (List.mem_of_getElem? (i := 5) rfl)) (hts (.initialized "java/lang/Math") (List.mem_of_getElem? (i := 6) rfl)) (hts (.code Lib.Math.min.name Lib.Math.min.code 2 (some .int)) (List.mem_of_getElem? (i := 7) rfl)) (Nat.le_of_ble_eq_true rfl) (Nat.le_of_ble_eq_true rfl) (Nat.le_of_ble_eq_true rfl) (Nat.le_of_ble_eq_true rfl) dX4_hourOn_66 ?_
          refine W.eq (g2 := F0 m 69 ls [.int (mn 4 (((bakeN (hPre nS nB k gate u).2.1 j) j 3) / ((bakeN (hPre nS nB k gate u).2.1 j) j 4)))]) rfl ?_
          refine lv_istore_n (lv' := [(3, .int (mn 4 (((bakeN (hPre nS nB k gate u).2.1 j) j 3) / ((bakeN (hPre nS nB k gate u).2.1 j) j 4)))), (0, .ref b), (1, .int (nI k)), (2, .int (nI j))]) hx hb dX4_hourOn_69 rfl hl (by decide) rfl (fun ls hl => ?_)
          refine lv_aload_n hx hb dX4_hourOn_70 rfl (lv_at hl 1 rfl) ?_
          refine lv_iload_n hx hb dX4_hourOn_71 rfl (lv_at hl 3 rfl) ?_
          refine lv_iconst (v := 3) hx hb dX4_hourOn_72 (by decide) ?_
          refine lv_aload_n hx hb dX4_hourOn_73 rfl (lv_at hl 1 rfl) ?_
          refine lv_iload_n hx hb dX4_hourOn_74 rfl (lv_at hl 3 rfl) ?_
          refine lv_iconst (v := 3) hx hb dX4_hourOn_75 (by decide) ?_
          refine xcV (As := [.int (nI j), .int 3]) (rest := [.int 3, .int (nI j), .ref b]) ⟨hx, hb, hml, hown, hts⟩ (c_X4_sh l D cy b am thr nS nB ((hPre nS nB k gate u).1) (bakeN (hPre nS nB k gate u).2.1 j) gate ((hPre nS nB k gate u).2.2) j 3 (by omega) (by omega)) (cwV 2 hts gX4_hourOn_X4_sh rfl rfl rfl (by decide +kernel) ⟨Nat.le_of_ble_eq_true rfl, Nat.le_of_ble_eq_true rfl⟩) hK hP hD hS hA rfl rfl rfl (xE_all) rfl hl.1 rfl (Nat.le_of_ble_eq_true rfl) dX4_hourOn_76 ⟨Nat.le_of_ble_eq_true rfl, Nat.le_of_ble_eq_true rfl⟩ (fun _ H locs _ hP hD hS => ?_)
          have hP : va_P D vwCl (mw cy b am thr nS nB ((hPre nS nB k gate u).1) (bakeN (hPre nS nB k gate u).2.1 j) gate ((hPre nS nB k gate u).2.2)) H := hP
          have hD : va_D A (mw cy b am thr nS nB ((hPre nS nB k gate u).1) (bakeN (hPre nS nB k gate u).2.1 j) gate ((hPre nS nB k gate u).2.2)) := hD
          refine W.eq (g2 := F0 m 79 ls [.int ((bakeN (hPre nS nB k gate u).2.1 j) j 3), .int 3, .int (nI j), .ref b]) rfl ?_
          refine lv_iload_n hx hb dX4_hourOn_79 rfl (lv_at hl 0 rfl) ?_
          refine lv_aload_n hx hb dX4_hourOn_80 rfl (lv_at hl 1 rfl) ?_
          refine lv_iload_n hx hb dX4_hourOn_81 rfl (lv_at hl 3 rfl) ?_
          refine lv_iconst (v := 4) hx hb dX4_hourOn_82 (by decide) ?_
          refine xcV (As := [.int (nI j), .int 4]) (rest := [.int (mn 4 (((bakeN (hPre nS nB k gate u).2.1 j) j 3) / ((bakeN (hPre nS nB k gate u).2.1 j) j 4))), .int ((bakeN (hPre nS nB k gate u).2.1 j) j 3), .int 3, .int (nI j), .ref b]) ⟨hx, hb, hml, hown, hts⟩ (c_X4_sh l D cy b am thr nS nB ((hPre nS nB k gate u).1) (bakeN (hPre nS nB k gate u).2.1 j) gate ((hPre nS nB k gate u).2.2) j 4 (by omega) (by omega)) (cwV 2 hts gX4_hourOn_X4_sh rfl rfl rfl (by decide +kernel) ⟨Nat.le_of_ble_eq_true rfl, Nat.le_of_ble_eq_true rfl⟩) hK hP hD hS hA rfl rfl rfl (xE_all) rfl hl.1 rfl (Nat.le_of_ble_eq_true rfl) dX4_hourOn_83 ⟨Nat.le_of_ble_eq_true rfl, Nat.le_of_ble_eq_true rfl⟩ (fun _ H locs _ hP hD hS => ?_)
          have hP : va_P D vwCl (mw cy b am thr nS nB ((hPre nS nB k gate u).1) (bakeN (hPre nS nB k gate u).2.1 j) gate ((hPre nS nB k gate u).2.2)) H := hP
          have hD : va_D A (mw cy b am thr nS nB ((hPre nS nB k gate u).1) (bakeN (hPre nS nB k gate u).2.1 j) gate ((hPre nS nB k gate u).2.2)) := hD
          refine W.eq (g2 := F0 m 86 ls [.int ((bakeN (hPre nS nB k gate u).2.1 j) j 4), .int (mn 4 (((bakeN (hPre nS nB k gate u).2.1 j) j 3) / ((bakeN (hPre nS nB k gate u).2.1 j) j 4))), .int ((bakeN (hPre nS nB k gate u).2.1 j) j 3), .int 3, .int (nI j), .ref b]) rfl ?_
          refine lv_imul hx hb dX4_hourOn_86 ?_
          refine lv_isub hx hb dX4_hourOn_87 ?_
          refine xcV (As := [.int (nI j), .int 3, .int (((bakeN (hPre nS nB k gate u).2.1 j) j 3) - ((mn 4 (((bakeN (hPre nS nB k gate u).2.1 j) j 3) / ((bakeN (hPre nS nB k gate u).2.1 j) j 4))) * ((bakeN (hPre nS nB k gate u).2.1 j) j 4)))]) (rest := []) ⟨hx, hb, hml, hown, hts⟩ (c_X4_put l D cy b am thr nS nB ((hPre nS nB k gate u).1) (bakeN (hPre nS nB k gate u).2.1 j) gate ((hPre nS nB k gate u).2.2) j 3 (((bakeN (hPre nS nB k gate u).2.1 j) j 3) - ((mn 4 (((bakeN (hPre nS nB k gate u).2.1 j) j 3) / ((bakeN (hPre nS nB k gate u).2.1 j) j 4))) * ((bakeN (hPre nS nB k gate u).2.1 j) j 4))) (by omega) (by omega)) (cwV 3 hts gX4_hourOn_X4_put rfl rfl rfl (by decide +kernel) ⟨Nat.le_of_ble_eq_true rfl, Nat.le_of_ble_eq_true rfl⟩) hK hP hD hS hA rfl rfl rfl (xE_all) rfl hl.1 rfl (Nat.le_of_ble_eq_true rfl) dX4_hourOn_88 ⟨Nat.le_of_ble_eq_true rfl, Nat.le_of_ble_eq_true rfl⟩ (fun _ H locs _ hP hD hS => ?_)
          have hP : va_P D vwCl (mw cy b am thr nS nB ((hPre nS nB k gate u).1) (va_up (bakeN (hPre nS nB k gate u).2.1 j) j (upd ((bakeN (hPre nS nB k gate u).2.1 j) j) 3 (((bakeN (hPre nS nB k gate u).2.1 j) j 3) - ((mn 4 (((bakeN (hPre nS nB k gate u).2.1 j) j 3) / ((bakeN (hPre nS nB k gate u).2.1 j) j 4))) * ((bakeN (hPre nS nB k gate u).2.1 j) j 4))))) gate ((hPre nS nB k gate u).2.2)) H := hP
          have hD : va_D A (mw cy b am thr nS nB ((hPre nS nB k gate u).1) (va_up (bakeN (hPre nS nB k gate u).2.1 j) j (upd ((bakeN (hPre nS nB k gate u).2.1 j) j) 3 (((bakeN (hPre nS nB k gate u).2.1 j) j 3) - ((mn 4 (((bakeN (hPre nS nB k gate u).2.1 j) j 3) / ((bakeN (hPre nS nB k gate u).2.1 j) j 4))) * ((bakeN (hPre nS nB k gate u).2.1 j) j 4))))) gate ((hPre nS nB k gate u).2.2)) := hD
          refine W.eq (g2 := F0 m 91 ls []) rfl ?_
          refine lv_aload_n hx hb dX4_hourOn_91 rfl (lv_at hl 1 rfl) ?_
          refine lv_iload_n hx hb dX4_hourOn_92 rfl (lv_at hl 3 rfl) ?_
          refine lv_iconst (v := 5) hx hb dX4_hourOn_93 (by decide) ?_
          refine lv_aload_n hx hb dX4_hourOn_94 rfl (lv_at hl 1 rfl) ?_
          refine lv_iload_n hx hb dX4_hourOn_95 rfl (lv_at hl 3 rfl) ?_
          refine lv_iconst (v := 5) hx hb dX4_hourOn_96 (by decide) ?_
          refine xcV (As := [.int (nI j), .int 5]) (rest := [.int 5, .int (nI j), .ref b]) ⟨hx, hb, hml, hown, hts⟩ (c_X4_sh l D cy b am thr nS nB ((hPre nS nB k gate u).1) (va_up (bakeN (hPre nS nB k gate u).2.1 j) j (upd ((bakeN (hPre nS nB k gate u).2.1 j) j) 3 (((bakeN (hPre nS nB k gate u).2.1 j) j 3) - ((mn 4 (((bakeN (hPre nS nB k gate u).2.1 j) j 3) / ((bakeN (hPre nS nB k gate u).2.1 j) j 4))) * ((bakeN (hPre nS nB k gate u).2.1 j) j 4))))) gate ((hPre nS nB k gate u).2.2) j 5 (by omega) (by omega)) (cwV 2 hts gX4_hourOn_X4_sh rfl rfl rfl (by decide +kernel) ⟨Nat.le_of_ble_eq_true rfl, Nat.le_of_ble_eq_true rfl⟩) hK hP hD hS hA rfl rfl rfl (xE_all) rfl hl.1 rfl (Nat.le_of_ble_eq_true rfl) dX4_hourOn_97 ⟨Nat.le_of_ble_eq_true rfl, Nat.le_of_ble_eq_true rfl⟩ (fun _ H locs _ hP hD hS => ?_)
          have hP : va_P D vwCl (mw cy b am thr nS nB ((hPre nS nB k gate u).1) (va_up (bakeN (hPre nS nB k gate u).2.1 j) j (upd ((bakeN (hPre nS nB k gate u).2.1 j) j) 3 (((bakeN (hPre nS nB k gate u).2.1 j) j 3) - ((mn 4 (((bakeN (hPre nS nB k gate u).2.1 j) j 3) / ((bakeN (hPre nS nB k gate u).2.1 j) j 4))) * ((bakeN (hPre nS nB k gate u).2.1 j) j 4))))) gate ((hPre nS nB k gate u).2.2)) H := hP
          have hD : va_D A (mw cy b am thr nS nB ((hPre nS nB k gate u).1) (va_up (bakeN (hPre nS nB k gate u).2.1 j) j (upd ((bakeN (hPre nS nB k gate u).2.1 j) j) 3 (((bakeN (hPre nS nB k gate u).2.1 j) j 3) - ((mn 4 (((bakeN (hPre nS nB k gate u).2.1 j) j 3) / ((bakeN (hPre nS nB k gate u).2.1 j) j 4))) * ((bakeN (hPre nS nB k gate u).2.1 j) j 4))))) gate ((hPre nS nB k gate u).2.2)) := hD
          refine W.eq (g2 := F0 m 100 ls [.int (((bakeN (hPre nS nB k gate u).2.1 j) j) 5), .int 5, .int (nI j), .ref b]) (by show F0 m 100 ls (.int ((va_up (bakeN (hPre nS nB k gate u).2.1 j) j (upd ((bakeN (hPre nS nB k gate u).2.1 j) j) 3 (((bakeN (hPre nS nB k gate u).2.1 j) j 3) - ((mn 4 (((bakeN (hPre nS nB k gate u).2.1 j) j 3) / ((bakeN (hPre nS nB k gate u).2.1 j) j 4))) * ((bakeN (hPre nS nB k gate u).2.1 j) j 4))))) j 5) :: _) = _; first | (rw [up_at]; done) | (rw [up_at]; rfl)) ?_
          refine lv_iload_n hx hb dX4_hourOn_100 rfl (lv_at hl 0 rfl) ?_
          refine lv_iadd hx hb dX4_hourOn_101 ?_
          refine xcV (As := [.int (nI j), .int 5, .int ((((bakeN (hPre nS nB k gate u).2.1 j) j) 5) + (mn 4 (((bakeN (hPre nS nB k gate u).2.1 j) j 3) / ((bakeN (hPre nS nB k gate u).2.1 j) j 4))))]) (rest := []) ⟨hx, hb, hml, hown, hts⟩ (c_X4_put l D cy b am thr nS nB ((hPre nS nB k gate u).1) (va_up (bakeN (hPre nS nB k gate u).2.1 j) j (upd ((bakeN (hPre nS nB k gate u).2.1 j) j) 3 (((bakeN (hPre nS nB k gate u).2.1 j) j 3) - ((mn 4 (((bakeN (hPre nS nB k gate u).2.1 j) j 3) / ((bakeN (hPre nS nB k gate u).2.1 j) j 4))) * ((bakeN (hPre nS nB k gate u).2.1 j) j 4))))) gate ((hPre nS nB k gate u).2.2) j 5 ((((bakeN (hPre nS nB k gate u).2.1 j) j) 5) + (mn 4 (((bakeN (hPre nS nB k gate u).2.1 j) j 3) / ((bakeN (hPre nS nB k gate u).2.1 j) j 4)))) (by omega) (by omega)) (cwV 3 hts gX4_hourOn_X4_put rfl rfl rfl (by decide +kernel) ⟨Nat.le_of_ble_eq_true rfl, Nat.le_of_ble_eq_true rfl⟩) hK hP hD hS hA rfl rfl rfl (xE_all) rfl hl.1 rfl (Nat.le_of_ble_eq_true rfl) dX4_hourOn_102 ⟨Nat.le_of_ble_eq_true rfl, Nat.le_of_ble_eq_true rfl⟩ (fun _ H locs _ hP hD hS => ?_)
          have hP : va_P D vwCl (mw cy b am thr nS nB ((hPre nS nB k gate u).1) (va_up (bakeN (hPre nS nB k gate u).2.1 j) j (upd (upd ((bakeN (hPre nS nB k gate u).2.1 j) j) 3 (((bakeN (hPre nS nB k gate u).2.1 j) j 3) - ((mn 4 (((bakeN (hPre nS nB k gate u).2.1 j) j 3) / ((bakeN (hPre nS nB k gate u).2.1 j) j 4))) * ((bakeN (hPre nS nB k gate u).2.1 j) j 4)))) 5 ((((bakeN (hPre nS nB k gate u).2.1 j) j) 5) + (mn 4 (((bakeN (hPre nS nB k gate u).2.1 j) j 3) / ((bakeN (hPre nS nB k gate u).2.1 j) j 4)))))) gate ((hPre nS nB k gate u).2.2)) H := (by rw [← up_upd]; exact hP)
          have hD : va_D A (mw cy b am thr nS nB ((hPre nS nB k gate u).1) (va_up (bakeN (hPre nS nB k gate u).2.1 j) j (upd (upd ((bakeN (hPre nS nB k gate u).2.1 j) j) 3 (((bakeN (hPre nS nB k gate u).2.1 j) j 3) - ((mn 4 (((bakeN (hPre nS nB k gate u).2.1 j) j 3) / ((bakeN (hPre nS nB k gate u).2.1 j) j 4))) * ((bakeN (hPre nS nB k gate u).2.1 j) j 4)))) 5 ((((bakeN (hPre nS nB k gate u).2.1 j) j) 5) + (mn 4 (((bakeN (hPre nS nB k gate u).2.1 j) j 3) / ((bakeN (hPre nS nB k gate u).2.1 j) j 4)))))) gate ((hPre nS nB k gate u).2.2)) := (by rw [← up_upd]; exact hD)
          refine W.eq (g2 := F0 m 105 ls []) rfl ?_
          refine lv_iinc (v := (nI (j + 1))) (lv' := [(2, .int (nI (j + 1))), (3, .int (mn 4 (((bakeN (hPre nS nB k gate u).2.1 j) j 3) / ((bakeN (hPre nS nB k gate u).2.1 j) j 4)))), (0, .ref b), (1, .int (nI k))]) hx hb dX4_hourOn_105 hl (k := 3) rfl ((nI_1 j)) (by decide) rfl (fun ls hl => ?_)
          refine lv_goto (tgt := 30) hx hb dX4_hourOn_108 (by decide) ?_
          have hz := one_ne h7 c46
          have e : bakeN (hPre nS nB k gate u).2.1 (j + 1) = va_up (bakeN (hPre nS nB k gate u).2.1 j) j (upd (upd ((bakeN (hPre nS nB k gate u).2.1 j) j) 3 (((bakeN (hPre nS nB k gate u).2.1 j) j 3) - ((mn 4 (((bakeN (hPre nS nB k gate u).2.1 j) j 3) / ((bakeN (hPre nS nB k gate u).2.1 j) j 4))) * ((bakeN (hPre nS nB k gate u).2.1 j) j 4)))) 5 ((((bakeN (hPre nS nB k gate u).2.1 j) j) 5) + (mn 4 (((bakeN (hPre nS nB k gate u).2.1 j) j 3) / ((bakeN (hPre nS nB k gate u).2.1 j) j 4))))) := by show va_up _ _ (bBake _) = _; unfold bBake bLoaves; rw [if_pos ⟨hz, h4⟩, mn_comm ((bakeN (hPre nS nB k gate u).2.1 j) j 3 / (bakeN (hPre nS nB k gate u).2.1 j) j 4) 4]
          exact ih (j + 1)  _ _ _ (by omega) (by rw [e]; exact hP) (by rw [e]; exact hD) hS (lv_sub hl [2, 3, 0] rfl)
        · refine lv_goto (tgt := 105) hx hb dX4_hourOn_49 (by decide) ?_
          refine lv_iinc (v := (nI (j + 1))) (lv' := [(2, .int (nI (j + 1))), (0, .ref b), (1, .int (nI k))]) hx hb dX4_hourOn_105 hl (k := 2) rfl ((nI_1 j)) (by decide) rfl (fun ls hl => ?_)
          refine lv_goto (tgt := 30) hx hb dX4_hourOn_108 (by decide) ?_
          have e : bakeN (hPre nS nB k gate u).2.1 (j + 1) = (bakeN (hPre nS nB k gate u).2.1 j) := by show va_up _ _ (bBake _) = _; unfold bBake; rw [if_neg (fun z => absurd z.1 (by rw [c46]; decide)), up_self]
          exact ih (j + 1)  _ _ _ (by omega) (by rw [e]; exact hP) (by rw [e]; exact hD) hS (lv_sub hl [1, 2, 0] rfl)
    exact loop nB 0  _ _ _ (by omega) hP hD hS (lv_sub hl [2, 1, 0] rfl)
  · have k0 : k = 0 := t_eq (by omega) (by omega) c21
    refine lv_aload_n hx hb dX4_hourOn_24 rfl (lv_at hl 1 rfl) ?_
    refine xcV (As := []) (rest := []) ⟨hx, hb, hml, hown, hts⟩ (c_X4_night l D cy b am thr nS nB ((hCart nS (gate k) u).1) ((hCart nS (gate k) u).2.1) gate ((hCart nS (gate k) u).2.2) hcS hcB (by rw [hCart_bk]; exact fun j hj => (ok.2.1 j hj).1) (by rw [hCart_bk]; exact fun j hj => (ok.2.1 j hj).2.1)) (cwV 0 hts gX4_hourOn_X4_night rfl rfl rfl (by decide +kernel) ⟨Nat.le_of_ble_eq_true rfl, Nat.le_of_ble_eq_true rfl⟩) hK hP hD hS hA rfl rfl rfl (xE_all) rfl hl.1 rfl (Nat.le_of_ble_eq_true rfl) dX4_hourOn_25 ⟨Nat.le_of_ble_eq_true rfl, Nat.le_of_ble_eq_true rfl⟩ (fun _ H locs _ hP hD hS => ?_)
    have hP : va_P D vwCl (mw cy b am thr nS nB ((hNight nS nB (hCart nS (gate k) u)).1) ((hNight nS nB (hCart nS (gate k) u)).2.1) gate ((hNight nS nB (hCart nS (gate k) u)).2.2)) H := hP
    have hD : va_D A (mw cy b am thr nS nB ((hNight nS nB (hCart nS (gate k) u)).1) ((hNight nS nB (hCart nS (gate k) u)).2.1) gate ((hNight nS nB (hCart nS (gate k) u)).2.2)) := hD
    refine W.eq (g2 := F0 m 28 ls []) rfl ?_
    have ep : hPre nS nB k gate u = hNight nS nB (hCart nS (gate k) u) := if_pos k0
    have hP : va_P D vwCl (mw cy b am thr nS nB ((hPre nS nB k gate u).1) ((hPre nS nB k gate u).2.1) gate ((hPre nS nB k gate u).2.2)) H := by rw [ep]; exact hP
    have hD : va_D A (mw cy b am thr nS nB ((hPre nS nB k gate u).1) ((hPre nS nB k gate u).2.1) gate ((hPre nS nB k gate u).2.2)) := by rw [ep]; exact hD
    refine lv_iconst (v := 0) hx hb dX4_hourOn_28 (by decide) ?_
    refine lv_istore_n (lv' := [(2, .int 0), (1, .int (nI k)), (0, .ref b)]) hx hb dX4_hourOn_29 rfl hl (by decide) rfl (fun ls hl => ?_)
    have loop : ∀ (n j : Nat)  (H : Heap) (locs : List Loc) (ls : Array Slot), j + n = nB → va_P D vwCl (mw cy b am thr nS nB ((hPre nS nB k gate u).1) (bakeN (hPre nS nB k gate u).2.1 j) gate ((hPre nS nB k gate u).2.2)) H → va_D A (mw cy b am thr nS nB ((hPre nS nB k gate u).1) (bakeN (hPre nS nB k gate u).2.1 j) gate ((hPre nS nB k gate u).2.2)) → va_S A s.heap H locs → lv_has ls 4 [(0, .ref b), (1, .int (nI k)), (2, .int (nI j))] → W p l e ({ frames := 2, cells := 0, slots := 0, locals := 60 } : Room) s m ([.ref b] : List Value).toArray below meth c H locs 0 0 (MQ below (xQ D A (fun _ : Unit => none) (fun _ => True) (fun _ => mw cy b am thr nS nB ((hour1 nS nB k gate u).1) ((hour1 nS nB k gate u).2.1) gate ((hour1 nS nB k gate u).2.2))) ([.ref b] : List Value).toArray s 0 0 A) (F0 m 30 ls []) := by
      intro n
      induction n with
      | zero =>
        intro j  H locs ls hns hP hD hS hl
        have hij : j = nB := by omega
        refine lv_iload_n hx hb dX4_hourOn_30 rfl (lv_at hl 2 rfl) ?_
        refine lv_aload_n hx hb dX4_hourOn_31 rfl (lv_at hl 0 rfl) ?_
        refine va_get (D := D) (ci := 4) (v := .int (nI nB)) (C := RX4) (T := TX4) (N := 8) hx hb hts hinX4 hown hK.1 hP 0 rfl rfl 2 (by decide) (hts (.fieldLink RX4 36 "LoafMarksModel" "bakers" "I") (List.mem_of_getElem? (i := 3) rfl)) (fun _ h9 => h9) rfl dX4_hourOn_32 ?_
        refine lv_icmp_ge (tgt := 111) hx hb dX4_hourOn_35 (by decide) (fun _ => ?_) (fun h => absurd (by rw [hij]; exact Int32.le_refl _) h)
        have em : hMorn nS nB k gate u = ((hPre nS nB k gate u).1, (bakeN (hPre nS nB k gate u).2.1 j), (hPre nS nB k gate u).2.2) := by rw [hij]; rfl
        have hP : va_P D vwCl (mw cy b am thr nS nB ((hMorn nS nB k gate u).1) ((hMorn nS nB k gate u).2.1) gate ((hMorn nS nB k gate u).2.2)) H := by rw [em]; exact hP
        have hD : va_D A (mw cy b am thr nS nB ((hMorn nS nB k gate u).1) ((hMorn nS nB k gate u).2.1) gate ((hMorn nS nB k gate u).2.2)) := by rw [em]; exact hD
        refine lv_iload_n hx hb dX4_hourOn_111 rfl (lv_at hl 1 rfl) ?_
        refine lv_bipush (v := 12) hx hb dX4_hourOn_112 (by decide) ?_
        refine lv_icmp_ne (tgt := 121) hx hb dX4_hourOn_114 (by decide) (fun c114 => ?_) (fun c114 => ?_)
        · have k12 : ¬ k = 12 := fun h => c114 (by rw [h]; rfl)
          refine lv_aload_n hx hb dX4_hourOn_121 rfl (lv_at hl 0 rfl) ?_
          refine va_get (D := D) (ci := 4) (v := .ref (am 3)) (C := RX4) (T := TX4) (N := 8) hx hb hts hinX4 hown hK.1 hP 0 rfl rfl 7 (by decide) (hts (.fieldLink RX4 23 "LoafMarksModel" "numbers" "[I") (List.mem_of_getElem? (i := 1) rfl)) (fun _ h9 => h9) rfl dX4_hourOn_122 ?_
          refine lv_iconst (v := 0) hx hb dX4_hourOn_125 (by decide) ?_
          refine lv_dup2_11 hx hb dX4_hourOn_126 rfl rfl ?_
          refine xiald hx hb hK hP 4 rfl 0 (by decide) (by decide) (by decide) dX4_hourOn_127 ?_
          refine W.eq (g2 := F0 m 128 ls [.int (((hMorn nS nB k gate u).2.2) 0), .int 0, .ref (am 3)]) rfl ?_
          refine lv_iconst (v := 1) hx hb dX4_hourOn_128 (by decide) ?_
          refine lv_iadd hx hb dX4_hourOn_129 ?_
          refine xiast hx hb hK hP hD hS 4 rfl 0 (by decide) (by decide) (by decide) dX4_hourOn_130 (fun H locs hP hD hS => ?_)
          have hP := hP
          have eN : upd (fN ((hMorn nS nB k gate u).2.2)) 0 ((((hMorn nS nB k gate u).2.2) 0) + 1) = fN (upd ((hMorn nS nB k gate u).2.2) 0 ((((hMorn nS nB k gate u).2.2) 0) + 1)) := fN_put0
          have hP : va_P D vwCl (mw cy b am thr nS nB ((hMorn nS nB k gate u).1) ((hMorn nS nB k gate u).2.1) gate (upd ((hMorn nS nB k gate u).2.2) 0 ((((hMorn nS nB k gate u).2.2) 0) + 1))) H := by unfold mw; rw [← eN]; exact hP
          have hD : va_D A (mw cy b am thr nS nB ((hMorn nS nB k gate u).1) ((hMorn nS nB k gate u).2.1) gate (upd ((hMorn nS nB k gate u).2.2) 0 ((((hMorn nS nB k gate u).2.2) 0) + 1))) := by unfold mw; rw [← eN]; exact hD
          have e : hour1 nS nB k gate u = hTick (hMorn nS nB k gate u) := by unfold hour1 hSale; rw [if_neg k12]
          exact xrv () hx hb hr hlocks hS (Nat.le_of_ble_eq_true rfl) (Nat.le_of_ble_eq_true rfl) dX4_hourOn_131 (by rw [e]; exact hP) (by rw [e]; exact hD) rfl trivial
        · have k12 : k = 12 := t_eq (by omega) (by omega) c114
          refine lv_aload_n hx hb dX4_hourOn_117 rfl (lv_at hl 0 rfl) ?_
          refine xcV (As := []) (rest := []) ⟨hx, hb, hml, hown, hts⟩ (c_X4_noon l D cy b am thr nS nB ((hMorn nS nB k gate u).1) ((hMorn nS nB k gate u).2.1) gate ((hMorn nS nB k gate u).2.2) hcB) (cwV 0 hts gX4_hourOn_X4_noon rfl rfl rfl (by decide +kernel) ⟨Nat.le_of_ble_eq_true rfl, Nat.le_of_ble_eq_true rfl⟩) hK hP hD hS hA rfl rfl rfl (xE_all) rfl hl.1 rfl (Nat.le_of_ble_eq_true rfl) dX4_hourOn_118 ⟨Nat.le_of_ble_eq_true rfl, Nat.le_of_ble_eq_true rfl⟩ (fun _ H locs _ hP hD hS => ?_)
          have hP : va_P D vwCl (mw cy b am thr nS nB ((hNoon nB (hMorn nS nB k gate u)).1) ((hNoon nB (hMorn nS nB k gate u)).2.1) gate ((hNoon nB (hMorn nS nB k gate u)).2.2)) H := hP
          have hD : va_D A (mw cy b am thr nS nB ((hNoon nB (hMorn nS nB k gate u)).1) ((hNoon nB (hMorn nS nB k gate u)).2.1) gate ((hNoon nB (hMorn nS nB k gate u)).2.2)) := hD
          refine W.eq (g2 := F0 m 121 ls []) rfl ?_
          refine lv_aload_n hx hb dX4_hourOn_121 rfl (lv_at hl 0 rfl) ?_
          refine va_get (D := D) (ci := 4) (v := .ref (am 3)) (C := RX4) (T := TX4) (N := 8) hx hb hts hinX4 hown hK.1 hP 0 rfl rfl 7 (by decide) (hts (.fieldLink RX4 23 "LoafMarksModel" "numbers" "[I") (List.mem_of_getElem? (i := 1) rfl)) (fun _ h9 => h9) rfl dX4_hourOn_122 ?_
          refine lv_iconst (v := 0) hx hb dX4_hourOn_125 (by decide) ?_
          refine lv_dup2_11 hx hb dX4_hourOn_126 rfl rfl ?_
          refine xiald hx hb hK hP 4 rfl 0 (by decide) (by decide) (by decide) dX4_hourOn_127 ?_
          refine W.eq (g2 := F0 m 128 ls [.int (((hNoon nB (hMorn nS nB k gate u)).2.2) 0), .int 0, .ref (am 3)]) rfl ?_
          refine lv_iconst (v := 1) hx hb dX4_hourOn_128 (by decide) ?_
          refine lv_iadd hx hb dX4_hourOn_129 ?_
          refine xiast hx hb hK hP hD hS 4 rfl 0 (by decide) (by decide) (by decide) dX4_hourOn_130 (fun H locs hP hD hS => ?_)
          have hP := hP
          have eN : upd (fN ((hNoon nB (hMorn nS nB k gate u)).2.2)) 0 ((((hNoon nB (hMorn nS nB k gate u)).2.2) 0) + 1) = fN (upd ((hNoon nB (hMorn nS nB k gate u)).2.2) 0 ((((hNoon nB (hMorn nS nB k gate u)).2.2) 0) + 1)) := fN_put0
          have hP : va_P D vwCl (mw cy b am thr nS nB ((hNoon nB (hMorn nS nB k gate u)).1) ((hNoon nB (hMorn nS nB k gate u)).2.1) gate (upd ((hNoon nB (hMorn nS nB k gate u)).2.2) 0 ((((hNoon nB (hMorn nS nB k gate u)).2.2) 0) + 1))) H := by unfold mw; rw [← eN]; exact hP
          have hD : va_D A (mw cy b am thr nS nB ((hNoon nB (hMorn nS nB k gate u)).1) ((hNoon nB (hMorn nS nB k gate u)).2.1) gate (upd ((hNoon nB (hMorn nS nB k gate u)).2.2) 0 ((((hNoon nB (hMorn nS nB k gate u)).2.2) 0) + 1))) := by unfold mw; rw [← eN]; exact hD
          have e : hour1 nS nB k gate u = hTick (hNoon nB (hMorn nS nB k gate u)) := by unfold hour1 hSale; rw [if_pos k12]
          exact xrv () hx hb hr hlocks hS (Nat.le_of_ble_eq_true rfl) (Nat.le_of_ble_eq_true rfl) dX4_hourOn_131 (by rw [e]; exact hP) (by rw [e]; exact hD) rfl trivial
      | succ n ih =>
        intro j  H locs ls hns hP hD hS hl
        have hlt : j < nB := by omega
        have eh7 : (bakeN (hPre nS nB k gate u).2.1 j) j 7 = u.2.1 j 7 := by rw [bakeN_ne _ _ (by decide) (by decide), hPre_ne _ _ _ _ _ _ (by decide)]
        have eh4 : (bakeN (hPre nS nB k gate u).2.1 j) j 4 = u.2.1 j 4 := by rw [bakeN_ne _ _ (by decide) (by decide), hPre_ne _ _ _ _ _ _ (by decide)]
        have h7 : (bakeN (hPre nS nB k gate u).2.1 j) j 7 = 0 ∨ (bakeN (hPre nS nB k gate u).2.1 j) j 7 = 1 := by rw [eh7]; exact (ok.2.1 j hlt).2.1
        have h4 : 0 < (bakeN (hPre nS nB k gate u).2.1 j) j 4 := by rw [eh4]; exact (ok.2.1 j hlt).2.2
        have h4n : (bakeN (hPre nS nB k gate u).2.1 j) j 4 ≠ 0 := fun z => absurd h4 (by rw [z]; decide)
        refine lv_iload_n hx hb dX4_hourOn_30 rfl (lv_at hl 2 rfl) ?_
        refine lv_aload_n hx hb dX4_hourOn_31 rfl (lv_at hl 0 rfl) ?_
        refine va_get (D := D) (ci := 4) (v := .int (nI nB)) (C := RX4) (T := TX4) (N := 8) hx hb hts hinX4 hown hK.1 hP 0 rfl rfl 2 (by decide) (hts (.fieldLink RX4 36 "LoafMarksModel" "bakers" "I") (List.mem_of_getElem? (i := 3) rfl)) (fun _ h9 => h9) rfl dX4_hourOn_32 ?_
        refine lv_icmp_ge (tgt := 111) hx hb dX4_hourOn_35 (by decide) (fun h => absurd h (nI_ge (a := j) (b := nB) (by omega) (by omega))) (fun _ => ?_)
        refine lv_aload_n hx hb dX4_hourOn_38 rfl (lv_at hl 0 rfl) ?_
        refine lv_iload_n hx hb dX4_hourOn_39 rfl (lv_at hl 2 rfl) ?_
        refine lv_bipush (v := 7) hx hb dX4_hourOn_40 (by decide) ?_
        refine xcV (As := [.int (nI j), .int 7]) (rest := []) ⟨hx, hb, hml, hown, hts⟩ (c_X4_sh l D cy b am thr nS nB ((hPre nS nB k gate u).1) (bakeN (hPre nS nB k gate u).2.1 j) gate ((hPre nS nB k gate u).2.2) j 7 (by omega) (by omega)) (cwV 2 hts gX4_hourOn_X4_sh rfl rfl rfl (by decide +kernel) ⟨Nat.le_of_ble_eq_true rfl, Nat.le_of_ble_eq_true rfl⟩) hK hP hD hS hA rfl rfl rfl (xE_all) rfl hl.1 rfl (Nat.le_of_ble_eq_true rfl) dX4_hourOn_42 ⟨Nat.le_of_ble_eq_true rfl, Nat.le_of_ble_eq_true rfl⟩ (fun _ H locs _ hP hD hS => ?_)
        have hP : va_P D vwCl (mw cy b am thr nS nB ((hPre nS nB k gate u).1) (bakeN (hPre nS nB k gate u).2.1 j) gate ((hPre nS nB k gate u).2.2)) H := hP
        have hD : va_D A (mw cy b am thr nS nB ((hPre nS nB k gate u).1) (bakeN (hPre nS nB k gate u).2.1 j) gate ((hPre nS nB k gate u).2.2)) := hD
        refine W.eq (g2 := F0 m 45 ls [.int ((bakeN (hPre nS nB k gate u).2.1 j) j 7)]) rfl ?_
        refine lv_iconst (v := 1) hx hb dX4_hourOn_45 (by decide) ?_
        refine lv_icmp_ne (tgt := 52) hx hb dX4_hourOn_46 (by decide) (fun c46 => ?_) (fun c46 => ?_)
        · refine lv_iconst (v := 4) hx hb dX4_hourOn_52 (by decide) ?_
          refine lv_aload_n hx hb dX4_hourOn_53 rfl (lv_at hl 0 rfl) ?_
          refine lv_iload_n hx hb dX4_hourOn_54 rfl (lv_at hl 2 rfl) ?_
          refine lv_iconst (v := 3) hx hb dX4_hourOn_55 (by decide) ?_
          refine xcV (As := [.int (nI j), .int 3]) (rest := [.int 4]) ⟨hx, hb, hml, hown, hts⟩ (c_X4_sh l D cy b am thr nS nB ((hPre nS nB k gate u).1) (bakeN (hPre nS nB k gate u).2.1 j) gate ((hPre nS nB k gate u).2.2) j 3 (by omega) (by omega)) (cwV 2 hts gX4_hourOn_X4_sh rfl rfl rfl (by decide +kernel) ⟨Nat.le_of_ble_eq_true rfl, Nat.le_of_ble_eq_true rfl⟩) hK hP hD hS hA rfl rfl rfl (xE_all) rfl hl.1 rfl (Nat.le_of_ble_eq_true rfl) dX4_hourOn_56 ⟨Nat.le_of_ble_eq_true rfl, Nat.le_of_ble_eq_true rfl⟩ (fun _ H locs _ hP hD hS => ?_)
          have hP : va_P D vwCl (mw cy b am thr nS nB ((hPre nS nB k gate u).1) (bakeN (hPre nS nB k gate u).2.1 j) gate ((hPre nS nB k gate u).2.2)) H := hP
          have hD : va_D A (mw cy b am thr nS nB ((hPre nS nB k gate u).1) (bakeN (hPre nS nB k gate u).2.1 j) gate ((hPre nS nB k gate u).2.2)) := hD
          refine W.eq (g2 := F0 m 59 ls [.int ((bakeN (hPre nS nB k gate u).2.1 j) j 3), .int 4]) rfl ?_
          refine lv_aload_n hx hb dX4_hourOn_59 rfl (lv_at hl 0 rfl) ?_
          refine lv_iload_n hx hb dX4_hourOn_60 rfl (lv_at hl 2 rfl) ?_
          refine lv_iconst (v := 4) hx hb dX4_hourOn_61 (by decide) ?_
          refine xcV (As := [.int (nI j), .int 4]) (rest := [.int ((bakeN (hPre nS nB k gate u).2.1 j) j 3), .int 4]) ⟨hx, hb, hml, hown, hts⟩ (c_X4_sh l D cy b am thr nS nB ((hPre nS nB k gate u).1) (bakeN (hPre nS nB k gate u).2.1 j) gate ((hPre nS nB k gate u).2.2) j 4 (by omega) (by omega)) (cwV 2 hts gX4_hourOn_X4_sh rfl rfl rfl (by decide +kernel) ⟨Nat.le_of_ble_eq_true rfl, Nat.le_of_ble_eq_true rfl⟩) hK hP hD hS hA rfl rfl rfl (xE_all) rfl hl.1 rfl (Nat.le_of_ble_eq_true rfl) dX4_hourOn_62 ⟨Nat.le_of_ble_eq_true rfl, Nat.le_of_ble_eq_true rfl⟩ (fun _ H locs _ hP hD hS => ?_)
          have hP : va_P D vwCl (mw cy b am thr nS nB ((hPre nS nB k gate u).1) (bakeN (hPre nS nB k gate u).2.1 j) gate ((hPre nS nB k gate u).2.2)) H := hP
          have hD : va_D A (mw cy b am thr nS nB ((hPre nS nB k gate u).1) (bakeN (hPre nS nB k gate u).2.1 j) gate ((hPre nS nB k gate u).2.2)) := hD
          refine W.eq (g2 := F0 m 65 ls [.int ((bakeN (hPre nS nB k gate u).2.1 j) j 4), .int ((bakeN (hPre nS nB k gate u).2.1 j) j 3), .int 4]) rfl ?_
          refine lv_idiv hx hb dX4_hourOn_65 h4n ?_
          refine va_mmin hx hb (hml.trans hl.1.symm) hown (hts (.methodLink RX4 90 Lib.Math.min.name) (List.mem_of_getElem? (i := 4) rfl)) (hts (.static Lib.Math.min.name) (List.mem_of_getElem? (i := 5) rfl)) (hts (.initialized "java/lang/Math") (List.mem_of_getElem? (i := 6) rfl)) (hts (.code Lib.Math.min.name Lib.Math.min.code 2 (some .int)) (List.mem_of_getElem? (i := 7) rfl)) (Nat.le_of_ble_eq_true rfl) (Nat.le_of_ble_eq_true rfl) (Nat.le_of_ble_eq_true rfl) (Nat.le_of_ble_eq_true rfl) dX4_hourOn_66 ?_
          refine W.eq (g2 := F0 m 69 ls [.int (mn 4 (((bakeN (hPre nS nB k gate u).2.1 j) j 3) / ((bakeN (hPre nS nB k gate u).2.1 j) j 4)))]) rfl ?_
          refine lv_istore_n (lv' := [(3, .int (mn 4 (((bakeN (hPre nS nB k gate u).2.1 j) j 3) / ((bakeN (hPre nS nB k gate u).2.1 j) j 4)))), (0, .ref b), (1, .int (nI k)), (2, .int (nI j))]) hx hb dX4_hourOn_69 rfl hl (by decide) rfl (fun ls hl => ?_)
          refine lv_aload_n hx hb dX4_hourOn_70 rfl (lv_at hl 1 rfl) ?_
          refine lv_iload_n hx hb dX4_hourOn_71 rfl (lv_at hl 3 rfl) ?_
          refine lv_iconst (v := 3) hx hb dX4_hourOn_72 (by decide) ?_
          refine lv_aload_n hx hb dX4_hourOn_73 rfl (lv_at hl 1 rfl) ?_
          refine lv_iload_n hx hb dX4_hourOn_74 rfl (lv_at hl 3 rfl) ?_
          refine lv_iconst (v := 3) hx hb dX4_hourOn_75 (by decide) ?_
          refine xcV (As := [.int (nI j), .int 3]) (rest := [.int 3, .int (nI j), .ref b]) ⟨hx, hb, hml, hown, hts⟩ (c_X4_sh l D cy b am thr nS nB ((hPre nS nB k gate u).1) (bakeN (hPre nS nB k gate u).2.1 j) gate ((hPre nS nB k gate u).2.2) j 3 (by omega) (by omega)) (cwV 2 hts gX4_hourOn_X4_sh rfl rfl rfl (by decide +kernel) ⟨Nat.le_of_ble_eq_true rfl, Nat.le_of_ble_eq_true rfl⟩) hK hP hD hS hA rfl rfl rfl (xE_all) rfl hl.1 rfl (Nat.le_of_ble_eq_true rfl) dX4_hourOn_76 ⟨Nat.le_of_ble_eq_true rfl, Nat.le_of_ble_eq_true rfl⟩ (fun _ H locs _ hP hD hS => ?_)
          have hP : va_P D vwCl (mw cy b am thr nS nB ((hPre nS nB k gate u).1) (bakeN (hPre nS nB k gate u).2.1 j) gate ((hPre nS nB k gate u).2.2)) H := hP
          have hD : va_D A (mw cy b am thr nS nB ((hPre nS nB k gate u).1) (bakeN (hPre nS nB k gate u).2.1 j) gate ((hPre nS nB k gate u).2.2)) := hD
          refine W.eq (g2 := F0 m 79 ls [.int ((bakeN (hPre nS nB k gate u).2.1 j) j 3), .int 3, .int (nI j), .ref b]) rfl ?_
          refine lv_iload_n hx hb dX4_hourOn_79 rfl (lv_at hl 0 rfl) ?_
          refine lv_aload_n hx hb dX4_hourOn_80 rfl (lv_at hl 1 rfl) ?_
          refine lv_iload_n hx hb dX4_hourOn_81 rfl (lv_at hl 3 rfl) ?_
          refine lv_iconst (v := 4) hx hb dX4_hourOn_82 (by decide) ?_
          refine xcV (As := [.int (nI j), .int 4]) (rest := [.int (mn 4 (((bakeN (hPre nS nB k gate u).2.1 j) j 3) / ((bakeN (hPre nS nB k gate u).2.1 j) j 4))), .int ((bakeN (hPre nS nB k gate u).2.1 j) j 3), .int 3, .int (nI j), .ref b]) ⟨hx, hb, hml, hown, hts⟩ (c_X4_sh l D cy b am thr nS nB ((hPre nS nB k gate u).1) (bakeN (hPre nS nB k gate u).2.1 j) gate ((hPre nS nB k gate u).2.2) j 4 (by omega) (by omega)) (cwV 2 hts gX4_hourOn_X4_sh rfl rfl rfl (by decide +kernel) ⟨Nat.le_of_ble_eq_true rfl, Nat.le_of_ble_eq_true rfl⟩) hK hP hD hS hA rfl rfl rfl (xE_all) rfl hl.1 rfl (Nat.le_of_ble_eq_true rfl) dX4_hourOn_83 ⟨Nat.le_of_ble_eq_true rfl, Nat.le_of_ble_eq_true rfl⟩ (fun _ H locs _ hP hD hS => ?_)
          have hP : va_P D vwCl (mw cy b am thr nS nB ((hPre nS nB k gate u).1) (bakeN (hPre nS nB k gate u).2.1 j) gate ((hPre nS nB k gate u).2.2)) H := hP
          have hD : va_D A (mw cy b am thr nS nB ((hPre nS nB k gate u).1) (bakeN (hPre nS nB k gate u).2.1 j) gate ((hPre nS nB k gate u).2.2)) := hD
          refine W.eq (g2 := F0 m 86 ls [.int ((bakeN (hPre nS nB k gate u).2.1 j) j 4), .int (mn 4 (((bakeN (hPre nS nB k gate u).2.1 j) j 3) / ((bakeN (hPre nS nB k gate u).2.1 j) j 4))), .int ((bakeN (hPre nS nB k gate u).2.1 j) j 3), .int 3, .int (nI j), .ref b]) rfl ?_
          refine lv_imul hx hb dX4_hourOn_86 ?_
          refine lv_isub hx hb dX4_hourOn_87 ?_
          refine xcV (As := [.int (nI j), .int 3, .int (((bakeN (hPre nS nB k gate u).2.1 j) j 3) - ((mn 4 (((bakeN (hPre nS nB k gate u).2.1 j) j 3) / ((bakeN (hPre nS nB k gate u).2.1 j) j 4))) * ((bakeN (hPre nS nB k gate u).2.1 j) j 4)))]) (rest := []) ⟨hx, hb, hml, hown, hts⟩ (c_X4_put l D cy b am thr nS nB ((hPre nS nB k gate u).1) (bakeN (hPre nS nB k gate u).2.1 j) gate ((hPre nS nB k gate u).2.2) j 3 (((bakeN (hPre nS nB k gate u).2.1 j) j 3) - ((mn 4 (((bakeN (hPre nS nB k gate u).2.1 j) j 3) / ((bakeN (hPre nS nB k gate u).2.1 j) j 4))) * ((bakeN (hPre nS nB k gate u).2.1 j) j 4))) (by omega) (by omega)) (cwV 3 hts gX4_hourOn_X4_put rfl rfl rfl (by decide +kernel) ⟨Nat.le_of_ble_eq_true rfl, Nat.le_of_ble_eq_true rfl⟩) hK hP hD hS hA rfl rfl rfl (xE_all) rfl hl.1 rfl (Nat.le_of_ble_eq_true rfl) dX4_hourOn_88 ⟨Nat.le_of_ble_eq_true rfl, Nat.le_of_ble_eq_true rfl⟩ (fun _ H locs _ hP hD hS => ?_)
          have hP : va_P D vwCl (mw cy b am thr nS nB ((hPre nS nB k gate u).1) (va_up (bakeN (hPre nS nB k gate u).2.1 j) j (upd ((bakeN (hPre nS nB k gate u).2.1 j) j) 3 (((bakeN (hPre nS nB k gate u).2.1 j) j 3) - ((mn 4 (((bakeN (hPre nS nB k gate u).2.1 j) j 3) / ((bakeN (hPre nS nB k gate u).2.1 j) j 4))) * ((bakeN (hPre nS nB k gate u).2.1 j) j 4))))) gate ((hPre nS nB k gate u).2.2)) H := hP
          have hD : va_D A (mw cy b am thr nS nB ((hPre nS nB k gate u).1) (va_up (bakeN (hPre nS nB k gate u).2.1 j) j (upd ((bakeN (hPre nS nB k gate u).2.1 j) j) 3 (((bakeN (hPre nS nB k gate u).2.1 j) j 3) - ((mn 4 (((bakeN (hPre nS nB k gate u).2.1 j) j 3) / ((bakeN (hPre nS nB k gate u).2.1 j) j 4))) * ((bakeN (hPre nS nB k gate u).2.1 j) j 4))))) gate ((hPre nS nB k gate u).2.2)) := hD
          refine W.eq (g2 := F0 m 91 ls []) rfl ?_
          refine lv_aload_n hx hb dX4_hourOn_91 rfl (lv_at hl 1 rfl) ?_
          refine lv_iload_n hx hb dX4_hourOn_92 rfl (lv_at hl 3 rfl) ?_
          refine lv_iconst (v := 5) hx hb dX4_hourOn_93 (by decide) ?_
          refine lv_aload_n hx hb dX4_hourOn_94 rfl (lv_at hl 1 rfl) ?_
          refine lv_iload_n hx hb dX4_hourOn_95 rfl (lv_at hl 3 rfl) ?_
          refine lv_iconst (v := 5) hx hb dX4_hourOn_96 (by decide) ?_
          refine xcV (As := [.int (nI j), .int 5]) (rest := [.int 5, .int (nI j), .ref b]) ⟨hx, hb, hml, hown, hts⟩ (c_X4_sh l D cy b am thr nS nB ((hPre nS nB k gate u).1) (va_up (bakeN (hPre nS nB k gate u).2.1 j) j (upd ((bakeN (hPre nS nB k gate u).2.1 j) j) 3 (((bakeN (hPre nS nB k gate u).2.1 j) j 3) - ((mn 4 (((bakeN (hPre nS nB k gate u).2.1 j) j 3) / ((bakeN (hPre nS nB k gate u).2.1 j) j 4))) * ((bakeN (hPre nS nB k gate u).2.1 j) j 4))))) gate ((hPre nS nB k gate u).2.2) j 5 (by omega) (by omega)) (cwV 2 hts gX4_hourOn_X4_sh rfl rfl rfl (by decide +kernel) ⟨Nat.le_of_ble_eq_true rfl, Nat.le_of_ble_eq_true rfl⟩) hK hP hD hS hA rfl rfl rfl (xE_all) rfl hl.1 rfl (Nat.le_of_ble_eq_true rfl) dX4_hourOn_97 ⟨Nat.le_of_ble_eq_true rfl, Nat.le_of_ble_eq_true rfl⟩ (fun _ H locs _ hP hD hS => ?_)
          have hP : va_P D vwCl (mw cy b am thr nS nB ((hPre nS nB k gate u).1) (va_up (bakeN (hPre nS nB k gate u).2.1 j) j (upd ((bakeN (hPre nS nB k gate u).2.1 j) j) 3 (((bakeN (hPre nS nB k gate u).2.1 j) j 3) - ((mn 4 (((bakeN (hPre nS nB k gate u).2.1 j) j 3) / ((bakeN (hPre nS nB k gate u).2.1 j) j 4))) * ((bakeN (hPre nS nB k gate u).2.1 j) j 4))))) gate ((hPre nS nB k gate u).2.2)) H := hP
          have hD : va_D A (mw cy b am thr nS nB ((hPre nS nB k gate u).1) (va_up (bakeN (hPre nS nB k gate u).2.1 j) j (upd ((bakeN (hPre nS nB k gate u).2.1 j) j) 3 (((bakeN (hPre nS nB k gate u).2.1 j) j 3) - ((mn 4 (((bakeN (hPre nS nB k gate u).2.1 j) j 3) / ((bakeN (hPre nS nB k gate u).2.1 j) j 4))) * ((bakeN (hPre nS nB k gate u).2.1 j) j 4))))) gate ((hPre nS nB k gate u).2.2)) := hD
          refine W.eq (g2 := F0 m 100 ls [.int (((bakeN (hPre nS nB k gate u).2.1 j) j) 5), .int 5, .int (nI j), .ref b]) (by show F0 m 100 ls (.int ((va_up (bakeN (hPre nS nB k gate u).2.1 j) j (upd ((bakeN (hPre nS nB k gate u).2.1 j) j) 3 (((bakeN (hPre nS nB k gate u).2.1 j) j 3) - ((mn 4 (((bakeN (hPre nS nB k gate u).2.1 j) j 3) / ((bakeN (hPre nS nB k gate u).2.1 j) j 4))) * ((bakeN (hPre nS nB k gate u).2.1 j) j 4))))) j 5) :: _) = _; first | (rw [up_at]; done) | (rw [up_at]; rfl)) ?_
          refine lv_iload_n hx hb dX4_hourOn_100 rfl (lv_at hl 0 rfl) ?_
          refine lv_iadd hx hb dX4_hourOn_101 ?_
          refine xcV (As := [.int (nI j), .int 5, .int ((((bakeN (hPre nS nB k gate u).2.1 j) j) 5) + (mn 4 (((bakeN (hPre nS nB k gate u).2.1 j) j 3) / ((bakeN (hPre nS nB k gate u).2.1 j) j 4))))]) (rest := []) ⟨hx, hb, hml, hown, hts⟩ (c_X4_put l D cy b am thr nS nB ((hPre nS nB k gate u).1) (va_up (bakeN (hPre nS nB k gate u).2.1 j) j (upd ((bakeN (hPre nS nB k gate u).2.1 j) j) 3 (((bakeN (hPre nS nB k gate u).2.1 j) j 3) - ((mn 4 (((bakeN (hPre nS nB k gate u).2.1 j) j 3) / ((bakeN (hPre nS nB k gate u).2.1 j) j 4))) * ((bakeN (hPre nS nB k gate u).2.1 j) j 4))))) gate ((hPre nS nB k gate u).2.2) j 5 ((((bakeN (hPre nS nB k gate u).2.1 j) j) 5) + (mn 4 (((bakeN (hPre nS nB k gate u).2.1 j) j 3) / ((bakeN (hPre nS nB k gate u).2.1 j) j 4)))) (by omega) (by omega)) (cwV 3 hts gX4_hourOn_X4_put rfl rfl rfl (by decide +kernel) ⟨Nat.le_of_ble_eq_true rfl, Nat.le_of_ble_eq_true rfl⟩) hK hP hD hS hA rfl rfl rfl (xE_all) rfl hl.1 rfl (Nat.le_of_ble_eq_true rfl) dX4_hourOn_102 ⟨Nat.le_of_ble_eq_true rfl, Nat.le_of_ble_eq_true rfl⟩ (fun _ H locs _ hP hD hS => ?_)
          have hP : va_P D vwCl (mw cy b am thr nS nB ((hPre nS nB k gate u).1) (va_up (bakeN (hPre nS nB k gate u).2.1 j) j (upd (upd ((bakeN (hPre nS nB k gate u).2.1 j) j) 3 (((bakeN (hPre nS nB k gate u).2.1 j) j 3) - ((mn 4 (((bakeN (hPre nS nB k gate u).2.1 j) j 3) / ((bakeN (hPre nS nB k gate u).2.1 j) j 4))) * ((bakeN (hPre nS nB k gate u).2.1 j) j 4)))) 5 ((((bakeN (hPre nS nB k gate u).2.1 j) j) 5) + (mn 4 (((bakeN (hPre nS nB k gate u).2.1 j) j 3) / ((bakeN (hPre nS nB k gate u).2.1 j) j 4)))))) gate ((hPre nS nB k gate u).2.2)) H := (by rw [← up_upd]; exact hP)
          have hD : va_D A (mw cy b am thr nS nB ((hPre nS nB k gate u).1) (va_up (bakeN (hPre nS nB k gate u).2.1 j) j (upd (upd ((bakeN (hPre nS nB k gate u).2.1 j) j) 3 (((bakeN (hPre nS nB k gate u).2.1 j) j 3) - ((mn 4 (((bakeN (hPre nS nB k gate u).2.1 j) j 3) / ((bakeN (hPre nS nB k gate u).2.1 j) j 4))) * ((bakeN (hPre nS nB k gate u).2.1 j) j 4)))) 5 ((((bakeN (hPre nS nB k gate u).2.1 j) j) 5) + (mn 4 (((bakeN (hPre nS nB k gate u).2.1 j) j 3) / ((bakeN (hPre nS nB k gate u).2.1 j) j 4)))))) gate ((hPre nS nB k gate u).2.2)) := (by rw [← up_upd]; exact hD)
          refine W.eq (g2 := F0 m 105 ls []) rfl ?_
          refine lv_iinc (v := (nI (j + 1))) (lv' := [(2, .int (nI (j + 1))), (3, .int (mn 4 (((bakeN (hPre nS nB k gate u).2.1 j) j 3) / ((bakeN (hPre nS nB k gate u).2.1 j) j 4)))), (0, .ref b), (1, .int (nI k))]) hx hb dX4_hourOn_105 hl (k := 3) rfl ((nI_1 j)) (by decide) rfl (fun ls hl => ?_)
          refine lv_goto (tgt := 30) hx hb dX4_hourOn_108 (by decide) ?_
          have hz := one_ne h7 c46
          have e : bakeN (hPre nS nB k gate u).2.1 (j + 1) = va_up (bakeN (hPre nS nB k gate u).2.1 j) j (upd (upd ((bakeN (hPre nS nB k gate u).2.1 j) j) 3 (((bakeN (hPre nS nB k gate u).2.1 j) j 3) - ((mn 4 (((bakeN (hPre nS nB k gate u).2.1 j) j 3) / ((bakeN (hPre nS nB k gate u).2.1 j) j 4))) * ((bakeN (hPre nS nB k gate u).2.1 j) j 4)))) 5 ((((bakeN (hPre nS nB k gate u).2.1 j) j) 5) + (mn 4 (((bakeN (hPre nS nB k gate u).2.1 j) j 3) / ((bakeN (hPre nS nB k gate u).2.1 j) j 4))))) := by show va_up _ _ (bBake _) = _; unfold bBake bLoaves; rw [if_pos ⟨hz, h4⟩, mn_comm ((bakeN (hPre nS nB k gate u).2.1 j) j 3 / (bakeN (hPre nS nB k gate u).2.1 j) j 4) 4]
          exact ih (j + 1)  _ _ _ (by omega) (by rw [e]; exact hP) (by rw [e]; exact hD) hS (lv_sub hl [2, 3, 0] rfl)
        · refine lv_goto (tgt := 105) hx hb dX4_hourOn_49 (by decide) ?_
          refine lv_iinc (v := (nI (j + 1))) (lv' := [(2, .int (nI (j + 1))), (0, .ref b), (1, .int (nI k))]) hx hb dX4_hourOn_105 hl (k := 2) rfl ((nI_1 j)) (by decide) rfl (fun ls hl => ?_)
          refine lv_goto (tgt := 30) hx hb dX4_hourOn_108 (by decide) ?_
          have e : bakeN (hPre nS nB k gate u).2.1 (j + 1) = (bakeN (hPre nS nB k gate u).2.1 j) := by show va_up _ _ (bBake _) = _; unfold bBake; rw [if_neg (fun z => absurd z.1 (by rw [c46]; decide)), up_self]
          exact ih (j + 1)  _ _ _ (by omega) (by rw [e]; exact hP) (by rw [e]; exact hD) hS (lv_sub hl [1, 2, 0] rfl)
    exact loop nB 0  _ _ _ (by omega) hP hD hS (lv_sub hl [2, 1, 0] rfl)

set_option maxHeartbeats 4000000 in
set_option maxRecDepth 100000 in
/-- hoursOn -/
theorem c_X4_hoursOn (l : Launch) (D : va_G) (cy : Nat → ClassId) (b : Nat) (am : Nat → Nat) (thr : Int32) (nS nB : Nat) (u : TS) (gate : Iu) (h n : Nat) (eh : u.2.2 0 = nI h) (hh : h + n < 2 ^ 31) (hcS : nS ≤ 4) (hcB : nB ≤ 6) (ok : ∀ i, i < n → okH nS nB gate (hrs nS nB h gate u i)) : xM l D cy yX4_hoursOn wsX4_hoursOn ({ frames := 3, cells := 0, slots := 0, locals := 90 } : Room) [.ref b, .int (nI n)] (mw cy b am thr nS nB u.1 u.2.1 gate u.2.2) (fun _ : Unit => none) (fun _ => True) (fun _ => mw cy b am thr nS nB ((hrs nS nB h gate u n).1) ((hrs nS nB h gate u n).2.1) gate ((hrs nS nB h gate u n).2.2)) := by
  refine xM.of cX4_hoursOn 3 none RX4 (by decide +kernel) rfl rfl (Nat.le_of_ble_eq_true rfl) ?_
  intro p e s m below meth c A ls hx hb hr hts hown hlocks hml hin hK hA hP hD hS hl
  have hl : lv_has ls 3 [(0, .ref b), (1, .int (nI n))] := hl
  refine lv_iconst (v := 0) hx hb dX4_hoursOn_0 (by decide) ?_
  refine lv_istore_n (lv' := [(2, .int 0), (0, .ref b), (1, .int (nI n))]) hx hb dX4_hoursOn_1 rfl hl (by decide) rfl (fun ls hl => ?_)
  have loop : ∀ (k i : Nat)  (H : Heap) (locs : List Loc) (ls : Array Slot), i + k = n → va_P D vwCl (mw cy b am thr nS nB ((hrs nS nB h gate u i).1) ((hrs nS nB h gate u i).2.1) gate ((hrs nS nB h gate u i).2.2)) H → va_D A (mw cy b am thr nS nB ((hrs nS nB h gate u i).1) ((hrs nS nB h gate u i).2.1) gate ((hrs nS nB h gate u i).2.2)) → va_S A s.heap H locs → lv_has ls 3 [(0, .ref b), (1, .int (nI n)), (2, .int (nI i))] → W p l e ({ frames := 3, cells := 0, slots := 0, locals := 90 } : Room) s m ([.ref b, .int (nI n)] : List Value).toArray below meth c H locs 0 0 (MQ below (xQ D A (fun _ : Unit => none) (fun _ => True) (fun _ => mw cy b am thr nS nB ((hrs nS nB h gate u n).1) ((hrs nS nB h gate u n).2.1) gate ((hrs nS nB h gate u n).2.2))) ([.ref b, .int (nI n)] : List Value).toArray s 0 0 A) (F0 m 2 ls []) := by
    intro k
    induction k with
    | zero =>
      intro i  H locs ls hns hP hD hS hl
      have hii : i = n := by omega
      refine lv_iload_n hx hb dX4_hoursOn_2 rfl (lv_at hl 2 rfl) ?_
      refine lv_iload_n hx hb dX4_hoursOn_3 rfl (lv_at hl 1 rfl) ?_
      refine lv_icmp_ge (tgt := 17) hx hb dX4_hoursOn_4 (by decide) (fun _ => ?_) (fun h => absurd (by rw [hii]; exact Int32.le_refl _) h)
      subst hii
      exact xrv () hx hb hr hlocks hS (Nat.le_of_ble_eq_true rfl) (Nat.le_of_ble_eq_true rfl) dX4_hoursOn_17 hP hD rfl trivial
    | succ k ih =>
      intro i  H locs ls hns hP hD hS hl
      have hlt : i < n := by omega
      refine lv_iload_n hx hb dX4_hoursOn_2 rfl (lv_at hl 2 rfl) ?_
      refine lv_iload_n hx hb dX4_hoursOn_3 rfl (lv_at hl 1 rfl) ?_
      refine lv_icmp_ge (tgt := 17) hx hb dX4_hoursOn_4 (by decide) (fun h => absurd h (nI_ge (b := n) hlt (by omega))) (fun _ => ?_)
      refine lv_aload_n hx hb dX4_hoursOn_7 rfl (lv_at hl 0 rfl) ?_
      refine xcV (As := []) (rest := []) ⟨hx, hb, hml, hown, hts⟩ (c_X4_hourOn l D cy b am thr nS nB (hrs nS nB h gate u i) gate (h + i) ((h + i) % 24) (hrs_hour nS nB h gate u eh i) (by omega) rfl hcS hcB (ok i (by omega))) (cwV 0 hts gX4_hoursOn_X4_hourOn rfl rfl rfl (by decide +kernel) ⟨Nat.le_of_ble_eq_true rfl, Nat.le_of_ble_eq_true rfl⟩) hK hP hD hS hA rfl rfl rfl (xE_all) rfl hl.1 rfl (Nat.le_of_ble_eq_true rfl) dX4_hoursOn_8 ⟨Nat.le_of_ble_eq_true rfl, Nat.le_of_ble_eq_true rfl⟩ (fun _ H locs _ hP hD hS => ?_)
      have hP : va_P D vwCl (mw cy b am thr nS nB ((hrs nS nB h gate u (i + 1)).1) ((hrs nS nB h gate u (i + 1)).2.1) gate ((hrs nS nB h gate u (i + 1)).2.2)) H := hP
      have hD : va_D A (mw cy b am thr nS nB ((hrs nS nB h gate u (i + 1)).1) ((hrs nS nB h gate u (i + 1)).2.1) gate ((hrs nS nB h gate u (i + 1)).2.2)) := hD
      refine W.eq (g2 := F0 m 11 ls []) rfl ?_
      refine lv_iinc (v := (nI (i + 1))) (lv' := [(2, .int (nI (i + 1))), (0, .ref b), (1, .int (nI n))]) hx hb dX4_hoursOn_11 hl (k := 2) rfl ((nI_1 i)) (by decide) rfl (fun ls hl => ?_)
      refine lv_goto (tgt := 2) hx hb dX4_hoursOn_14 (by decide) ?_
      exact ih (i + 1)  _ _ _ (by omega) hP hD hS (lv_sub hl [1, 2, 0] rfl)
  exact loop n 0  _ _ _ (by omega) hP hD hS (lv_sub hl [1, 2, 0] rfl)
