/-! ===== the law: its own hour, piece by piece (laid by g35.py) ===== -/
theorem x_m1 (x : Int32) : x + Int32.ofInt (-1) = x - 1 := (Int32.sub_eq_add_neg x 1).symm
theorem npred {n : Nat} (h : 0 < n) : nI n - 1 = nI (n - 1) := by
  obtain ⟨z, rfl⟩ : ∃ z, n = z + 1 := ⟨n - 1, by omega⟩
  rw [nI_pred]
  rfl
theorem npred2 {n i : Nat} (h : i < n) : nI (n - i) - 1 = nI (n - 1 - i) := by
  rw [npred (by omega), show n - i - 1 = n - 1 - i by omega]
/-- what stands throughout a walk of pass -/
def pF (p : Program) (s : State) (m : MethodId) (meth : Method) (c : Code) (D : va_G) (cy : Nat → ClassId) (A : Nat → Prop) (am : Nat → Nat) : Prop := p.tables.exec = Jvm.exec ∧ c.code = cX4_pass ∧ (∀ w ∈ wsX4_pass, w.before ([.ref (am 0)] : List Value).toArray s = true) ∧ s.vm.findClass RX4 = some m.cls ∧ meth.locks = false ∧ c.maxLocals = 9 ∧ XK D cy s ∧ (∀ q : Nat, s.heap.size ≤ q → A q)
/-- pass goes on from pc -/
def pS (p : Program) (l : Launch) (e : Env) (R : Room) (s : State) (m : MethodId) (below : List Frame) (meth : Method) (c : Code) (Q : State → Prop) (D : va_G) (A : Nat → Prop) (am : Nat → Nat) (pc : Nat) (lvs : List (Nat × Value)) (w : va_W) : Prop :=
  ∀ (H : Heap) (locs : List Loc) (ls : Array Slot), va_P D vwCl w H → va_D A w → va_S A s.heap H locs → lv_has ls 9 lvs → W p l e R s m ([.ref (am 0)] : List Value).toArray below meth c H locs 0 0 Q (F0 m pc ls [])

theorem sub_s {x : Int32} {t : Nat} : x - nI (t + 1) = x - nI t - 1 := by rw [nI_succ]; grind
theorem feed_pos {f : Iu} (h : sOK f) (g : ¬ f 0 - mn (f 1) (f 0) = 0) : 0 < f 0 - mn (f 1) (f 0) := by
  obtain ⟨⟨h1, h2⟩, h3, h4⟩ := h
  have e3 : (mn (f 1) (f 0)).toInt = min (f 1).toInt (f 0).toInt := mn_int _ _
  have e : (f 0 - mn (f 1) (f 0)).toInt = (f 0).toInt - min (f 1).toInt (f 0).toInt := by rw [i_sub (by rw [e3]; omega) (by rw [e3]; omega), e3]
  have o : (0 : Int32).toInt = 0 := rfl
  refine Int32.lt_iff_toInt_lt.mpr ?_
  have : (f 0 - mn (f 1) (f 0)).toInt ≠ 0 := fun z => g (Int32.toInt_inj.mp (by rw [z, o]))
  rw [o]
  omega
set_option maxHeartbeats 4000000 in
set_option maxRecDepth 100000 in
/-- no stores -/
theorem p_a0 {p : Program} {l : Launch} {e : Env} {R : Room} {s : State} {m : MethodId} {below : List Frame} {meth : Method} {c : Code} {Q : State → Prop} {D : va_G} {cy : Nat → ClassId} {A : Nat → Prop} {am : Nat → Nat} {nS nB : Nat} {st bk : Nat → Iu} {gate nu : Iu} (hq k : Nat) (eh : nu 0 = nI hq) (hh : hq < 2 ^ 31) (hk : hq % 24 = k) (hn0 : nS = 0) (F : pF p s m meth c D cy A am) (KK : pS p l e R s m below meth c Q D A am 100 [(0, .ref (am 0)), (1, .int (nI k))] (sw cy am nS nB st bk gate nu [])) : pS p l e R s m below meth c Q D A am 0 [(0, .ref (am 0))] (sw cy am nS nB st bk gate nu []) := by
  obtain ⟨hx, hb, hts, hown, hlocks, hml, hK, hA⟩ := F
  intro H locs ls hP hD hS hl
  have hinX4 : ∀ w ∈ wsX40, w ∈ wsX4_pass := fun _ h => List.mem_cons_of_mem _ (List.mem_append_right _ h)
  refine lv_aload_n hx hb dX4_pass_0 rfl (lv_at hl 0 rfl) ?_
  refine va_get (D := D) (ci := 4) (v := .int (nu 0)) (C := RX4) (T := TX4) (N := 9) hx hb hts hinX4 hown hK.1 hP 0 rfl rfl 4 (by decide) (hts (.fieldLink RX4 30 "LoafMarksLaw$Sim" "hour" "I") (List.mem_of_getElem? (i := 1) rfl)) (fun _ h9 => h9) rfl dX4_pass_1 ?_
  refine lv_bipush (v := 24) hx hb dX4_pass_4 (by decide) ?_
  refine lv_irem hx hb dX4_pass_6 (by decide) ?_
  have er : nI hq - nI hq / 24 * 24 = nI k := (pk_rem (d := 24) hh (by decide) (by decide)).trans (by rw [hk])
  refine W.eq (g2 := F0 m 7 ls [.int (nI k)]) (by first | (rw [eh, er]; done) | (rw [eh, er]; rfl)) ?_
  refine lv_istore_n (lv' := [(1, .int (nI k)), (0, .ref (am 0))]) hx hb dX4_pass_7 rfl hl (by decide) rfl (fun ls hl => ?_)
  refine lv_null hx hb dX4_pass_8 ?_
  refine lv_astore_nN (lv' := [(2, .null), (1, .int (nI k)), (0, .ref (am 0))]) hx hb dX4_pass_9 rfl hl (by decide) rfl (fun ls hl => ?_)
  refine lv_aload_n hx hb dX4_pass_10 rfl (lv_at hl 2 rfl) ?_
  refine va_get (D := D) (ci := 4) (v := .ref (am 2)) (C := RX4) (T := TX4) (N := 9) hx hb hts hinX4 hown hK.1 hP 0 rfl rfl 2 (by decide) (hts (.fieldLink RX4 18 "LoafMarksLaw$Sim" "stores" "[[I") (List.mem_of_getElem? (i := 2) rfl)) (fun _ h9 => h9) rfl dX4_pass_11 ?_
  refine va_alen hx hb hK.1 hP (2) 3 rfl rfl (v := nI nS) rfl dX4_pass_14 ?_
  refine lv_iconst (v := 1) hx hb dX4_pass_15 (by decide) ?_
  refine lv_isub hx hb dX4_pass_16 ?_
  refine lv_istore_n (lv' := [(3, .int ((nI nS) - 1)), (2, .null), (1, .int (nI k)), (0, .ref (am 0))]) hx hb dX4_pass_17 rfl hl (by decide) rfl (fun ls hl => ?_)
  refine lv_iload_n hx hb dX4_pass_18 rfl (lv_at hl 0 rfl) ?_
  refine lv_if_lt (tgt := 53) hx hb dX4_pass_19 (by decide) (fun _ => ?_) (fun h => absurd (by rw [hn0]; decide) h)
  refine lv_aload_nN hx hb dX4_pass_53 rfl (lv_at hl 1 rfl) ?_
  refine lv_ifnullN (tgt := 100) hx hb dX4_pass_54 (by decide) ?_
  exact KK _ _ _ hP hD hS (lv_sub hl [3, 2] rfl)

set_option maxHeartbeats 4000000 in
set_option maxRecDepth 100000 in
/-- the emptiest store -/
theorem p_a1 {p : Program} {l : Launch} {e : Env} {R : Room} {s : State} {m : MethodId} {below : List Frame} {meth : Method} {c : Code} {Q : State → Prop} {D : va_G} {cy : Nat → ClassId} {A : Nat → Prop} {am : Nat → Nat} {nS nB : Nat} {st bk : Nat → Iu} {gate nu : Iu} (hq k : Nat) (eh : nu 0 = nI hq) (hh : hq < 2 ^ 31) (hk : hq % 24 = k) (hn0 : 0 < nS) (hcS : nS ≤ 4) (F : pF p s m meth c D cy A am) (KK : pS p l e R s m below meth c Q D A am 53 [(0, .ref (am 0)), (1, .int (nI k)), (2, .ref (am (4 + emp st nS)))] (sw cy am nS nB st bk gate nu [])) : pS p l e R s m below meth c Q D A am 0 [(0, .ref (am 0))] (sw cy am nS nB st bk gate nu []) := by
  obtain ⟨hx, hb, hts, hown, hlocks, hml, hK, hA⟩ := F
  intro H locs ls hP hD hS hl
  have hinX4 : ∀ w ∈ wsX40, w ∈ wsX4_pass := fun _ h => List.mem_cons_of_mem _ (List.mem_append_right _ h)
  refine lv_aload_n hx hb dX4_pass_0 rfl (lv_at hl 0 rfl) ?_
  refine va_get (D := D) (ci := 4) (v := .int (nu 0)) (C := RX4) (T := TX4) (N := 9) hx hb hts hinX4 hown hK.1 hP 0 rfl rfl 4 (by decide) (hts (.fieldLink RX4 30 "LoafMarksLaw$Sim" "hour" "I") (List.mem_of_getElem? (i := 1) rfl)) (fun _ h9 => h9) rfl dX4_pass_1 ?_
  refine lv_bipush (v := 24) hx hb dX4_pass_4 (by decide) ?_
  refine lv_irem hx hb dX4_pass_6 (by decide) ?_
  have er : nI hq - nI hq / 24 * 24 = nI k := (pk_rem (d := 24) hh (by decide) (by decide)).trans (by rw [hk])
  refine W.eq (g2 := F0 m 7 ls [.int (nI k)]) (by first | (rw [eh, er]; done) | (rw [eh, er]; rfl)) ?_
  refine lv_istore_n (lv' := [(1, .int (nI k)), (0, .ref (am 0))]) hx hb dX4_pass_7 rfl hl (by decide) rfl (fun ls hl => ?_)
  refine lv_null hx hb dX4_pass_8 ?_
  refine lv_astore_nN (lv' := [(2, .null), (1, .int (nI k)), (0, .ref (am 0))]) hx hb dX4_pass_9 rfl hl (by decide) rfl (fun ls hl => ?_)
  refine lv_aload_n hx hb dX4_pass_10 rfl (lv_at hl 2 rfl) ?_
  refine va_get (D := D) (ci := 4) (v := .ref (am 2)) (C := RX4) (T := TX4) (N := 9) hx hb hts hinX4 hown hK.1 hP 0 rfl rfl 2 (by decide) (hts (.fieldLink RX4 18 "LoafMarksLaw$Sim" "stores" "[[I") (List.mem_of_getElem? (i := 2) rfl)) (fun _ h9 => h9) rfl dX4_pass_11 ?_
  refine va_alen hx hb hK.1 hP (2) 3 rfl rfl (v := nI nS) rfl dX4_pass_14 ?_
  refine lv_iconst (v := 1) hx hb dX4_pass_15 (by decide) ?_
  refine lv_isub hx hb dX4_pass_16 ?_
  refine W.eq (g2 := F0 m 17 ls [.int (nI (nS - 1))]) (by first | (rw [npred hn0]; done) | (rw [npred hn0]; rfl)) ?_
  refine lv_istore_n (lv' := [(3, .int (nI (nS - 1))), (2, .null), (1, .int (nI k)), (0, .ref (am 0))]) hx hb dX4_pass_17 rfl hl (by decide) rfl (fun ls hl => ?_)
  refine lv_iload_n hx hb dX4_pass_18 rfl (lv_at hl 0 rfl) ?_
  refine lv_if_lt (tgt := 53) hx hb dX4_pass_19 (by decide) (fun h => absurd h (nI_pos (by omega))) (fun _ => ?_)
  refine lv_aload_nN hx hb dX4_pass_22 rfl (lv_at hl 1 rfl) ?_
  refine lv_ifnullN (tgt := 40) hx hb dX4_pass_23 (by decide) ?_
  refine lv_aload_n hx hb dX4_pass_40 rfl (lv_at hl 3 rfl) ?_
  refine va_get (D := D) (ci := 4) (v := .ref (am 2)) (C := RX4) (T := TX4) (N := 9) hx hb hts hinX4 hown hK.1 hP 0 rfl rfl 2 (by decide) (hts (.fieldLink RX4 18 "LoafMarksLaw$Sim" "stores" "[[I") (List.mem_of_getElem? (i := 2) rfl)) (fun _ h9 => h9) rfl dX4_pass_41 ?_
  refine lv_iload_n hx hb dX4_pass_44 rfl (lv_at hl 0 rfl) ?_
  refine xaldS hx hb hK hP (2) (am := am) rfl (nS - 1) rfl (by omega) hcS dX4_pass_45 ?_
  refine lv_astore_n (lv' := [(2, .ref (am (4 + (nS - 1)))), (3, .int (nI (nS - 1))), (1, .int (nI k)), (0, .ref (am 0))]) hx hb dX4_pass_46 rfl hl (by decide) rfl (fun ls hl => ?_)
  refine lv_iinc (v := (nI (nS - 1) - 1)) (lv' := [(3, .int (nI (nS - 1) - 1)), (2, .ref (am (4 + (nS - 1)))), (1, .int (nI k)), (0, .ref (am 0))]) hx hb dX4_pass_47 hl (k := 1) rfl (x_m1 _) (by decide) rfl (fun ls hl => ?_)
  refine lv_goto (tgt := 18) hx hb dX4_pass_50 (by decide) ?_
  have loop : ∀ (n i : Nat)  (H : Heap) (locs : List Loc) (ls : Array Slot), i + n = nS → (1 ≤ i) → va_P D vwCl (sw cy am nS nB st bk gate nu []) H → va_D A (sw cy am nS nB st bk gate nu []) → va_S A s.heap H locs → lv_has ls 9 [(0, .ref (am 0)), (1, .int (nI k)), (2, .ref (am (4 + los st nS i))), (3, .int (nI (nS - i) - 1))] → W p l e R s m ([.ref (am 0)] : List Value).toArray below meth c H locs 0 0 Q (F0 m 18 ls []) := by
    intro n
    induction n with
    | zero =>
      intro i  H locs ls hns hinv hP hD hS hl
      have hii : i = nS := by omega
      refine lv_iload_n hx hb dX4_pass_18 rfl (lv_at hl 3 rfl) ?_
      refine lv_if_lt (tgt := 53) hx hb dX4_pass_19 (by decide) (fun _ => ?_) (fun h => absurd (by rw [hii, Nat.sub_self]; decide) h)
      have el : los st nS i = emp st nS := by rw [hii]; exact los_emp hn0
      rw [el] at hl
      exact KK _ _ _ hP hD hS (lv_sub hl [0, 1, 2] rfl)
    | succ n ih =>
      intro i  H locs ls hns hinv hP hD hS hl
      have hlt : i < nS := by omega
      have hlos := (los_min (st := st) (n := nS) i hinv (by omega)).2.1
      rw [npred2 hlt] at hl
      refine lv_iload_n hx hb dX4_pass_18 rfl (lv_at hl 3 rfl) ?_
      refine lv_if_lt (tgt := 53) hx hb dX4_pass_19 (by decide) (fun h => absurd h (nI_pos (by omega))) (fun _ => ?_)
      refine lv_aload_n hx hb dX4_pass_22 rfl (lv_at hl 2 rfl) ?_
      refine lv_ifnull hx hb dX4_pass_23 ?_
      refine lv_aload_n hx hb dX4_pass_26 rfl (lv_at hl 0 rfl) ?_
      refine va_get (D := D) (ci := 4) (v := .ref (am 2)) (C := RX4) (T := TX4) (N := 9) hx hb hts hinX4 hown hK.1 hP 0 rfl rfl 2 (by decide) (hts (.fieldLink RX4 18 "LoafMarksLaw$Sim" "stores" "[[I") (List.mem_of_getElem? (i := 2) rfl)) (fun _ h9 => h9) rfl dX4_pass_27 ?_
      refine lv_iload_n hx hb dX4_pass_30 rfl (lv_at hl 3 rfl) ?_
      refine xaldS hx hb hK hP (2) (am := am) rfl (nS - 1 - i) rfl (by omega) hcS dX4_pass_31 ?_
      refine lv_iconst (v := 0) hx hb dX4_pass_32 (by decide) ?_
      refine xiald hx hb hK hP (4 + (nS - 1 - i)) (ww_st (by omega)) 0 (by decide) (by decide) (by decide) dX4_pass_33 ?_
      refine lv_aload_n hx hb dX4_pass_34 rfl (lv_at hl 2 rfl) ?_
      refine lv_iconst (v := 0) hx hb dX4_pass_35 (by decide) ?_
      refine xiald hx hb hK hP (4 + (los st nS i)) (ww_st hlos) 0 (by decide) (by decide) (by decide) dX4_pass_36 ?_
      refine lv_icmp_gt (tgt := 47) hx hb dX4_pass_37 (by decide) (fun c37 => ?_) (fun c37 => ?_)
      · refine lv_iinc (v := (nI (nS - (i + 1)) - 1)) (lv' := [(3, .int (nI (nS - (i + 1)) - 1)), (0, .ref (am 0)), (1, .int (nI k)), (2, .ref (am (4 + los st nS i)))]) hx hb dX4_pass_47 hl (k := 3) rfl (by rw [x_m1, show nS - 1 - i = nS - (i + 1) by omega]) (by decide) rfl (fun ls hl => ?_)
        refine lv_goto (tgt := 18) hx hb dX4_pass_50 (by decide) ?_
        have el : los st nS (i + 1) = los st nS i := by rw [los_s (by omega), if_neg (Int32.not_le.mpr c37)]
        exact ih (i + 1)  _ _ _ (by omega) (by omega) hP hD hS (lv_sub hl [1, 2, 3, 0] (by rw [el]; rfl))
      · refine lv_aload_n hx hb dX4_pass_40 rfl (lv_at hl 0 rfl) ?_
        refine va_get (D := D) (ci := 4) (v := .ref (am 2)) (C := RX4) (T := TX4) (N := 9) hx hb hts hinX4 hown hK.1 hP 0 rfl rfl 2 (by decide) (hts (.fieldLink RX4 18 "LoafMarksLaw$Sim" "stores" "[[I") (List.mem_of_getElem? (i := 2) rfl)) (fun _ h9 => h9) rfl dX4_pass_41 ?_
        refine lv_iload_n hx hb dX4_pass_44 rfl (lv_at hl 3 rfl) ?_
        refine xaldS hx hb hK hP (2) (am := am) rfl (nS - 1 - i) rfl (by omega) hcS dX4_pass_45 ?_
        refine lv_astore_n (lv' := [(2, .ref (am (4 + (nS - 1 - i)))), (0, .ref (am 0)), (1, .int (nI k)), (3, .int (nI (nS - 1 - i)))]) hx hb dX4_pass_46 rfl hl (by decide) rfl (fun ls hl => ?_)
        refine lv_iinc (v := (nI (nS - (i + 1)) - 1)) (lv' := [(3, .int (nI (nS - (i + 1)) - 1)), (2, .ref (am (4 + (nS - 1 - i)))), (0, .ref (am 0)), (1, .int (nI k))]) hx hb dX4_pass_47 hl (k := 3) rfl (by rw [x_m1, show nS - 1 - i = nS - (i + 1) by omega]) (by decide) rfl (fun ls hl => ?_)
        refine lv_goto (tgt := 18) hx hb dX4_pass_50 (by decide) ?_
        have el : los st nS (i + 1) = nS - 1 - i := by rw [los_s (by omega), if_pos (Int32.not_lt.mp c37)]
        exact ih (i + 1)  _ _ _ (by omega) (by omega) hP hD hS (lv_sub hl [2, 3, 1, 0] (by rw [el]; rfl))
  exact loop (nS - 1) 1  _ _ _ (by omega) (Nat.le_refl 1) hP hD hS (lv_sub hl [3, 2, 1, 0] rfl)

set_option maxHeartbeats 4000000 in
set_option maxRecDepth 100000 in
/-- the cart -/
theorem p_b {p : Program} {l : Launch} {e : Env} {R : Room} {s : State} {m : MethodId} {below : List Frame} {meth : Method} {c : Code} {Q : State → Prop} {D : va_G} {cy : Nat → ClassId} {A : Nat → Prop} {am : Nat → Nat} {nS nB : Nat} {st bk : Nat → Iu} {gate nu : Iu} (k : Nat) (hk : k < 24) (hn0 : 0 < nS) (hcS : nS ≤ 4) (hE : emp st nS < nS) (hf : rgI 0 900 (st (emp st nS) 0)) (hg : rgI 0 99 (gate k)) (F : pF p s m meth c D cy A am) (KK : pS p l e R s m below meth c Q D A am 100 [(0, .ref (am 0)), (1, .int (nI k))] (sw cy am nS nB (hCart nS (gate k) (st, bk, nu)).1 (hCart nS (gate k) (st, bk, nu)).2.1 gate (hCart nS (gate k) (st, bk, nu)).2.2 [])) : pS p l e R s m below meth c Q D A am 53 [(0, .ref (am 0)), (1, .int (nI k)), (2, .ref (am (4 + emp st nS)))] (sw cy am nS nB st bk gate nu []) := by
  obtain ⟨hx, hb, hts, hown, hlocks, hml, hK, hA⟩ := F
  intro H locs ls hP hD hS hl
  have hinX4 : ∀ w ∈ wsX40, w ∈ wsX4_pass := fun _ h => List.mem_cons_of_mem _ (List.mem_append_right _ h)
  refine lv_aload_n hx hb dX4_pass_53 rfl (lv_at hl 2 rfl) ?_
  refine lv_ifnull hx hb dX4_pass_54 ?_
  refine lv_aload_n hx hb dX4_pass_57 rfl (lv_at hl 2 rfl) ?_
  refine lv_iconst (v := 0) hx hb dX4_pass_58 (by decide) ?_
  refine lv_dup2_11 hx hb dX4_pass_59 rfl rfl ?_
  refine xiald hx hb hK hP (4 + (emp st nS)) (ww_st hE) 0 (by decide) (by decide) (by decide) dX4_pass_60 ?_
  refine lv_aload_n hx hb dX4_pass_61 rfl (lv_at hl 0 rfl) ?_
  refine va_get (D := D) (ci := 4) (v := .ref (am 1)) (C := RX4) (T := TX4) (N := 9) hx hb hts hinX4 hown hK.1 hP 0 rfl rfl 1 (by decide) (hts (.fieldLink RX4 13 "LoafMarksLaw$Sim" "gate" "[I") (List.mem_of_getElem? (i := 3) rfl)) (fun _ h9 => h9) rfl dX4_pass_62 ?_
  refine lv_iload_n hx hb dX4_pass_65 rfl (lv_at hl 1 rfl) ?_
  refine xiald hx hb hK hP (1) rfl k rfl (by omega) (by decide) dX4_pass_66 ?_
  refine lv_iadd hx hb dX4_pass_67 ?_
  refine xiast hx hb hK hP hD hS (4 + (emp st nS)) (ww_st hE) 0 (by decide) (by decide) (by decide) dX4_pass_68 (fun H locs hP hD hS => ?_)
  have hP : va_P D vwCl (sw cy am nS nB (va_up st (emp st nS) (upd (st (emp st nS)) 0 ((st (emp st nS) 0) + (gate k)))) bk gate nu []) H := by rw [ww_set_st hE] at hP; exact hP
  have hD : va_D A (sw cy am nS nB (va_up st (emp st nS) (upd (st (emp st nS)) 0 ((st (emp st nS) 0) + (gate k)))) bk gate nu []) := by rw [ww_set_st hE] at hD; exact hD
  refine lv_aload_n hx hb dX4_pass_69 rfl (lv_at hl 2 rfl) ?_
  refine lv_iconst (v := 0) hx hb dX4_pass_70 (by decide) ?_
  refine xiald hx hb hK hP (4 + (emp st nS)) (ww_st hE) 0 (by decide) (by decide) (by decide) dX4_pass_71 ?_
  refine W.eq (g2 := F0 m 72 ls [.int ((st (emp st nS) 0) + (gate k))]) (by first | (rw [up_at]; done) | (rw [up_at]; rfl)) ?_
  refine lv_sipush (v := 900) hx hb dX4_pass_72 (by decide) ?_
  refine lv_icmp_le (tgt := 100) hx hb dX4_pass_75 (by decide) (fun c75 => ?_) (fun c75 => ?_)
  · have ec := cart_in (bk := bk) (nu := nu) hn0 hf hg c75
    exact KK _ _ _ (by rw [ec]; exact hP) (by rw [ec]; exact hD) hS (lv_sub hl [0, 1] rfl)
  · refine lv_aload_n hx hb dX4_pass_78 rfl (lv_at hl 0 rfl) ?_
    refine lv_dup hx hb dX4_pass_79 rfl ?_
    refine va_get (D := D) (ci := 4) (v := .int (nu 5)) (C := RX4) (T := TX4) (N := 9) hx hb hts hinX4 hown hK.1 hP 0 rfl rfl 8 (by decide) (hts (.fieldLink RX4 33 "LoafMarksLaw$Sim" "lost" "I") (List.mem_of_getElem? (i := 4) rfl)) (fun _ h9 => h9) rfl dX4_pass_80 ?_
    refine lv_aload_n hx hb dX4_pass_83 rfl (lv_at hl 2 rfl) ?_
    refine lv_iconst (v := 0) hx hb dX4_pass_84 (by decide) ?_
    refine xiald hx hb hK hP (4 + (emp st nS)) (ww_st hE) 0 (by decide) (by decide) (by decide) dX4_pass_85 ?_
    refine W.eq (g2 := F0 m 86 ls [.int ((st (emp st nS) 0) + (gate k)), .int (nu 5), .ref (am 0)]) (by first | (rw [up_at]; done) | (rw [up_at]; rfl)) ?_
    refine lv_sipush (v := 900) hx hb dX4_pass_86 (by decide) ?_
    refine lv_isub hx hb dX4_pass_89 ?_
    refine lv_iadd hx hb dX4_pass_90 ?_
    refine va_put (D := D) (ci := 4) (v := .int ((nu 5) + (((st (emp st nS) 0) + (gate k)) - 900))) (ty := .int) (C := RX4) (T := TX4) (N := 9) hx hb hts hinX4 tyX4 tyX4_ok nmX4 hown hK.1 hP hD hS 0 rfl rfl 8 (by decide) (hts (.fieldLink RX4 33 "LoafMarksLaw$Sim" "lost" "I") (List.mem_of_getElem? (i := 4) rfl)) (fun _ h9 => h9) rfl (by decide +kernel) rfl rfl (Nat.le_of_ble_eq_true rfl) dX4_pass_91 (fun H locs hP hD hS => ?_)
    have hP : va_P D vwCl (sw cy am nS nB (va_up st (emp st nS) (upd (st (emp st nS)) 0 ((st (emp st nS) 0) + (gate k)))) bk gate (upd nu 5 ((nu 5) + (((st (emp st nS) 0) + (gate k)) - 900))) []) H := hP
    have hD : va_D A (sw cy am nS nB (va_up st (emp st nS) (upd (st (emp st nS)) 0 ((st (emp st nS) 0) + (gate k)))) bk gate (upd nu 5 ((nu 5) + (((st (emp st nS) 0) + (gate k)) - 900))) []) := hD
    refine lv_aload_n hx hb dX4_pass_94 rfl (lv_at hl 2 rfl) ?_
    refine lv_iconst (v := 0) hx hb dX4_pass_95 (by decide) ?_
    refine lv_sipush (v := 900) hx hb dX4_pass_96 (by decide) ?_
    refine xiast hx hb hK hP hD hS (4 + (emp st nS)) (ww_st hE) 0 (by decide) (by decide) (by decide) dX4_pass_99 (fun H locs hP hD hS => ?_)
    have hP : va_P D vwCl (sw cy am nS nB (va_up st (emp st nS) (upd (upd (st (emp st nS)) 0 ((st (emp st nS) 0) + (gate k))) 0 900)) bk gate (upd nu 5 ((nu 5) + (((st (emp st nS) 0) + (gate k)) - 900))) []) H := by rw [ww_set_st hE, up_upd] at hP; exact hP
    have hD : va_D A (sw cy am nS nB (va_up st (emp st nS) (upd (upd (st (emp st nS)) 0 ((st (emp st nS) 0) + (gate k))) 0 900)) bk gate (upd nu 5 ((nu 5) + (((st (emp st nS) 0) + (gate k)) - 900))) []) := by rw [ww_set_st hE, up_upd] at hD; exact hD
    have ec := cart_over (bk := bk) (nu := nu) hn0 hf hg c75
    exact KK _ _ _ (by rw [ec]; exact hP) (by rw [ec]; exact hD) hS (lv_sub hl [0, 1] rfl)

set_option maxHeartbeats 4000000 in
set_option maxRecDepth 100000 in
/-- rations, in the first hour of a day -/
theorem p_c0 {p : Program} {l : Launch} {e : Env} {R : Room} {s : State} {m : MethodId} {below : List Frame} {meth : Method} {c : Code} {Q : State → Prop} {D : va_G} {cy : Nat → ClassId} {A : Nat → Prop} {am : Nat → Nat} {nS nB : Nat} {st bk : Nat → Iu} {gate nu : Iu} (k : Nat) (hk0 : ¬ 0 < nI k) (hcS : nS ≤ 4) (hcB : nB ≤ 6) (hof : ∀ j, j < nB → ∃ i, i < nS ∧ bk j 0 = nI i) (hb7 : ∀ j, j < nB → bk j 7 = 0 ∨ bk j 7 = 1) (F : pF p s m meth c D cy A am) (KK : pS p l e R s m below meth c Q D A am 200 [(0, .ref (am 0)), (1, .int (nI k))] (sw cy am nS nB (dlN (st, bk) nB).1 (dlN (st, bk) nB).2 gate nu [])) : pS p l e R s m below meth c Q D A am 100 [(0, .ref (am 0)), (1, .int (nI k))] (sw cy am nS nB st bk gate nu []) := by
  obtain ⟨hx, hb, hts, hown, hlocks, hml, hK, hA⟩ := F
  intro H locs ls hP hD hS hl
  have hinX4 : ∀ w ∈ wsX40, w ∈ wsX4_pass := fun _ h => List.mem_cons_of_mem _ (List.mem_append_right _ h)
  refine lv_aload_n hx hb dX4_pass_100 rfl (lv_at hl 0 rfl) ?_
  refine va_get (D := D) (ci := 4) (v := .ref (am 3)) (C := RX4) (T := TX4) (N := 9) hx hb hts hinX4 hown hK.1 hP 0 rfl rfl 3 (by decide) (hts (.fieldLink RX4 22 "LoafMarksLaw$Sim" "bakers" "[[I") (List.mem_of_getElem? (i := 5) rfl)) (fun _ h9 => h9) rfl dX4_pass_101 ?_
  refine lv_astore_n (lv' := [(3, .ref (am 3)), (0, .ref (am 0)), (1, .int (nI k))]) hx hb dX4_pass_104 rfl hl (by decide) rfl (fun ls hl => ?_)
  refine lv_aload_n hx hb dX4_pass_105 rfl (lv_at hl 0 rfl) ?_
  refine va_alen hx hb hK.1 hP (3) 3 rfl rfl (v := nI nB) rfl dX4_pass_106 ?_
  refine lv_istore (lv' := [(4, .int (nI nB)), (3, .ref (am 3)), (0, .ref (am 0)), (1, .int (nI k))]) hx hb dX4_pass_107 hl (by decide) rfl (fun ls hl => ?_)
  refine lv_iconst (v := 0) hx hb dX4_pass_109 (by decide) ?_
  refine lv_istore (lv' := [(5, .int 0), (4, .int (nI nB)), (3, .ref (am 3)), (0, .ref (am 0)), (1, .int (nI k))]) hx hb dX4_pass_110 hl (by decide) rfl (fun ls hl => ?_)
  have loop : ∀ (n j : Nat)  (H : Heap) (locs : List Loc) (ls : Array Slot), j + n = nB → va_P D vwCl (sw cy am nS nB ((dlN (st, bk) j).1) ((dlN (st, bk) j).2) gate nu []) H → va_D A (sw cy am nS nB ((dlN (st, bk) j).1) ((dlN (st, bk) j).2) gate nu []) → va_S A s.heap H locs → lv_has ls 9 [(0, .ref (am 0)), (1, .int (nI k)), (3, .ref (am 3)), (4, .int (nI nB)), (5, .int (nI j))] → W p l e R s m ([.ref (am 0)] : List Value).toArray below meth c H locs 0 0 Q (F0 m 112 ls []) := by
    intro n
    induction n with
    | zero =>
      intro j  H locs ls hns hP hD hS hl
      have hij : j = nB := by omega
      refine lv_iload hx hb dX4_pass_112 (lv_at hl 4 rfl) ?_
      refine lv_iload hx hb dX4_pass_114 (lv_at hl 3 rfl) ?_
      refine lv_icmp_ge (tgt := 200) hx hb dX4_pass_116 (by decide) (fun _ => ?_) (fun h => absurd (by rw [hij]; exact Int32.le_refl _) h)
      rw [hij] at hP hD
      exact KK _ _ _ hP hD hS (lv_sub hl [0, 1] rfl)
    | succ n ih =>
      intro j  H locs ls hns hP hD hS hl
      have hlt : j < nB := by omega
      obtain ⟨i, hi, hi0⟩ := hof j hlt
      have h0 : (dlN (st, bk) j).2 j 0 = nI i := by rw [dlN_0]; exact hi0
      have h7 : (dlN (st, bk) j).2 j 7 = 0 ∨ (dlN (st, bk) j).2 j 7 = 1 := by rw [dlN_ne _ _ (by decide)]; exact hb7 j hlt
      refine lv_iload hx hb dX4_pass_112 (lv_at hl 4 rfl) ?_
      refine lv_iload hx hb dX4_pass_114 (lv_at hl 3 rfl) ?_
      refine lv_icmp_ge (tgt := 200) hx hb dX4_pass_116 (by decide) (fun h => absurd h (nI_ge (b := nB) hlt (by omega))) (fun _ => ?_)
      refine lv_aload_n hx hb dX4_pass_119 rfl (lv_at hl 2 rfl) ?_
      refine lv_iload hx hb dX4_pass_120 (lv_at hl 4 rfl) ?_
      refine xaldB hx hb hK hP (3) (am := am) rfl j rfl (by omega) hcB dX4_pass_122 ?_
      refine lv_astore (lv' := [(6, .ref (am (8 + j))), (0, .ref (am 0)), (1, .int (nI k)), (3, .ref (am 3)), (4, .int (nI nB)), (5, .int (nI j))]) hx hb dX4_pass_123 hl (by decide) rfl (fun ls hl => ?_)
      refine lv_iload_n hx hb dX4_pass_125 rfl (lv_at hl 2 rfl) ?_
      refine lv_if_gt (tgt := 194) hx hb dX4_pass_126 (by decide) (fun h => absurd h hk0) (fun _ => ?_)
      refine lv_aload hx hb dX4_pass_129 (lv_at hl 0 rfl) ?_
      refine lv_bipush (v := 7) hx hb dX4_pass_131 (by decide) ?_
      refine xiald hx hb hK hP (4 + nS + j) (ww_bk hlt) 7 (by decide) (by decide) (by decide) dX4_pass_133 ?_
      refine lv_iconst (v := 1) hx hb dX4_pass_134 (by decide) ?_
      refine lv_icmp_ne (tgt := 141) hx hb dX4_pass_135 (by decide) (fun c135 => ?_) (fun c135 => ?_)
      · refine lv_aload_n hx hb dX4_pass_141 rfl (lv_at hl 1 rfl) ?_
        refine va_get (D := D) (ci := 4) (v := .ref (am 2)) (C := RX4) (T := TX4) (N := 9) hx hb hts hinX4 hown hK.1 hP 0 rfl rfl 2 (by decide) (hts (.fieldLink RX4 18 "LoafMarksLaw$Sim" "stores" "[[I") (List.mem_of_getElem? (i := 2) rfl)) (fun _ h9 => h9) rfl dX4_pass_142 ?_
        refine lv_aload hx hb dX4_pass_145 (lv_at hl 0 rfl) ?_
        refine lv_iconst (v := 0) hx hb dX4_pass_147 (by decide) ?_
        refine xiald hx hb hK hP (4 + nS + j) (ww_bk hlt) 0 (by decide) (by decide) (by decide) dX4_pass_148 ?_
        refine W.eq (g2 := F0 m 149 ls [.int (nI i), .ref (am 2)]) (by first | (rw [h0]; done) | (rw [h0]; rfl)) ?_
        refine xaldS hx hb hK hP (2) (am := am) rfl i rfl (by omega) hcS dX4_pass_149 ?_
        refine lv_astore (lv' := [(7, .ref (am (4 + i))), (6, .ref (am (8 + j))), (0, .ref (am 0)), (1, .int (nI k)), (3, .ref (am 3)), (4, .int (nI nB)), (5, .int (nI j))]) hx hb dX4_pass_150 hl (by decide) rfl (fun ls hl => ?_)
        refine lv_aload hx hb dX4_pass_152 (lv_at hl 0 rfl) ?_
        refine lv_iconst (v := 0) hx hb dX4_pass_154 (by decide) ?_
        refine xiald hx hb hK hP (4 + i) (ww_st hi) 0 (by decide) (by decide) (by decide) dX4_pass_155 ?_
        refine lv_aload hx hb dX4_pass_156 (lv_at hl 1 rfl) ?_
        refine lv_iconst (v := 2) hx hb dX4_pass_158 (by decide) ?_
        refine xiald hx hb hK hP (4 + nS + j) (ww_bk hlt) 2 (by decide) (by decide) (by decide) dX4_pass_159 ?_
        refine lv_icmp_ge (tgt := 170) hx hb dX4_pass_160 (by decide) (fun c160 => ?_) (fun c160 => ?_)
        · refine lv_aload hx hb dX4_pass_170 (lv_at hl 1 rfl) ?_
          refine lv_iconst (v := 2) hx hb dX4_pass_172 (by decide) ?_
          refine xiald hx hb hK hP (4 + nS + j) (ww_bk hlt) 2 (by decide) (by decide) (by decide) dX4_pass_173 ?_
          refine W.eq (g2 := F0 m 174 ls [.int (mn ((dlN (st, bk) j).2 j 2) ((dlN (st, bk) j).1 i 0))]) (by unfold mn; first | (rw [if_neg (Int32.not_lt.mpr c160)]; done) | (rw [if_neg (Int32.not_lt.mpr c160)]; rfl)) ?_
          refine lv_istore (lv' := [(8, .int (mn ((dlN (st, bk) j).2 j 2) ((dlN (st, bk) j).1 i 0))), (7, .ref (am (4 + i))), (6, .ref (am (8 + j))), (0, .ref (am 0)), (1, .int (nI k)), (3, .ref (am 3)), (4, .int (nI nB)), (5, .int (nI j))]) hx hb dX4_pass_174 hl (by decide) rfl (fun ls hl => ?_)
          refine lv_aload hx hb dX4_pass_176 (lv_at hl 1 rfl) ?_
          refine lv_iconst (v := 0) hx hb dX4_pass_178 (by decide) ?_
          refine lv_dup2_11 hx hb dX4_pass_179 rfl rfl ?_
          refine xiald hx hb hK hP (4 + i) (ww_st hi) 0 (by decide) (by decide) (by decide) dX4_pass_180 ?_
          refine lv_iload hx hb dX4_pass_181 (lv_at hl 0 rfl) ?_
          refine lv_isub hx hb dX4_pass_183 ?_
          refine xiast hx hb hK hP hD hS (4 + i) (ww_st hi) 0 (by decide) (by decide) (by decide) dX4_pass_184 (fun H locs hP hD hS => ?_)
          have hP : va_P D vwCl (sw cy am nS nB (va_up ((dlN (st, bk) j).1) i (upd (((dlN (st, bk) j).1) i) 0 ((((dlN (st, bk) j).1) i 0) - (mn ((dlN (st, bk) j).2 j 2) ((dlN (st, bk) j).1 i 0))))) ((dlN (st, bk) j).2) gate nu []) H := by rw [ww_set_st hi] at hP; exact hP
          have hD : va_D A (sw cy am nS nB (va_up ((dlN (st, bk) j).1) i (upd (((dlN (st, bk) j).1) i) 0 ((((dlN (st, bk) j).1) i 0) - (mn ((dlN (st, bk) j).2 j 2) ((dlN (st, bk) j).1 i 0))))) ((dlN (st, bk) j).2) gate nu []) := by rw [ww_set_st hi] at hD; exact hD
          refine lv_aload hx hb dX4_pass_185 (lv_at hl 2 rfl) ?_
          refine lv_iconst (v := 3) hx hb dX4_pass_187 (by decide) ?_
          refine lv_dup2_11 hx hb dX4_pass_188 rfl rfl ?_
          refine xiald hx hb hK hP (4 + nS + j) (ww_bk hlt) 3 (by decide) (by decide) (by decide) dX4_pass_189 ?_
          refine lv_iload hx hb dX4_pass_190 (lv_at hl 0 rfl) ?_
          refine lv_iadd hx hb dX4_pass_192 ?_
          refine xiast hx hb hK hP hD hS (4 + nS + j) (ww_bk hlt) 3 (by decide) (by decide) (by decide) dX4_pass_193 (fun H locs hP hD hS => ?_)
          have hP : va_P D vwCl (sw cy am nS nB (va_up ((dlN (st, bk) j).1) i (upd (((dlN (st, bk) j).1) i) 0 ((((dlN (st, bk) j).1) i 0) - (mn ((dlN (st, bk) j).2 j 2) ((dlN (st, bk) j).1 i 0))))) (va_up ((dlN (st, bk) j).2) j (upd (((dlN (st, bk) j).2) j) 3 ((((dlN (st, bk) j).2) j 3) + (mn ((dlN (st, bk) j).2 j 2) ((dlN (st, bk) j).1 i 0))))) gate nu []) H := by rw [ww_set_bk hlt] at hP; exact hP
          have hD : va_D A (sw cy am nS nB (va_up ((dlN (st, bk) j).1) i (upd (((dlN (st, bk) j).1) i) 0 ((((dlN (st, bk) j).1) i 0) - (mn ((dlN (st, bk) j).2 j 2) ((dlN (st, bk) j).1 i 0))))) (va_up ((dlN (st, bk) j).2) j (upd (((dlN (st, bk) j).2) j) 3 ((((dlN (st, bk) j).2) j 3) + (mn ((dlN (st, bk) j).2 j 2) ((dlN (st, bk) j).1 i 0))))) gate nu []) := by rw [ww_set_bk hlt] at hD; exact hD
          refine lv_iinc (v := (nI (j + 1))) (lv' := [(5, .int (nI (j + 1))), (8, .int (mn ((dlN (st, bk) j).2 j 2) ((dlN (st, bk) j).1 i 0))), (7, .ref (am (4 + i))), (6, .ref (am (8 + j))), (0, .ref (am 0)), (1, .int (nI k)), (3, .ref (am 3)), (4, .int (nI nB))]) hx hb dX4_pass_194 hl (k := 7) rfl ((nI_1 j)) (by decide) rfl (fun ls hl => ?_)
          refine lv_goto (tgt := 112) hx hb dX4_pass_197 (by decide) ?_
          have hz := one_ne h7 c135
          have e : dlN (st, bk) (j + 1) = (va_up (dlN (st, bk) j).1 i (upd ((dlN (st, bk) j).1 i) 0 ((dlN (st, bk) j).1 i 0 - mn ((dlN (st, bk) j).2 j 2) ((dlN (st, bk) j).1 i 0))), va_up (dlN (st, bk) j).2 j (upd ((dlN (st, bk) j).2 j) 3 ((dlN (st, bk) j).2 j 3 + mn ((dlN (st, bk) j).2 j 2) ((dlN (st, bk) j).1 i 0)))) := by show dlStep _ _ _ = _; rw [h0, nI_clamp (by omega)]; exact if_pos hz
          exact ih (j + 1)  _ _ _ (by omega) (by rw [e]; exact hP) (by rw [e]; exact hD) hS (lv_sub hl [4, 5, 6, 7, 0] rfl)
        · refine lv_aload hx hb dX4_pass_163 (lv_at hl 0 rfl) ?_
          refine lv_iconst (v := 0) hx hb dX4_pass_165 (by decide) ?_
          refine xiald hx hb hK hP (4 + i) (ww_st hi) 0 (by decide) (by decide) (by decide) dX4_pass_166 ?_
          refine lv_goto (tgt := 174) hx hb dX4_pass_167 (by decide) ?_
          refine W.eq (g2 := F0 m 174 ls [.int (mn ((dlN (st, bk) j).2 j 2) ((dlN (st, bk) j).1 i 0))]) (by unfold mn; first | (rw [if_pos (Int32.not_le.mp c160)]; done) | (rw [if_pos (Int32.not_le.mp c160)]; rfl)) ?_
          refine lv_istore (lv' := [(8, .int (mn ((dlN (st, bk) j).2 j 2) ((dlN (st, bk) j).1 i 0))), (7, .ref (am (4 + i))), (6, .ref (am (8 + j))), (0, .ref (am 0)), (1, .int (nI k)), (3, .ref (am 3)), (4, .int (nI nB)), (5, .int (nI j))]) hx hb dX4_pass_174 hl (by decide) rfl (fun ls hl => ?_)
          refine lv_aload hx hb dX4_pass_176 (lv_at hl 1 rfl) ?_
          refine lv_iconst (v := 0) hx hb dX4_pass_178 (by decide) ?_
          refine lv_dup2_11 hx hb dX4_pass_179 rfl rfl ?_
          refine xiald hx hb hK hP (4 + i) (ww_st hi) 0 (by decide) (by decide) (by decide) dX4_pass_180 ?_
          refine lv_iload hx hb dX4_pass_181 (lv_at hl 0 rfl) ?_
          refine lv_isub hx hb dX4_pass_183 ?_
          refine xiast hx hb hK hP hD hS (4 + i) (ww_st hi) 0 (by decide) (by decide) (by decide) dX4_pass_184 (fun H locs hP hD hS => ?_)
          have hP : va_P D vwCl (sw cy am nS nB (va_up ((dlN (st, bk) j).1) i (upd (((dlN (st, bk) j).1) i) 0 ((((dlN (st, bk) j).1) i 0) - (mn ((dlN (st, bk) j).2 j 2) ((dlN (st, bk) j).1 i 0))))) ((dlN (st, bk) j).2) gate nu []) H := by rw [ww_set_st hi] at hP; exact hP
          have hD : va_D A (sw cy am nS nB (va_up ((dlN (st, bk) j).1) i (upd (((dlN (st, bk) j).1) i) 0 ((((dlN (st, bk) j).1) i 0) - (mn ((dlN (st, bk) j).2 j 2) ((dlN (st, bk) j).1 i 0))))) ((dlN (st, bk) j).2) gate nu []) := by rw [ww_set_st hi] at hD; exact hD
          refine lv_aload hx hb dX4_pass_185 (lv_at hl 2 rfl) ?_
          refine lv_iconst (v := 3) hx hb dX4_pass_187 (by decide) ?_
          refine lv_dup2_11 hx hb dX4_pass_188 rfl rfl ?_
          refine xiald hx hb hK hP (4 + nS + j) (ww_bk hlt) 3 (by decide) (by decide) (by decide) dX4_pass_189 ?_
          refine lv_iload hx hb dX4_pass_190 (lv_at hl 0 rfl) ?_
          refine lv_iadd hx hb dX4_pass_192 ?_
          refine xiast hx hb hK hP hD hS (4 + nS + j) (ww_bk hlt) 3 (by decide) (by decide) (by decide) dX4_pass_193 (fun H locs hP hD hS => ?_)
          have hP : va_P D vwCl (sw cy am nS nB (va_up ((dlN (st, bk) j).1) i (upd (((dlN (st, bk) j).1) i) 0 ((((dlN (st, bk) j).1) i 0) - (mn ((dlN (st, bk) j).2 j 2) ((dlN (st, bk) j).1 i 0))))) (va_up ((dlN (st, bk) j).2) j (upd (((dlN (st, bk) j).2) j) 3 ((((dlN (st, bk) j).2) j 3) + (mn ((dlN (st, bk) j).2 j 2) ((dlN (st, bk) j).1 i 0))))) gate nu []) H := by rw [ww_set_bk hlt] at hP; exact hP
          have hD : va_D A (sw cy am nS nB (va_up ((dlN (st, bk) j).1) i (upd (((dlN (st, bk) j).1) i) 0 ((((dlN (st, bk) j).1) i 0) - (mn ((dlN (st, bk) j).2 j 2) ((dlN (st, bk) j).1 i 0))))) (va_up ((dlN (st, bk) j).2) j (upd (((dlN (st, bk) j).2) j) 3 ((((dlN (st, bk) j).2) j 3) + (mn ((dlN (st, bk) j).2 j 2) ((dlN (st, bk) j).1 i 0))))) gate nu []) := by rw [ww_set_bk hlt] at hD; exact hD
          refine lv_iinc (v := (nI (j + 1))) (lv' := [(5, .int (nI (j + 1))), (8, .int (mn ((dlN (st, bk) j).2 j 2) ((dlN (st, bk) j).1 i 0))), (7, .ref (am (4 + i))), (6, .ref (am (8 + j))), (0, .ref (am 0)), (1, .int (nI k)), (3, .ref (am 3)), (4, .int (nI nB))]) hx hb dX4_pass_194 hl (k := 7) rfl ((nI_1 j)) (by decide) rfl (fun ls hl => ?_)
          refine lv_goto (tgt := 112) hx hb dX4_pass_197 (by decide) ?_
          have hz := one_ne h7 c135
          have e : dlN (st, bk) (j + 1) = (va_up (dlN (st, bk) j).1 i (upd ((dlN (st, bk) j).1 i) 0 ((dlN (st, bk) j).1 i 0 - mn ((dlN (st, bk) j).2 j 2) ((dlN (st, bk) j).1 i 0))), va_up (dlN (st, bk) j).2 j (upd ((dlN (st, bk) j).2 j) 3 ((dlN (st, bk) j).2 j 3 + mn ((dlN (st, bk) j).2 j 2) ((dlN (st, bk) j).1 i 0)))) := by show dlStep _ _ _ = _; rw [h0, nI_clamp (by omega)]; exact if_pos hz
          exact ih (j + 1)  _ _ _ (by omega) (by rw [e]; exact hP) (by rw [e]; exact hD) hS (lv_sub hl [4, 5, 6, 7, 0] rfl)
      · refine lv_goto (tgt := 194) hx hb dX4_pass_138 (by decide) ?_
        refine lv_iinc (v := (nI (j + 1))) (lv' := [(5, .int (nI (j + 1))), (6, .ref (am (8 + j))), (0, .ref (am 0)), (1, .int (nI k)), (3, .ref (am 3)), (4, .int (nI nB))]) hx hb dX4_pass_194 hl (k := 5) rfl ((nI_1 j)) (by decide) rfl (fun ls hl => ?_)
        refine lv_goto (tgt := 112) hx hb dX4_pass_197 (by decide) ?_
        have e : dlN (st, bk) (j + 1) = (dlN (st, bk) j) := by show dlStep _ _ _ = _; exact if_neg (by rw [c135]; decide)
        exact ih (j + 1)  _ _ _ (by omega) (by rw [e]; exact hP) (by rw [e]; exact hD) hS (lv_sub hl [2, 3, 4, 5, 0] rfl)
  exact loop nB 0  _ _ _ (by omega) hP hD hS (lv_sub hl [3, 4, 2, 1, 0] rfl)

set_option maxHeartbeats 4000000 in
set_option maxRecDepth 100000 in
/-- no rations in another hour -/
theorem p_c1 {p : Program} {l : Launch} {e : Env} {R : Room} {s : State} {m : MethodId} {below : List Frame} {meth : Method} {c : Code} {Q : State → Prop} {D : va_G} {cy : Nat → ClassId} {A : Nat → Prop} {am : Nat → Nat} {nS nB : Nat} {st bk : Nat → Iu} {gate nu : Iu} (k : Nat) (hk0 : 0 < nI k) (hcB : nB ≤ 6) (F : pF p s m meth c D cy A am) (KK : pS p l e R s m below meth c Q D A am 200 [(0, .ref (am 0)), (1, .int (nI k))] (sw cy am nS nB st bk gate nu [])) : pS p l e R s m below meth c Q D A am 100 [(0, .ref (am 0)), (1, .int (nI k))] (sw cy am nS nB st bk gate nu []) := by
  obtain ⟨hx, hb, hts, hown, hlocks, hml, hK, hA⟩ := F
  intro H locs ls hP hD hS hl
  have hinX4 : ∀ w ∈ wsX40, w ∈ wsX4_pass := fun _ h => List.mem_cons_of_mem _ (List.mem_append_right _ h)
  refine lv_aload_n hx hb dX4_pass_100 rfl (lv_at hl 0 rfl) ?_
  refine va_get (D := D) (ci := 4) (v := .ref (am 3)) (C := RX4) (T := TX4) (N := 9) hx hb hts hinX4 hown hK.1 hP 0 rfl rfl 3 (by decide) (hts (.fieldLink RX4 22 "LoafMarksLaw$Sim" "bakers" "[[I") (List.mem_of_getElem? (i := 5) rfl)) (fun _ h9 => h9) rfl dX4_pass_101 ?_
  refine lv_astore_n (lv' := [(3, .ref (am 3)), (0, .ref (am 0)), (1, .int (nI k))]) hx hb dX4_pass_104 rfl hl (by decide) rfl (fun ls hl => ?_)
  refine lv_aload_n hx hb dX4_pass_105 rfl (lv_at hl 0 rfl) ?_
  refine va_alen hx hb hK.1 hP (3) 3 rfl rfl (v := nI nB) rfl dX4_pass_106 ?_
  refine lv_istore (lv' := [(4, .int (nI nB)), (3, .ref (am 3)), (0, .ref (am 0)), (1, .int (nI k))]) hx hb dX4_pass_107 hl (by decide) rfl (fun ls hl => ?_)
  refine lv_iconst (v := 0) hx hb dX4_pass_109 (by decide) ?_
  refine lv_istore (lv' := [(5, .int 0), (4, .int (nI nB)), (3, .ref (am 3)), (0, .ref (am 0)), (1, .int (nI k))]) hx hb dX4_pass_110 hl (by decide) rfl (fun ls hl => ?_)
  have loop : ∀ (n j : Nat)  (H : Heap) (locs : List Loc) (ls : Array Slot), j + n = nB → va_P D vwCl (sw cy am nS nB st bk gate nu []) H → va_D A (sw cy am nS nB st bk gate nu []) → va_S A s.heap H locs → lv_has ls 9 [(0, .ref (am 0)), (1, .int (nI k)), (3, .ref (am 3)), (4, .int (nI nB)), (5, .int (nI j))] → W p l e R s m ([.ref (am 0)] : List Value).toArray below meth c H locs 0 0 Q (F0 m 112 ls []) := by
    intro n
    induction n with
    | zero =>
      intro j  H locs ls hns hP hD hS hl
      have hij : j = nB := by omega
      refine lv_iload hx hb dX4_pass_112 (lv_at hl 4 rfl) ?_
      refine lv_iload hx hb dX4_pass_114 (lv_at hl 3 rfl) ?_
      refine lv_icmp_ge (tgt := 200) hx hb dX4_pass_116 (by decide) (fun _ => ?_) (fun h => absurd (by rw [hij]; exact Int32.le_refl _) h)
      exact KK _ _ _ hP hD hS (lv_sub hl [0, 1] rfl)
    | succ n ih =>
      intro j  H locs ls hns hP hD hS hl
      have hlt : j < nB := by omega
      refine lv_iload hx hb dX4_pass_112 (lv_at hl 4 rfl) ?_
      refine lv_iload hx hb dX4_pass_114 (lv_at hl 3 rfl) ?_
      refine lv_icmp_ge (tgt := 200) hx hb dX4_pass_116 (by decide) (fun h => absurd h (nI_ge (b := nB) hlt (by omega))) (fun _ => ?_)
      refine lv_aload_n hx hb dX4_pass_119 rfl (lv_at hl 2 rfl) ?_
      refine lv_iload hx hb dX4_pass_120 (lv_at hl 4 rfl) ?_
      refine xaldB hx hb hK hP (3) (am := am) rfl j rfl (by omega) hcB dX4_pass_122 ?_
      refine lv_astore (lv' := [(6, .ref (am (8 + j))), (0, .ref (am 0)), (1, .int (nI k)), (3, .ref (am 3)), (4, .int (nI nB)), (5, .int (nI j))]) hx hb dX4_pass_123 hl (by decide) rfl (fun ls hl => ?_)
      refine lv_iload_n hx hb dX4_pass_125 rfl (lv_at hl 2 rfl) ?_
      refine lv_if_gt (tgt := 194) hx hb dX4_pass_126 (by decide) (fun _ => ?_) (fun h => absurd hk0 h)
      refine lv_iinc (v := (nI (j + 1))) (lv' := [(5, .int (nI (j + 1))), (6, .ref (am (8 + j))), (0, .ref (am 0)), (1, .int (nI k)), (3, .ref (am 3)), (4, .int (nI nB))]) hx hb dX4_pass_194 hl (k := 5) rfl ((nI_1 j)) (by decide) rfl (fun ls hl => ?_)
      refine lv_goto (tgt := 112) hx hb dX4_pass_197 (by decide) ?_
      exact ih (j + 1)  _ _ _ (by omega) hP hD hS (lv_sub hl [2, 3, 4, 5, 0] rfl)
  exact loop nB 0  _ _ _ (by omega) hP hD hS (lv_sub hl [3, 4, 2, 1, 0] rfl)

set_option maxHeartbeats 4000000 in
set_option maxRecDepth 100000 in
/-- weevils, in the first hour of a day -/
theorem p_d0 {p : Program} {l : Launch} {e : Env} {R : Room} {s : State} {m : MethodId} {below : List Frame} {meth : Method} {c : Code} {Q : State → Prop} {D : va_G} {cy : Nat → ClassId} {A : Nat → Prop} {am : Nat → Nat} {nS nB : Nat} {st bk : Nat → Iu} {gate nu : Iu} (k : Nat) (hk0 : nI k ≤ 0) (hcS : nS ≤ 4) (hs : ∀ i, i < nS → sOK (st i)) (F : pF p s m meth c D cy A am) (KK : pS p l e R s m below meth c Q D A am 338 [(0, .ref (am 0)), (1, .int (nI k))] (sw cy am nS nB (feedN st nS) bk gate nu [])) : pS p l e R s m below meth c Q D A am 200 [(0, .ref (am 0)), (1, .int (nI k))] (sw cy am nS nB st bk gate nu []) := by
  obtain ⟨hx, hb, hts, hown, hlocks, hml, hK, hA⟩ := F
  intro H locs ls hP hD hS hl
  have hinX4 : ∀ w ∈ wsX40, w ∈ wsX4_pass := fun _ h => List.mem_cons_of_mem _ (List.mem_append_right _ h)
  refine lv_aload_n hx hb dX4_pass_200 rfl (lv_at hl 0 rfl) ?_
  refine va_get (D := D) (ci := 4) (v := .ref (am 2)) (C := RX4) (T := TX4) (N := 9) hx hb hts hinX4 hown hK.1 hP 0 rfl rfl 2 (by decide) (hts (.fieldLink RX4 18 "LoafMarksLaw$Sim" "stores" "[[I") (List.mem_of_getElem? (i := 2) rfl)) (fun _ h9 => h9) rfl dX4_pass_201 ?_
  refine lv_astore_n (lv' := [(3, .ref (am 2)), (0, .ref (am 0)), (1, .int (nI k))]) hx hb dX4_pass_204 rfl hl (by decide) rfl (fun ls hl => ?_)
  refine lv_aload_n hx hb dX4_pass_205 rfl (lv_at hl 0 rfl) ?_
  refine va_alen hx hb hK.1 hP (2) 3 rfl rfl (v := nI nS) rfl dX4_pass_206 ?_
  refine lv_istore (lv' := [(4, .int (nI nS)), (3, .ref (am 2)), (0, .ref (am 0)), (1, .int (nI k))]) hx hb dX4_pass_207 hl (by decide) rfl (fun ls hl => ?_)
  refine lv_iconst (v := 0) hx hb dX4_pass_209 (by decide) ?_
  refine lv_istore (lv' := [(5, .int 0), (4, .int (nI nS)), (3, .ref (am 2)), (0, .ref (am 0)), (1, .int (nI k))]) hx hb dX4_pass_210 hl (by decide) rfl (fun ls hl => ?_)
  have loop : ∀ (n i : Nat)  (H : Heap) (locs : List Loc) (ls : Array Slot), i + n = nS → va_P D vwCl (sw cy am nS nB (feedN st i) bk gate nu []) H → va_D A (sw cy am nS nB (feedN st i) bk gate nu []) → va_S A s.heap H locs → lv_has ls 9 [(0, .ref (am 0)), (1, .int (nI k)), (3, .ref (am 2)), (4, .int (nI nS)), (5, .int (nI i))] → W p l e R s m ([.ref (am 0)] : List Value).toArray below meth c H locs 0 0 Q (F0 m 212 ls []) := by
    intro n
    induction n with
    | zero =>
      intro i  H locs ls hns hP hD hS hl
      have hii : i = nS := by omega
      refine lv_iload hx hb dX4_pass_212 (lv_at hl 4 rfl) ?_
      refine lv_iload hx hb dX4_pass_214 (lv_at hl 3 rfl) ?_
      refine lv_icmp_ge (tgt := 338) hx hb dX4_pass_216 (by decide) (fun _ => ?_) (fun h => absurd (by rw [hii]; exact Int32.le_refl _) h)
      rw [hii] at hP hD
      exact KK _ _ _ hP hD hS (lv_sub hl [0, 1] rfl)
    | succ n ih =>
      intro i  H locs ls hns hP hD hS hl
      have hlt : i < nS := by omega
      have hsi : sOK (feedN st i i) := by rw [feedN_at, if_neg (Nat.lt_irrefl i)]; exact hs i hlt
      refine lv_iload hx hb dX4_pass_212 (lv_at hl 4 rfl) ?_
      refine lv_iload hx hb dX4_pass_214 (lv_at hl 3 rfl) ?_
      refine lv_icmp_ge (tgt := 338) hx hb dX4_pass_216 (by decide) (fun h => absurd h (nI_ge (b := nS) hlt (by omega))) (fun _ => ?_)
      refine lv_aload_n hx hb dX4_pass_219 rfl (lv_at hl 2 rfl) ?_
      refine lv_iload hx hb dX4_pass_220 (lv_at hl 4 rfl) ?_
      refine xaldS hx hb hK hP (2) (am := am) rfl i rfl (by omega) hcS dX4_pass_222 ?_
      refine lv_astore (lv' := [(6, .ref (am (4 + i))), (0, .ref (am 0)), (1, .int (nI k)), (3, .ref (am 2)), (4, .int (nI nS)), (5, .int (nI i))]) hx hb dX4_pass_223 hl (by decide) rfl (fun ls hl => ?_)
      refine lv_iload_n hx hb dX4_pass_225 rfl (lv_at hl 2 rfl) ?_
      refine lv_if_le (tgt := 232) hx hb dX4_pass_226 (by decide) (fun _ => ?_) (fun h => absurd hk0 h)
      refine lv_aload hx hb dX4_pass_232 (lv_at hl 0 rfl) ?_
      refine lv_iconst (v := 0) hx hb dX4_pass_234 (by decide) ?_
      refine xiald hx hb hK hP (4 + i) (ww_st hlt) 0 (by decide) (by decide) (by decide) dX4_pass_235 ?_
      refine lv_aload hx hb dX4_pass_236 (lv_at hl 0 rfl) ?_
      refine lv_iconst (v := 1) hx hb dX4_pass_238 (by decide) ?_
      refine xiald hx hb hK hP (4 + i) (ww_st hlt) 1 (by decide) (by decide) (by decide) dX4_pass_239 ?_
      refine lv_icmp_ge (tgt := 250) hx hb dX4_pass_240 (by decide) (fun c240 => ?_) (fun c240 => ?_)
      · refine lv_aload hx hb dX4_pass_250 (lv_at hl 0 rfl) ?_
        refine lv_iconst (v := 1) hx hb dX4_pass_252 (by decide) ?_
        refine xiald hx hb hK hP (4 + i) (ww_st hlt) 1 (by decide) (by decide) (by decide) dX4_pass_253 ?_
        refine W.eq (g2 := F0 m 254 ls [.int (mn ((feedN st i) i 1) ((feedN st i) i 0))]) (by unfold mn; first | (rw [if_neg (Int32.not_lt.mpr c240)]; done) | (rw [if_neg (Int32.not_lt.mpr c240)]; rfl)) ?_
        refine lv_istore (lv' := [(7, .int (mn ((feedN st i) i 1) ((feedN st i) i 0))), (6, .ref (am (4 + i))), (0, .ref (am 0)), (1, .int (nI k)), (3, .ref (am 2)), (4, .int (nI nS)), (5, .int (nI i))]) hx hb dX4_pass_254 hl (by decide) rfl (fun ls hl => ?_)
        refine lv_aload hx hb dX4_pass_256 (lv_at hl 1 rfl) ?_
        refine lv_iconst (v := 0) hx hb dX4_pass_258 (by decide) ?_
        refine lv_dup2_11 hx hb dX4_pass_259 rfl rfl ?_
        refine xiald hx hb hK hP (4 + i) (ww_st hlt) 0 (by decide) (by decide) (by decide) dX4_pass_260 ?_
        refine lv_iload hx hb dX4_pass_261 (lv_at hl 0 rfl) ?_
        refine lv_isub hx hb dX4_pass_263 ?_
        refine xiast hx hb hK hP hD hS (4 + i) (ww_st hlt) 0 (by decide) (by decide) (by decide) dX4_pass_264 (fun H locs hP hD hS => ?_)
        have hP : va_P D vwCl (sw cy am nS nB (va_up (feedN st i) i (upd ((feedN st i) i) 0 (((feedN st i) i 0) - (mn ((feedN st i) i 1) ((feedN st i) i 0))))) bk gate nu []) H := by rw [ww_set_st hlt] at hP; exact hP
        have hD : va_D A (sw cy am nS nB (va_up (feedN st i) i (upd ((feedN st i) i) 0 (((feedN st i) i 0) - (mn ((feedN st i) i 1) ((feedN st i) i 0))))) bk gate nu []) := by rw [ww_set_st hlt] at hD; exact hD
        refine lv_aload hx hb dX4_pass_265 (lv_at hl 1 rfl) ?_
        refine lv_iconst (v := 2) hx hb dX4_pass_267 (by decide) ?_
        refine lv_dup2_11 hx hb dX4_pass_268 rfl rfl ?_
        refine xiald hx hb hK hP (4 + i) (ww_st hlt) 2 (by decide) (by decide) (by decide) dX4_pass_269 ?_
        refine W.eq (g2 := F0 m 270 ls [.int (((feedN st i) i) 2), .int 2, .ref (am (4 + i))]) (by first | (rw [up_at]; done) | (rw [up_at]; rfl)) ?_
        refine lv_iload hx hb dX4_pass_270 (lv_at hl 0 rfl) ?_
        refine lv_iadd hx hb dX4_pass_272 ?_
        refine xiast hx hb hK hP hD hS (4 + i) (ww_st hlt) 2 (by decide) (by decide) (by decide) dX4_pass_273 (fun H locs hP hD hS => ?_)
        have hP : va_P D vwCl (sw cy am nS nB (va_up (feedN st i) i (upd (upd ((feedN st i) i) 0 (((feedN st i) i 0) - (mn ((feedN st i) i 1) ((feedN st i) i 0)))) 2 ((((feedN st i) i) 2) + (mn ((feedN st i) i 1) ((feedN st i) i 0))))) bk gate nu []) H := by rw [ww_set_st hlt, up_upd] at hP; exact hP
        have hD : va_D A (sw cy am nS nB (va_up (feedN st i) i (upd (upd ((feedN st i) i) 0 (((feedN st i) i 0) - (mn ((feedN st i) i 1) ((feedN st i) i 0)))) 2 ((((feedN st i) i) 2) + (mn ((feedN st i) i 1) ((feedN st i) i 0))))) bk gate nu []) := by rw [ww_set_st hlt, up_upd] at hD; exact hD
        refine lv_aload hx hb dX4_pass_274 (lv_at hl 1 rfl) ?_
        refine lv_iconst (v := 0) hx hb dX4_pass_276 (by decide) ?_
        refine xiald hx hb hK hP (4 + i) (ww_st hlt) 0 (by decide) (by decide) (by decide) dX4_pass_277 ?_
        refine W.eq (g2 := F0 m 278 ls [.int (((feedN st i) i 0) - (mn ((feedN st i) i 1) ((feedN st i) i 0)))]) (by first | (rw [up_at]; done) | (rw [up_at]; rfl)) ?_
        refine lv_if_ne (tgt := 292) hx hb dX4_pass_278 (by decide) (fun c278 => ?_) (fun c278 => ?_)
        · have hpos : 0 < (feedN st i) i 0 - mn ((feedN st i) i 1) ((feedN st i) i 0) := feed_pos hsi c278
          refine lv_aload hx hb dX4_pass_292 (lv_at hl 1 rfl) ?_
          refine lv_iconst (v := 1) hx hb dX4_pass_294 (by decide) ?_
          refine lv_aload hx hb dX4_pass_295 (lv_at hl 1 rfl) ?_
          refine lv_iconst (v := 1) hx hb dX4_pass_297 (by decide) ?_
          refine xiald hx hb hK hP (4 + i) (ww_st hlt) 1 (by decide) (by decide) (by decide) dX4_pass_298 ?_
          refine W.eq (g2 := F0 m 299 ls [.int (((feedN st i) i) 1), .int 1, .ref (am (4 + i))]) (by first | (rw [up_at]; done) | (rw [up_at]; rfl)) ?_
          refine lv_aload hx hb dX4_pass_299 (lv_at hl 1 rfl) ?_
          refine lv_iconst (v := 1) hx hb dX4_pass_301 (by decide) ?_
          refine xiald hx hb hK hP (4 + i) (ww_st hlt) 1 (by decide) (by decide) (by decide) dX4_pass_302 ?_
          refine W.eq (g2 := F0 m 303 ls [.int (((feedN st i) i) 1), .int (((feedN st i) i) 1), .int 1, .ref (am (4 + i))]) (by first | (rw [up_at]; done) | (rw [up_at]; rfl)) ?_
          refine lv_iconst (v := 4) hx hb dX4_pass_303 (by decide) ?_
          refine lv_idiv hx hb dX4_pass_304 (by decide) ?_
          refine lv_iadd hx hb dX4_pass_305 ?_
          refine lv_iconst (v := 1) hx hb dX4_pass_306 (by decide) ?_
          refine lv_iadd hx hb dX4_pass_307 ?_
          refine lv_bipush (v := 50) hx hb dX4_pass_308 (by decide) ?_
          refine lv_icmp_le (tgt := 318) hx hb dX4_pass_310 (by decide) (fun c310 => ?_) (fun c310 => ?_)
          · refine lv_aload hx hb dX4_pass_318 (lv_at hl 1 rfl) ?_
            refine lv_iconst (v := 1) hx hb dX4_pass_320 (by decide) ?_
            refine xiald hx hb hK hP (4 + i) (ww_st hlt) 1 (by decide) (by decide) (by decide) dX4_pass_321 ?_
            refine W.eq (g2 := F0 m 322 ls [.int (((feedN st i) i) 1), .int 1, .ref (am (4 + i))]) (by first | (rw [up_at]; done) | (rw [up_at]; rfl)) ?_
            refine lv_aload hx hb dX4_pass_322 (lv_at hl 1 rfl) ?_
            refine lv_iconst (v := 1) hx hb dX4_pass_324 (by decide) ?_
            refine xiald hx hb hK hP (4 + i) (ww_st hlt) 1 (by decide) (by decide) (by decide) dX4_pass_325 ?_
            refine W.eq (g2 := F0 m 326 ls [.int (((feedN st i) i) 1), .int (((feedN st i) i) 1), .int 1, .ref (am (4 + i))]) (by first | (rw [up_at]; done) | (rw [up_at]; rfl)) ?_
            refine lv_iconst (v := 4) hx hb dX4_pass_326 (by decide) ?_
            refine lv_idiv hx hb dX4_pass_327 (by decide) ?_
            refine lv_iadd hx hb dX4_pass_328 ?_
            refine lv_iconst (v := 1) hx hb dX4_pass_329 (by decide) ?_
            refine lv_iadd hx hb dX4_pass_330 ?_
            refine W.eq (g2 := F0 m 331 ls [.int (mn ((feedN st i) i 1 + (feedN st i) i 1 / 4 + 1) 50), .int 1, .ref (am (4 + i))]) (by unfold mn; first | (rw [if_neg (Int32.not_lt.mpr c310)]; done) | (rw [if_neg (Int32.not_lt.mpr c310)]; rfl)) ?_
            refine xiast hx hb hK hP hD hS (4 + i) (ww_st hlt) 1 (by decide) (by decide) (by decide) dX4_pass_331 (fun H locs hP hD hS => ?_)
            have hP : va_P D vwCl (sw cy am nS nB (va_up (feedN st i) i (upd (upd (upd ((feedN st i) i) 0 (((feedN st i) i 0) - (mn ((feedN st i) i 1) ((feedN st i) i 0)))) 2 ((((feedN st i) i) 2) + (mn ((feedN st i) i 1) ((feedN st i) i 0)))) 1 (mn ((feedN st i) i 1 + (feedN st i) i 1 / 4 + 1) 50))) bk gate nu []) H := by rw [ww_set_st hlt, up_upd] at hP; exact hP
            have hD : va_D A (sw cy am nS nB (va_up (feedN st i) i (upd (upd (upd ((feedN st i) i) 0 (((feedN st i) i 0) - (mn ((feedN st i) i 1) ((feedN st i) i 0)))) 2 ((((feedN st i) i) 2) + (mn ((feedN st i) i 1) ((feedN st i) i 0)))) 1 (mn ((feedN st i) i 1 + (feedN st i) i 1 / 4 + 1) 50))) bk gate nu []) := by rw [ww_set_st hlt, up_upd] at hD; exact hD
            refine lv_iinc (v := (nI (i + 1))) (lv' := [(5, .int (nI (i + 1))), (7, .int (mn ((feedN st i) i 1) ((feedN st i) i 0))), (6, .ref (am (4 + i))), (0, .ref (am 0)), (1, .int (nI k)), (3, .ref (am 2)), (4, .int (nI nS))]) hx hb dX4_pass_332 hl (k := 6) rfl ((nI_1 i)) (by decide) rfl (fun ls hl => ?_)
            refine lv_goto (tgt := 212) hx hb dX4_pass_335 (by decide) ?_
            have e : feedN st (i + 1) = va_up (feedN st i) i (upd (upd (upd ((feedN st i) i) 0 (((feedN st i) i 0) - (mn ((feedN st i) i 1) ((feedN st i) i 0)))) 2 ((((feedN st i) i) 2) + (mn ((feedN st i) i 1) ((feedN st i) i 0)))) 1 (mn ((feedN st i) i 1 + (feedN st i) i 1 / 4 + 1) 50)) := by show va_up _ _ (sFeed _) = _; unfold sFeed; rw [if_pos hpos]; rfl
            exact ih (i + 1)  _ _ _ (by omega) (by rw [e]; exact hP) (by rw [e]; exact hD) hS (lv_sub hl [3, 4, 5, 6, 0] rfl)
          · refine lv_bipush (v := 50) hx hb dX4_pass_313 (by decide) ?_
            refine lv_goto (tgt := 331) hx hb dX4_pass_315 (by decide) ?_
            refine W.eq (g2 := F0 m 331 ls [.int (mn ((feedN st i) i 1 + (feedN st i) i 1 / 4 + 1) 50), .int 1, .ref (am (4 + i))]) (by unfold mn; first | (rw [if_pos (Int32.not_le.mp c310)]; done) | (rw [if_pos (Int32.not_le.mp c310)]; rfl)) ?_
            refine xiast hx hb hK hP hD hS (4 + i) (ww_st hlt) 1 (by decide) (by decide) (by decide) dX4_pass_331 (fun H locs hP hD hS => ?_)
            have hP : va_P D vwCl (sw cy am nS nB (va_up (feedN st i) i (upd (upd (upd ((feedN st i) i) 0 (((feedN st i) i 0) - (mn ((feedN st i) i 1) ((feedN st i) i 0)))) 2 ((((feedN st i) i) 2) + (mn ((feedN st i) i 1) ((feedN st i) i 0)))) 1 (mn ((feedN st i) i 1 + (feedN st i) i 1 / 4 + 1) 50))) bk gate nu []) H := by rw [ww_set_st hlt, up_upd] at hP; exact hP
            have hD : va_D A (sw cy am nS nB (va_up (feedN st i) i (upd (upd (upd ((feedN st i) i) 0 (((feedN st i) i 0) - (mn ((feedN st i) i 1) ((feedN st i) i 0)))) 2 ((((feedN st i) i) 2) + (mn ((feedN st i) i 1) ((feedN st i) i 0)))) 1 (mn ((feedN st i) i 1 + (feedN st i) i 1 / 4 + 1) 50))) bk gate nu []) := by rw [ww_set_st hlt, up_upd] at hD; exact hD
            refine lv_iinc (v := (nI (i + 1))) (lv' := [(5, .int (nI (i + 1))), (7, .int (mn ((feedN st i) i 1) ((feedN st i) i 0))), (6, .ref (am (4 + i))), (0, .ref (am 0)), (1, .int (nI k)), (3, .ref (am 2)), (4, .int (nI nS))]) hx hb dX4_pass_332 hl (k := 6) rfl ((nI_1 i)) (by decide) rfl (fun ls hl => ?_)
            refine lv_goto (tgt := 212) hx hb dX4_pass_335 (by decide) ?_
            have e : feedN st (i + 1) = va_up (feedN st i) i (upd (upd (upd ((feedN st i) i) 0 (((feedN st i) i 0) - (mn ((feedN st i) i 1) ((feedN st i) i 0)))) 2 ((((feedN st i) i) 2) + (mn ((feedN st i) i 1) ((feedN st i) i 0)))) 1 (mn ((feedN st i) i 1 + (feedN st i) i 1 / 4 + 1) 50)) := by show va_up _ _ (sFeed _) = _; unfold sFeed; rw [if_pos hpos]; rfl
            exact ih (i + 1)  _ _ _ (by omega) (by rw [e]; exact hP) (by rw [e]; exact hD) hS (lv_sub hl [3, 4, 5, 6, 0] rfl)
        · refine lv_aload hx hb dX4_pass_281 (lv_at hl 1 rfl) ?_
          refine lv_iconst (v := 1) hx hb dX4_pass_283 (by decide) ?_
          refine lv_dup2_11 hx hb dX4_pass_284 rfl rfl ?_
          refine xiald hx hb hK hP (4 + i) (ww_st hlt) 1 (by decide) (by decide) (by decide) dX4_pass_285 ?_
          refine W.eq (g2 := F0 m 286 ls [.int (((feedN st i) i) 1), .int 1, .ref (am (4 + i))]) (by first | (rw [up_at]; done) | (rw [up_at]; rfl)) ?_
          refine lv_iconst (v := 2) hx hb dX4_pass_286 (by decide) ?_
          refine lv_idiv hx hb dX4_pass_287 (by decide) ?_
          refine xiast hx hb hK hP hD hS (4 + i) (ww_st hlt) 1 (by decide) (by decide) (by decide) dX4_pass_288 (fun H locs hP hD hS => ?_)
          have hP : va_P D vwCl (sw cy am nS nB (va_up (feedN st i) i (upd (upd (upd ((feedN st i) i) 0 (((feedN st i) i 0) - (mn ((feedN st i) i 1) ((feedN st i) i 0)))) 2 ((((feedN st i) i) 2) + (mn ((feedN st i) i 1) ((feedN st i) i 0)))) 1 ((((feedN st i) i) 1) / 2))) bk gate nu []) H := by rw [ww_set_st hlt, up_upd] at hP; exact hP
          have hD : va_D A (sw cy am nS nB (va_up (feedN st i) i (upd (upd (upd ((feedN st i) i) 0 (((feedN st i) i 0) - (mn ((feedN st i) i 1) ((feedN st i) i 0)))) 2 ((((feedN st i) i) 2) + (mn ((feedN st i) i 1) ((feedN st i) i 0)))) 1 ((((feedN st i) i) 1) / 2))) bk gate nu []) := by rw [ww_set_st hlt, up_upd] at hD; exact hD
          refine lv_goto (tgt := 332) hx hb dX4_pass_289 (by decide) ?_
          refine lv_iinc (v := (nI (i + 1))) (lv' := [(5, .int (nI (i + 1))), (7, .int (mn ((feedN st i) i 1) ((feedN st i) i 0))), (6, .ref (am (4 + i))), (0, .ref (am 0)), (1, .int (nI k)), (3, .ref (am 2)), (4, .int (nI nS))]) hx hb dX4_pass_332 hl (k := 6) rfl ((nI_1 i)) (by decide) rfl (fun ls hl => ?_)
          refine lv_goto (tgt := 212) hx hb dX4_pass_335 (by decide) ?_
          have e : feedN st (i + 1) = va_up (feedN st i) i (upd (upd (upd ((feedN st i) i) 0 (((feedN st i) i 0) - (mn ((feedN st i) i 1) ((feedN st i) i 0)))) 2 ((((feedN st i) i) 2) + (mn ((feedN st i) i 1) ((feedN st i) i 0)))) 1 ((((feedN st i) i) 1) / 2)) := by show va_up _ _ (sFeed _) = _; unfold sFeed; rw [if_neg (fun z => absurd z (by rw [c278]; decide))]; rfl
          exact ih (i + 1)  _ _ _ (by omega) (by rw [e]; exact hP) (by rw [e]; exact hD) hS (lv_sub hl [3, 4, 5, 6, 0] rfl)
      · refine lv_aload hx hb dX4_pass_243 (lv_at hl 0 rfl) ?_
        refine lv_iconst (v := 0) hx hb dX4_pass_245 (by decide) ?_
        refine xiald hx hb hK hP (4 + i) (ww_st hlt) 0 (by decide) (by decide) (by decide) dX4_pass_246 ?_
        refine lv_goto (tgt := 254) hx hb dX4_pass_247 (by decide) ?_
        refine W.eq (g2 := F0 m 254 ls [.int (mn ((feedN st i) i 1) ((feedN st i) i 0))]) (by unfold mn; first | (rw [if_pos (Int32.not_le.mp c240)]; done) | (rw [if_pos (Int32.not_le.mp c240)]; rfl)) ?_
        refine lv_istore (lv' := [(7, .int (mn ((feedN st i) i 1) ((feedN st i) i 0))), (6, .ref (am (4 + i))), (0, .ref (am 0)), (1, .int (nI k)), (3, .ref (am 2)), (4, .int (nI nS)), (5, .int (nI i))]) hx hb dX4_pass_254 hl (by decide) rfl (fun ls hl => ?_)
        refine lv_aload hx hb dX4_pass_256 (lv_at hl 1 rfl) ?_
        refine lv_iconst (v := 0) hx hb dX4_pass_258 (by decide) ?_
        refine lv_dup2_11 hx hb dX4_pass_259 rfl rfl ?_
        refine xiald hx hb hK hP (4 + i) (ww_st hlt) 0 (by decide) (by decide) (by decide) dX4_pass_260 ?_
        refine lv_iload hx hb dX4_pass_261 (lv_at hl 0 rfl) ?_
        refine lv_isub hx hb dX4_pass_263 ?_
        refine xiast hx hb hK hP hD hS (4 + i) (ww_st hlt) 0 (by decide) (by decide) (by decide) dX4_pass_264 (fun H locs hP hD hS => ?_)
        have hP : va_P D vwCl (sw cy am nS nB (va_up (feedN st i) i (upd ((feedN st i) i) 0 (((feedN st i) i 0) - (mn ((feedN st i) i 1) ((feedN st i) i 0))))) bk gate nu []) H := by rw [ww_set_st hlt] at hP; exact hP
        have hD : va_D A (sw cy am nS nB (va_up (feedN st i) i (upd ((feedN st i) i) 0 (((feedN st i) i 0) - (mn ((feedN st i) i 1) ((feedN st i) i 0))))) bk gate nu []) := by rw [ww_set_st hlt] at hD; exact hD
        refine lv_aload hx hb dX4_pass_265 (lv_at hl 1 rfl) ?_
        refine lv_iconst (v := 2) hx hb dX4_pass_267 (by decide) ?_
        refine lv_dup2_11 hx hb dX4_pass_268 rfl rfl ?_
        refine xiald hx hb hK hP (4 + i) (ww_st hlt) 2 (by decide) (by decide) (by decide) dX4_pass_269 ?_
        refine W.eq (g2 := F0 m 270 ls [.int (((feedN st i) i) 2), .int 2, .ref (am (4 + i))]) (by first | (rw [up_at]; done) | (rw [up_at]; rfl)) ?_
        refine lv_iload hx hb dX4_pass_270 (lv_at hl 0 rfl) ?_
        refine lv_iadd hx hb dX4_pass_272 ?_
        refine xiast hx hb hK hP hD hS (4 + i) (ww_st hlt) 2 (by decide) (by decide) (by decide) dX4_pass_273 (fun H locs hP hD hS => ?_)
        have hP : va_P D vwCl (sw cy am nS nB (va_up (feedN st i) i (upd (upd ((feedN st i) i) 0 (((feedN st i) i 0) - (mn ((feedN st i) i 1) ((feedN st i) i 0)))) 2 ((((feedN st i) i) 2) + (mn ((feedN st i) i 1) ((feedN st i) i 0))))) bk gate nu []) H := by rw [ww_set_st hlt, up_upd] at hP; exact hP
        have hD : va_D A (sw cy am nS nB (va_up (feedN st i) i (upd (upd ((feedN st i) i) 0 (((feedN st i) i 0) - (mn ((feedN st i) i 1) ((feedN st i) i 0)))) 2 ((((feedN st i) i) 2) + (mn ((feedN st i) i 1) ((feedN st i) i 0))))) bk gate nu []) := by rw [ww_set_st hlt, up_upd] at hD; exact hD
        refine lv_aload hx hb dX4_pass_274 (lv_at hl 1 rfl) ?_
        refine lv_iconst (v := 0) hx hb dX4_pass_276 (by decide) ?_
        refine xiald hx hb hK hP (4 + i) (ww_st hlt) 0 (by decide) (by decide) (by decide) dX4_pass_277 ?_
        refine W.eq (g2 := F0 m 278 ls [.int (((feedN st i) i 0) - (mn ((feedN st i) i 1) ((feedN st i) i 0)))]) (by first | (rw [up_at]; done) | (rw [up_at]; rfl)) ?_
        refine lv_if_ne (tgt := 292) hx hb dX4_pass_278 (by decide) (fun c278 => ?_) (fun c278 => ?_)
        · have hpos : 0 < (feedN st i) i 0 - mn ((feedN st i) i 1) ((feedN st i) i 0) := feed_pos hsi c278
          refine lv_aload hx hb dX4_pass_292 (lv_at hl 1 rfl) ?_
          refine lv_iconst (v := 1) hx hb dX4_pass_294 (by decide) ?_
          refine lv_aload hx hb dX4_pass_295 (lv_at hl 1 rfl) ?_
          refine lv_iconst (v := 1) hx hb dX4_pass_297 (by decide) ?_
          refine xiald hx hb hK hP (4 + i) (ww_st hlt) 1 (by decide) (by decide) (by decide) dX4_pass_298 ?_
          refine W.eq (g2 := F0 m 299 ls [.int (((feedN st i) i) 1), .int 1, .ref (am (4 + i))]) (by first | (rw [up_at]; done) | (rw [up_at]; rfl)) ?_
          refine lv_aload hx hb dX4_pass_299 (lv_at hl 1 rfl) ?_
          refine lv_iconst (v := 1) hx hb dX4_pass_301 (by decide) ?_
          refine xiald hx hb hK hP (4 + i) (ww_st hlt) 1 (by decide) (by decide) (by decide) dX4_pass_302 ?_
          refine W.eq (g2 := F0 m 303 ls [.int (((feedN st i) i) 1), .int (((feedN st i) i) 1), .int 1, .ref (am (4 + i))]) (by first | (rw [up_at]; done) | (rw [up_at]; rfl)) ?_
          refine lv_iconst (v := 4) hx hb dX4_pass_303 (by decide) ?_
          refine lv_idiv hx hb dX4_pass_304 (by decide) ?_
          refine lv_iadd hx hb dX4_pass_305 ?_
          refine lv_iconst (v := 1) hx hb dX4_pass_306 (by decide) ?_
          refine lv_iadd hx hb dX4_pass_307 ?_
          refine lv_bipush (v := 50) hx hb dX4_pass_308 (by decide) ?_
          refine lv_icmp_le (tgt := 318) hx hb dX4_pass_310 (by decide) (fun c310 => ?_) (fun c310 => ?_)
          · refine lv_aload hx hb dX4_pass_318 (lv_at hl 1 rfl) ?_
            refine lv_iconst (v := 1) hx hb dX4_pass_320 (by decide) ?_
            refine xiald hx hb hK hP (4 + i) (ww_st hlt) 1 (by decide) (by decide) (by decide) dX4_pass_321 ?_
            refine W.eq (g2 := F0 m 322 ls [.int (((feedN st i) i) 1), .int 1, .ref (am (4 + i))]) (by first | (rw [up_at]; done) | (rw [up_at]; rfl)) ?_
            refine lv_aload hx hb dX4_pass_322 (lv_at hl 1 rfl) ?_
            refine lv_iconst (v := 1) hx hb dX4_pass_324 (by decide) ?_
            refine xiald hx hb hK hP (4 + i) (ww_st hlt) 1 (by decide) (by decide) (by decide) dX4_pass_325 ?_
            refine W.eq (g2 := F0 m 326 ls [.int (((feedN st i) i) 1), .int (((feedN st i) i) 1), .int 1, .ref (am (4 + i))]) (by first | (rw [up_at]; done) | (rw [up_at]; rfl)) ?_
            refine lv_iconst (v := 4) hx hb dX4_pass_326 (by decide) ?_
            refine lv_idiv hx hb dX4_pass_327 (by decide) ?_
            refine lv_iadd hx hb dX4_pass_328 ?_
            refine lv_iconst (v := 1) hx hb dX4_pass_329 (by decide) ?_
            refine lv_iadd hx hb dX4_pass_330 ?_
            refine W.eq (g2 := F0 m 331 ls [.int (mn ((feedN st i) i 1 + (feedN st i) i 1 / 4 + 1) 50), .int 1, .ref (am (4 + i))]) (by unfold mn; first | (rw [if_neg (Int32.not_lt.mpr c310)]; done) | (rw [if_neg (Int32.not_lt.mpr c310)]; rfl)) ?_
            refine xiast hx hb hK hP hD hS (4 + i) (ww_st hlt) 1 (by decide) (by decide) (by decide) dX4_pass_331 (fun H locs hP hD hS => ?_)
            have hP : va_P D vwCl (sw cy am nS nB (va_up (feedN st i) i (upd (upd (upd ((feedN st i) i) 0 (((feedN st i) i 0) - (mn ((feedN st i) i 1) ((feedN st i) i 0)))) 2 ((((feedN st i) i) 2) + (mn ((feedN st i) i 1) ((feedN st i) i 0)))) 1 (mn ((feedN st i) i 1 + (feedN st i) i 1 / 4 + 1) 50))) bk gate nu []) H := by rw [ww_set_st hlt, up_upd] at hP; exact hP
            have hD : va_D A (sw cy am nS nB (va_up (feedN st i) i (upd (upd (upd ((feedN st i) i) 0 (((feedN st i) i 0) - (mn ((feedN st i) i 1) ((feedN st i) i 0)))) 2 ((((feedN st i) i) 2) + (mn ((feedN st i) i 1) ((feedN st i) i 0)))) 1 (mn ((feedN st i) i 1 + (feedN st i) i 1 / 4 + 1) 50))) bk gate nu []) := by rw [ww_set_st hlt, up_upd] at hD; exact hD
            refine lv_iinc (v := (nI (i + 1))) (lv' := [(5, .int (nI (i + 1))), (7, .int (mn ((feedN st i) i 1) ((feedN st i) i 0))), (6, .ref (am (4 + i))), (0, .ref (am 0)), (1, .int (nI k)), (3, .ref (am 2)), (4, .int (nI nS))]) hx hb dX4_pass_332 hl (k := 6) rfl ((nI_1 i)) (by decide) rfl (fun ls hl => ?_)
            refine lv_goto (tgt := 212) hx hb dX4_pass_335 (by decide) ?_
            have e : feedN st (i + 1) = va_up (feedN st i) i (upd (upd (upd ((feedN st i) i) 0 (((feedN st i) i 0) - (mn ((feedN st i) i 1) ((feedN st i) i 0)))) 2 ((((feedN st i) i) 2) + (mn ((feedN st i) i 1) ((feedN st i) i 0)))) 1 (mn ((feedN st i) i 1 + (feedN st i) i 1 / 4 + 1) 50)) := by show va_up _ _ (sFeed _) = _; unfold sFeed; rw [if_pos hpos]; rfl
            exact ih (i + 1)  _ _ _ (by omega) (by rw [e]; exact hP) (by rw [e]; exact hD) hS (lv_sub hl [3, 4, 5, 6, 0] rfl)
          · refine lv_bipush (v := 50) hx hb dX4_pass_313 (by decide) ?_
            refine lv_goto (tgt := 331) hx hb dX4_pass_315 (by decide) ?_
            refine W.eq (g2 := F0 m 331 ls [.int (mn ((feedN st i) i 1 + (feedN st i) i 1 / 4 + 1) 50), .int 1, .ref (am (4 + i))]) (by unfold mn; first | (rw [if_pos (Int32.not_le.mp c310)]; done) | (rw [if_pos (Int32.not_le.mp c310)]; rfl)) ?_
            refine xiast hx hb hK hP hD hS (4 + i) (ww_st hlt) 1 (by decide) (by decide) (by decide) dX4_pass_331 (fun H locs hP hD hS => ?_)
            have hP : va_P D vwCl (sw cy am nS nB (va_up (feedN st i) i (upd (upd (upd ((feedN st i) i) 0 (((feedN st i) i 0) - (mn ((feedN st i) i 1) ((feedN st i) i 0)))) 2 ((((feedN st i) i) 2) + (mn ((feedN st i) i 1) ((feedN st i) i 0)))) 1 (mn ((feedN st i) i 1 + (feedN st i) i 1 / 4 + 1) 50))) bk gate nu []) H := by rw [ww_set_st hlt, up_upd] at hP; exact hP
            have hD : va_D A (sw cy am nS nB (va_up (feedN st i) i (upd (upd (upd ((feedN st i) i) 0 (((feedN st i) i 0) - (mn ((feedN st i) i 1) ((feedN st i) i 0)))) 2 ((((feedN st i) i) 2) + (mn ((feedN st i) i 1) ((feedN st i) i 0)))) 1 (mn ((feedN st i) i 1 + (feedN st i) i 1 / 4 + 1) 50))) bk gate nu []) := by rw [ww_set_st hlt, up_upd] at hD; exact hD
            refine lv_iinc (v := (nI (i + 1))) (lv' := [(5, .int (nI (i + 1))), (7, .int (mn ((feedN st i) i 1) ((feedN st i) i 0))), (6, .ref (am (4 + i))), (0, .ref (am 0)), (1, .int (nI k)), (3, .ref (am 2)), (4, .int (nI nS))]) hx hb dX4_pass_332 hl (k := 6) rfl ((nI_1 i)) (by decide) rfl (fun ls hl => ?_)
            refine lv_goto (tgt := 212) hx hb dX4_pass_335 (by decide) ?_
            have e : feedN st (i + 1) = va_up (feedN st i) i (upd (upd (upd ((feedN st i) i) 0 (((feedN st i) i 0) - (mn ((feedN st i) i 1) ((feedN st i) i 0)))) 2 ((((feedN st i) i) 2) + (mn ((feedN st i) i 1) ((feedN st i) i 0)))) 1 (mn ((feedN st i) i 1 + (feedN st i) i 1 / 4 + 1) 50)) := by show va_up _ _ (sFeed _) = _; unfold sFeed; rw [if_pos hpos]; rfl
            exact ih (i + 1)  _ _ _ (by omega) (by rw [e]; exact hP) (by rw [e]; exact hD) hS (lv_sub hl [3, 4, 5, 6, 0] rfl)
        · refine lv_aload hx hb dX4_pass_281 (lv_at hl 1 rfl) ?_
          refine lv_iconst (v := 1) hx hb dX4_pass_283 (by decide) ?_
          refine lv_dup2_11 hx hb dX4_pass_284 rfl rfl ?_
          refine xiald hx hb hK hP (4 + i) (ww_st hlt) 1 (by decide) (by decide) (by decide) dX4_pass_285 ?_
          refine W.eq (g2 := F0 m 286 ls [.int (((feedN st i) i) 1), .int 1, .ref (am (4 + i))]) (by first | (rw [up_at]; done) | (rw [up_at]; rfl)) ?_
          refine lv_iconst (v := 2) hx hb dX4_pass_286 (by decide) ?_
          refine lv_idiv hx hb dX4_pass_287 (by decide) ?_
          refine xiast hx hb hK hP hD hS (4 + i) (ww_st hlt) 1 (by decide) (by decide) (by decide) dX4_pass_288 (fun H locs hP hD hS => ?_)
          have hP : va_P D vwCl (sw cy am nS nB (va_up (feedN st i) i (upd (upd (upd ((feedN st i) i) 0 (((feedN st i) i 0) - (mn ((feedN st i) i 1) ((feedN st i) i 0)))) 2 ((((feedN st i) i) 2) + (mn ((feedN st i) i 1) ((feedN st i) i 0)))) 1 ((((feedN st i) i) 1) / 2))) bk gate nu []) H := by rw [ww_set_st hlt, up_upd] at hP; exact hP
          have hD : va_D A (sw cy am nS nB (va_up (feedN st i) i (upd (upd (upd ((feedN st i) i) 0 (((feedN st i) i 0) - (mn ((feedN st i) i 1) ((feedN st i) i 0)))) 2 ((((feedN st i) i) 2) + (mn ((feedN st i) i 1) ((feedN st i) i 0)))) 1 ((((feedN st i) i) 1) / 2))) bk gate nu []) := by rw [ww_set_st hlt, up_upd] at hD; exact hD
          refine lv_goto (tgt := 332) hx hb dX4_pass_289 (by decide) ?_
          refine lv_iinc (v := (nI (i + 1))) (lv' := [(5, .int (nI (i + 1))), (7, .int (mn ((feedN st i) i 1) ((feedN st i) i 0))), (6, .ref (am (4 + i))), (0, .ref (am 0)), (1, .int (nI k)), (3, .ref (am 2)), (4, .int (nI nS))]) hx hb dX4_pass_332 hl (k := 6) rfl ((nI_1 i)) (by decide) rfl (fun ls hl => ?_)
          refine lv_goto (tgt := 212) hx hb dX4_pass_335 (by decide) ?_
          have e : feedN st (i + 1) = va_up (feedN st i) i (upd (upd (upd ((feedN st i) i) 0 (((feedN st i) i 0) - (mn ((feedN st i) i 1) ((feedN st i) i 0)))) 2 ((((feedN st i) i) 2) + (mn ((feedN st i) i 1) ((feedN st i) i 0)))) 1 ((((feedN st i) i) 1) / 2)) := by show va_up _ _ (sFeed _) = _; unfold sFeed; rw [if_neg (fun z => absurd z (by rw [c278]; decide))]; rfl
          exact ih (i + 1)  _ _ _ (by omega) (by rw [e]; exact hP) (by rw [e]; exact hD) hS (lv_sub hl [3, 4, 5, 6, 0] rfl)
  exact loop nS 0  _ _ _ (by omega) hP hD hS (lv_sub hl [3, 4, 2, 1, 0] rfl)

set_option maxHeartbeats 4000000 in
set_option maxRecDepth 100000 in
/-- no weevils in another hour -/
theorem p_d1 {p : Program} {l : Launch} {e : Env} {R : Room} {s : State} {m : MethodId} {below : List Frame} {meth : Method} {c : Code} {Q : State → Prop} {D : va_G} {cy : Nat → ClassId} {A : Nat → Prop} {am : Nat → Nat} {nS nB : Nat} {st bk : Nat → Iu} {gate nu : Iu} (k : Nat) (hk0 : ¬ nI k ≤ 0) (hcS : nS ≤ 4) (F : pF p s m meth c D cy A am) (KK : pS p l e R s m below meth c Q D A am 338 [(0, .ref (am 0)), (1, .int (nI k))] (sw cy am nS nB st bk gate nu [])) : pS p l e R s m below meth c Q D A am 200 [(0, .ref (am 0)), (1, .int (nI k))] (sw cy am nS nB st bk gate nu []) := by
  obtain ⟨hx, hb, hts, hown, hlocks, hml, hK, hA⟩ := F
  intro H locs ls hP hD hS hl
  have hinX4 : ∀ w ∈ wsX40, w ∈ wsX4_pass := fun _ h => List.mem_cons_of_mem _ (List.mem_append_right _ h)
  refine lv_aload_n hx hb dX4_pass_200 rfl (lv_at hl 0 rfl) ?_
  refine va_get (D := D) (ci := 4) (v := .ref (am 2)) (C := RX4) (T := TX4) (N := 9) hx hb hts hinX4 hown hK.1 hP 0 rfl rfl 2 (by decide) (hts (.fieldLink RX4 18 "LoafMarksLaw$Sim" "stores" "[[I") (List.mem_of_getElem? (i := 2) rfl)) (fun _ h9 => h9) rfl dX4_pass_201 ?_
  refine lv_astore_n (lv' := [(3, .ref (am 2)), (0, .ref (am 0)), (1, .int (nI k))]) hx hb dX4_pass_204 rfl hl (by decide) rfl (fun ls hl => ?_)
  refine lv_aload_n hx hb dX4_pass_205 rfl (lv_at hl 0 rfl) ?_
  refine va_alen hx hb hK.1 hP (2) 3 rfl rfl (v := nI nS) rfl dX4_pass_206 ?_
  refine lv_istore (lv' := [(4, .int (nI nS)), (3, .ref (am 2)), (0, .ref (am 0)), (1, .int (nI k))]) hx hb dX4_pass_207 hl (by decide) rfl (fun ls hl => ?_)
  refine lv_iconst (v := 0) hx hb dX4_pass_209 (by decide) ?_
  refine lv_istore (lv' := [(5, .int 0), (4, .int (nI nS)), (3, .ref (am 2)), (0, .ref (am 0)), (1, .int (nI k))]) hx hb dX4_pass_210 hl (by decide) rfl (fun ls hl => ?_)
  have loop : ∀ (n i : Nat)  (H : Heap) (locs : List Loc) (ls : Array Slot), i + n = nS → va_P D vwCl (sw cy am nS nB st bk gate nu []) H → va_D A (sw cy am nS nB st bk gate nu []) → va_S A s.heap H locs → lv_has ls 9 [(0, .ref (am 0)), (1, .int (nI k)), (3, .ref (am 2)), (4, .int (nI nS)), (5, .int (nI i))] → W p l e R s m ([.ref (am 0)] : List Value).toArray below meth c H locs 0 0 Q (F0 m 212 ls []) := by
    intro n
    induction n with
    | zero =>
      intro i  H locs ls hns hP hD hS hl
      have hii : i = nS := by omega
      refine lv_iload hx hb dX4_pass_212 (lv_at hl 4 rfl) ?_
      refine lv_iload hx hb dX4_pass_214 (lv_at hl 3 rfl) ?_
      refine lv_icmp_ge (tgt := 338) hx hb dX4_pass_216 (by decide) (fun _ => ?_) (fun h => absurd (by rw [hii]; exact Int32.le_refl _) h)
      exact KK _ _ _ hP hD hS (lv_sub hl [0, 1] rfl)
    | succ n ih =>
      intro i  H locs ls hns hP hD hS hl
      have hlt : i < nS := by omega
      refine lv_iload hx hb dX4_pass_212 (lv_at hl 4 rfl) ?_
      refine lv_iload hx hb dX4_pass_214 (lv_at hl 3 rfl) ?_
      refine lv_icmp_ge (tgt := 338) hx hb dX4_pass_216 (by decide) (fun h => absurd h (nI_ge (b := nS) hlt (by omega))) (fun _ => ?_)
      refine lv_aload_n hx hb dX4_pass_219 rfl (lv_at hl 2 rfl) ?_
      refine lv_iload hx hb dX4_pass_220 (lv_at hl 4 rfl) ?_
      refine xaldS hx hb hK hP (2) (am := am) rfl i rfl (by omega) hcS dX4_pass_222 ?_
      refine lv_astore (lv' := [(6, .ref (am (4 + i))), (0, .ref (am 0)), (1, .int (nI k)), (3, .ref (am 2)), (4, .int (nI nS)), (5, .int (nI i))]) hx hb dX4_pass_223 hl (by decide) rfl (fun ls hl => ?_)
      refine lv_iload_n hx hb dX4_pass_225 rfl (lv_at hl 2 rfl) ?_
      refine lv_if_le (tgt := 232) hx hb dX4_pass_226 (by decide) (fun h => absurd h hk0) (fun _ => ?_)
      refine lv_goto (tgt := 332) hx hb dX4_pass_229 (by decide) ?_
      refine lv_iinc (v := (nI (i + 1))) (lv' := [(5, .int (nI (i + 1))), (6, .ref (am (4 + i))), (0, .ref (am 0)), (1, .int (nI k)), (3, .ref (am 2)), (4, .int (nI nS))]) hx hb dX4_pass_332 hl (k := 5) rfl ((nI_1 i)) (by decide) rfl (fun ls hl => ?_)
      refine lv_goto (tgt := 212) hx hb dX4_pass_335 (by decide) ?_
      exact ih (i + 1)  _ _ _ (by omega) hP hD hS (lv_sub hl [2, 3, 4, 5, 0] rfl)
  exact loop nS 0  _ _ _ (by omega) hP hD hS (lv_sub hl [3, 4, 2, 1, 0] rfl)

set_option maxHeartbeats 4000000 in
set_option maxRecDepth 100000 in
/-- the ovens -/
theorem p_e {p : Program} {l : Launch} {e : Env} {R : Room} {s : State} {m : MethodId} {below : List Frame} {meth : Method} {c : Code} {Q : State → Prop} {D : va_G} {cy : Nat → ClassId} {A : Nat → Prop} {am : Nat → Nat} {nS nB : Nat} {st bk : Nat → Iu} {gate nu : Iu} (k : Nat) (hcB : nB ≤ 6) (Hb Sb : Int) (hH : Hb ≤ 100000000) (hok : ∀ j, j < nB → bOK nS Hb Sb (bk j)) (F : pF p s m meth c D cy A am) (KK : pS p l e R s m below meth c Q D A am 422 [(0, .ref (am 0)), (1, .int (nI k))] (sw cy am nS nB st (bakeN bk nB) gate nu [])) : pS p l e R s m below meth c Q D A am 338 [(0, .ref (am 0)), (1, .int (nI k))] (sw cy am nS nB st bk gate nu []) := by
  obtain ⟨hx, hb, hts, hown, hlocks, hml, hK, hA⟩ := F
  intro H locs ls hP hD hS hl
  have hinX4 : ∀ w ∈ wsX40, w ∈ wsX4_pass := fun _ h => List.mem_cons_of_mem _ (List.mem_append_right _ h)
  refine lv_aload_n hx hb dX4_pass_338 rfl (lv_at hl 0 rfl) ?_
  refine va_get (D := D) (ci := 4) (v := .ref (am 3)) (C := RX4) (T := TX4) (N := 9) hx hb hts hinX4 hown hK.1 hP 0 rfl rfl 3 (by decide) (hts (.fieldLink RX4 22 "LoafMarksLaw$Sim" "bakers" "[[I") (List.mem_of_getElem? (i := 5) rfl)) (fun _ h9 => h9) rfl dX4_pass_339 ?_
  refine lv_astore_n (lv' := [(3, .ref (am 3)), (0, .ref (am 0)), (1, .int (nI k))]) hx hb dX4_pass_342 rfl hl (by decide) rfl (fun ls hl => ?_)
  refine lv_aload_n hx hb dX4_pass_343 rfl (lv_at hl 0 rfl) ?_
  refine va_alen hx hb hK.1 hP (3) 3 rfl rfl (v := nI nB) rfl dX4_pass_344 ?_
  refine lv_istore (lv' := [(4, .int (nI nB)), (3, .ref (am 3)), (0, .ref (am 0)), (1, .int (nI k))]) hx hb dX4_pass_345 hl (by decide) rfl (fun ls hl => ?_)
  refine lv_iconst (v := 0) hx hb dX4_pass_347 (by decide) ?_
  refine lv_istore (lv' := [(5, .int 0), (4, .int (nI nB)), (3, .ref (am 3)), (0, .ref (am 0)), (1, .int (nI k))]) hx hb dX4_pass_348 hl (by decide) rfl (fun ls hl => ?_)
  have loop1 : ∀ (n j : Nat)  (H : Heap) (locs : List Loc) (ls : Array Slot), j + n = nB → va_P D vwCl (sw cy am nS nB st (bakeN bk j) gate nu []) H → va_D A (sw cy am nS nB st (bakeN bk j) gate nu []) → va_S A s.heap H locs → lv_has ls 9 [(0, .ref (am 0)), (1, .int (nI k)), (3, .ref (am 3)), (4, .int (nI nB)), (5, .int (nI j))] → W p l e R s m ([.ref (am 0)] : List Value).toArray below meth c H locs 0 0 Q (F0 m 350 ls []) := by
    intro n
    induction n with
    | zero =>
      intro j  H locs ls hns hP hD hS hl
      have hij : j = nB := by omega
      refine lv_iload hx hb dX4_pass_350 (lv_at hl 4 rfl) ?_
      refine lv_iload hx hb dX4_pass_352 (lv_at hl 3 rfl) ?_
      refine lv_icmp_ge (tgt := 422) hx hb dX4_pass_354 (by decide) (fun _ => ?_) (fun h => absurd (by rw [hij]; exact Int32.le_refl _) h)
      rw [hij] at hP hD
      exact KK _ _ _ hP hD hS (lv_sub hl [0, 1] rfl)
    | succ n ih1 =>
      intro j  H locs ls hns hP hD hS hl
      have hlt : j < nB := by omega
      have hbj : bOK nS Hb Sb (bakeN bk j j) := by rw [bakeN_at, if_neg (Nat.lt_irrefl j)]; exact hok j hlt
      refine lv_iload hx hb dX4_pass_350 (lv_at hl 4 rfl) ?_
      refine lv_iload hx hb dX4_pass_352 (lv_at hl 3 rfl) ?_
      refine lv_icmp_ge (tgt := 422) hx hb dX4_pass_354 (by decide) (fun h => absurd h (nI_ge (b := nB) hlt (by omega))) (fun _ => ?_)
      refine lv_aload_n hx hb dX4_pass_357 rfl (lv_at hl 2 rfl) ?_
      refine lv_iload hx hb dX4_pass_358 (lv_at hl 4 rfl) ?_
      refine xaldB hx hb hK hP (3) (am := am) rfl j rfl (by omega) hcB dX4_pass_360 ?_
      refine lv_astore (lv' := [(6, .ref (am (8 + j))), (0, .ref (am 0)), (1, .int (nI k)), (3, .ref (am 3)), (4, .int (nI nB)), (5, .int (nI j))]) hx hb dX4_pass_361 hl (by decide) rfl (fun ls hl => ?_)
      refine lv_iconst (v := 0) hx hb dX4_pass_363 (by decide) ?_
      refine lv_istore (lv' := [(7, .int 0), (6, .ref (am (8 + j))), (0, .ref (am 0)), (1, .int (nI k)), (3, .ref (am 3)), (4, .int (nI nB)), (5, .int (nI j))]) hx hb dX4_pass_364 hl (by decide) rfl (fun ls hl => ?_)
      have hltj := hlt
      have eB : va_up (bakeN bk j) j (bkT (bakeN bk j j) 0) = bakeN bk j := by rw [bkT_0, up_self]
      rw [← eB] at hP hD
      have loop2 : ∀ (n t : Nat)  (H : Heap) (locs : List Loc) (ls : Array Slot), t + n = 4 → (bkI (bakeN bk j j) t) → va_P D vwCl (sw cy am nS nB st (va_up (bakeN bk j) j (bkT (bakeN bk j j) t)) gate nu []) H → va_D A (sw cy am nS nB st (va_up (bakeN bk j) j (bkT (bakeN bk j j) t)) gate nu []) → va_S A s.heap H locs → lv_has ls 9 [(0, .ref (am 0)), (1, .int (nI k)), (3, .ref (am 3)), (4, .int (nI nB)), (5, .int (nI j)), (6, .ref (am (8 + j))), (7, .int (nI t))] → W p l e R s m ([.ref (am 0)] : List Value).toArray below meth c H locs 0 0 Q (F0 m 366 ls []) := by
        intro n
        induction n with
        | zero =>
          intro t  H locs ls hns hinv hP hD hS hl
          have hit : t = 4 := by omega
          refine lv_iload hx hb dX4_pass_366 (lv_at hl 6 rfl) ?_
          refine lv_iconst (v := 4) hx hb dX4_pass_368 (by decide) ?_
          refine lv_icmp_ge (tgt := 416) hx hb dX4_pass_369 (by decide) (fun _ => ?_) (fun h => absurd (by rw [hit]; exact Int32.le_refl _) h)
          refine lv_iinc (v := (nI (j + 1))) (lv' := [(5, .int (nI (j + 1))), (0, .ref (am 0)), (1, .int (nI k)), (3, .ref (am 3)), (4, .int (nI nB)), (6, .ref (am (8 + j))), (7, .int (nI t))]) hx hb dX4_pass_416 hl (k := 4) rfl ((nI_1 j)) (by decide) rfl (fun ls hl => ?_)
          refine lv_goto (tgt := 350) hx hb dX4_pass_419 (by decide) ?_
          have e : bakeN bk (j + 1) = va_up (bakeN bk j) j (bkT (bakeN bk j j) t) := by rw [bk_done hbj hH hinv (Or.inl hit)]; rfl
          exact ih1 (j + 1)  _ _ _ (by omega) (by rw [e]; exact hP) (by rw [e]; exact hD) hS (lv_sub hl [1, 2, 3, 4, 0] rfl)
        | succ n ih2 =>
          intro t  H locs ls hns hinv hP hD hS hl
          have hlt : t < 4 := by omega
          refine lv_iload hx hb dX4_pass_366 (lv_at hl 6 rfl) ?_
          refine lv_iconst (v := 4) hx hb dX4_pass_368 (by decide) ?_
          refine lv_icmp_ge (tgt := 416) hx hb dX4_pass_369 (by decide) (fun h => absurd h (nI_ge (b := 4) hlt (by decide))) (fun _ => ?_)
          refine lv_aload hx hb dX4_pass_372 (lv_at hl 5 rfl) ?_
          refine lv_bipush (v := 7) hx hb dX4_pass_374 (by decide) ?_
          refine xiald hx hb hK hP (4 + nS + j) (ww_bk hltj) 7 (by decide) (by decide) (by decide) dX4_pass_376 ?_
          refine W.eq (g2 := F0 m 377 ls [.int ((bkT (bakeN bk j j) t) 7)]) (by first | (rw [up_at]; done) | (rw [up_at]; rfl)) ?_
          refine W.eq (g2 := F0 m 377 ls [.int ((bakeN bk j j) 7)]) (by first | (rw [bkT_7]; done) | (rw [bkT_7]; rfl)) ?_
          refine lv_if_ne (tgt := 416) hx hb dX4_pass_377 (by decide) (fun c377 => ?_) (fun c377 => ?_)
          · refine lv_iinc (v := (nI (j + 1))) (lv' := [(5, .int (nI (j + 1))), (0, .ref (am 0)), (1, .int (nI k)), (3, .ref (am 3)), (4, .int (nI nB)), (6, .ref (am (8 + j))), (7, .int (nI t))]) hx hb dX4_pass_416 hl (k := 4) rfl ((nI_1 j)) (by decide) rfl (fun ls hl => ?_)
            refine lv_goto (tgt := 350) hx hb dX4_pass_419 (by decide) ?_
            have e : bakeN bk (j + 1) = va_up (bakeN bk j) j (bkT (bakeN bk j j) t) := by rw [bk_done hbj hH hinv (Or.inr (Or.inl c377))]; rfl
            exact ih1 (j + 1)  _ _ _ (by omega) (by rw [e]; exact hP) (by rw [e]; exact hD) hS (lv_sub hl [1, 2, 3, 4, 0] rfl)
          · refine lv_aload hx hb dX4_pass_380 (lv_at hl 5 rfl) ?_
            refine lv_iconst (v := 3) hx hb dX4_pass_382 (by decide) ?_
            refine xiald hx hb hK hP (4 + nS + j) (ww_bk hltj) 3 (by decide) (by decide) (by decide) dX4_pass_383 ?_
            refine W.eq (g2 := F0 m 384 ls [.int ((bkT (bakeN bk j j) t) 3)]) (by first | (rw [up_at]; done) | (rw [up_at]; rfl)) ?_
            refine lv_aload hx hb dX4_pass_384 (lv_at hl 5 rfl) ?_
            refine lv_iconst (v := 4) hx hb dX4_pass_386 (by decide) ?_
            refine xiald hx hb hK hP (4 + nS + j) (ww_bk hltj) 4 (by decide) (by decide) (by decide) dX4_pass_387 ?_
            refine W.eq (g2 := F0 m 388 ls [.int ((bkT (bakeN bk j j) t) 4), .int ((bkT (bakeN bk j j) t) 3)]) (by first | (rw [up_at]; done) | (rw [up_at]; rfl)) ?_
            refine lv_icmp_lt (tgt := 416) hx hb dX4_pass_388 (by decide) (fun c388 => ?_) (fun c388 => ?_)
            · refine lv_iinc (v := (nI (j + 1))) (lv' := [(5, .int (nI (j + 1))), (0, .ref (am 0)), (1, .int (nI k)), (3, .ref (am 3)), (4, .int (nI nB)), (6, .ref (am (8 + j))), (7, .int (nI t))]) hx hb dX4_pass_416 hl (k := 4) rfl ((nI_1 j)) (by decide) rfl (fun ls hl => ?_)
              refine lv_goto (tgt := 350) hx hb dX4_pass_419 (by decide) ?_
              have e : bakeN bk (j + 1) = va_up (bakeN bk j) j (bkT (bakeN bk j j) t) := by rw [bk_done hbj hH hinv (Or.inr (Or.inr c388))]; rfl
              exact ih1 (j + 1)  _ _ _ (by omega) (by rw [e]; exact hP) (by rw [e]; exact hD) hS (lv_sub hl [1, 2, 3, 4, 0] rfl)
            · refine lv_aload hx hb dX4_pass_391 (lv_at hl 5 rfl) ?_
              refine lv_iconst (v := 3) hx hb dX4_pass_393 (by decide) ?_
              refine lv_dup2_11 hx hb dX4_pass_394 rfl rfl ?_
              refine xiald hx hb hK hP (4 + nS + j) (ww_bk hltj) 3 (by decide) (by decide) (by decide) dX4_pass_395 ?_
              refine W.eq (g2 := F0 m 396 ls [.int ((bkT (bakeN bk j j) t) 3), .int 3, .ref (am (8 + j))]) (by first | (rw [up_at]; done) | (rw [up_at]; rfl)) ?_
              refine lv_aload hx hb dX4_pass_396 (lv_at hl 5 rfl) ?_
              refine lv_iconst (v := 4) hx hb dX4_pass_398 (by decide) ?_
              refine xiald hx hb hK hP (4 + nS + j) (ww_bk hltj) 4 (by decide) (by decide) (by decide) dX4_pass_399 ?_
              refine W.eq (g2 := F0 m 400 ls [.int ((bkT (bakeN bk j j) t) 4), .int ((bkT (bakeN bk j j) t) 3), .int 3, .ref (am (8 + j))]) (by first | (rw [up_at]; done) | (rw [up_at]; rfl)) ?_
              refine lv_isub hx hb dX4_pass_400 ?_
              refine xiast hx hb hK hP hD hS (4 + nS + j) (ww_bk hltj) 3 (by decide) (by decide) (by decide) dX4_pass_401 (fun H locs hP hD hS => ?_)
              have hP : va_P D vwCl (sw cy am nS nB st (va_up (bakeN bk j) j (upd (bkT (bakeN bk j j) t) 3 (((bkT (bakeN bk j j) t) 3) - ((bkT (bakeN bk j j) t) 4)))) gate nu []) H := by rw [ww_set_bk hltj, up_upd] at hP; exact hP
              have hD : va_D A (sw cy am nS nB st (va_up (bakeN bk j) j (upd (bkT (bakeN bk j j) t) 3 (((bkT (bakeN bk j j) t) 3) - ((bkT (bakeN bk j j) t) 4)))) gate nu []) := by rw [ww_set_bk hltj, up_upd] at hD; exact hD
              refine lv_aload hx hb dX4_pass_402 (lv_at hl 5 rfl) ?_
              refine lv_iconst (v := 5) hx hb dX4_pass_404 (by decide) ?_
              refine lv_dup2_11 hx hb dX4_pass_405 rfl rfl ?_
              refine xiald hx hb hK hP (4 + nS + j) (ww_bk hltj) 5 (by decide) (by decide) (by decide) dX4_pass_406 ?_
              refine W.eq (g2 := F0 m 407 ls [.int ((bkT (bakeN bk j j) t) 5), .int 5, .ref (am (8 + j))]) (by first | (rw [up_at]; done) | (rw [up_at]; rfl)) ?_
              refine lv_iconst (v := 1) hx hb dX4_pass_407 (by decide) ?_
              refine lv_iadd hx hb dX4_pass_408 ?_
              refine xiast hx hb hK hP hD hS (4 + nS + j) (ww_bk hltj) 5 (by decide) (by decide) (by decide) dX4_pass_409 (fun H locs hP hD hS => ?_)
              have hP : va_P D vwCl (sw cy am nS nB st (va_up (bakeN bk j) j (upd (upd (bkT (bakeN bk j j) t) 3 (((bkT (bakeN bk j j) t) 3) - ((bkT (bakeN bk j j) t) 4))) 5 (((bkT (bakeN bk j j) t) 5) + 1))) gate nu []) H := by rw [ww_set_bk hltj, up_upd] at hP; exact hP
              have hD : va_D A (sw cy am nS nB st (va_up (bakeN bk j) j (upd (upd (bkT (bakeN bk j j) t) 3 (((bkT (bakeN bk j j) t) 3) - ((bkT (bakeN bk j j) t) 4))) 5 (((bkT (bakeN bk j j) t) 5) + 1))) gate nu []) := by rw [ww_set_bk hltj, up_upd] at hD; exact hD
              refine lv_iinc (v := (nI (t + 1))) (lv' := [(7, .int (nI (t + 1))), (0, .ref (am 0)), (1, .int (nI k)), (3, .ref (am 3)), (4, .int (nI nB)), (5, .int (nI j)), (6, .ref (am (8 + j)))]) hx hb dX4_pass_410 hl (k := 6) rfl ((nI_1 t)) (by decide) rfl (fun ls hl => ?_)
              refine lv_goto (tgt := 366) hx hb dX4_pass_413 (by decide) ?_
              rw [bkT_s] at hP hD
              exact ih2 (t + 1)  _ _ _ (by omega) (bkI_s hbj hH hinv c377 (by omega) c388) hP hD hS (lv_sub hl [1, 2, 3, 4, 5, 6, 0] rfl)
      exact loop2 4 0  _ _ _ (by omega) (bkI_0 hbj) hP hD hS (lv_sub hl [2, 3, 4, 5, 6, 1, 0] rfl)
  exact loop1 nB 0  _ _ _ (by omega) hP hD hS (lv_sub hl [3, 4, 2, 1, 0] rfl)

set_option maxHeartbeats 4000000 in
set_option maxRecDepth 100000 in
/-- the sale at noon -/
theorem p_f {p : Program} {l : Launch} {e : Env} {R : Room} {s : State} {m : MethodId} {below : List Frame} {meth : Method} {c : Code} {Q : State → Prop} {D : va_G} {cy : Nat → ClassId} {A : Nat → Prop} {am : Nat → Nat} {nS nB : Nat} {st bk : Nat → Iu} {gate nu : Iu} (k : Nat) (hk : nI k = 12) (hcB : nB ≤ 6) (hl0 : ∀ j, j ≤ nB → ¬ (slN (nu 1, bk, nu) j).1 < 0) (h5 : ∀ j, j < nB → 0 ≤ ((slN (nu 1, bk, nu) j).2.1 j 5).toInt) (F : pF p s m meth c D cy A am) (KK : pS p l e R s m below meth c Q D A am 538 [(0, .ref (am 0)), (3, .int ((slN (nu 1, bk, nu) nB).1))] (sw cy am nS nB st (slN (nu 1, bk, nu) nB).2.1 gate (slN (nu 1, bk, nu) nB).2.2 [])) : pS p l e R s m below meth c Q D A am 422 [(0, .ref (am 0)), (1, .int (nI k))] (sw cy am nS nB st bk gate nu []) := by
  obtain ⟨hx, hb, hts, hown, hlocks, hml, hK, hA⟩ := F
  intro H locs ls hP hD hS hl
  have hinX4 : ∀ w ∈ wsX40, w ∈ wsX4_pass := fun _ h => List.mem_cons_of_mem _ (List.mem_append_right _ h)
  refine lv_iload_n hx hb dX4_pass_422 rfl (lv_at hl 1 rfl) ?_
  refine lv_bipush (v := 12) hx hb dX4_pass_423 (by decide) ?_
  refine lv_icmp_ne (tgt := 435) hx hb dX4_pass_425 (by decide) (fun z => absurd hk z) (fun _ => ?_)
  refine lv_aload_n hx hb dX4_pass_428 rfl (lv_at hl 0 rfl) ?_
  refine va_get (D := D) (ci := 4) (v := .int (nu 1)) (C := RX4) (T := TX4) (N := 9) hx hb hts hinX4 hown hK.1 hP 0 rfl rfl 0 (by decide) (hts (.fieldLink RX4 7 "LoafMarksLaw$Sim" "people" "I") (List.mem_of_getElem? (i := 6) rfl)) (fun _ h9 => h9) rfl dX4_pass_429 ?_
  refine lv_goto (tgt := 436) hx hb dX4_pass_432 (by decide) ?_
  refine lv_istore_n (lv' := [(3, .int (nu 1)), (0, .ref (am 0)), (1, .int (nI k))]) hx hb dX4_pass_436 rfl hl (by decide) rfl (fun ls hl => ?_)
  refine lv_aload_n hx hb dX4_pass_437 rfl (lv_at hl 1 rfl) ?_
  refine va_get (D := D) (ci := 4) (v := .ref (am 3)) (C := RX4) (T := TX4) (N := 9) hx hb hts hinX4 hown hK.1 hP 0 rfl rfl 3 (by decide) (hts (.fieldLink RX4 22 "LoafMarksLaw$Sim" "bakers" "[[I") (List.mem_of_getElem? (i := 5) rfl)) (fun _ h9 => h9) rfl dX4_pass_438 ?_
  refine lv_astore (lv' := [(4, .ref (am 3)), (3, .int (nu 1)), (0, .ref (am 0)), (1, .int (nI k))]) hx hb dX4_pass_441 hl (by decide) rfl (fun ls hl => ?_)
  refine lv_aload hx hb dX4_pass_443 (lv_at hl 0 rfl) ?_
  refine va_alen hx hb hK.1 hP (3) 3 rfl rfl (v := nI nB) rfl dX4_pass_445 ?_
  refine lv_istore (lv' := [(5, .int (nI nB)), (4, .ref (am 3)), (3, .int (nu 1)), (0, .ref (am 0)), (1, .int (nI k))]) hx hb dX4_pass_446 hl (by decide) rfl (fun ls hl => ?_)
  refine lv_iconst (v := 0) hx hb dX4_pass_448 (by decide) ?_
  refine lv_istore (lv' := [(6, .int 0), (5, .int (nI nB)), (4, .ref (am 3)), (3, .int (nu 1)), (0, .ref (am 0)), (1, .int (nI k))]) hx hb dX4_pass_449 hl (by decide) rfl (fun ls hl => ?_)
  have loop1 : ∀ (n j : Nat)  (H : Heap) (locs : List Loc) (ls : Array Slot), j + n = nB → va_P D vwCl (sw cy am nS nB st ((slN (nu 1, bk, nu) j).2.1) gate ((slN (nu 1, bk, nu) j).2.2) []) H → va_D A (sw cy am nS nB st ((slN (nu 1, bk, nu) j).2.1) gate ((slN (nu 1, bk, nu) j).2.2) []) → va_S A s.heap H locs → lv_has ls 9 [(0, .ref (am 0)), (1, .int (nI k)), (4, .ref (am 3)), (5, .int (nI nB)), (3, .int ((slN (nu 1, bk, nu) j).1)), (6, .int (nI j))] → W p l e R s m ([.ref (am 0)] : List Value).toArray below meth c H locs 0 0 Q (F0 m 451 ls []) := by
    intro n
    induction n with
    | zero =>
      intro j  H locs ls hns hP hD hS hl
      have hij : j = nB := by omega
      refine lv_iload hx hb dX4_pass_451 (lv_at hl 5 rfl) ?_
      refine lv_iload hx hb dX4_pass_453 (lv_at hl 3 rfl) ?_
      refine lv_icmp_ge (tgt := 538) hx hb dX4_pass_455 (by decide) (fun _ => ?_) (fun h => absurd (by rw [hij]; exact Int32.le_refl _) h)
      rw [hij] at hP hD hl
      exact KK _ _ _ hP hD hS (lv_sub hl [0, 4] rfl)
    | succ n ih1 =>
      intro j  H locs ls hns hP hD hS hl
      have hlt : j < nB := by omega
      refine lv_iload hx hb dX4_pass_451 (lv_at hl 5 rfl) ?_
      refine lv_iload hx hb dX4_pass_453 (lv_at hl 3 rfl) ?_
      refine lv_icmp_ge (tgt := 538) hx hb dX4_pass_455 (by decide) (fun h => absurd h (nI_ge (b := nB) hlt (by omega))) (fun _ => ?_)
      refine lv_aload hx hb dX4_pass_458 (lv_at hl 2 rfl) ?_
      refine lv_iload hx hb dX4_pass_460 (lv_at hl 5 rfl) ?_
      refine xaldB hx hb hK hP (3) (am := am) rfl j rfl (by omega) hcB dX4_pass_462 ?_
      refine lv_astore (lv' := [(7, .ref (am (8 + j))), (0, .ref (am 0)), (1, .int (nI k)), (4, .ref (am 3)), (5, .int (nI nB)), (3, .int ((slN (nu 1, bk, nu) j).1)), (6, .int (nI j))]) hx hb dX4_pass_463 hl (by decide) rfl (fun ls hl => ?_)
      have hltj := hlt
      obtain ⟨z, hz, hzE⟩ := nI_of (hl0 j (by omega))
      have eB : va_up (slN (nu 1, bk, nu) j).2.1 j (slT ((slN (nu 1, bk, nu) j).2.1 j) 0) = (slN (nu 1, bk, nu) j).2.1 := by rw [slT_0, up_self]
      have eU : slU ((slN (nu 1, bk, nu) j).2.1 j) (slN (nu 1, bk, nu) j).2.2 0 = (slN (nu 1, bk, nu) j).2.2 := slU_0 _ _
      have hP : va_P D vwCl (sw cy am nS nB st (va_up ((slN (nu 1, bk, nu) j).2.1) j (slT ((slN (nu 1, bk, nu) j).2.1 j) 0)) gate (slU ((slN (nu 1, bk, nu) j).2.1 j) (slN (nu 1, bk, nu) j).2.2 0) []) H := by rw [eB, eU]; exact hP
      have hD : va_D A (sw cy am nS nB st (va_up ((slN (nu 1, bk, nu) j).2.1) j (slT ((slN (nu 1, bk, nu) j).2.1 j) 0)) gate (slU ((slN (nu 1, bk, nu) j).2.1 j) (slN (nu 1, bk, nu) j).2.2 0) []) := by rw [eB, eU]; exact hD
      have e0 : (slN (nu 1, bk, nu) j).1 = (slN (nu 1, bk, nu) j).1 - nI 0 := by rw [show nI 0 = 0 from rfl, Int32.sub_zero]
      rw [e0] at hl
      have loop2 : ∀ (n t : Nat)  (H : Heap) (locs : List Loc) (ls : Array Slot), t + n = z → ((t : Int) ≤ ((slN (nu 1, bk, nu) j).2.1 j 5).toInt) → va_P D vwCl (sw cy am nS nB st (va_up ((slN (nu 1, bk, nu) j).2.1) j (slT ((slN (nu 1, bk, nu) j).2.1 j) t)) gate (slU ((slN (nu 1, bk, nu) j).2.1 j) (slN (nu 1, bk, nu) j).2.2 t) []) H → va_D A (sw cy am nS nB st (va_up ((slN (nu 1, bk, nu) j).2.1) j (slT ((slN (nu 1, bk, nu) j).2.1 j) t)) gate (slU ((slN (nu 1, bk, nu) j).2.1 j) (slN (nu 1, bk, nu) j).2.2 t) []) → va_S A s.heap H locs → lv_has ls 9 [(0, .ref (am 0)), (1, .int (nI k)), (4, .ref (am 3)), (5, .int (nI nB)), (3, .int ((slN (nu 1, bk, nu) j).1 - nI t)), (6, .int (nI j)), (7, .ref (am (8 + j)))] → W p l e R s m ([.ref (am 0)] : List Value).toArray below meth c H locs 0 0 Q (F0 m 465 ls []) := by
        intro n
        induction n with
        | zero =>
          intro t  H locs ls hns hinv hP hD hS hl
          have hit : t = z := by omega
          refine lv_iload_n hx hb dX4_pass_465 rfl (lv_at hl 4 rfl) ?_
          refine lv_if_le (tgt := 532) hx hb dX4_pass_466 (by decide) (fun _ => ?_) (fun h => absurd (by rw [hzE, hit, Int32.sub_self]; exact Int32.le_refl _) h)
          refine lv_iinc (v := (nI (j + 1))) (lv' := [(6, .int (nI (j + 1))), (0, .ref (am 0)), (1, .int (nI k)), (4, .ref (am 3)), (5, .int (nI nB)), (3, .int ((slN (nu 1, bk, nu) j).1 - nI t)), (7, .ref (am (8 + j)))]) hx hb dX4_pass_532 hl (k := 5) rfl ((nI_1 j)) (by decide) rfl (fun ls hl => ?_)
          refine lv_goto (tgt := 451) hx hb dX4_pass_535 (by decide) ?_
          have ht := sl_done (x := (slN (nu 1, bk, nu) j).1) (y := (slN (nu 1, bk, nu) j).2.1 j 5) (t := t) (by rw [hzE, nI_toInt hz]; omega) hinv (Or.inl (by rw [hzE, nI_toInt hz, hit]))
          have e : slN (nu 1, bk, nu) (j + 1) = ((slN (nu 1, bk, nu) j).1 - nI t, va_up (slN (nu 1, bk, nu) j).2.1 j (slT ((slN (nu 1, bk, nu) j).2.1 j) t), slU ((slN (nu 1, bk, nu) j).2.1 j) (slN (nu 1, bk, nu) j).2.2 t) := slU_step (slN (nu 1, bk, nu) j) j t ht
          exact ih1 (j + 1)  _ _ _ (by omega) (by rw [e]; exact hP) (by rw [e]; exact hD) hS (lv_sub hl [1, 2, 3, 4, 5, 0] (by rw [e]; rfl))
        | succ n ih2 =>
          intro t  H locs ls hns hinv hP hD hS hl
          have hlt : t < z := by omega
          refine lv_iload_n hx hb dX4_pass_465 rfl (lv_at hl 4 rfl) ?_
          refine lv_if_le (tgt := 532) hx hb dX4_pass_466 (by decide) (fun h => absurd h (by rw [hzE, pk_sub (by omega)]; exact nI_nle (by omega) (by omega))) (fun _ => ?_)
          refine lv_aload hx hb dX4_pass_469 (lv_at hl 6 rfl) ?_
          refine lv_iconst (v := 5) hx hb dX4_pass_471 (by decide) ?_
          refine xiald hx hb hK hP (4 + nS + j) (ww_bk hltj) 5 (by decide) (by decide) (by decide) dX4_pass_472 ?_
          refine W.eq (g2 := F0 m 473 ls [.int ((slT ((slN (nu 1, bk, nu) j).2.1 j) t) 5)]) (by first | (rw [up_at]; done) | (rw [up_at]; rfl)) ?_
          refine lv_if_le (tgt := 532) hx hb dX4_pass_473 (by decide) (fun c473 => ?_) (fun c473 => ?_)
          · refine lv_iinc (v := (nI (j + 1))) (lv' := [(6, .int (nI (j + 1))), (0, .ref (am 0)), (1, .int (nI k)), (4, .ref (am 3)), (5, .int (nI nB)), (3, .int ((slN (nu 1, bk, nu) j).1 - nI t)), (7, .ref (am (8 + j)))]) hx hb dX4_pass_532 hl (k := 5) rfl ((nI_1 j)) (by decide) rfl (fun ls hl => ?_)
            refine lv_goto (tgt := 451) hx hb dX4_pass_535 (by decide) ?_
            have ht := sl_done (x := (slN (nu 1, bk, nu) j).1) (y := (slN (nu 1, bk, nu) j).2.1 j 5) (t := t) (by rw [hzE, nI_toInt hz]; omega) hinv (Or.inr (by have h9 := Int32.le_iff_toInt_le.mp c473; rw [slT_5, i_sub (by rw [nI_toInt (by omega)]; omega) (by rw [nI_toInt (by omega)]; have := Int32.toInt_lt ((slN (nu 1, bk, nu) j).2.1 j 5); omega), nI_toInt (by omega)] at h9; have o : (0 : Int32).toInt = 0 := rfl; rw [o] at h9; omega))
            have e : slN (nu 1, bk, nu) (j + 1) = ((slN (nu 1, bk, nu) j).1 - nI t, va_up (slN (nu 1, bk, nu) j).2.1 j (slT ((slN (nu 1, bk, nu) j).2.1 j) t), slU ((slN (nu 1, bk, nu) j).2.1 j) (slN (nu 1, bk, nu) j).2.2 t) := slU_step (slN (nu 1, bk, nu) j) j t ht
            exact ih1 (j + 1)  _ _ _ (by omega) (by rw [e]; exact hP) (by rw [e]; exact hD) hS (lv_sub hl [1, 2, 3, 4, 5, 0] (by rw [e]; rfl))
          · refine lv_aload hx hb dX4_pass_476 (lv_at hl 6 rfl) ?_
            refine lv_iconst (v := 5) hx hb dX4_pass_478 (by decide) ?_
            refine lv_dup2_11 hx hb dX4_pass_479 rfl rfl ?_
            refine xiald hx hb hK hP (4 + nS + j) (ww_bk hltj) 5 (by decide) (by decide) (by decide) dX4_pass_480 ?_
            refine W.eq (g2 := F0 m 481 ls [.int ((slT ((slN (nu 1, bk, nu) j).2.1 j) t) 5), .int 5, .ref (am (8 + j))]) (by first | (rw [up_at]; done) | (rw [up_at]; rfl)) ?_
            refine lv_iconst (v := 1) hx hb dX4_pass_481 (by decide) ?_
            refine lv_isub hx hb dX4_pass_482 ?_
            refine xiast hx hb hK hP hD hS (4 + nS + j) (ww_bk hltj) 5 (by decide) (by decide) (by decide) dX4_pass_483 (fun H locs hP hD hS => ?_)
            have hP : va_P D vwCl (sw cy am nS nB st (va_up ((slN (nu 1, bk, nu) j).2.1) j (upd (slT ((slN (nu 1, bk, nu) j).2.1 j) t) 5 (((slT ((slN (nu 1, bk, nu) j).2.1 j) t) 5) - 1))) gate (slU ((slN (nu 1, bk, nu) j).2.1 j) (slN (nu 1, bk, nu) j).2.2 t) []) H := by rw [ww_set_bk hltj, up_upd] at hP; exact hP
            have hD : va_D A (sw cy am nS nB st (va_up ((slN (nu 1, bk, nu) j).2.1) j (upd (slT ((slN (nu 1, bk, nu) j).2.1 j) t) 5 (((slT ((slN (nu 1, bk, nu) j).2.1 j) t) 5) - 1))) gate (slU ((slN (nu 1, bk, nu) j).2.1 j) (slN (nu 1, bk, nu) j).2.2 t) []) := by rw [ww_set_bk hltj, up_upd] at hD; exact hD
            refine lv_aload hx hb dX4_pass_484 (lv_at hl 6 rfl) ?_
            refine lv_bipush (v := 6) hx hb dX4_pass_486 (by decide) ?_
            refine lv_dup2_11 hx hb dX4_pass_488 rfl rfl ?_
            refine xiald hx hb hK hP (4 + nS + j) (ww_bk hltj) 6 (by decide) (by decide) (by decide) dX4_pass_489 ?_
            refine W.eq (g2 := F0 m 490 ls [.int ((slT ((slN (nu 1, bk, nu) j).2.1 j) t) 6), .int 6, .ref (am (8 + j))]) (by first | (rw [up_at]; done) | (rw [up_at]; rfl)) ?_
            refine lv_iconst (v := 1) hx hb dX4_pass_490 (by decide) ?_
            refine lv_iadd hx hb dX4_pass_491 ?_
            refine xiast hx hb hK hP hD hS (4 + nS + j) (ww_bk hltj) 6 (by decide) (by decide) (by decide) dX4_pass_492 (fun H locs hP hD hS => ?_)
            have hP : va_P D vwCl (sw cy am nS nB st (va_up ((slN (nu 1, bk, nu) j).2.1) j (upd (upd (slT ((slN (nu 1, bk, nu) j).2.1 j) t) 5 (((slT ((slN (nu 1, bk, nu) j).2.1 j) t) 5) - 1)) 6 (((slT ((slN (nu 1, bk, nu) j).2.1 j) t) 6) + 1))) gate (slU ((slN (nu 1, bk, nu) j).2.1 j) (slN (nu 1, bk, nu) j).2.2 t) []) H := by rw [ww_set_bk hltj, up_upd] at hP; exact hP
            have hD : va_D A (sw cy am nS nB st (va_up ((slN (nu 1, bk, nu) j).2.1) j (upd (upd (slT ((slN (nu 1, bk, nu) j).2.1 j) t) 5 (((slT ((slN (nu 1, bk, nu) j).2.1 j) t) 5) - 1)) 6 (((slT ((slN (nu 1, bk, nu) j).2.1 j) t) 6) + 1))) gate (slU ((slN (nu 1, bk, nu) j).2.1 j) (slN (nu 1, bk, nu) j).2.2 t) []) := by rw [ww_set_bk hltj, up_upd] at hD; exact hD
            refine lv_iinc (v := ((slN (nu 1, bk, nu) j).1 - nI t - 1)) (lv' := [(3, .int ((slN (nu 1, bk, nu) j).1 - nI t - 1)), (0, .ref (am 0)), (1, .int (nI k)), (4, .ref (am 3)), (5, .int (nI nB)), (6, .int (nI j)), (7, .ref (am (8 + j)))]) hx hb dX4_pass_493 hl (k := 4) rfl (x_m1 _) (by decide) rfl (fun ls hl => ?_)
            refine lv_aload_n hx hb dX4_pass_496 rfl (lv_at hl 1 rfl) ?_
            refine lv_dup hx hb dX4_pass_497 rfl ?_
            refine va_get (D := D) (ci := 4) (v := .int ((slU ((slN (nu 1, bk, nu) j).2.1 j) (slN (nu 1, bk, nu) j).2.2 t) 2)) (C := RX4) (T := TX4) (N := 9) hx hb hts hinX4 hown hK.1 hP 0 rfl rfl 5 (by decide) (hts (.fieldLink RX4 36 "LoafMarksLaw$Sim" "all" "I") (List.mem_of_getElem? (i := 7) rfl)) (fun _ h9 => h9) rfl dX4_pass_498 ?_
            refine lv_iconst (v := 1) hx hb dX4_pass_501 (by decide) ?_
            refine lv_iadd hx hb dX4_pass_502 ?_
            refine va_put (D := D) (ci := 4) (v := .int (((slU ((slN (nu 1, bk, nu) j).2.1 j) (slN (nu 1, bk, nu) j).2.2 t) 2) + 1)) (ty := .int) (C := RX4) (T := TX4) (N := 9) hx hb hts hinX4 tyX4 tyX4_ok nmX4 hown hK.1 hP hD hS 0 rfl rfl 5 (by decide) (hts (.fieldLink RX4 36 "LoafMarksLaw$Sim" "all" "I") (List.mem_of_getElem? (i := 7) rfl)) (fun _ h9 => h9) rfl (by decide +kernel) rfl rfl (Nat.le_of_ble_eq_true rfl) dX4_pass_503 (fun H locs hP hD hS => ?_)
            have hP : va_P D vwCl (sw cy am nS nB st (va_up ((slN (nu 1, bk, nu) j).2.1) j (upd (upd (slT ((slN (nu 1, bk, nu) j).2.1 j) t) 5 (((slT ((slN (nu 1, bk, nu) j).2.1 j) t) 5) - 1)) 6 (((slT ((slN (nu 1, bk, nu) j).2.1 j) t) 6) + 1))) gate (upd (slU ((slN (nu 1, bk, nu) j).2.1 j) (slN (nu 1, bk, nu) j).2.2 t) 2 (((slU ((slN (nu 1, bk, nu) j).2.1 j) (slN (nu 1, bk, nu) j).2.2 t) 2) + 1)) []) H := hP
            have hD : va_D A (sw cy am nS nB st (va_up ((slN (nu 1, bk, nu) j).2.1) j (upd (upd (slT ((slN (nu 1, bk, nu) j).2.1 j) t) 5 (((slT ((slN (nu 1, bk, nu) j).2.1 j) t) 5) - 1)) 6 (((slT ((slN (nu 1, bk, nu) j).2.1 j) t) 6) + 1))) gate (upd (slU ((slN (nu 1, bk, nu) j).2.1 j) (slN (nu 1, bk, nu) j).2.2 t) 2 (((slU ((slN (nu 1, bk, nu) j).2.1 j) (slN (nu 1, bk, nu) j).2.2 t) 2) + 1)) []) := hD
            refine lv_aload_n hx hb dX4_pass_506 rfl (lv_at hl 1 rfl) ?_
            refine lv_dup hx hb dX4_pass_507 rfl ?_
            refine va_get (D := D) (ci := 4) (v := .int ((slU ((slN (nu 1, bk, nu) j).2.1 j) (slN (nu 1, bk, nu) j).2.2 t) 3)) (C := RX4) (T := TX4) (N := 9) hx hb hts hinX4 hown hK.1 hP 0 rfl rfl 6 (by decide) (hts (.fieldLink RX4 39 "LoafMarksLaw$Sim" "light" "I") (List.mem_of_getElem? (i := 8) rfl)) (fun _ h9 => h9) rfl dX4_pass_508 ?_
            refine lv_aload hx hb dX4_pass_511 (lv_at hl 6 rfl) ?_
            refine lv_iconst (v := 4) hx hb dX4_pass_513 (by decide) ?_
            refine xiald hx hb hK hP (4 + nS + j) (ww_bk hltj) 4 (by decide) (by decide) (by decide) dX4_pass_514 ?_
            refine W.eq (g2 := F0 m 515 ls [.int ((slT ((slN (nu 1, bk, nu) j).2.1 j) t) 4), .int ((slU ((slN (nu 1, bk, nu) j).2.1 j) (slN (nu 1, bk, nu) j).2.2 t) 3), .ref (am 0)]) (by first | (rw [up_at]; done) | (rw [up_at]; rfl)) ?_
            refine lv_bipush (v := 10) hx hb dX4_pass_515 (by decide) ?_
            refine lv_icmp_ge (tgt := 524) hx hb dX4_pass_517 (by decide) (fun c517 => ?_) (fun c517 => ?_)
            · refine lv_iconst (v := 0) hx hb dX4_pass_524 (by decide) ?_
              refine lv_iadd hx hb dX4_pass_525 ?_
              refine va_put (D := D) (ci := 4) (v := .int (((slU ((slN (nu 1, bk, nu) j).2.1 j) (slN (nu 1, bk, nu) j).2.2 t) 3) + 0)) (ty := .int) (C := RX4) (T := TX4) (N := 9) hx hb hts hinX4 tyX4 tyX4_ok nmX4 hown hK.1 hP hD hS 0 rfl rfl 6 (by decide) (hts (.fieldLink RX4 39 "LoafMarksLaw$Sim" "light" "I") (List.mem_of_getElem? (i := 8) rfl)) (fun _ h9 => h9) rfl (by decide +kernel) rfl rfl (Nat.le_of_ble_eq_true rfl) dX4_pass_526 (fun H locs hP hD hS => ?_)
              have hP : va_P D vwCl (sw cy am nS nB st (va_up ((slN (nu 1, bk, nu) j).2.1) j (upd (upd (slT ((slN (nu 1, bk, nu) j).2.1 j) t) 5 (((slT ((slN (nu 1, bk, nu) j).2.1 j) t) 5) - 1)) 6 (((slT ((slN (nu 1, bk, nu) j).2.1 j) t) 6) + 1))) gate (upd (upd (slU ((slN (nu 1, bk, nu) j).2.1 j) (slN (nu 1, bk, nu) j).2.2 t) 2 (((slU ((slN (nu 1, bk, nu) j).2.1 j) (slN (nu 1, bk, nu) j).2.2 t) 2) + 1)) 3 (((slU ((slN (nu 1, bk, nu) j).2.1 j) (slN (nu 1, bk, nu) j).2.2 t) 3) + 0)) []) H := hP
              have hD : va_D A (sw cy am nS nB st (va_up ((slN (nu 1, bk, nu) j).2.1) j (upd (upd (slT ((slN (nu 1, bk, nu) j).2.1 j) t) 5 (((slT ((slN (nu 1, bk, nu) j).2.1 j) t) 5) - 1)) 6 (((slT ((slN (nu 1, bk, nu) j).2.1 j) t) 6) + 1))) gate (upd (upd (slU ((slN (nu 1, bk, nu) j).2.1 j) (slN (nu 1, bk, nu) j).2.2 t) 2 (((slU ((slN (nu 1, bk, nu) j).2.1 j) (slN (nu 1, bk, nu) j).2.2 t) 2) + 1)) 3 (((slU ((slN (nu 1, bk, nu) j).2.1 j) (slN (nu 1, bk, nu) j).2.2 t) 3) + 0)) []) := hD
              refine lv_goto (tgt := 465) hx hb dX4_pass_529 (by decide) ?_
              rw [slT_s, slU_s _ _ _ _ (by rw [slT_4] at c517; rw [if_neg (Int32.not_lt.mpr c517)])] at hP hD
              exact ih2 (t + 1)  _ _ _ (by omega) (by have := Int32.lt_iff_toInt_lt.mp (Int32.not_le.mp c473); rw [slT_5, i_sub (by rw [nI_toInt (by omega)]; omega) (by rw [nI_toInt (by omega)]; have := Int32.toInt_lt ((slN (nu 1, bk, nu) j).2.1 j 5); omega), nI_toInt (by omega)] at this; have o : (0 : Int32).toInt = 0 := rfl; rw [o] at this; show ((t + 1 : Nat) : Int) ≤ _; omega) hP hD hS (lv_sub hl [1, 2, 3, 4, 0, 5, 6] (by rw [sub_s]; rfl))
            · refine lv_iconst (v := 1) hx hb dX4_pass_520 (by decide) ?_
              refine lv_goto (tgt := 525) hx hb dX4_pass_521 (by decide) ?_
              refine lv_iadd hx hb dX4_pass_525 ?_
              refine va_put (D := D) (ci := 4) (v := .int (((slU ((slN (nu 1, bk, nu) j).2.1 j) (slN (nu 1, bk, nu) j).2.2 t) 3) + 1)) (ty := .int) (C := RX4) (T := TX4) (N := 9) hx hb hts hinX4 tyX4 tyX4_ok nmX4 hown hK.1 hP hD hS 0 rfl rfl 6 (by decide) (hts (.fieldLink RX4 39 "LoafMarksLaw$Sim" "light" "I") (List.mem_of_getElem? (i := 8) rfl)) (fun _ h9 => h9) rfl (by decide +kernel) rfl rfl (Nat.le_of_ble_eq_true rfl) dX4_pass_526 (fun H locs hP hD hS => ?_)
              have hP : va_P D vwCl (sw cy am nS nB st (va_up ((slN (nu 1, bk, nu) j).2.1) j (upd (upd (slT ((slN (nu 1, bk, nu) j).2.1 j) t) 5 (((slT ((slN (nu 1, bk, nu) j).2.1 j) t) 5) - 1)) 6 (((slT ((slN (nu 1, bk, nu) j).2.1 j) t) 6) + 1))) gate (upd (upd (slU ((slN (nu 1, bk, nu) j).2.1 j) (slN (nu 1, bk, nu) j).2.2 t) 2 (((slU ((slN (nu 1, bk, nu) j).2.1 j) (slN (nu 1, bk, nu) j).2.2 t) 2) + 1)) 3 (((slU ((slN (nu 1, bk, nu) j).2.1 j) (slN (nu 1, bk, nu) j).2.2 t) 3) + 1)) []) H := hP
              have hD : va_D A (sw cy am nS nB st (va_up ((slN (nu 1, bk, nu) j).2.1) j (upd (upd (slT ((slN (nu 1, bk, nu) j).2.1 j) t) 5 (((slT ((slN (nu 1, bk, nu) j).2.1 j) t) 5) - 1)) 6 (((slT ((slN (nu 1, bk, nu) j).2.1 j) t) 6) + 1))) gate (upd (upd (slU ((slN (nu 1, bk, nu) j).2.1 j) (slN (nu 1, bk, nu) j).2.2 t) 2 (((slU ((slN (nu 1, bk, nu) j).2.1 j) (slN (nu 1, bk, nu) j).2.2 t) 2) + 1)) 3 (((slU ((slN (nu 1, bk, nu) j).2.1 j) (slN (nu 1, bk, nu) j).2.2 t) 3) + 1)) []) := hD
              refine lv_goto (tgt := 465) hx hb dX4_pass_529 (by decide) ?_
              rw [slT_s, slU_s _ _ _ _ (by rw [slT_4] at c517; rw [if_pos (Int32.not_le.mp c517)])] at hP hD
              exact ih2 (t + 1)  _ _ _ (by omega) (by have := Int32.lt_iff_toInt_lt.mp (Int32.not_le.mp c473); rw [slT_5, i_sub (by rw [nI_toInt (by omega)]; omega) (by rw [nI_toInt (by omega)]; have := Int32.toInt_lt ((slN (nu 1, bk, nu) j).2.1 j 5); omega), nI_toInt (by omega)] at this; have o : (0 : Int32).toInt = 0 := rfl; rw [o] at this; show ((t + 1 : Nat) : Int) ≤ _; omega) hP hD hS (lv_sub hl [1, 2, 3, 4, 0, 5, 6] (by rw [sub_s]; rfl))
      exact loop2 z 0  _ _ _ (by omega) (h5 j hltj) hP hD hS (lv_sub hl [1, 2, 3, 4, 5, 6, 0] rfl)
  exact loop1 nB 0  _ _ _ (by omega) hP hD hS (lv_sub hl [4, 5, 2, 1, 3, 0] rfl)

set_option maxHeartbeats 4000000 in
set_option maxRecDepth 100000 in
/-- no sale -/
theorem p_f1 {p : Program} {l : Launch} {e : Env} {R : Room} {s : State} {m : MethodId} {below : List Frame} {meth : Method} {c : Code} {Q : State → Prop} {D : va_G} {cy : Nat → ClassId} {A : Nat → Prop} {am : Nat → Nat} {nS nB : Nat} {st bk : Nat → Iu} {gate nu : Iu} (k : Nat) (hk : ¬ nI k = 12) (hcB : nB ≤ 6) (F : pF p s m meth c D cy A am) (KK : pS p l e R s m below meth c Q D A am 538 [(0, .ref (am 0)), (3, .int 0)] (sw cy am nS nB st bk gate nu [])) : pS p l e R s m below meth c Q D A am 422 [(0, .ref (am 0)), (1, .int (nI k))] (sw cy am nS nB st bk gate nu []) := by
  obtain ⟨hx, hb, hts, hown, hlocks, hml, hK, hA⟩ := F
  intro H locs ls hP hD hS hl
  have hinX4 : ∀ w ∈ wsX40, w ∈ wsX4_pass := fun _ h => List.mem_cons_of_mem _ (List.mem_append_right _ h)
  refine lv_iload_n hx hb dX4_pass_422 rfl (lv_at hl 1 rfl) ?_
  refine lv_bipush (v := 12) hx hb dX4_pass_423 (by decide) ?_
  refine lv_icmp_ne (tgt := 435) hx hb dX4_pass_425 (by decide) (fun _ => ?_) (fun z => absurd z hk)
  refine lv_iconst (v := 0) hx hb dX4_pass_435 (by decide) ?_
  refine lv_istore_n (lv' := [(3, .int 0), (0, .ref (am 0)), (1, .int (nI k))]) hx hb dX4_pass_436 rfl hl (by decide) rfl (fun ls hl => ?_)
  refine lv_aload_n hx hb dX4_pass_437 rfl (lv_at hl 1 rfl) ?_
  refine va_get (D := D) (ci := 4) (v := .ref (am 3)) (C := RX4) (T := TX4) (N := 9) hx hb hts hinX4 hown hK.1 hP 0 rfl rfl 3 (by decide) (hts (.fieldLink RX4 22 "LoafMarksLaw$Sim" "bakers" "[[I") (List.mem_of_getElem? (i := 5) rfl)) (fun _ h9 => h9) rfl dX4_pass_438 ?_
  refine lv_astore (lv' := [(4, .ref (am 3)), (3, .int 0), (0, .ref (am 0)), (1, .int (nI k))]) hx hb dX4_pass_441 hl (by decide) rfl (fun ls hl => ?_)
  refine lv_aload hx hb dX4_pass_443 (lv_at hl 0 rfl) ?_
  refine va_alen hx hb hK.1 hP (3) 3 rfl rfl (v := nI nB) rfl dX4_pass_445 ?_
  refine lv_istore (lv' := [(5, .int (nI nB)), (4, .ref (am 3)), (3, .int 0), (0, .ref (am 0)), (1, .int (nI k))]) hx hb dX4_pass_446 hl (by decide) rfl (fun ls hl => ?_)
  refine lv_iconst (v := 0) hx hb dX4_pass_448 (by decide) ?_
  refine lv_istore (lv' := [(6, .int 0), (5, .int (nI nB)), (4, .ref (am 3)), (3, .int 0), (0, .ref (am 0)), (1, .int (nI k))]) hx hb dX4_pass_449 hl (by decide) rfl (fun ls hl => ?_)
  have loop : ∀ (n j : Nat)  (H : Heap) (locs : List Loc) (ls : Array Slot), j + n = nB → va_P D vwCl (sw cy am nS nB st bk gate nu []) H → va_D A (sw cy am nS nB st bk gate nu []) → va_S A s.heap H locs → lv_has ls 9 [(0, .ref (am 0)), (1, .int (nI k)), (4, .ref (am 3)), (5, .int (nI nB)), (3, .int 0), (6, .int (nI j))] → W p l e R s m ([.ref (am 0)] : List Value).toArray below meth c H locs 0 0 Q (F0 m 451 ls []) := by
    intro n
    induction n with
    | zero =>
      intro j  H locs ls hns hP hD hS hl
      have hij : j = nB := by omega
      refine lv_iload hx hb dX4_pass_451 (lv_at hl 5 rfl) ?_
      refine lv_iload hx hb dX4_pass_453 (lv_at hl 3 rfl) ?_
      refine lv_icmp_ge (tgt := 538) hx hb dX4_pass_455 (by decide) (fun _ => ?_) (fun h => absurd (by rw [hij]; exact Int32.le_refl _) h)
      exact KK _ _ _ hP hD hS (lv_sub hl [0, 4] rfl)
    | succ n ih =>
      intro j  H locs ls hns hP hD hS hl
      have hlt : j < nB := by omega
      refine lv_iload hx hb dX4_pass_451 (lv_at hl 5 rfl) ?_
      refine lv_iload hx hb dX4_pass_453 (lv_at hl 3 rfl) ?_
      refine lv_icmp_ge (tgt := 538) hx hb dX4_pass_455 (by decide) (fun h => absurd h (nI_ge (b := nB) hlt (by omega))) (fun _ => ?_)
      refine lv_aload hx hb dX4_pass_458 (lv_at hl 2 rfl) ?_
      refine lv_iload hx hb dX4_pass_460 (lv_at hl 5 rfl) ?_
      refine xaldB hx hb hK hP (3) (am := am) rfl j rfl (by omega) hcB dX4_pass_462 ?_
      refine lv_astore (lv' := [(7, .ref (am (8 + j))), (0, .ref (am 0)), (1, .int (nI k)), (4, .ref (am 3)), (5, .int (nI nB)), (3, .int 0), (6, .int (nI j))]) hx hb dX4_pass_463 hl (by decide) rfl (fun ls hl => ?_)
      refine lv_iload_n hx hb dX4_pass_465 rfl (lv_at hl 5 rfl) ?_
      refine lv_if_le (tgt := 532) hx hb dX4_pass_466 (by decide) (fun _ => ?_) (fun h => absurd (by decide) h)
      refine lv_iinc (v := (nI (j + 1))) (lv' := [(6, .int (nI (j + 1))), (7, .ref (am (8 + j))), (0, .ref (am 0)), (1, .int (nI k)), (4, .ref (am 3)), (5, .int (nI nB)), (3, .int 0)]) hx hb dX4_pass_532 hl (k := 6) rfl ((nI_1 j)) (by decide) rfl (fun ls hl => ?_)
      refine lv_goto (tgt := 451) hx hb dX4_pass_535 (by decide) ?_
      exact ih (j + 1)  _ _ _ (by omega) hP hD hS (lv_sub hl [2, 3, 4, 5, 6, 0] rfl)
  exact loop nB 0  _ _ _ (by omega) hP hD hS (lv_sub hl [4, 5, 2, 1, 3, 0] rfl)
