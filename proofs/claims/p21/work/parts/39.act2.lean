/-! ===== the law: act, build (laid by g39.py) ===== -/
set_option maxHeartbeats 4000000 in
set_option maxRecDepth 100000 in
/-- act -/
theorem c_L_act (l : Launch) (D : va_G) (cy : Nat → ClassId) (h : Nat) (am ad : Nat → Nat) (nS nB tS tB : Nat) (st bk : Nat → Iu) (gate nu : Iu) (bt : Nat) (wt : va_W) (hq : Nat) (x : Int32) (hI : jInv nS nB gate hq (st, bk, nu)) (htS : tS ≤ nS) (htB : tB ≤ nB) (hcS : nS ≤ 4) (hcB : nB ≤ 6) : xM l D cy yL_act wsL_act ({ frames := 7, cells := 5, slots := 40, locals := 180 } : Room) [.ref h, .ref (am 0), .int x] (sw cy am nS nB st bk gate nu (xw cy h ad nS nB st bk gate nu bt wt)) (fun _ : ST => some (.int 1)) (aP hq tS tB (am 0)) (LW cy h bt wt) := by
  refine xM.of cL_act 21 (some .boolean) RL (by decide +kernel) rfl rfl (Nat.le_of_ble_eq_true rfl) ?_
  intro p e s m below meth c A ls hx hb hr hts hown hlocks hml hin hK hA hP hD hS hl
  have hl : lv_has ls 21 [(0, .ref h), (1, .ref (am 0)), (2, .int x)] := hl
  have hinX4 : ∀ w ∈ wsX40, w ∈ wsL_act := fun _ h => List.mem_cons_of_mem _ (List.mem_append_left _ (List.mem_append_left _ (List.mem_append_left _ (List.mem_append_left _ (List.mem_append_left _ (List.mem_append_left _ (List.mem_append_left _ (List.mem_append_right _ h))))))))
  have F : aF p s m meth c D cy A h (am 0) x := ⟨hx, hb, hts, hown, hlocks, hml, hK, hA, hr⟩
  rcases Nat.eq_zero_or_pos nS with hn0 | hn0
  · refine lv_aload_n hx hb dL_act_0 rfl (lv_at hl 1 rfl) ?_
    refine va_get (D := D) (ci := 4) (v := .ref (am 2)) (C := RX4) (T := TX4) (N := 9) hx hb hts hinX4 hown hK.1 hP 0 rfl rfl 2 (by decide) (hts (.fieldLink RL 9 "LoafMarksLaw$Sim" "stores" "[[I") (List.mem_of_getElem? (i := 1) rfl)) (fun _ h9 => h9) rfl dL_act_1 ?_
    refine va_alen hx hb hK.1 hP (2) 3 rfl rfl (v := nI nS) rfl dL_act_4 ?_
    refine lv_istore_n (lv' := [(3, .int (nI nS)), (0, .ref h), (1, .ref (am 0)), (2, .int x)]) hx hb dL_act_5 rfl hl (by decide) rfl (fun ls hl => ?_)
    refine lv_aload_n hx hb dL_act_6 rfl (lv_at hl 2 rfl) ?_
    refine va_get (D := D) (ci := 4) (v := .ref (am 3)) (C := RX4) (T := TX4) (N := 9) hx hb hts hinX4 hown hK.1 hP 0 rfl rfl 3 (by decide) (hts (.fieldLink RL 15 "LoafMarksLaw$Sim" "bakers" "[[I") (List.mem_of_getElem? (i := 2) rfl)) (fun _ h9 => h9) rfl dL_act_7 ?_
    refine va_alen hx hb hK.1 hP (3) 3 rfl rfl (v := nI nB) rfl dL_act_10 ?_
    refine lv_istore (lv' := [(4, .int (nI nB)), (3, .int (nI nS)), (0, .ref h), (1, .ref (am 0)), (2, .int x)]) hx hb dL_act_11 hl (by decide) rfl (fun ls hl => ?_)
    refine lv_iload_n hx hb dL_act_13 rfl (lv_at hl 1 rfl) ?_
    refine lv_if_ne (tgt := 21) hx hb dL_act_14 (by decide) (fun z => absurd (by rw [hn0]; rfl) z) (fun _ => ?_)
    refine lv_iconst (v := 0) hx hb dL_act_17 (by decide) ?_
    refine lv_goto (tgt := 30) hx hb dL_act_18 (by decide) ?_
    refine lv_tableIn (off := 62) (tgt := 92) hx hb dL_act_30 (by decide) (by decide) (by rfl) (by decide) ?_
    exact a_92 F hI htS htB hcS hcB _ _ _ hP hD hS (lv_sub hl [2, 3, 4, 1, 0] rfl)
  · refine lv_aload_n hx hb dL_act_0 rfl (lv_at hl 1 rfl) ?_
    refine va_get (D := D) (ci := 4) (v := .ref (am 2)) (C := RX4) (T := TX4) (N := 9) hx hb hts hinX4 hown hK.1 hP 0 rfl rfl 2 (by decide) (hts (.fieldLink RL 9 "LoafMarksLaw$Sim" "stores" "[[I") (List.mem_of_getElem? (i := 1) rfl)) (fun _ h9 => h9) rfl dL_act_1 ?_
    refine va_alen hx hb hK.1 hP (2) 3 rfl rfl (v := nI nS) rfl dL_act_4 ?_
    refine lv_istore_n (lv' := [(3, .int (nI nS)), (0, .ref h), (1, .ref (am 0)), (2, .int x)]) hx hb dL_act_5 rfl hl (by decide) rfl (fun ls hl => ?_)
    refine lv_aload_n hx hb dL_act_6 rfl (lv_at hl 2 rfl) ?_
    refine va_get (D := D) (ci := 4) (v := .ref (am 3)) (C := RX4) (T := TX4) (N := 9) hx hb hts hinX4 hown hK.1 hP 0 rfl rfl 3 (by decide) (hts (.fieldLink RL 15 "LoafMarksLaw$Sim" "bakers" "[[I") (List.mem_of_getElem? (i := 2) rfl)) (fun _ h9 => h9) rfl dL_act_7 ?_
    refine va_alen hx hb hK.1 hP (3) 3 rfl rfl (v := nI nB) rfl dL_act_10 ?_
    refine lv_istore (lv' := [(4, .int (nI nB)), (3, .int (nI nS)), (0, .ref h), (1, .ref (am 0)), (2, .int x)]) hx hb dL_act_11 hl (by decide) rfl (fun ls hl => ?_)
    refine lv_iload_n hx hb dL_act_13 rfl (lv_at hl 1 rfl) ?_
    refine lv_if_ne (tgt := 21) hx hb dL_act_14 (by decide) (fun _ => ?_) (fun z => absurd z (nI_ne0 hn0 (by omega)))
    refine lv_iload_n hx hb dL_act_21 rfl (lv_at hl 4 rfl) ?_
    refine lv_bipush (v := 9) hx hb dL_act_22 (by decide) ?_
    refine lv_ishr hx hb dL_act_24 ?_
    refine lv_bipush (v := 13) hx hb dL_act_25 (by decide) ?_
    refine xcS (As := [.int (x >>> 9), .int 13]) (rest := []) ⟨hx, hb, hml, hown, hts⟩ (c_L_below l D cy (x >>> 9) 13 (by decide) (by decide)) (va_cwS 2 hts gL_act_L_below rfl rfl rfl (by decide +kernel) ⟨Nat.le_of_ble_eq_true rfl, Nat.le_of_ble_eq_true rfl⟩) hK hP hD hS hA (xE_nil) rfl hl.1 rfl (Nat.le_of_ble_eq_true rfl) dL_act_27 ⟨Nat.le_of_ble_eq_true rfl, Nat.le_of_ble_eq_true rfl⟩ (fun _ H locs _ hP hD hS => ?_)
    have hP : va_P D vwCl (sw cy am nS nB st bk gate nu (xw cy h ad nS nB st bk gate nu bt wt)) H := hP
    have hD : va_D A (sw cy am nS nB st bk gate nu (xw cy h ad nS nB st bk gate nu bt wt)) := hD
    refine W.eq (g2 := F0 m 30 ls [.int (nI (blw (x >>> 9) 13))]) rfl ?_
    have hk27 : blw (x >>> 9) 13 < 13 := blw_lt (by decide)
    generalize blw (x >>> 9) 13 = k27 at hk27 ⊢
    have hcase : k27 = 0 ∨ k27 = 1 ∨ k27 = 2 ∨ k27 = 3 ∨ k27 = 4 ∨ k27 = 5 ∨ k27 = 6 ∨ k27 = 7 ∨ k27 = 8 ∨ k27 = 9 ∨ k27 = 10 ∨ k27 = 11 ∨ k27 = 12 := by omega
    rcases hcase with rfl | rfl | rfl | rfl | rfl | rfl | rfl | rfl | rfl | rfl | rfl | rfl | rfl
    · refine lv_tableIn (off := 62) (tgt := 92) hx hb dL_act_30 (by decide) (by decide) (by rfl) (by decide) ?_
      exact a_92 F hI htS htB hcS hcB _ _ _ hP hD hS (lv_sub hl [2, 3, 4, 1, 0] rfl)
    · refine lv_tableIn (off := 136) (tgt := 166) hx hb dL_act_30 (by decide) (by decide) (by rfl) (by decide) ?_
      exact a_166 F hI htS htB hcS hcB hn0 _ _ _ hP hD hS (lv_sub hl [2, 3, 4, 1, 0] rfl)
    · refine lv_tableIn (off := 136) (tgt := 166) hx hb dL_act_30 (by decide) (by decide) (by rfl) (by decide) ?_
      exact a_166 F hI htS htB hcS hcB hn0 _ _ _ hP hD hS (lv_sub hl [2, 3, 4, 1, 0] rfl)
    · refine lv_tableIn (off := 136) (tgt := 166) hx hb dL_act_30 (by decide) (by decide) (by rfl) (by decide) ?_
      exact a_166 F hI htS htB hcS hcB hn0 _ _ _ hP hD hS (lv_sub hl [2, 3, 4, 1, 0] rfl)
    · refine lv_tableIn (off := 269) (tgt := 299) hx hb dL_act_30 (by decide) (by decide) (by rfl) (by decide) ?_
      exact a_299 F hI htS htB hcS hcB _ _ _ hP hD hS (lv_sub hl [2, 3, 4, 1, 0] rfl)
    · refine lv_tableIn (off := 269) (tgt := 299) hx hb dL_act_30 (by decide) (by decide) (by rfl) (by decide) ?_
      exact a_299 F hI htS htB hcS hcB _ _ _ hP hD hS (lv_sub hl [2, 3, 4, 1, 0] rfl)
    · refine lv_tableIn (off := 329) (tgt := 359) hx hb dL_act_30 (by decide) (by decide) (by rfl) (by decide) ?_
      exact a_359 F hI htS htB hcS hcB _ _ _ hP hD hS (lv_sub hl [2, 3, 4, 1, 0] rfl)
    · refine lv_tableIn (off := 329) (tgt := 359) hx hb dL_act_30 (by decide) (by decide) (by rfl) (by decide) ?_
      exact a_359 F hI htS htB hcS hcB _ _ _ hP hD hS (lv_sub hl [2, 3, 4, 1, 0] rfl)
    · refine lv_tableIn (off := 385) (tgt := 415) hx hb dL_act_30 (by decide) (by decide) (by rfl) (by decide) ?_
      exact a_415 F hI htS htB hcS hcB hn0 _ _ _ hP hD hS (lv_sub hl [2, 3, 4, 1, 0] rfl)
    · refine lv_tableIn (off := 454) (tgt := 484) hx hb dL_act_30 (by decide) (by decide) (by rfl) (by decide) ?_
      rcases Nat.eq_zero_or_pos nB with hm0 | hm0
      · exact a_4840 F hI htS htB hcS hcB hm0 _ _ _ hP hD hS (lv_sub hl [2, 3, 4, 1, 0] rfl)
      · exact a_484 F hI htS htB hcS hcB hm0 _ _ _ hP hD hS (lv_sub hl [2, 3, 4, 1, 0] rfl)
    · refine lv_tableIn (off := 517) (tgt := 547) hx hb dL_act_30 (by decide) (by decide) (by rfl) (by decide) ?_
      rcases Nat.eq_zero_or_pos nB with hm0 | hm0
      · exact a_5470 F hI htS htB hcS hcB hm0 _ _ _ hP hD hS (lv_sub hl [2, 3, 4, 1, 0] rfl)
      · exact a_547 F hI htS htB hcS hcB hm0 _ _ _ hP hD hS (lv_sub hl [2, 3, 4, 1, 0] rfl)
    · refine lv_tableIn (off := 517) (tgt := 547) hx hb dL_act_30 (by decide) (by decide) (by rfl) (by decide) ?_
      rcases Nat.eq_zero_or_pos nB with hm0 | hm0
      · exact a_5470 F hI htS htB hcS hcB hm0 _ _ _ hP hD hS (lv_sub hl [2, 3, 4, 1, 0] rfl)
      · exact a_547 F hI htS htB hcS hcB hm0 _ _ _ hP hD hS (lv_sub hl [2, 3, 4, 1, 0] rfl)
    · refine lv_tableOut (tgt := 629) hx hb dL_act_30 (by decide) (by decide) ?_
      rcases Nat.eq_zero_or_pos nB with hm0 | hm0
      · exact a_6290 F hI htS htB hcS hcB hm0 _ _ _ hP hD hS (lv_sub hl [2, 3, 4, 1, 0] rfl)
      · exact a_629 F hI htS htB hcS hcB hm0 _ _ _ hP hD hS (lv_sub hl [2, 3, 4, 1, 0] rfl)

/-- act, of any state -/
theorem c_L_actu (l : Launch) (D : va_G) (cy : Nat → ClassId) (h a0 : Nat) (u : ST) (tS tB : Nat) (bt : Nat) (wt : va_W) (hq : Nat) (x : Int32) (hu : aP hq tS tB a0 u) : xM l D cy yL_act wsL_act ({ frames := 7, cells := 5, slots := 40, locals := 180 } : Room) [.ref h, .ref a0, .int x] (LW cy h bt wt u) (fun _ : ST => some (.int 1)) (aP hq tS tB a0) (LW cy h bt wt) := by
  obtain ⟨am, ad, nS, nB, ⟨st, bk, nu⟩, gate⟩ := u
  obtain ⟨hI, htS, htB, hcS, hcB, ha⟩ := hu
  have ha : am 0 = a0 := ha
  subst ha
  exact c_L_act l D cy h am ad nS nB tS tB st bk gate nu bt wt hq x hI htS htB hcS hcB

set_option maxHeartbeats 4000000 in
set_option maxRecDepth 100000 in
/-- build -/
theorem c_L_build (l : Launch) (D : va_G) (cy : Nat → ClassId) (sb L : Nat) (xs : Nat → Int32) (hL : L < 2 ^ 31) (h : Nat) (ad : Nat → Nat) (bt : Nat) (wt : va_W) : xMs (va_Nw (.methodLinkNest RL 68 yX4_init "LoafMarksLaw")) sb L xs l D cy yL_build wsL_build ({ frames := 8, cells := 110, slots := 840, locals := 240 } : Room) [.ref h, .ref sb] (xw cy h ad 0 0 (fun _ _ => 0) (fun _ _ => 0) (fun _ => 0) nu0 bt wt) (fun u : ST => some (.ref (u.1 0))) (fun u => aP 0 0 0 (u.1 0) u) (LW cy h bt wt) := by
  refine xMs.of cL_build 4 (some (.object "LoafMarksLaw$Sim")) RL (by decide +kernel) rfl rfl (Nat.le_of_ble_eq_true rfl) ?_
  intro p e s m below meth c A ls hx hb hr hts hown hlocks hml hin hK hA hP hD hS hN hX hbl hbA hl
  have hl : lv_has ls 4 [(0, .ref h), (1, .ref sb)] := hl
  have hinX4 : ∀ w ∈ wsX40, w ∈ wsL_build := fun _ h => List.mem_cons_of_mem _ (List.mem_append_left _ (List.mem_append_left _ (List.mem_append_left _ (List.mem_append_left _ (List.mem_append_left _ (List.mem_append_left _ (List.mem_append_left _ (List.mem_append_right _ h))))))))
  refine va_new (ci := 4) (fs := [.int 0, .null, .null, .null, .int 0, .int 0, .int 0, .int 0, .int 0]) (C := RX4) (T := TX4) (N := 9) hx hb hts hinX4 tyX4 tyX4_ok hown (hts (.classLink RL 10 RX4) (List.mem_of_getElem? (i := 1) rfl)) (hts (.instantiable RX4 9) (List.mem_of_getElem? (i := 2) rfl)) (hts (.initialized RX4) (List.mem_of_getElem? (i := 3) rfl)) hK.1 hP hD hS hA rfl (fun j hj => by rcases (show j = 0 ∨ j = 1 ∨ j = 2 ∨ j = 3 ∨ j = 4 ∨ j = 5 ∨ j = 6 ∨ j = 7 ∨ j = 8 by omega) with rfl | rfl | rfl | rfl | rfl | rfl | rfl | rfl | rfl <;> rfl) (Nat.le_of_ble_eq_true rfl) (Nat.le_of_ble_eq_true rfl) dL_build_0 (fun a0 H hP hD hS => ?_)
  have hP : va_P D vwCl (xw cy h ad 0 0 (fun _ _ => 0) (fun _ _ => 0) (fun _ => 0) nu0 bt wt ++ [(a0, .inr (4, [.int 0, .null, .null, .null, .int 0, .int 0, .int 0, .int 0, .int 0]))]) H := hP
  have hD : va_D A (xw cy h ad 0 0 (fun _ _ => 0) (fun _ _ => 0) (fun _ => 0) nu0 bt wt ++ [(a0, .inr (4, [.int 0, .null, .null, .null, .int 0, .int 0, .int 0, .int 0, .int 0]))]) := hD
  refine lv_dup hx hb dL_build_3 rfl ?_
  refine xcIN (As := []) (rest := [.ref a0]) ⟨hx, hb, hml, hown, hts⟩ (c_X4_init l D cy a0) (⟨va_cnB 0 hts gL_build_X4_init_n68 rfl rfl rfl hN (hts (.initialized RX4) (List.mem_of_getElem? (i := 3) rfl)) (by decide +kernel) ⟨Nat.le_of_ble_eq_true rfl, Nat.le_of_ble_eq_true rfl⟩, rfl, (hts (.instanceMethod yX4_init) (List.mem_of_getElem? (i := 4) rfl))⟩) hK hP hD hS hA (xE_r) rfl hl.1 rfl (Nat.le_of_ble_eq_true rfl) dL_build_4 ⟨Nat.le_of_ble_eq_true rfl, Nat.le_of_ble_eq_true rfl⟩ (fun am H locs ha hP hD hS => ?_)
  have hP := xP_perm (List.perm_append_comm) hP
  have hD := xD_perm (List.perm_append_comm) hD
  rw [← sw_app] at hP hD
  have hP : va_P D vwCl (LW cy h bt wt ((am, ad, 0, 0, ((fun _ _ => 0), (fun _ _ => 0), nu0), (fun _ => 0)) : ST)) H := hP
  have hD : va_D A (LW cy h bt wt ((am, ad, 0, 0, ((fun _ _ => 0), (fun _ _ => 0), nu0), (fun _ => 0)) : ST)) := hD
  refine W.eq (g2 := F0 m 7 ls [.ref a0]) rfl ?_
  refine W.cs (cells' := 4 + 5 * 0) (slots' := 33 + 40 * 0) rfl rfl ?_
  refine lv_astore_n (lv' := [(2, .ref a0), (0, .ref h), (1, .ref sb)]) hx hb dL_build_7 rfl hl (by decide) rfl (fun ls hl => ?_)
  refine lv_iconst (v := 0) hx hb dL_build_8 (by decide) ?_
  refine lv_istore_n (lv' := [(3, .int 0), (2, .ref a0), (0, .ref h), (1, .ref sb)]) hx hb dL_build_9 rfl hl (by decide) rfl (fun ls hl => ?_)
  have loop : ∀ (n k : Nat) (u : ST) (H : Heap) (locs : List Loc) (ls : Array Slot), k + n = 20 → (aP 0 0 0 a0 u) → va_P D vwCl (LW cy h bt wt u) H → va_D A (LW cy h bt wt u) → va_S A s.heap H locs → lv_has ls 4 [(0, .ref h), (1, .ref sb), (2, .ref a0), (3, .int (nI k))] → W p l e ({ frames := 8, cells := 110, slots := 840, locals := 240 } : Room) s m ([.ref h, .ref sb] : List Value).toArray below meth c H locs (4 + 5 * k) (33 + 40 * k) (MQ below (xQ D A (fun u : ST => some (.ref (u.1 0))) (fun u => aP 0 0 0 (u.1 0) u) (LW cy h bt wt)) ([.ref h, .ref sb] : List Value).toArray s 110 840 A) (F0 m 10 ls []) := by
    intro n
    induction n with
    | zero =>
      intro k u H locs ls hns hinv hP hD hS hl
      have hik : k = 20 := by omega
      refine lv_iload_n hx hb dL_build_10 rfl (lv_at hl 3 rfl) ?_
      refine lv_bipush (v := 20) hx hb dL_build_11 (by decide) ?_
      refine lv_icmp_ge (tgt := 71) hx hb dL_build_13 (by decide) (fun _ => ?_) (fun h => absurd (by rw [hik]; exact Int32.le_refl _) h)
      refine lv_aload_n hx hb dL_build_71 rfl (lv_at hl 2 rfl) ?_
      exact xra u hx hb hr (Or.inl ⟨_, rfl⟩) (Or.inr ⟨_, rfl⟩) hlocks hS (by rw [hik]; decide) (by rw [hik]; decide) dL_build_72 hP hD (by rw [hinv.2.2.2.2.2]) (by rw [hinv.2.2.2.2.2]; exact hinv)
    | succ n ih =>
      intro k u H locs ls hns hinv hP hD hS hl
      have hlt : k < 20 := by omega
      refine lv_iload_n hx hb dL_build_10 rfl (lv_at hl 3 rfl) ?_
      refine lv_bipush (v := 20) hx hb dL_build_11 (by decide) ?_
      refine lv_icmp_ge (tgt := 71) hx hb dL_build_13 (by decide) (fun h => absurd h (nI_ge (b := 20) hlt (by omega))) (fun _ => ?_)
      refine lv_aload_n hx hb dL_build_16 rfl (lv_at hl 0 rfl) ?_
      refine lv_aload_n hx hb dL_build_17 rfl (lv_at hl 2 rfl) ?_
      refine lv_aload_n hx hb dL_build_18 rfl (lv_at hl 1 rfl) ?_
      refine lv_iload_n hx hb dL_build_19 rfl (lv_at hl 3 rfl) ?_
      refine lv_bipush (v := 10) hx hb dL_build_20 (by decide) ?_
      refine lv_irem hx hb dL_build_22 (by decide) ?_
      refine W.eq (g2 := F0 m 23 ls [.int (nI (k % 10)), .ref sb, .ref a0, .ref h]) (by first | (rw [show nI k - nI k / 10 * 10 = nI (k % 10) from pk_rem (by omega) (by decide) (by decide)]; done) | (rw [show nI k - nI k / 10 * 10 = nI (k % 10) from pk_rem (by omega) (by decide) (by decide)]; rfl)) ?_
      refine xcSs (As := [.ref sb, .int (nI (k % 10))]) (rest := [.ref a0, .ref h]) ⟨hx, hb, hml, hown, hts⟩ (c_L_cell l D cy sb L xs hL (k % 10) (by omega)) (va_cwS 2 hts gL_build_L_cell rfl rfl rfl (by decide +kernel) ⟨Nat.le_of_ble_eq_true rfl, Nat.le_of_ble_eq_true rfl⟩) (fun _ _ => trivial) (fun _ _ _ _ _ => trivial) hX hbl hbA hK hP hD hS hA xE_nil rfl hl.1 rfl (Nat.le_of_ble_eq_true rfl) dL_build_23 ⟨by show 4 + 5 * k + 0 ≤ 110; omega, by show 33 + 40 * k + 0 ≤ 840; omega⟩ (fun cv H locs _ hP hD hS => ?_)
      refine W.eq (g2 := F0 m 26 ls [.int cv, .ref a0, .ref h]) rfl ?_
      refine W.cs (cells' := 4 + 5 * k) (slots' := 33 + 40 * k) rfl rfl ?_
      refine lv_iload_n hx hb dL_build_26 rfl (lv_at hl 3 rfl) ?_
      refine lv_bipush (v := 10) hx hb dL_build_27 (by decide) ?_
      refine lv_idiv hx hb dL_build_29 (by decide) ?_
      refine lv_iconst (v := 5) hx hb dL_build_30 (by decide) ?_
      refine lv_imul hx hb dL_build_31 ?_
      refine lv_ishr hx hb dL_build_32 ?_
      refine lv_sipush (v := 151) hx hb dL_build_33 (by decide) ?_
      refine lv_iload_n hx hb dL_build_36 rfl (lv_at hl 3 rfl) ?_
      refine lv_imul hx hb dL_build_37 ?_
      refine lv_iadd hx hb dL_build_38 ?_
      refine lv_iload_n hx hb dL_build_39 rfl (lv_at hl 3 rfl) ?_
      refine lv_bipush (v := 8) hx hb dL_build_40 (by decide) ?_
      refine lv_icmp_ge (tgt := 55) hx hb dL_build_42 (by decide) (fun c42 => ?_) (fun c42 => ?_)
      · refine lv_iconst (v := 0) hx hb dL_build_55 (by decide) ?_
        refine lv_iadd hx hb dL_build_56 ?_
        refine xcS (As := [.ref h, .ref a0, .int (((cv >>> ((((nI k) / 10) * 5) &&& 31)) + (151 * (nI k))) + 0)]) (rest := []) ⟨hx, hb, hml, hown, hts⟩ (c_L_actu l D cy h a0 u 0 0 bt wt 0 (((cv >>> ((((nI k) / 10) * 5) &&& 31)) + (151 * (nI k))) + 0) hinv) (va_cwS 3 hts gL_build_L_act rfl rfl rfl (by decide +kernel) ⟨Nat.le_of_ble_eq_true rfl, Nat.le_of_ble_eq_true rfl⟩) hK hP hD hS hA xE_all rfl hl.1 rfl (Nat.le_of_ble_eq_true rfl) dL_build_57 ⟨by show 4 + 5 * k + 5 ≤ 110; omega, by show 33 + 40 * k + 40 ≤ 840; omega⟩ (fun u2 H locs hu2 hP hD hS => ?_)
        refine W.eq (g2 := F0 m 60 ls [.int 1]) rfl ?_
        refine W.cs (cells' := 4 + 5 * (k + 1)) (slots' := 33 + 40 * (k + 1)) (by show 4 + 5 * (k + 1) = 4 + 5 * k + 5; omega) (by show 33 + 40 * (k + 1) = 33 + 40 * k + 40; omega) ?_
        have hP : va_P D vwCl (LW cy h bt wt u2) H := hP
        have hD : va_D A (LW cy h bt wt u2) := hD
        refine lv_if_ne (tgt := 65) hx hb dL_build_60 (by decide) (fun _ => ?_) (fun z => absurd z (by decide))
        refine lv_iinc (v := (nI (k + 1))) (lv' := [(3, .int (nI (k + 1))), (0, .ref h), (1, .ref sb), (2, .ref a0)]) hx hb dL_build_65 hl (k := 3) rfl ((nI_1 k)) (by decide) rfl (fun ls hl => ?_)
        refine lv_goto (tgt := 10) hx hb dL_build_68 (by decide) ?_
        exact ih (k + 1) u2 _ _ _ (by omega) hu2 hP hD hS (lv_sub hl [1, 2, 3, 0] rfl)
      · refine lv_sipush (v := 512) hx hb dL_build_45 (by decide) ?_
        refine lv_iload_n hx hb dL_build_48 rfl (lv_at hl 3 rfl) ?_
        refine lv_iconst (v := 4) hx hb dL_build_49 (by decide) ?_
        refine lv_irem hx hb dL_build_50 (by decide) ?_
        refine lv_imul hx hb dL_build_51 ?_
        refine lv_goto (tgt := 56) hx hb dL_build_52 (by decide) ?_
        refine lv_iadd hx hb dL_build_56 ?_
        refine xcS (As := [.ref h, .ref a0, .int (((cv >>> ((((nI k) / 10) * 5) &&& 31)) + (151 * (nI k))) + (512 * ((nI k) - (nI k) / 4 * 4)))]) (rest := []) ⟨hx, hb, hml, hown, hts⟩ (c_L_actu l D cy h a0 u 0 0 bt wt 0 (((cv >>> ((((nI k) / 10) * 5) &&& 31)) + (151 * (nI k))) + (512 * ((nI k) - (nI k) / 4 * 4))) hinv) (va_cwS 3 hts gL_build_L_act rfl rfl rfl (by decide +kernel) ⟨Nat.le_of_ble_eq_true rfl, Nat.le_of_ble_eq_true rfl⟩) hK hP hD hS hA xE_all rfl hl.1 rfl (Nat.le_of_ble_eq_true rfl) dL_build_57 ⟨by show 4 + 5 * k + 5 ≤ 110; omega, by show 33 + 40 * k + 40 ≤ 840; omega⟩ (fun u2 H locs hu2 hP hD hS => ?_)
        refine W.eq (g2 := F0 m 60 ls [.int 1]) rfl ?_
        refine W.cs (cells' := 4 + 5 * (k + 1)) (slots' := 33 + 40 * (k + 1)) (by show 4 + 5 * (k + 1) = 4 + 5 * k + 5; omega) (by show 33 + 40 * (k + 1) = 33 + 40 * k + 40; omega) ?_
        have hP : va_P D vwCl (LW cy h bt wt u2) H := hP
        have hD : va_D A (LW cy h bt wt u2) := hD
        refine lv_if_ne (tgt := 65) hx hb dL_build_60 (by decide) (fun _ => ?_) (fun z => absurd z (by decide))
        refine lv_iinc (v := (nI (k + 1))) (lv' := [(3, .int (nI (k + 1))), (0, .ref h), (1, .ref sb), (2, .ref a0)]) hx hb dL_build_65 hl (k := 3) rfl ((nI_1 k)) (by decide) rfl (fun ls hl => ?_)
        refine lv_goto (tgt := 10) hx hb dL_build_68 (by decide) ?_
        exact ih (k + 1) u2 _ _ _ (by omega) hu2 hP hD hS (lv_sub hl [1, 2, 3, 0] rfl)
  exact loop 20 0 ((am, ad, 0, 0, ((fun _ _ => 0), (fun _ _ => 0), nu0), (fun _ => 0)) : ST) _ _ _ (by omega) (⟨⟨inv_zero, fun j hj => absurd hj (Nat.not_lt_zero j), fun i j hi _ _ => absurd hi (Nat.not_lt_zero i)⟩, Nat.le_refl 0, Nat.le_refl 0, Nat.zero_le 4, Nat.zero_le 6, ha⟩) hP hD hS (lv_sub hl [2, 3, 1, 0] rfl)
