/-! ===== the law: what a number chooses, case by case (laid by g38.py) ===== -/
theorem set_last0 {ws : va_W} {x y : Nat × va_E} : (ws ++ [x]).set (ws.length + 0) y = ws ++ [y] := by simp
theorem rg_nI {k a b : Nat} (h1 : a ≤ k) (h2 : k ≤ b) (hb : b < 2 ^ 31) : rgI a b (nI k) := by
  unfold rgI
  rw [nI_toInt (by omega)]
  omega
theorem bt_nI {k a b : Nat} (h1 : a ≤ k) (h2 : k ≤ b) (hb : b < 2 ^ 31) : nI a ≤ nI k ∧ nI k ≤ nI b := ⟨nI_le h1 (by omega), nI_le h2 hb⟩
theorem up_mark {bk : Nat → Iu} {j : Nat} {f : Iu} (h : f 1 = bk j 1) (q : Nat) : va_up bk j f q 1 = bk q 1 := by
  rcases Decidable.em (q = j) with z | z
  · subst z; rw [up_at]; exact h
  · rw [up_ne z]
/-- the law's state: the Sim's addresses, the town's; stores, bakers; rows and numbers; the gate -/
abbrev ST : Type := (Nat → Nat) × (Nat → Nat) × Nat × Nat × TS × Iu
def aP (hq tS tB a0 : Nat) : ST → Prop := fun u => jInv u.2.2.1 u.2.2.2.1 u.2.2.2.2.2 hq u.2.2.2.2.1 ∧ tS ≤ u.2.2.1 ∧ tB ≤ u.2.2.2.1 ∧ u.2.2.1 ≤ 4 ∧ u.2.2.2.1 ≤ 6 ∧ u.1 0 = a0
def LW (cy : Nat → ClassId) (h : Nat) (bt : Nat) (wt : va_W) : ST → va_W := fun u => sw cy u.1 u.2.2.1 u.2.2.2.1 u.2.2.2.2.1.1 u.2.2.2.2.1.2.1 u.2.2.2.2.2 u.2.2.2.2.1.2.2 (xw cy h u.2.1 u.2.2.1 u.2.2.2.1 u.2.2.2.2.1.1 u.2.2.2.2.1.2.1 u.2.2.2.2.2 u.2.2.2.2.1.2.2 bt wt)
def aF (p : Program) (s : State) (m : MethodId) (meth : Method) (c : Code) (D : va_G) (cy : Nat → ClassId) (A : Nat → Prop) (h a0 : Nat) (x : Int32) : Prop := p.tables.exec = Jvm.exec ∧ c.code = cL_act ∧ (∀ w ∈ wsL_act, w.before ([.ref h, .ref a0, .int x] : List Value).toArray s = true) ∧ s.vm.findClass RL = some m.cls ∧ meth.locks = false ∧ c.maxLocals = 21 ∧ XK D cy s ∧ (∀ q : Nat, s.heap.size ≤ q → A q) ∧ meth.sig.returnType = some .boolean
def aS (p : Program) (l : Launch) (e : Env) (s : State) (m : MethodId) (below : List Frame) (meth : Method) (c : Code) (D : va_G) (cy : Nat → ClassId) (A : Nat → Prop) (h a0 : Nat) (x : Int32) (bt : Nat) (wt : va_W) (hq tS tB : Nat) (pc : Nat) (lvs : List (Nat × Value)) (w : va_W) : Prop :=
  ∀ (H : Heap) (locs : List Loc) (ls : Array Slot), va_P D vwCl w H → va_D A w → va_S A s.heap H locs → lv_has ls 21 lvs → W p l e { frames := 7, cells := 5, slots := 40, locals := 180 } s m ([.ref h, .ref a0, .int x] : List Value).toArray below meth c H locs 0 0 (MQ below (xQ D A (fun _ : ST => some (.int 1)) (aP hq tS tB a0) (LW cy h bt wt)) ([.ref h, .ref a0, .int x] : List Value).toArray s 5 40 A) (F0 m pc ls [])

theorem pos_of {x : Int32} (h : 0 ≤ x.toInt) (g : ¬ x = 0) : 0 < x := by
  have o : (0 : Int32).toInt = 0 := rfl
  refine Int32.lt_iff_toInt_lt.mpr ?_
  have : x.toInt ≠ 0 := fun z => g (Int32.toInt_inj.mp (by rw [z, o]))
  rw [o]
  omega
theorem zero_of {x : Int32} (h : x = 0 ∨ x = 1) (g : ¬ x = 1) : x = 0 := h.elim id (fun z => absurd z g)
theorem fg_ge {b : Iu} (h : (10 : Int32) ≤ b 4) : bForgive b = upd b 7 0 := by
  unfold bForgive mx
  rw [if_neg (Int32.not_lt.mpr h)]
  exact upd_same rfl
theorem fg_lt {b : Iu} (h : ¬ (10 : Int32) ≤ b 4) : bForgive b = upd (upd b 7 0) 4 10 := by
  unfold bForgive mx
  rw [if_pos (Int32.not_le.mp h)]
set_option maxHeartbeats 4000000 in
set_option maxRecDepth 100000 in
/-- a store -/
theorem a_92 {p : Program} {l : Launch} {e : Env} {s : State} {m : MethodId} {below : List Frame} {meth : Method} {c : Code} {D : va_G} {cy : Nat → ClassId} {A : Nat → Prop} {h : Nat} {am ad : Nat → Nat} {nS nB tS tB : Nat} {st bk : Nat → Iu} {gate nu : Iu} {bt : Nat} {wt : va_W} {hq : Nat} {x : Int32} (F : aF p s m meth c D cy A h (am 0) x) (hI : jInv nS nB gate hq (st, bk, nu)) (htS : tS ≤ nS) (htB : tB ≤ nB) (hcS : nS ≤ 4) (hcB : nB ≤ 6)  : aS p l e s m below meth c D cy A h (am 0) x bt wt hq tS tB 92 [(0, .ref h), (1, .ref (am 0)), (2, .int x), (3, .int (nI nS)), (4, .int (nI nB))] (sw cy am nS nB st bk gate nu (xw cy h ad nS nB st bk gate nu bt wt)) := by
  obtain ⟨hx, hb, hts, hown, hlocks, hml, hK, hA, hr⟩ := F
  intro H locs ls hP hD hS hl
  have hinX4 : ∀ w ∈ wsX40, w ∈ wsL_act := fun _ h => List.mem_cons_of_mem _ (List.mem_append_left _ (List.mem_append_left _ (List.mem_append_left _ (List.mem_append_left _ (List.mem_append_left _ (List.mem_append_left _ (List.mem_append_left _ (List.mem_append_right _ h))))))))
  rcases Nat.lt_or_ge nS 4 with hn4 | hn4
  · refine lv_iload_n hx hb dL_act_92 rfl (lv_at hl 3 rfl) ?_
    refine lv_iconst (v := 4) hx hb dL_act_93 (by decide) ?_
    refine lv_icmp_ne (tgt := 99) hx hb dL_act_94 (by decide) (fun _ => ?_) (fun z => absurd z (fun z => absurd ((nI_eq (a := nS) (b := 4) (by omega) (by decide)).mp z) (by omega)))
    refine lv_iload_n hx hb dL_act_99 rfl (lv_at hl 2 rfl) ?_
    refine lv_iconst (v := 3) hx hb dL_act_100 (by decide) ?_
    refine lv_imul hx hb dL_act_101 ?_
    refine lv_sipush (v := 901) hx hb dL_act_102 (by decide) ?_
    refine xcS (As := [.int (x * 3), .int 901]) (rest := []) ⟨hx, hb, hml, hown, hts⟩ (c_L_below l D cy (x * 3) 901 (by decide) (by decide)) (va_cwS 2 hts gL_act_L_below rfl rfl rfl (by decide +kernel) ⟨Nat.le_of_ble_eq_true rfl, Nat.le_of_ble_eq_true rfl⟩) hK hP hD hS hA (xE_nil) rfl hl.1 rfl (Nat.le_of_ble_eq_true rfl) dL_act_105 ⟨Nat.le_of_ble_eq_true rfl, Nat.le_of_ble_eq_true rfl⟩ (fun _ H locs _ hP hD hS => ?_)
    have hP : va_P D vwCl (sw cy am nS nB st bk gate nu (xw cy h ad nS nB st bk gate nu bt wt)) H := hP
    have hD : va_D A (sw cy am nS nB st bk gate nu (xw cy h ad nS nB st bk gate nu bt wt)) := hD
    refine W.eq (g2 := F0 m 108 ls [.int (nI (blw (x * 3) 901))]) rfl ?_
    have hk105 : blw (x * 3) 901 < 901 := blw_lt (by decide)
    generalize blw (x * 3) 901 = k105 at hk105 ⊢
    refine lv_istore (lv' := [(5, .int (nI k105)), (0, .ref h), (1, .ref (am 0)), (2, .int x), (3, .int (nI nS)), (4, .int (nI nB))]) hx hb dL_act_108 hl (by decide) rfl (fun ls hl => ?_)
    refine lv_iload_n hx hb dL_act_110 rfl (lv_at hl 3 rfl) ?_
    refine lv_iconst (v := 4) hx hb dL_act_111 (by decide) ?_
    refine lv_ishr hx hb dL_act_112 ?_
    refine lv_bipush (v := 51) hx hb dL_act_113 (by decide) ?_
    refine xcS (As := [.int (x >>> 4), .int 51]) (rest := []) ⟨hx, hb, hml, hown, hts⟩ (c_L_below l D cy (x >>> 4) 51 (by decide) (by decide)) (va_cwS 2 hts gL_act_L_below rfl rfl rfl (by decide +kernel) ⟨Nat.le_of_ble_eq_true rfl, Nat.le_of_ble_eq_true rfl⟩) hK hP hD hS hA (xE_nil) rfl hl.1 rfl (Nat.le_of_ble_eq_true rfl) dL_act_115 ⟨Nat.le_of_ble_eq_true rfl, Nat.le_of_ble_eq_true rfl⟩ (fun _ H locs _ hP hD hS => ?_)
    have hP : va_P D vwCl (sw cy am nS nB st bk gate nu (xw cy h ad nS nB st bk gate nu bt wt)) H := hP
    have hD : va_D A (sw cy am nS nB st bk gate nu (xw cy h ad nS nB st bk gate nu bt wt)) := hD
    refine W.eq (g2 := F0 m 118 ls [.int (nI (blw (x >>> 4) 51))]) rfl ?_
    have hk115 : blw (x >>> 4) 51 < 51 := blw_lt (by decide)
    generalize blw (x >>> 4) 51 = k115 at hk115 ⊢
    refine lv_istore (lv' := [(6, .int (nI k115)), (5, .int (nI k105)), (0, .ref h), (1, .ref (am 0)), (2, .int x), (3, .int (nI nS)), (4, .int (nI nB))]) hx hb dL_act_118 hl (by decide) rfl (fun ls hl => ?_)
    refine lv_aload_n hx hb dL_act_120 rfl (lv_at hl 3 rfl) ?_
    refine lv_aload_n hx hb dL_act_121 rfl (lv_at hl 3 rfl) ?_
    refine va_get (D := D) (ci := 4) (v := .ref (am 2)) (C := RX4) (T := TX4) (N := 9) hx hb hts hinX4 hown hK.1 hP 0 rfl rfl 2 (by decide) (hts (.fieldLink RL 9 "LoafMarksLaw$Sim" "stores" "[[I") (List.mem_of_getElem? (i := 1) rfl)) (fun _ h9 => h9) rfl dL_act_122 ?_
    refine lv_iconst (v := 3) hx hb dL_act_125 (by decide) ?_
    refine va_newa (atype := .int) (N' := 3) (a0 := (3, .inl (fun _ => 0))) hx hb (hts (.arrayClass .int) (List.mem_of_getElem? (i := 3) rfl)) rfl hK.1 hP hD hS hA (fun _ => rfl) (by decide) (by decide) (by decide) (Nat.le_of_ble_eq_true rfl) (Nat.le_of_ble_eq_true rfl) dL_act_126 (fun q126 cA H hK1 hP hD hS => ?_)
    obtain rfl : cA = cy 0 := x_cA hK.1 hK1 (i := 0) rfl rfl
    have hP : va_P D vwCl ((sw cy am nS nB st bk gate nu (xw cy h ad nS nB st bk gate nu bt wt)) ++ [(q126, .inl (cy 0, 3, .inl ((fun _ => 0))))]) H := hP
    have hD : va_D A ((sw cy am nS nB st bk gate nu (xw cy h ad nS nB st bk gate nu bt wt)) ++ [(q126, .inl (cy 0, 3, .inl ((fun _ => 0))))]) := hD
    refine lv_dup hx hb dL_act_128 rfl ?_
    refine lv_iconst (v := 0) hx hb dL_act_129 (by decide) ?_
    refine lv_iload hx hb dL_act_130 (lv_at hl 1 rfl) ?_
    refine xiast hx hb hK hP hD hS ((sw cy am nS nB st bk gate nu (xw cy h ad nS nB st bk gate nu bt wt)).length + 0) (at_r (k := 0) rfl) 0 (by decide) (by decide) (by decide) dL_act_132 (fun H locs hP hD hS => ?_)
    have hP : va_P D vwCl ((sw cy am nS nB st bk gate nu (xw cy h ad nS nB st bk gate nu bt wt)) ++ [(q126, .inl (cy 0, 3, .inl (upd (fun _ => 0) 0 (nI k105))))]) H := by rw [set_last0] at hP; exact hP
    have hD : va_D A ((sw cy am nS nB st bk gate nu (xw cy h ad nS nB st bk gate nu bt wt)) ++ [(q126, .inl (cy 0, 3, .inl (upd (fun _ => 0) 0 (nI k105))))]) := by rw [set_last0] at hD; exact hD
    refine lv_dup hx hb dL_act_133 rfl ?_
    refine lv_iconst (v := 1) hx hb dL_act_134 (by decide) ?_
    refine lv_iload hx hb dL_act_135 (lv_at hl 0 rfl) ?_
    refine xiast hx hb hK hP hD hS ((sw cy am nS nB st bk gate nu (xw cy h ad nS nB st bk gate nu bt wt)).length + 0) (at_r (k := 0) rfl) 1 (by decide) (by decide) (by decide) dL_act_137 (fun H locs hP hD hS => ?_)
    have hP : va_P D vwCl ((sw cy am nS nB st bk gate nu (xw cy h ad nS nB st bk gate nu bt wt)) ++ [(q126, .inl (cy 0, 3, .inl (upd (upd (fun _ => 0) 0 (nI k105)) 1 (nI k115))))]) H := by rw [set_last0] at hP; exact hP
    have hD : va_D A ((sw cy am nS nB st bk gate nu (xw cy h ad nS nB st bk gate nu bt wt)) ++ [(q126, .inl (cy 0, 3, .inl (upd (upd (fun _ => 0) 0 (nI k105)) 1 (nI k115))))]) := by rw [set_last0] at hD; exact hD
    refine lv_dup hx hb dL_act_138 rfl ?_
    refine lv_iconst (v := 2) hx hb dL_act_139 (by decide) ?_
    refine lv_iconst (v := 0) hx hb dL_act_140 (by decide) ?_
    refine xiast hx hb hK hP hD hS ((sw cy am nS nB st bk gate nu (xw cy h ad nS nB st bk gate nu bt wt)).length + 0) (at_r (k := 0) rfl) 2 (by decide) (by decide) (by decide) dL_act_141 (fun H locs hP hD hS => ?_)
    have hP : va_P D vwCl ((sw cy am nS nB st bk gate nu (xw cy h ad nS nB st bk gate nu bt wt)) ++ [(q126, .inl (cy 0, 3, .inl (upd (upd (upd (fun _ => 0) 0 (nI k105)) 1 (nI k115)) 2 0)))]) H := by rw [set_last0] at hP; exact hP
    have hD : va_D A ((sw cy am nS nB st bk gate nu (xw cy h ad nS nB st bk gate nu bt wt)) ++ [(q126, .inl (cy 0, 3, .inl (upd (upd (upd (fun _ => 0) 0 (nI k105)) 1 (nI k115)) 2 0)))]) := by rw [set_last0] at hD; exact hD
    refine xcS (As := [.ref (am 2), .ref q126]) (rest := [.ref (am 0)]) ⟨hx, hb, hml, hown, hts⟩ (c_X4_more l D cy (am 2) nS 3 (fun i => am (4 + i)) st q126 (upd (upd (upd (fun _ => 0) 0 (nI k105)) 1 (nI k115)) 2 0) (by omega)) (va_cwS 2 hts gL_act_X4_more rfl rfl rfl (by decide +kernel) ⟨Nat.le_of_ble_eq_true rfl, Nat.le_of_ble_eq_true rfl⟩) hK hP hD hS hA xE_moreS rfl hl.1 rfl (Nat.le_of_ble_eq_true rfl) dL_act_142 ⟨Nat.le_of_ble_eq_true rfl, Nat.le_of_ble_eq_true rfl⟩ (fun q142 H locs _ hP hD hS => ?_)
    refine W.eq (g2 := F0 m 145 ls [.ref q142, .ref (am 0)]) rfl ?_
    refine va_put (D := D) (ci := 4) (v := .ref q142) (ty := .array (.array .int)) (C := RX4) (T := TX4) (N := 9) hx hb hts hinX4 tyX4 tyX4_ok nmX4 hown hK.1 hP hD hS 0 rfl rfl 2 (by decide) (hts (.fieldLink RL 9 "LoafMarksLaw$Sim" "stores" "[[I") (List.mem_of_getElem? (i := 1) rfl)) (fun _ h9 => h9) rfl (by decide +kernel) rfl rfl (Nat.le_of_ble_eq_true rfl) dL_act_145 (fun H locs hP hD hS => ?_)
    have hP : va_P D vwCl (sw cy (grS am nS q142 q126) (nS + 1) nB (va_up st nS (upd (upd (upd (fun _ => 0) 0 (nI k105)) 1 (nI k115)) 2 0)) bk gate nu (xw cy h ad nS nB st bk gate nu bt wt)) H := grS_P hn4 hP
    have hD : va_D A (sw cy (grS am nS q142 q126) (nS + 1) nB (va_up st nS (upd (upd (upd (fun _ => 0) 0 (nI k105)) 1 (nI k115)) 2 0)) bk gate nu (xw cy h ad nS nB st bk gate nu bt wt)) := grS_D hn4 hD
    rw [newS_eq] at hP hD
    refine lv_aload_n hx hb dL_act_148 rfl (lv_at hl 2 rfl) ?_
    refine lv_iload hx hb dL_act_149 (lv_at hl 1 rfl) ?_
    refine lv_iload hx hb dL_act_151 (lv_at hl 0 rfl) ?_
    refine xcV (As := [.int (nI k105), .int (nI k115)]) (rest := []) ⟨hx, hb, hml, hown, hts⟩ (c_X3_open l D cy h ad nS nB st bk gate nu bt wt (nI k105) (nI k115) (bt_nI (a := 0) (k := k105) (b := 900) (by omega) (by omega) (by decide)) (bt_nI (a := 0) (k := k115) (b := 50) (by omega) (by omega) (by decide)) hn4) (cwV 2 hts gL_act_X3_open rfl rfl rfl (by decide +kernel) ⟨Nat.le_of_ble_eq_true rfl, Nat.le_of_ble_eq_true rfl⟩) hK hP hD hS hA rfl rfl rfl (xE_wr) rfl hl.1 rfl (Nat.le_of_ble_eq_true rfl) dL_act_153 ⟨Nat.le_of_ble_eq_true rfl, Nat.le_of_ble_eq_true rfl⟩ (fun qo H locs _ hP hD hS => ?_)
    have hP : va_P D vwCl (sw cy (grS am nS q142 q126) (nS + 1) nB (va_up st nS (newS (nI k105) (nI k115))) bk gate nu (xw cy h (va_up ad (4 + nS) qo) (nS + 1) nB (va_up st nS (newS (nI k105) (nI k115))) bk gate nu bt wt)) H := hP
    have hD : va_D A (sw cy (grS am nS q142 q126) (nS + 1) nB (va_up st nS (newS (nI k105) (nI k115))) bk gate nu (xw cy h (va_up ad (4 + nS) qo) (nS + 1) nB (va_up st nS (newS (nI k105) (nI k115))) bk gate nu bt wt)) := hD
    refine W.eq (g2 := F0 m 156 ls [.int (nI nS)]) rfl ?_
    refine lv_iload_n hx hb dL_act_156 rfl (lv_at hl 5 rfl) ?_
    refine lv_icmp_ne (tgt := 164) hx hb dL_act_157 (by decide) (fun z => absurd rfl z) (fun _ => ?_)
    refine lv_iconst (v := 1) hx hb dL_act_160 (by decide) ?_
    refine lv_goto (tgt := 165) hx hb dL_act_161 (by decide) ?_
    exact xrz (grS am nS q142 q126, va_up ad (4 + nS) qo, nS + 1, nB, (va_up st nS (newS (nI k105) (nI k115)), bk, nu), gate) hx hb hr hlocks hS (Nat.le_of_ble_eq_true rfl) (Nat.le_of_ble_eq_true rfl) dL_act_165 (by decide) hP hD rfl ⟨jinv_open hI (rg_nI (a := 0) (k := k105) (b := 900) (by omega) (by omega) (by decide)) (rg_nI (a := 0) (k := k115) (b := 50) (by omega) (by omega) (by decide)), Nat.le_succ_of_le htS, htB, hn4, hcB, by show grS am nS q142 q126 0 = am 0; unfold grS; rw [up_ne (by omega), up_ne (by omega)]⟩
  · refine lv_iload_n hx hb dL_act_92 rfl (lv_at hl 3 rfl) ?_
    refine lv_iconst (v := 4) hx hb dL_act_93 (by decide) ?_
    refine lv_icmp_ne (tgt := 99) hx hb dL_act_94 (by decide) (fun z => absurd (by rw [show nS = 4 by omega]; rfl) z) (fun _ => ?_)
    refine lv_iconst (v := 1) hx hb dL_act_97 (by decide) ?_
    exact xrz (am, ad, nS, nB, (st, bk, nu), gate) hx hb hr hlocks hS (Nat.le_of_ble_eq_true rfl) (Nat.le_of_ble_eq_true rfl) dL_act_98 (by decide) hP hD rfl ⟨hI, htS, htB, hcS, hcB, rfl⟩

set_option maxHeartbeats 4000000 in
set_option maxRecDepth 100000 in
/-- a baker -/
theorem a_166 {p : Program} {l : Launch} {e : Env} {s : State} {m : MethodId} {below : List Frame} {meth : Method} {c : Code} {D : va_G} {cy : Nat → ClassId} {A : Nat → Prop} {h : Nat} {am ad : Nat → Nat} {nS nB tS tB : Nat} {st bk : Nat → Iu} {gate nu : Iu} {bt : Nat} {wt : va_W} {hq : Nat} {x : Int32} (F : aF p s m meth c D cy A h (am 0) x) (hI : jInv nS nB gate hq (st, bk, nu)) (htS : tS ≤ nS) (htB : tB ≤ nB) (hcS : nS ≤ 4) (hcB : nB ≤ 6) (hn0 : 0 < nS) : aS p l e s m below meth c D cy A h (am 0) x bt wt hq tS tB 166 [(0, .ref h), (1, .ref (am 0)), (2, .int x), (3, .int (nI nS)), (4, .int (nI nB))] (sw cy am nS nB st bk gate nu (xw cy h ad nS nB st bk gate nu bt wt)) := by
  obtain ⟨hx, hb, hts, hown, hlocks, hml, hK, hA, hr⟩ := F
  intro H locs ls hP hD hS hl
  have hinX4 : ∀ w ∈ wsX40, w ∈ wsL_act := fun _ h => List.mem_cons_of_mem _ (List.mem_append_left _ (List.mem_append_left _ (List.mem_append_left _ (List.mem_append_left _ (List.mem_append_left _ (List.mem_append_left _ (List.mem_append_left _ (List.mem_append_right _ h))))))))
  rcases Nat.lt_or_ge nB 6 with hn6 | hn6
  · refine lv_iload_n hx hb dL_act_166 rfl (lv_at hl 2 rfl) ?_
    refine lv_iconst (v := 2) hx hb dL_act_167 (by decide) ?_
    refine lv_ishr hx hb dL_act_168 ?_
    refine lv_bipush (v := 26) hx hb dL_act_169 (by decide) ?_
    refine xcS (As := [.int (x >>> 2), .int 26]) (rest := []) ⟨hx, hb, hml, hown, hts⟩ (c_L_below l D cy (x >>> 2) 26 (by decide) (by decide)) (va_cwS 2 hts gL_act_L_below rfl rfl rfl (by decide +kernel) ⟨Nat.le_of_ble_eq_true rfl, Nat.le_of_ble_eq_true rfl⟩) hK hP hD hS hA (xE_nil) rfl hl.1 rfl (Nat.le_of_ble_eq_true rfl) dL_act_171 ⟨Nat.le_of_ble_eq_true rfl, Nat.le_of_ble_eq_true rfl⟩ (fun _ H locs _ hP hD hS => ?_)
    have hP : va_P D vwCl (sw cy am nS nB st bk gate nu (xw cy h ad nS nB st bk gate nu bt wt)) H := hP
    have hD : va_D A (sw cy am nS nB st bk gate nu (xw cy h ad nS nB st bk gate nu bt wt)) := hD
    refine W.eq (g2 := F0 m 174 ls [.int (nI (blw (x >>> 2) 26))]) rfl ?_
    have hk171 : blw (x >>> 2) 26 < 26 := blw_lt (by decide)
    generalize blw (x >>> 2) 26 = k171 at hk171 ⊢
    refine lv_istore (lv' := [(7, .int (nI k171)), (0, .ref h), (1, .ref (am 0)), (2, .int x), (3, .int (nI nS)), (4, .int (nI nB))]) hx hb dL_act_174 hl (by decide) rfl (fun ls hl => ?_)
    refine lv_iload hx hb dL_act_176 (lv_at hl 5 rfl) ?_
    refine lv_bipush (v := 6) hx hb dL_act_178 (by decide) ?_
    refine lv_icmp_eq (tgt := 192) hx hb dL_act_180 (by decide) (fun z => absurd z (fun z => absurd ((nI_eq (a := nB) (b := 6) (by omega) (by decide)).mp z) (by omega))) (fun _ => ?_)
    refine lv_aload_n hx hb dL_act_183 rfl (lv_at hl 2 rfl) ?_
    refine lv_iload hx hb dL_act_184 (lv_at hl 0 rfl) ?_
    refine xcV (As := [.int (nI k171)]) (rest := []) ⟨hx, hb, hml, hown, hts⟩ (c_X4_owner l D cy am nS nB st bk gate nu (nI k171) hcS hcB) (cwV 1 hts gL_act_X4_owner rfl rfl rfl (by decide +kernel) ⟨Nat.le_of_ble_eq_true rfl, Nat.le_of_ble_eq_true rfl⟩) hK hP hD hS hA rfl rfl rfl (xE_sw) rfl hl.1 rfl (Nat.le_of_ble_eq_true rfl) dL_act_186 ⟨Nat.le_of_ble_eq_true rfl, Nat.le_of_ble_eq_true rfl⟩ (fun _ H locs _ hP hD hS => ?_)
    have hP : va_P D vwCl (sw cy am nS nB st bk gate nu (xw cy h ad nS nB st bk gate nu bt wt)) H := hP
    have hD : va_D A (sw cy am nS nB st bk gate nu (xw cy h ad nS nB st bk gate nu bt wt)) := hD
    refine W.eq (g2 := F0 m 189 ls [.int (ownF bk (nI k171) nB 0)]) rfl ?_
    refine lv_if_lt (tgt := 194) hx hb dL_act_189 (by decide) (fun hno => ?_) (fun hno => ?_)
    · refine lv_iload_n hx hb dL_act_194 rfl (lv_at hl 3 rfl) ?_
      refine lv_iload_n hx hb dL_act_195 rfl (lv_at hl 4 rfl) ?_
      refine xcS (As := [.int x, .int (nI nS)]) (rest := []) ⟨hx, hb, hml, hown, hts⟩ (c_L_below l D cy x nS hn0 (by omega)) (va_cwS 2 hts gL_act_L_below rfl rfl rfl (by decide +kernel) ⟨Nat.le_of_ble_eq_true rfl, Nat.le_of_ble_eq_true rfl⟩) hK hP hD hS hA (xE_nil) rfl hl.1 rfl (Nat.le_of_ble_eq_true rfl) dL_act_196 ⟨Nat.le_of_ble_eq_true rfl, Nat.le_of_ble_eq_true rfl⟩ (fun _ H locs _ hP hD hS => ?_)
      have hP : va_P D vwCl (sw cy am nS nB st bk gate nu (xw cy h ad nS nB st bk gate nu bt wt)) H := hP
      have hD : va_D A (sw cy am nS nB st bk gate nu (xw cy h ad nS nB st bk gate nu bt wt)) := hD
      refine W.eq (g2 := F0 m 199 ls [.int (nI (blw x nS))]) rfl ?_
      have hk196 : blw x nS < nS := blw_lt hn0
      generalize blw x nS = k196 at hk196 ⊢
      refine lv_istore (lv' := [(8, .int (nI k196)), (7, .int (nI k171)), (0, .ref h), (1, .ref (am 0)), (2, .int x), (3, .int (nI nS)), (4, .int (nI nB))]) hx hb dL_act_199 hl (by decide) rfl (fun ls hl => ?_)
      refine lv_iconst (v := 5) hx hb dL_act_201 (by decide) ?_
      refine lv_iload_n hx hb dL_act_202 rfl (lv_at hl 4 rfl) ?_
      refine lv_iconst (v := 3) hx hb dL_act_203 (by decide) ?_
      refine lv_ishr hx hb dL_act_204 ?_
      refine lv_bipush (v := 8) hx hb dL_act_205 (by decide) ?_
      refine xcS (As := [.int (x >>> 3), .int 8]) (rest := [.int 5]) ⟨hx, hb, hml, hown, hts⟩ (c_L_below l D cy (x >>> 3) 8 (by decide) (by decide)) (va_cwS 2 hts gL_act_L_below rfl rfl rfl (by decide +kernel) ⟨Nat.le_of_ble_eq_true rfl, Nat.le_of_ble_eq_true rfl⟩) hK hP hD hS hA (xE_nil) rfl hl.1 rfl (Nat.le_of_ble_eq_true rfl) dL_act_207 ⟨Nat.le_of_ble_eq_true rfl, Nat.le_of_ble_eq_true rfl⟩ (fun _ H locs _ hP hD hS => ?_)
      have hP : va_P D vwCl (sw cy am nS nB st bk gate nu (xw cy h ad nS nB st bk gate nu bt wt)) H := hP
      have hD : va_D A (sw cy am nS nB st bk gate nu (xw cy h ad nS nB st bk gate nu bt wt)) := hD
      refine W.eq (g2 := F0 m 210 ls [.int (nI (blw (x >>> 3) 8)), .int 5]) rfl ?_
      have hk207 : blw (x >>> 3) 8 < 8 := blw_lt (by decide)
      generalize blw (x >>> 3) 8 = k207 at hk207 ⊢
      refine lv_iadd hx hb dL_act_210 ?_
      refine W.eq (g2 := F0 m 211 ls [.int (nI (5 + k207))]) (by rw [show (5 : Int32) + nI k207 = nI (5 + k207) from nI_add 5 k207]) ?_
      refine lv_istore (lv' := [(9, .int (nI (5 + k207))), (8, .int (nI k196)), (7, .int (nI k171)), (0, .ref h), (1, .ref (am 0)), (2, .int x), (3, .int (nI nS)), (4, .int (nI nB))]) hx hb dL_act_211 hl (by decide) rfl (fun ls hl => ?_)
      refine lv_iload_n hx hb dL_act_213 rfl (lv_at hl 5 rfl) ?_
      refine lv_iconst (v := 1) hx hb dL_act_214 (by decide) ?_
      refine lv_ishr hx hb dL_act_215 ?_
      refine lv_bipush (v := 91) hx hb dL_act_216 (by decide) ?_
      refine xcS (As := [.int (x >>> 1), .int 91]) (rest := []) ⟨hx, hb, hml, hown, hts⟩ (c_L_below l D cy (x >>> 1) 91 (by decide) (by decide)) (va_cwS 2 hts gL_act_L_below rfl rfl rfl (by decide +kernel) ⟨Nat.le_of_ble_eq_true rfl, Nat.le_of_ble_eq_true rfl⟩) hK hP hD hS hA (xE_nil) rfl hl.1 rfl (Nat.le_of_ble_eq_true rfl) dL_act_218 ⟨Nat.le_of_ble_eq_true rfl, Nat.le_of_ble_eq_true rfl⟩ (fun _ H locs _ hP hD hS => ?_)
      have hP : va_P D vwCl (sw cy am nS nB st bk gate nu (xw cy h ad nS nB st bk gate nu bt wt)) H := hP
      have hD : va_D A (sw cy am nS nB st bk gate nu (xw cy h ad nS nB st bk gate nu bt wt)) := hD
      refine W.eq (g2 := F0 m 221 ls [.int (nI (blw (x >>> 1) 91))]) rfl ?_
      have hk218 : blw (x >>> 1) 91 < 91 := blw_lt (by decide)
      generalize blw (x >>> 1) 91 = k218 at hk218 ⊢
      refine lv_istore (lv' := [(10, .int (nI k218)), (9, .int (nI (5 + k207))), (8, .int (nI k196)), (7, .int (nI k171)), (0, .ref h), (1, .ref (am 0)), (2, .int x), (3, .int (nI nS)), (4, .int (nI nB))]) hx hb dL_act_221 hl (by decide) rfl (fun ls hl => ?_)
      refine lv_aload_n hx hb dL_act_223 rfl (lv_at hl 5 rfl) ?_
      refine lv_aload_n hx hb dL_act_224 rfl (lv_at hl 5 rfl) ?_
      refine va_get (D := D) (ci := 4) (v := .ref (am 3)) (C := RX4) (T := TX4) (N := 9) hx hb hts hinX4 hown hK.1 hP 0 rfl rfl 3 (by decide) (hts (.fieldLink RL 15 "LoafMarksLaw$Sim" "bakers" "[[I") (List.mem_of_getElem? (i := 2) rfl)) (fun _ h9 => h9) rfl dL_act_225 ?_
      refine lv_bipush (v := 8) hx hb dL_act_228 (by decide) ?_
      refine va_newa (atype := .int) (N' := 8) (a0 := (8, .inl (fun _ => 0))) hx hb (hts (.arrayClass .int) (List.mem_of_getElem? (i := 3) rfl)) rfl hK.1 hP hD hS hA (fun _ => rfl) (by decide) (by decide) (by decide) (Nat.le_of_ble_eq_true rfl) (Nat.le_of_ble_eq_true rfl) dL_act_230 (fun q230 cA H hK1 hP hD hS => ?_)
      obtain rfl : cA = cy 0 := x_cA hK.1 hK1 (i := 0) rfl rfl
      have hP : va_P D vwCl ((sw cy am nS nB st bk gate nu (xw cy h ad nS nB st bk gate nu bt wt)) ++ [(q230, .inl (cy 0, 8, .inl ((fun _ => 0))))]) H := hP
      have hD : va_D A ((sw cy am nS nB st bk gate nu (xw cy h ad nS nB st bk gate nu bt wt)) ++ [(q230, .inl (cy 0, 8, .inl ((fun _ => 0))))]) := hD
      refine lv_dup hx hb dL_act_232 rfl ?_
      refine lv_iconst (v := 0) hx hb dL_act_233 (by decide) ?_
      refine lv_iload hx hb dL_act_234 (lv_at hl 2 rfl) ?_
      refine xiast hx hb hK hP hD hS ((sw cy am nS nB st bk gate nu (xw cy h ad nS nB st bk gate nu bt wt)).length + 0) (at_r (k := 0) rfl) 0 (by decide) (by decide) (by decide) dL_act_236 (fun H locs hP hD hS => ?_)
      have hP : va_P D vwCl ((sw cy am nS nB st bk gate nu (xw cy h ad nS nB st bk gate nu bt wt)) ++ [(q230, .inl (cy 0, 8, .inl (upd (fun _ => 0) 0 (nI k196))))]) H := by rw [set_last0] at hP; exact hP
      have hD : va_D A ((sw cy am nS nB st bk gate nu (xw cy h ad nS nB st bk gate nu bt wt)) ++ [(q230, .inl (cy 0, 8, .inl (upd (fun _ => 0) 0 (nI k196))))]) := by rw [set_last0] at hD; exact hD
      refine lv_dup hx hb dL_act_237 rfl ?_
      refine lv_iconst (v := 1) hx hb dL_act_238 (by decide) ?_
      refine lv_iload hx hb dL_act_239 (lv_at hl 3 rfl) ?_
      refine xiast hx hb hK hP hD hS ((sw cy am nS nB st bk gate nu (xw cy h ad nS nB st bk gate nu bt wt)).length + 0) (at_r (k := 0) rfl) 1 (by decide) (by decide) (by decide) dL_act_241 (fun H locs hP hD hS => ?_)
      have hP : va_P D vwCl ((sw cy am nS nB st bk gate nu (xw cy h ad nS nB st bk gate nu bt wt)) ++ [(q230, .inl (cy 0, 8, .inl (upd (upd (fun _ => 0) 0 (nI k196)) 1 (nI k171))))]) H := by rw [set_last0] at hP; exact hP
      have hD : va_D A ((sw cy am nS nB st bk gate nu (xw cy h ad nS nB st bk gate nu bt wt)) ++ [(q230, .inl (cy 0, 8, .inl (upd (upd (fun _ => 0) 0 (nI k196)) 1 (nI k171))))]) := by rw [set_last0] at hD; exact hD
      refine lv_dup hx hb dL_act_242 rfl ?_
      refine lv_iconst (v := 2) hx hb dL_act_243 (by decide) ?_
      refine lv_iload hx hb dL_act_244 (lv_at hl 0 rfl) ?_
      refine xiast hx hb hK hP hD hS ((sw cy am nS nB st bk gate nu (xw cy h ad nS nB st bk gate nu bt wt)).length + 0) (at_r (k := 0) rfl) 2 (by decide) (by decide) (by decide) dL_act_246 (fun H locs hP hD hS => ?_)
      have hP : va_P D vwCl ((sw cy am nS nB st bk gate nu (xw cy h ad nS nB st bk gate nu bt wt)) ++ [(q230, .inl (cy 0, 8, .inl (upd (upd (upd (fun _ => 0) 0 (nI k196)) 1 (nI k171)) 2 (nI k218))))]) H := by rw [set_last0] at hP; exact hP
      have hD : va_D A ((sw cy am nS nB st bk gate nu (xw cy h ad nS nB st bk gate nu bt wt)) ++ [(q230, .inl (cy 0, 8, .inl (upd (upd (upd (fun _ => 0) 0 (nI k196)) 1 (nI k171)) 2 (nI k218))))]) := by rw [set_last0] at hD; exact hD
      refine lv_dup hx hb dL_act_247 rfl ?_
      refine lv_iconst (v := 3) hx hb dL_act_248 (by decide) ?_
      refine lv_iconst (v := 0) hx hb dL_act_249 (by decide) ?_
      refine xiast hx hb hK hP hD hS ((sw cy am nS nB st bk gate nu (xw cy h ad nS nB st bk gate nu bt wt)).length + 0) (at_r (k := 0) rfl) 3 (by decide) (by decide) (by decide) dL_act_250 (fun H locs hP hD hS => ?_)
      have hP : va_P D vwCl ((sw cy am nS nB st bk gate nu (xw cy h ad nS nB st bk gate nu bt wt)) ++ [(q230, .inl (cy 0, 8, .inl (upd (upd (upd (upd (fun _ => 0) 0 (nI k196)) 1 (nI k171)) 2 (nI k218)) 3 0)))]) H := by rw [set_last0] at hP; exact hP
      have hD : va_D A ((sw cy am nS nB st bk gate nu (xw cy h ad nS nB st bk gate nu bt wt)) ++ [(q230, .inl (cy 0, 8, .inl (upd (upd (upd (upd (fun _ => 0) 0 (nI k196)) 1 (nI k171)) 2 (nI k218)) 3 0)))]) := by rw [set_last0] at hD; exact hD
      refine lv_dup hx hb dL_act_251 rfl ?_
      refine lv_iconst (v := 4) hx hb dL_act_252 (by decide) ?_
      refine lv_iload hx hb dL_act_253 (lv_at hl 1 rfl) ?_
      refine xiast hx hb hK hP hD hS ((sw cy am nS nB st bk gate nu (xw cy h ad nS nB st bk gate nu bt wt)).length + 0) (at_r (k := 0) rfl) 4 (by decide) (by decide) (by decide) dL_act_255 (fun H locs hP hD hS => ?_)
      have hP : va_P D vwCl ((sw cy am nS nB st bk gate nu (xw cy h ad nS nB st bk gate nu bt wt)) ++ [(q230, .inl (cy 0, 8, .inl (upd (upd (upd (upd (upd (fun _ => 0) 0 (nI k196)) 1 (nI k171)) 2 (nI k218)) 3 0) 4 (nI (5 + k207)))))]) H := by rw [set_last0] at hP; exact hP
      have hD : va_D A ((sw cy am nS nB st bk gate nu (xw cy h ad nS nB st bk gate nu bt wt)) ++ [(q230, .inl (cy 0, 8, .inl (upd (upd (upd (upd (upd (fun _ => 0) 0 (nI k196)) 1 (nI k171)) 2 (nI k218)) 3 0) 4 (nI (5 + k207)))))]) := by rw [set_last0] at hD; exact hD
      refine lv_dup hx hb dL_act_256 rfl ?_
      refine lv_iconst (v := 5) hx hb dL_act_257 (by decide) ?_
      refine lv_iconst (v := 0) hx hb dL_act_258 (by decide) ?_
      refine xiast hx hb hK hP hD hS ((sw cy am nS nB st bk gate nu (xw cy h ad nS nB st bk gate nu bt wt)).length + 0) (at_r (k := 0) rfl) 5 (by decide) (by decide) (by decide) dL_act_259 (fun H locs hP hD hS => ?_)
      have hP : va_P D vwCl ((sw cy am nS nB st bk gate nu (xw cy h ad nS nB st bk gate nu bt wt)) ++ [(q230, .inl (cy 0, 8, .inl (upd (upd (upd (upd (upd (upd (fun _ => 0) 0 (nI k196)) 1 (nI k171)) 2 (nI k218)) 3 0) 4 (nI (5 + k207))) 5 0)))]) H := by rw [set_last0] at hP; exact hP
      have hD : va_D A ((sw cy am nS nB st bk gate nu (xw cy h ad nS nB st bk gate nu bt wt)) ++ [(q230, .inl (cy 0, 8, .inl (upd (upd (upd (upd (upd (upd (fun _ => 0) 0 (nI k196)) 1 (nI k171)) 2 (nI k218)) 3 0) 4 (nI (5 + k207))) 5 0)))]) := by rw [set_last0] at hD; exact hD
      refine lv_dup hx hb dL_act_260 rfl ?_
      refine lv_bipush (v := 6) hx hb dL_act_261 (by decide) ?_
      refine lv_iconst (v := 0) hx hb dL_act_263 (by decide) ?_
      refine xiast hx hb hK hP hD hS ((sw cy am nS nB st bk gate nu (xw cy h ad nS nB st bk gate nu bt wt)).length + 0) (at_r (k := 0) rfl) 6 (by decide) (by decide) (by decide) dL_act_264 (fun H locs hP hD hS => ?_)
      have hP : va_P D vwCl ((sw cy am nS nB st bk gate nu (xw cy h ad nS nB st bk gate nu bt wt)) ++ [(q230, .inl (cy 0, 8, .inl (upd (upd (upd (upd (upd (upd (upd (fun _ => 0) 0 (nI k196)) 1 (nI k171)) 2 (nI k218)) 3 0) 4 (nI (5 + k207))) 5 0) 6 0)))]) H := by rw [set_last0] at hP; exact hP
      have hD : va_D A ((sw cy am nS nB st bk gate nu (xw cy h ad nS nB st bk gate nu bt wt)) ++ [(q230, .inl (cy 0, 8, .inl (upd (upd (upd (upd (upd (upd (upd (fun _ => 0) 0 (nI k196)) 1 (nI k171)) 2 (nI k218)) 3 0) 4 (nI (5 + k207))) 5 0) 6 0)))]) := by rw [set_last0] at hD; exact hD
      refine lv_dup hx hb dL_act_265 rfl ?_
      refine lv_bipush (v := 7) hx hb dL_act_266 (by decide) ?_
      refine lv_iconst (v := 0) hx hb dL_act_268 (by decide) ?_
      refine xiast hx hb hK hP hD hS ((sw cy am nS nB st bk gate nu (xw cy h ad nS nB st bk gate nu bt wt)).length + 0) (at_r (k := 0) rfl) 7 (by decide) (by decide) (by decide) dL_act_269 (fun H locs hP hD hS => ?_)
      have hP : va_P D vwCl ((sw cy am nS nB st bk gate nu (xw cy h ad nS nB st bk gate nu bt wt)) ++ [(q230, .inl (cy 0, 8, .inl (upd (upd (upd (upd (upd (upd (upd (upd (fun _ => 0) 0 (nI k196)) 1 (nI k171)) 2 (nI k218)) 3 0) 4 (nI (5 + k207))) 5 0) 6 0) 7 0)))]) H := by rw [set_last0] at hP; exact hP
      have hD : va_D A ((sw cy am nS nB st bk gate nu (xw cy h ad nS nB st bk gate nu bt wt)) ++ [(q230, .inl (cy 0, 8, .inl (upd (upd (upd (upd (upd (upd (upd (upd (fun _ => 0) 0 (nI k196)) 1 (nI k171)) 2 (nI k218)) 3 0) 4 (nI (5 + k207))) 5 0) 6 0) 7 0)))]) := by rw [set_last0] at hD; exact hD
      refine xcS (As := [.ref (am 3), .ref q230]) (rest := [.ref (am 0)]) ⟨hx, hb, hml, hown, hts⟩ (c_X4_more l D cy (am 3) nB 8 (fun i => am (8 + i)) bk q230 (upd (upd (upd (upd (upd (upd (upd (upd (fun _ => 0) 0 (nI k196)) 1 (nI k171)) 2 (nI k218)) 3 0) 4 (nI (5 + k207))) 5 0) 6 0) 7 0) (by omega)) (va_cwS 2 hts gL_act_X4_more rfl rfl rfl (by decide +kernel) ⟨Nat.le_of_ble_eq_true rfl, Nat.le_of_ble_eq_true rfl⟩) hK hP hD hS hA xE_moreB rfl hl.1 rfl (Nat.le_of_ble_eq_true rfl) dL_act_270 ⟨Nat.le_of_ble_eq_true rfl, Nat.le_of_ble_eq_true rfl⟩ (fun q270 H locs _ hP hD hS => ?_)
      refine W.eq (g2 := F0 m 273 ls [.ref q270, .ref (am 0)]) rfl ?_
      refine va_put (D := D) (ci := 4) (v := .ref q270) (ty := .array (.array .int)) (C := RX4) (T := TX4) (N := 9) hx hb hts hinX4 tyX4 tyX4_ok nmX4 hown hK.1 hP hD hS 0 rfl rfl 3 (by decide) (hts (.fieldLink RL 15 "LoafMarksLaw$Sim" "bakers" "[[I") (List.mem_of_getElem? (i := 2) rfl)) (fun _ h9 => h9) rfl (by decide +kernel) rfl rfl (Nat.le_of_ble_eq_true rfl) dL_act_273 (fun H locs hP hD hS => ?_)
      have hP : va_P D vwCl (sw cy (grB am nB q270 q230) nS (nB + 1) st (va_up bk nB (upd (upd (upd (upd (upd (upd (upd (upd (fun _ => 0) 0 (nI k196)) 1 (nI k171)) 2 (nI k218)) 3 0) 4 (nI (5 + k207))) 5 0) 6 0) 7 0)) gate nu (xw cy h ad nS nB st bk gate nu bt wt)) H := grB_P hcS hP
      have hD : va_D A (sw cy (grB am nB q270 q230) nS (nB + 1) st (va_up bk nB (upd (upd (upd (upd (upd (upd (upd (upd (fun _ => 0) 0 (nI k196)) 1 (nI k171)) 2 (nI k218)) 3 0) 4 (nI (5 + k207))) 5 0) 6 0) 7 0)) gate nu (xw cy h ad nS nB st bk gate nu bt wt)) := grB_D hcS hD
      rw [newB_eq] at hP hD
      refine lv_aload_n hx hb dL_act_276 rfl (lv_at hl 4 rfl) ?_
      refine lv_iload hx hb dL_act_277 (lv_at hl 2 rfl) ?_
      refine lv_iload hx hb dL_act_279 (lv_at hl 3 rfl) ?_
      refine lv_iload hx hb dL_act_281 (lv_at hl 1 rfl) ?_
      refine lv_iload hx hb dL_act_283 (lv_at hl 0 rfl) ?_
      refine xcV (As := [.int (nI k196), .int (nI k171), .int (nI (5 + k207)), .int (nI k218)]) (rest := []) ⟨hx, hb, hml, hown, hts⟩ (c_X3_swear l D cy h ad nS nB st bk gate nu bt wt k196 hk196 (nI k171) (nI (5 + k207)) (nI k218) (bt_nI (a := 0) (k := k171) (b := 25) (by omega) (by omega) (by decide)) (bt_nI (a := 5) (k := (5 + k207)) (b := 12) (by omega) (by omega) (by decide)) (bt_nI (a := 0) (k := k218) (b := 90) (by omega) (by omega) (by decide)) hno (by omega) hcS hcB) (cwV 4 hts gL_act_X3_swear rfl rfl rfl (by decide +kernel) ⟨Nat.le_of_ble_eq_true rfl, Nat.le_of_ble_eq_true rfl⟩) hK hP hD hS hA rfl rfl rfl (xE_wr) rfl hl.1 rfl (Nat.le_of_ble_eq_true rfl) dL_act_285 ⟨Nat.le_of_ble_eq_true rfl, Nat.le_of_ble_eq_true rfl⟩ (fun qo H locs _ hP hD hS => ?_)
      have hP : va_P D vwCl (sw cy (grB am nB q270 q230) nS (nB + 1) st (va_up bk nB (newB (nI k196) (nI k171) (nI (5 + k207)) (nI k218))) gate nu (xw cy h (va_up ad (8 + nB) qo) nS (nB + 1) st (va_up bk nB (newB (nI k196) (nI k171) (nI (5 + k207)) (nI k218))) gate nu bt wt)) H := hP
      have hD : va_D A (sw cy (grB am nB q270 q230) nS (nB + 1) st (va_up bk nB (newB (nI k196) (nI k171) (nI (5 + k207)) (nI k218))) gate nu (xw cy h (va_up ad (8 + nB) qo) nS (nB + 1) st (va_up bk nB (newB (nI k196) (nI k171) (nI (5 + k207)) (nI k218))) gate nu bt wt)) := hD
      refine W.eq (g2 := F0 m 288 ls [.int (nI nB)]) rfl ?_
      refine lv_iload hx hb dL_act_288 (lv_at hl 8 rfl) ?_
      refine lv_icmp_ne (tgt := 297) hx hb dL_act_290 (by decide) (fun z => absurd rfl z) (fun _ => ?_)
      refine lv_iconst (v := 1) hx hb dL_act_293 (by decide) ?_
      refine lv_goto (tgt := 298) hx hb dL_act_294 (by decide) ?_
      exact xrz (grB am nB q270 q230, va_up ad (8 + nB) qo, nS, nB + 1, (st, va_up bk nB (newB (nI k196) (nI k171) (nI (5 + k207)) (nI k218)), nu), gate) hx hb hr hlocks hS (Nat.le_of_ble_eq_true rfl) (Nat.le_of_ble_eq_true rfl) dL_act_298 (by decide) hP hD rfl ⟨jinv_swear hI hk196 (by omega) (rg_nI (a := 0) (k := k171) (b := 25) (by omega) (by omega) (by decide)) (rg_nI (a := 5) (k := (5 + k207)) (b := 12) (by omega) (by omega) (by decide)) (rg_nI (a := 0) (k := k218) (b := 90) (by omega) (by omega) (by decide)) hno, htS, Nat.le_succ_of_le htB, hcS, hn6, by show grB am nB q270 q230 0 = am 0; unfold grB; rw [up_ne (by omega), up_ne (by omega)]⟩
    · refine lv_iconst (v := 1) hx hb dL_act_192 (by decide) ?_
      exact xrz (am, ad, nS, nB, (st, bk, nu), gate) hx hb hr hlocks hS (Nat.le_of_ble_eq_true rfl) (Nat.le_of_ble_eq_true rfl) dL_act_193 (by decide) hP hD rfl ⟨hI, htS, htB, hcS, hcB, rfl⟩
  · refine lv_iload_n hx hb dL_act_166 rfl (lv_at hl 2 rfl) ?_
    refine lv_iconst (v := 2) hx hb dL_act_167 (by decide) ?_
    refine lv_ishr hx hb dL_act_168 ?_
    refine lv_bipush (v := 26) hx hb dL_act_169 (by decide) ?_
    refine xcS (As := [.int (x >>> 2), .int 26]) (rest := []) ⟨hx, hb, hml, hown, hts⟩ (c_L_below l D cy (x >>> 2) 26 (by decide) (by decide)) (va_cwS 2 hts gL_act_L_below rfl rfl rfl (by decide +kernel) ⟨Nat.le_of_ble_eq_true rfl, Nat.le_of_ble_eq_true rfl⟩) hK hP hD hS hA (xE_nil) rfl hl.1 rfl (Nat.le_of_ble_eq_true rfl) dL_act_171 ⟨Nat.le_of_ble_eq_true rfl, Nat.le_of_ble_eq_true rfl⟩ (fun _ H locs _ hP hD hS => ?_)
    have hP : va_P D vwCl (sw cy am nS nB st bk gate nu (xw cy h ad nS nB st bk gate nu bt wt)) H := hP
    have hD : va_D A (sw cy am nS nB st bk gate nu (xw cy h ad nS nB st bk gate nu bt wt)) := hD
    refine W.eq (g2 := F0 m 174 ls [.int (nI (blw (x >>> 2) 26))]) rfl ?_
    have hk171 : blw (x >>> 2) 26 < 26 := blw_lt (by decide)
    generalize blw (x >>> 2) 26 = k171 at hk171 ⊢
    refine lv_istore (lv' := [(7, .int (nI k171)), (0, .ref h), (1, .ref (am 0)), (2, .int x), (3, .int (nI nS)), (4, .int (nI nB))]) hx hb dL_act_174 hl (by decide) rfl (fun ls hl => ?_)
    refine lv_iload hx hb dL_act_176 (lv_at hl 5 rfl) ?_
    refine lv_bipush (v := 6) hx hb dL_act_178 (by decide) ?_
    refine lv_icmp_eq (tgt := 192) hx hb dL_act_180 (by decide) (fun _ => ?_) (fun z => absurd (by rw [show nB = 6 by omega]; rfl) z)
    refine lv_iconst (v := 1) hx hb dL_act_192 (by decide) ?_
    exact xrz (am, ad, nS, nB, (st, bk, nu), gate) hx hb hr hlocks hS (Nat.le_of_ble_eq_true rfl) (Nat.le_of_ble_eq_true rfl) dL_act_193 (by decide) hP hD rfl ⟨hI, htS, htB, hcS, hcB, rfl⟩

set_option maxHeartbeats 4000000 in
set_option maxRecDepth 100000 in
/-- people -/
theorem a_299 {p : Program} {l : Launch} {e : Env} {s : State} {m : MethodId} {below : List Frame} {meth : Method} {c : Code} {D : va_G} {cy : Nat → ClassId} {A : Nat → Prop} {h : Nat} {am ad : Nat → Nat} {nS nB tS tB : Nat} {st bk : Nat → Iu} {gate nu : Iu} {bt : Nat} {wt : va_W} {hq : Nat} {x : Int32} (F : aF p s m meth c D cy A h (am 0) x) (hI : jInv nS nB gate hq (st, bk, nu)) (htS : tS ≤ nS) (htB : tB ≤ nB) (hcS : nS ≤ 4) (hcB : nB ≤ 6)  : aS p l e s m below meth c D cy A h (am 0) x bt wt hq tS tB 299 [(0, .ref h), (1, .ref (am 0)), (2, .int x), (3, .int (nI nS)), (4, .int (nI nB))] (sw cy am nS nB st bk gate nu (xw cy h ad nS nB st bk gate nu bt wt)) := by
  obtain ⟨hx, hb, hts, hown, hlocks, hml, hK, hA, hr⟩ := F
  intro H locs ls hP hD hS hl
  have hinX4 : ∀ w ∈ wsX40, w ∈ wsL_act := fun _ h => List.mem_cons_of_mem _ (List.mem_append_left _ (List.mem_append_left _ (List.mem_append_left _ (List.mem_append_left _ (List.mem_append_left _ (List.mem_append_left _ (List.mem_append_left _ (List.mem_append_right _ h))))))))
  refine lv_aload_n hx hb dL_act_299 rfl (lv_at hl 1 rfl) ?_
  refine va_get (D := D) (ci := 4) (v := .int (nu 1)) (C := RX4) (T := TX4) (N := 9) hx hb hts hinX4 hown hK.1 hP 0 rfl rfl 0 (by decide) (hts (.fieldLink RL 41 "LoafMarksLaw$Sim" "people" "I") (List.mem_of_getElem? (i := 4) rfl)) (fun _ h9 => h9) rfl dL_act_300 ?_
  refine lv_istore (lv' := [(11, .int (nu 1)), (0, .ref h), (1, .ref (am 0)), (2, .int x), (3, .int (nI nS)), (4, .int (nI nB))]) hx hb dL_act_303 hl (by decide) rfl (fun ls hl => ?_)
  refine lv_aload_n hx hb dL_act_305 rfl (lv_at hl 2 rfl) ?_
  refine lv_iload_n hx hb dL_act_306 rfl (lv_at hl 3 rfl) ?_
  refine lv_iconst (v := 5) hx hb dL_act_307 (by decide) ?_
  refine lv_ishr hx hb dL_act_308 ?_
  refine lv_iconst (v := 3) hx hb dL_act_309 (by decide) ?_
  refine xcS (As := [.int (x >>> 5), .int 3]) (rest := [.ref (am 0)]) ⟨hx, hb, hml, hown, hts⟩ (c_L_below l D cy (x >>> 5) 3 (by decide) (by decide)) (va_cwS 2 hts gL_act_L_below rfl rfl rfl (by decide +kernel) ⟨Nat.le_of_ble_eq_true rfl, Nat.le_of_ble_eq_true rfl⟩) hK hP hD hS hA (xE_nil) rfl hl.1 rfl (Nat.le_of_ble_eq_true rfl) dL_act_310 ⟨Nat.le_of_ble_eq_true rfl, Nat.le_of_ble_eq_true rfl⟩ (fun _ H locs _ hP hD hS => ?_)
  have hP : va_P D vwCl (sw cy am nS nB st bk gate nu (xw cy h ad nS nB st bk gate nu bt wt)) H := hP
  have hD : va_D A (sw cy am nS nB st bk gate nu (xw cy h ad nS nB st bk gate nu bt wt)) := hD
  refine W.eq (g2 := F0 m 313 ls [.int (nI (blw (x >>> 5) 3)), .ref (am 0)]) rfl ?_
  have hk310 : blw (x >>> 5) 3 < 3 := blw_lt (by decide)
  generalize blw (x >>> 5) 3 = k310 at hk310 ⊢
  refine lv_if_ne (tgt := 329) hx hb dL_act_313 (by decide) (fun c313 => ?_) (fun c313 => ?_)
  · refine lv_iload_n hx hb dL_act_329 rfl (lv_at hl 3 rfl) ?_
    refine lv_iconst (v := 2) hx hb dL_act_330 (by decide) ?_
    refine lv_ishr hx hb dL_act_331 ?_
    refine lv_bipush (v := 40) hx hb dL_act_332 (by decide) ?_
    refine xcS (As := [.int (x >>> 2), .int 40]) (rest := [.ref (am 0)]) ⟨hx, hb, hml, hown, hts⟩ (c_L_below l D cy (x >>> 2) 40 (by decide) (by decide)) (va_cwS 2 hts gL_act_L_below rfl rfl rfl (by decide +kernel) ⟨Nat.le_of_ble_eq_true rfl, Nat.le_of_ble_eq_true rfl⟩) hK hP hD hS hA (xE_nil) rfl hl.1 rfl (Nat.le_of_ble_eq_true rfl) dL_act_334 ⟨Nat.le_of_ble_eq_true rfl, Nat.le_of_ble_eq_true rfl⟩ (fun _ H locs _ hP hD hS => ?_)
    have hP : va_P D vwCl (sw cy am nS nB st bk gate nu (xw cy h ad nS nB st bk gate nu bt wt)) H := hP
    have hD : va_D A (sw cy am nS nB st bk gate nu (xw cy h ad nS nB st bk gate nu bt wt)) := hD
    refine W.eq (g2 := F0 m 337 ls [.int (nI (blw (x >>> 2) 40)), .ref (am 0)]) rfl ?_
    have hk334 : blw (x >>> 2) 40 < 40 := blw_lt (by decide)
    generalize blw (x >>> 2) 40 = k334 at hk334 ⊢
    refine va_put (D := D) (ci := 4) (v := .int (nI k334)) (ty := .int) (C := RX4) (T := TX4) (N := 9) hx hb hts hinX4 tyX4 tyX4_ok nmX4 hown hK.1 hP hD hS 0 rfl rfl 0 (by decide) (hts (.fieldLink RL 41 "LoafMarksLaw$Sim" "people" "I") (List.mem_of_getElem? (i := 4) rfl)) (fun _ h9 => h9) rfl (by decide +kernel) rfl rfl (Nat.le_of_ble_eq_true rfl) dL_act_337 (fun H locs hP hD hS => ?_)
    have hP : va_P D vwCl (sw cy am nS nB st bk gate (upd nu 1 (nI k334)) (xw cy h ad nS nB st bk gate nu bt wt)) H := hP
    have hD : va_D A (sw cy am nS nB st bk gate (upd nu 1 (nI k334)) (xw cy h ad nS nB st bk gate nu bt wt)) := hD
    refine lv_aload_n hx hb dL_act_340 rfl (lv_at hl 1 rfl) ?_
    refine lv_aload_n hx hb dL_act_341 rfl (lv_at hl 2 rfl) ?_
    refine va_get (D := D) (ci := 4) (v := .int (nI k334)) (C := RX4) (T := TX4) (N := 9) hx hb hts hinX4 hown hK.1 hP 0 rfl rfl 0 (by decide) (hts (.fieldLink RL 41 "LoafMarksLaw$Sim" "people" "I") (List.mem_of_getElem? (i := 4) rfl)) (fun _ h9 => h9) rfl dL_act_342 ?_
    refine xcV (As := [.int (nI k334)]) (rest := []) ⟨hx, hb, hml, hown, hts⟩ (c_X3_setPeople l D cy h ad nS nB st bk gate nu bt wt (nI k334) (bt_nI (a := 0) (k := k334) (b := 500) (by omega) (by omega) (by decide))) (cwV 1 hts gL_act_X3_setPeople rfl rfl rfl (by decide +kernel) ⟨Nat.le_of_ble_eq_true rfl, Nat.le_of_ble_eq_true rfl⟩) hK hP hD hS hA rfl rfl rfl (xE_wr) rfl hl.1 rfl (Nat.le_of_ble_eq_true rfl) dL_act_345 ⟨Nat.le_of_ble_eq_true rfl, Nat.le_of_ble_eq_true rfl⟩ (fun _ H locs _ hP hD hS => ?_)
    have hP : va_P D vwCl (sw cy am nS nB st bk gate (upd nu 1 (nI k334)) (xw cy h ad nS nB st bk gate (upd nu 1 (nI k334)) bt wt)) H := hP
    have hD : va_D A (sw cy am nS nB st bk gate (upd nu 1 (nI k334)) (xw cy h ad nS nB st bk gate (upd nu 1 (nI k334)) bt wt)) := hD
    refine W.eq (g2 := F0 m 348 ls [.int (nu 1)]) rfl ?_
    refine lv_iload hx hb dL_act_348 (lv_at hl 0 rfl) ?_
    refine lv_icmp_ne (tgt := 357) hx hb dL_act_350 (by decide) (fun z => absurd rfl z) (fun _ => ?_)
    refine lv_iconst (v := 1) hx hb dL_act_353 (by decide) ?_
    refine lv_goto (tgt := 358) hx hb dL_act_354 (by decide) ?_
    exact xrz (am, ad, nS, nB, (st, bk, upd nu 1 (nI k334)), gate) hx hb hr hlocks hS (Nat.le_of_ble_eq_true rfl) (Nat.le_of_ble_eq_true rfl) dL_act_358 (by decide) hP hD rfl ⟨jinv_same hI (inv_people hI.1 (rg_nI (a := 0) (k := k334) (b := 500) (by omega) (by omega) (by decide))) (fun _ _ => rfl), htS, htB, hcS, hcB, rfl⟩
  · refine lv_iload_n hx hb dL_act_316 rfl (lv_at hl 3 rfl) ?_
    refine lv_bipush (v := 7) hx hb dL_act_317 (by decide) ?_
    refine lv_imul hx hb dL_act_319 ?_
    refine lv_sipush (v := 501) hx hb dL_act_320 (by decide) ?_
    refine xcS (As := [.int (x * 7), .int 501]) (rest := [.ref (am 0)]) ⟨hx, hb, hml, hown, hts⟩ (c_L_below l D cy (x * 7) 501 (by decide) (by decide)) (va_cwS 2 hts gL_act_L_below rfl rfl rfl (by decide +kernel) ⟨Nat.le_of_ble_eq_true rfl, Nat.le_of_ble_eq_true rfl⟩) hK hP hD hS hA (xE_nil) rfl hl.1 rfl (Nat.le_of_ble_eq_true rfl) dL_act_323 ⟨Nat.le_of_ble_eq_true rfl, Nat.le_of_ble_eq_true rfl⟩ (fun _ H locs _ hP hD hS => ?_)
    have hP : va_P D vwCl (sw cy am nS nB st bk gate nu (xw cy h ad nS nB st bk gate nu bt wt)) H := hP
    have hD : va_D A (sw cy am nS nB st bk gate nu (xw cy h ad nS nB st bk gate nu bt wt)) := hD
    refine W.eq (g2 := F0 m 326 ls [.int (nI (blw (x * 7) 501)), .ref (am 0)]) rfl ?_
    have hk323 : blw (x * 7) 501 < 501 := blw_lt (by decide)
    generalize blw (x * 7) 501 = k323 at hk323 ⊢
    refine lv_goto (tgt := 337) hx hb dL_act_326 (by decide) ?_
    refine va_put (D := D) (ci := 4) (v := .int (nI k323)) (ty := .int) (C := RX4) (T := TX4) (N := 9) hx hb hts hinX4 tyX4 tyX4_ok nmX4 hown hK.1 hP hD hS 0 rfl rfl 0 (by decide) (hts (.fieldLink RL 41 "LoafMarksLaw$Sim" "people" "I") (List.mem_of_getElem? (i := 4) rfl)) (fun _ h9 => h9) rfl (by decide +kernel) rfl rfl (Nat.le_of_ble_eq_true rfl) dL_act_337 (fun H locs hP hD hS => ?_)
    have hP : va_P D vwCl (sw cy am nS nB st bk gate (upd nu 1 (nI k323)) (xw cy h ad nS nB st bk gate nu bt wt)) H := hP
    have hD : va_D A (sw cy am nS nB st bk gate (upd nu 1 (nI k323)) (xw cy h ad nS nB st bk gate nu bt wt)) := hD
    refine lv_aload_n hx hb dL_act_340 rfl (lv_at hl 1 rfl) ?_
    refine lv_aload_n hx hb dL_act_341 rfl (lv_at hl 2 rfl) ?_
    refine va_get (D := D) (ci := 4) (v := .int (nI k323)) (C := RX4) (T := TX4) (N := 9) hx hb hts hinX4 hown hK.1 hP 0 rfl rfl 0 (by decide) (hts (.fieldLink RL 41 "LoafMarksLaw$Sim" "people" "I") (List.mem_of_getElem? (i := 4) rfl)) (fun _ h9 => h9) rfl dL_act_342 ?_
    refine xcV (As := [.int (nI k323)]) (rest := []) ⟨hx, hb, hml, hown, hts⟩ (c_X3_setPeople l D cy h ad nS nB st bk gate nu bt wt (nI k323) (bt_nI (a := 0) (k := k323) (b := 500) (by omega) (by omega) (by decide))) (cwV 1 hts gL_act_X3_setPeople rfl rfl rfl (by decide +kernel) ⟨Nat.le_of_ble_eq_true rfl, Nat.le_of_ble_eq_true rfl⟩) hK hP hD hS hA rfl rfl rfl (xE_wr) rfl hl.1 rfl (Nat.le_of_ble_eq_true rfl) dL_act_345 ⟨Nat.le_of_ble_eq_true rfl, Nat.le_of_ble_eq_true rfl⟩ (fun _ H locs _ hP hD hS => ?_)
    have hP : va_P D vwCl (sw cy am nS nB st bk gate (upd nu 1 (nI k323)) (xw cy h ad nS nB st bk gate (upd nu 1 (nI k323)) bt wt)) H := hP
    have hD : va_D A (sw cy am nS nB st bk gate (upd nu 1 (nI k323)) (xw cy h ad nS nB st bk gate (upd nu 1 (nI k323)) bt wt)) := hD
    refine W.eq (g2 := F0 m 348 ls [.int (nu 1)]) rfl ?_
    refine lv_iload hx hb dL_act_348 (lv_at hl 0 rfl) ?_
    refine lv_icmp_ne (tgt := 357) hx hb dL_act_350 (by decide) (fun z => absurd rfl z) (fun _ => ?_)
    refine lv_iconst (v := 1) hx hb dL_act_353 (by decide) ?_
    refine lv_goto (tgt := 358) hx hb dL_act_354 (by decide) ?_
    exact xrz (am, ad, nS, nB, (st, bk, upd nu 1 (nI k323)), gate) hx hb hr hlocks hS (Nat.le_of_ble_eq_true rfl) (Nat.le_of_ble_eq_true rfl) dL_act_358 (by decide) hP hD rfl ⟨jinv_same hI (inv_people hI.1 (rg_nI (a := 0) (k := k323) (b := 500) (by omega) (by omega) (by decide))) (fun _ _ => rfl), htS, htB, hcS, hcB, rfl⟩

set_option maxHeartbeats 4000000 in
set_option maxRecDepth 100000 in
/-- the gate -/
theorem a_359 {p : Program} {l : Launch} {e : Env} {s : State} {m : MethodId} {below : List Frame} {meth : Method} {c : Code} {D : va_G} {cy : Nat → ClassId} {A : Nat → Prop} {h : Nat} {am ad : Nat → Nat} {nS nB tS tB : Nat} {st bk : Nat → Iu} {gate nu : Iu} {bt : Nat} {wt : va_W} {hq : Nat} {x : Int32} (F : aF p s m meth c D cy A h (am 0) x) (hI : jInv nS nB gate hq (st, bk, nu)) (htS : tS ≤ nS) (htB : tB ≤ nB) (hcS : nS ≤ 4) (hcB : nB ≤ 6)  : aS p l e s m below meth c D cy A h (am 0) x bt wt hq tS tB 359 [(0, .ref h), (1, .ref (am 0)), (2, .int x), (3, .int (nI nS)), (4, .int (nI nB))] (sw cy am nS nB st bk gate nu (xw cy h ad nS nB st bk gate nu bt wt)) := by
  obtain ⟨hx, hb, hts, hown, hlocks, hml, hK, hA, hr⟩ := F
  intro H locs ls hP hD hS hl
  have hinX4 : ∀ w ∈ wsX40, w ∈ wsL_act := fun _ h => List.mem_cons_of_mem _ (List.mem_append_left _ (List.mem_append_left _ (List.mem_append_left _ (List.mem_append_left _ (List.mem_append_left _ (List.mem_append_left _ (List.mem_append_left _ (List.mem_append_right _ h))))))))
  refine lv_iload_n hx hb dL_act_359 rfl (lv_at hl 2 rfl) ?_
  refine lv_bipush (v := 24) hx hb dL_act_360 (by decide) ?_
  refine xcS (As := [.int x, .int 24]) (rest := []) ⟨hx, hb, hml, hown, hts⟩ (c_L_below l D cy x 24 (by decide) (by decide)) (va_cwS 2 hts gL_act_L_below rfl rfl rfl (by decide +kernel) ⟨Nat.le_of_ble_eq_true rfl, Nat.le_of_ble_eq_true rfl⟩) hK hP hD hS hA (xE_nil) rfl hl.1 rfl (Nat.le_of_ble_eq_true rfl) dL_act_362 ⟨Nat.le_of_ble_eq_true rfl, Nat.le_of_ble_eq_true rfl⟩ (fun _ H locs _ hP hD hS => ?_)
  have hP : va_P D vwCl (sw cy am nS nB st bk gate nu (xw cy h ad nS nB st bk gate nu bt wt)) H := hP
  have hD : va_D A (sw cy am nS nB st bk gate nu (xw cy h ad nS nB st bk gate nu bt wt)) := hD
  refine W.eq (g2 := F0 m 365 ls [.int (nI (blw x 24))]) rfl ?_
  have hk362 : blw x 24 < 24 := blw_lt (by decide)
  generalize blw x 24 = k362 at hk362 ⊢
  refine lv_istore (lv' := [(12, .int (nI k362)), (0, .ref h), (1, .ref (am 0)), (2, .int x), (3, .int (nI nS)), (4, .int (nI nB))]) hx hb dL_act_365 hl (by decide) rfl (fun ls hl => ?_)
  refine lv_aload_n hx hb dL_act_367 rfl (lv_at hl 2 rfl) ?_
  refine va_get (D := D) (ci := 4) (v := .ref (am 1)) (C := RX4) (T := TX4) (N := 9) hx hb hts hinX4 hown hK.1 hP 0 rfl rfl 1 (by decide) (hts (.fieldLink RL 48 "LoafMarksLaw$Sim" "gate" "[I") (List.mem_of_getElem? (i := 5) rfl)) (fun _ h9 => h9) rfl dL_act_368 ?_
  refine lv_iload hx hb dL_act_371 (lv_at hl 0 rfl) ?_
  refine xiald hx hb hK hP (1) rfl k362 rfl (by omega) (by decide) dL_act_373 ?_
  refine lv_istore (lv' := [(13, .int (gate k362)), (12, .int (nI k362)), (0, .ref h), (1, .ref (am 0)), (2, .int x), (3, .int (nI nS)), (4, .int (nI nB))]) hx hb dL_act_374 hl (by decide) rfl (fun ls hl => ?_)
  refine lv_aload_n hx hb dL_act_376 rfl (lv_at hl 3 rfl) ?_
  refine va_get (D := D) (ci := 4) (v := .ref (am 1)) (C := RX4) (T := TX4) (N := 9) hx hb hts hinX4 hown hK.1 hP 0 rfl rfl 1 (by decide) (hts (.fieldLink RL 48 "LoafMarksLaw$Sim" "gate" "[I") (List.mem_of_getElem? (i := 5) rfl)) (fun _ h9 => h9) rfl dL_act_377 ?_
  refine lv_iload hx hb dL_act_380 (lv_at hl 1 rfl) ?_
  refine lv_iload_n hx hb dL_act_382 rfl (lv_at hl 4 rfl) ?_
  refine lv_iconst (v := 3) hx hb dL_act_383 (by decide) ?_
  refine lv_ishr hx hb dL_act_384 ?_
  refine lv_bipush (v := 100) hx hb dL_act_385 (by decide) ?_
  refine xcS (As := [.int (x >>> 3), .int 100]) (rest := [.int (nI k362), .ref (am 1)]) ⟨hx, hb, hml, hown, hts⟩ (c_L_below l D cy (x >>> 3) 100 (by decide) (by decide)) (va_cwS 2 hts gL_act_L_below rfl rfl rfl (by decide +kernel) ⟨Nat.le_of_ble_eq_true rfl, Nat.le_of_ble_eq_true rfl⟩) hK hP hD hS hA (xE_nil) rfl hl.1 rfl (Nat.le_of_ble_eq_true rfl) dL_act_387 ⟨Nat.le_of_ble_eq_true rfl, Nat.le_of_ble_eq_true rfl⟩ (fun _ H locs _ hP hD hS => ?_)
  have hP : va_P D vwCl (sw cy am nS nB st bk gate nu (xw cy h ad nS nB st bk gate nu bt wt)) H := hP
  have hD : va_D A (sw cy am nS nB st bk gate nu (xw cy h ad nS nB st bk gate nu bt wt)) := hD
  refine W.eq (g2 := F0 m 390 ls [.int (nI (blw (x >>> 3) 100)), .int (nI k362), .ref (am 1)]) rfl ?_
  have hk387 : blw (x >>> 3) 100 < 100 := blw_lt (by decide)
  generalize blw (x >>> 3) 100 = k387 at hk387 ⊢
  refine xiast hx hb hK hP hD hS (1) rfl k362 rfl (by omega) (by decide) dL_act_390 (fun H locs hP hD hS => ?_)
  have hP : va_P D vwCl (sw cy am nS nB st bk (upd gate k362 (nI k387)) nu (xw cy h ad nS nB st bk gate nu bt wt)) H := hP
  have hD : va_D A (sw cy am nS nB st bk (upd gate k362 (nI k387)) nu (xw cy h ad nS nB st bk gate nu bt wt)) := hD
  refine lv_aload_n hx hb dL_act_391 rfl (lv_at hl 2 rfl) ?_
  refine lv_iload hx hb dL_act_392 (lv_at hl 1 rfl) ?_
  refine lv_aload_n hx hb dL_act_394 rfl (lv_at hl 3 rfl) ?_
  refine va_get (D := D) (ci := 4) (v := .ref (am 1)) (C := RX4) (T := TX4) (N := 9) hx hb hts hinX4 hown hK.1 hP 0 rfl rfl 1 (by decide) (hts (.fieldLink RL 48 "LoafMarksLaw$Sim" "gate" "[I") (List.mem_of_getElem? (i := 5) rfl)) (fun _ h9 => h9) rfl dL_act_395 ?_
  refine lv_iload hx hb dL_act_398 (lv_at hl 1 rfl) ?_
  refine xiald hx hb hK hP (1) rfl k362 rfl (by omega) (by decide) dL_act_400 ?_
  refine W.eq (g2 := F0 m 401 ls [.int (nI k387), .int (nI k362), .ref h]) (by first | (rw [upd_at]; done) | (rw [upd_at]; rfl)) ?_
  refine xcV (As := [.int (nI k362), .int (nI k387)]) (rest := []) ⟨hx, hb, hml, hown, hts⟩ (c_X3_setGate l D cy h ad nS nB st bk gate nu bt wt k362 (by omega) (nI k387) (bt_nI (a := 0) (k := k387) (b := 99) (by omega) (by omega) (by decide))) (cwV 2 hts gL_act_X3_setGate rfl rfl rfl (by decide +kernel) ⟨Nat.le_of_ble_eq_true rfl, Nat.le_of_ble_eq_true rfl⟩) hK hP hD hS hA rfl rfl rfl (xE_wr) rfl hl.1 rfl (Nat.le_of_ble_eq_true rfl) dL_act_401 ⟨Nat.le_of_ble_eq_true rfl, Nat.le_of_ble_eq_true rfl⟩ (fun _ H locs _ hP hD hS => ?_)
  have hP : va_P D vwCl (sw cy am nS nB st bk (upd gate k362 (nI k387)) nu (xw cy h ad nS nB st bk (upd gate k362 (nI k387)) nu bt wt)) H := hP
  have hD : va_D A (sw cy am nS nB st bk (upd gate k362 (nI k387)) nu (xw cy h ad nS nB st bk (upd gate k362 (nI k387)) nu bt wt)) := hD
  refine W.eq (g2 := F0 m 404 ls [.int (gate k362)]) rfl ?_
  refine lv_iload hx hb dL_act_404 (lv_at hl 0 rfl) ?_
  refine lv_icmp_ne (tgt := 413) hx hb dL_act_406 (by decide) (fun z => absurd rfl z) (fun _ => ?_)
  refine lv_iconst (v := 1) hx hb dL_act_409 (by decide) ?_
  refine lv_goto (tgt := 414) hx hb dL_act_410 (by decide) ?_
  exact xrz (am, ad, nS, nB, (st, bk, nu), upd gate k362 (nI k387)) hx hb hr hlocks hS (Nat.le_of_ble_eq_true rfl) (Nat.le_of_ble_eq_true rfl) dL_act_414 (by decide) hP hD rfl ⟨jinv_same hI (inv_gate hI.1 (rg_nI (a := 0) (k := k387) (b := 99) (by omega) (by omega) (by decide))) (fun _ _ => rfl), htS, htB, hcS, hcB, rfl⟩

set_option maxHeartbeats 4000000 in
set_option maxRecDepth 100000 in
/-- smoke -/
theorem a_415 {p : Program} {l : Launch} {e : Env} {s : State} {m : MethodId} {below : List Frame} {meth : Method} {c : Code} {D : va_G} {cy : Nat → ClassId} {A : Nat → Prop} {h : Nat} {am ad : Nat → Nat} {nS nB tS tB : Nat} {st bk : Nat → Iu} {gate nu : Iu} {bt : Nat} {wt : va_W} {hq : Nat} {x : Int32} (F : aF p s m meth c D cy A h (am 0) x) (hI : jInv nS nB gate hq (st, bk, nu)) (htS : tS ≤ nS) (htB : tB ≤ nB) (hcS : nS ≤ 4) (hcB : nB ≤ 6) (hn0 : 0 < nS) : aS p l e s m below meth c D cy A h (am 0) x bt wt hq tS tB 415 [(0, .ref h), (1, .ref (am 0)), (2, .int x), (3, .int (nI nS)), (4, .int (nI nB))] (sw cy am nS nB st bk gate nu (xw cy h ad nS nB st bk gate nu bt wt)) := by
  obtain ⟨hx, hb, hts, hown, hlocks, hml, hK, hA, hr⟩ := F
  intro H locs ls hP hD hS hl
  have hi := blw_lt (v := x) (n := nS) hn0
  generalize eI : blw x nS = i at hi
  have hinX4 : ∀ w ∈ wsX40, w ∈ wsL_act := fun _ h => List.mem_cons_of_mem _ (List.mem_append_left _ (List.mem_append_left _ (List.mem_append_left _ (List.mem_append_left _ (List.mem_append_left _ (List.mem_append_left _ (List.mem_append_left _ (List.mem_append_right _ h))))))))
  refine lv_iload_n hx hb dL_act_415 rfl (lv_at hl 2 rfl) ?_
  refine lv_iconst (v := 4) hx hb dL_act_416 (by decide) ?_
  refine lv_ishr hx hb dL_act_417 ?_
  refine lv_iconst (v := 2) hx hb dL_act_418 (by decide) ?_
  refine xcS (As := [.int (x >>> 4), .int 2]) (rest := []) ⟨hx, hb, hml, hown, hts⟩ (c_L_below l D cy (x >>> 4) 2 (by decide) (by decide)) (va_cwS 2 hts gL_act_L_below rfl rfl rfl (by decide +kernel) ⟨Nat.le_of_ble_eq_true rfl, Nat.le_of_ble_eq_true rfl⟩) hK hP hD hS hA (xE_nil) rfl hl.1 rfl (Nat.le_of_ble_eq_true rfl) dL_act_419 ⟨Nat.le_of_ble_eq_true rfl, Nat.le_of_ble_eq_true rfl⟩ (fun _ H locs _ hP hD hS => ?_)
  have hP : va_P D vwCl (sw cy am nS nB st bk gate nu (xw cy h ad nS nB st bk gate nu bt wt)) H := hP
  have hD : va_D A (sw cy am nS nB st bk gate nu (xw cy h ad nS nB st bk gate nu bt wt)) := hD
  refine W.eq (g2 := F0 m 422 ls [.int (nI (blw (x >>> 4) 2))]) rfl ?_
  have hk419 : blw (x >>> 4) 2 < 2 := blw_lt (by decide)
  generalize blw (x >>> 4) 2 = k419 at hk419 ⊢
  refine lv_if_ne (tgt := 427) hx hb dL_act_422 (by decide) (fun c422 => ?_) (fun c422 => ?_)
  · refine lv_aload_n hx hb dL_act_427 rfl (lv_at hl 1 rfl) ?_
    refine va_get (D := D) (ci := 4) (v := .ref (am 2)) (C := RX4) (T := TX4) (N := 9) hx hb hts hinX4 hown hK.1 hP 0 rfl rfl 2 (by decide) (hts (.fieldLink RL 9 "LoafMarksLaw$Sim" "stores" "[[I") (List.mem_of_getElem? (i := 1) rfl)) (fun _ h9 => h9) rfl dL_act_428 ?_
    refine lv_iload_n hx hb dL_act_431 rfl (lv_at hl 2 rfl) ?_
    refine lv_iload_n hx hb dL_act_432 rfl (lv_at hl 3 rfl) ?_
    refine xcS (As := [.int x, .int (nI nS)]) (rest := [.ref (am 2)]) ⟨hx, hb, hml, hown, hts⟩ (c_L_below l D cy x nS hn0 (by omega)) (va_cwS 2 hts gL_act_L_below rfl rfl rfl (by decide +kernel) ⟨Nat.le_of_ble_eq_true rfl, Nat.le_of_ble_eq_true rfl⟩) hK hP hD hS hA (xE_nil) rfl hl.1 rfl (Nat.le_of_ble_eq_true rfl) dL_act_433 ⟨Nat.le_of_ble_eq_true rfl, Nat.le_of_ble_eq_true rfl⟩ (fun _ H locs _ hP hD hS => ?_)
    have hP : va_P D vwCl (sw cy am nS nB st bk gate nu (xw cy h ad nS nB st bk gate nu bt wt)) H := hP
    have hD : va_D A (sw cy am nS nB st bk gate nu (xw cy h ad nS nB st bk gate nu bt wt)) := hD
    refine W.eq (g2 := F0 m 436 ls [.int (nI i), .ref (am 2)]) (by rw [← eI]; rfl) ?_
    refine xaldS hx hb hK hP (2) (am := am) rfl i rfl (by omega) hcS dL_act_436 ?_
    refine lv_astore (lv' := [(14, .ref (am (4 + i))), (0, .ref h), (1, .ref (am 0)), (2, .int x), (3, .int (nI nS)), (4, .int (nI nB))]) hx hb dL_act_437 hl (by decide) rfl (fun ls hl => ?_)
    refine lv_aload hx hb dL_act_439 (lv_at hl 0 rfl) ?_
    refine lv_iconst (v := 1) hx hb dL_act_441 (by decide) ?_
    refine xiald hx hb hK hP (4 + i) (ww_st hi) 1 (by decide) (by decide) (by decide) dL_act_442 ?_
    refine lv_istore (lv' := [(15, .int (st i 1)), (14, .ref (am (4 + i))), (0, .ref h), (1, .ref (am 0)), (2, .int x), (3, .int (nI nS)), (4, .int (nI nB))]) hx hb dL_act_443 hl (by decide) rfl (fun ls hl => ?_)
    refine lv_aload hx hb dL_act_445 (lv_at hl 1 rfl) ?_
    refine lv_iconst (v := 1) hx hb dL_act_447 (by decide) ?_
    refine lv_iconst (v := 0) hx hb dL_act_448 (by decide) ?_
    refine xiast hx hb hK hP hD hS (4 + i) (ww_st hi) 1 (by decide) (by decide) (by decide) dL_act_449 (fun H locs hP hD hS => ?_)
    have hP : va_P D vwCl (sw cy am nS nB (va_up st i (upd (st i) 1 0)) bk gate nu (xw cy h ad nS nB st bk gate nu bt wt)) H := by rw [ww_set_st hi] at hP; exact hP
    have hD : va_D A (sw cy am nS nB (va_up st i (upd (st i) 1 0)) bk gate nu (xw cy h ad nS nB st bk gate nu bt wt)) := by rw [ww_set_st hi] at hD; exact hD
    refine lv_aload hx hb dL_act_450 (lv_at hl 1 rfl) ?_
    refine lv_iconst (v := 0) hx hb dL_act_452 (by decide) ?_
    refine lv_dup2_11 hx hb dL_act_453 rfl rfl ?_
    refine xiald hx hb hK hP (4 + i) (ww_st hi) 0 (by decide) (by decide) (by decide) dL_act_454 ?_
    refine W.eq (g2 := F0 m 455 ls [.int ((st i) 0), .int 0, .ref (am (4 + i))]) (by first | (rw [up_at]; done) | (rw [up_at]; rfl)) ?_
    refine lv_aload hx hb dL_act_455 (lv_at hl 1 rfl) ?_
    refine lv_iconst (v := 0) hx hb dL_act_457 (by decide) ?_
    refine xiald hx hb hK hP (4 + i) (ww_st hi) 0 (by decide) (by decide) (by decide) dL_act_458 ?_
    refine W.eq (g2 := F0 m 459 ls [.int ((st i) 0), .int ((st i) 0), .int 0, .ref (am (4 + i))]) (by first | (rw [up_at]; done) | (rw [up_at]; rfl)) ?_
    refine lv_bipush (v := 10) hx hb dL_act_459 (by decide) ?_
    refine lv_idiv hx hb dL_act_461 (by decide) ?_
    refine lv_isub hx hb dL_act_462 ?_
    refine xiast hx hb hK hP hD hS (4 + i) (ww_st hi) 0 (by decide) (by decide) (by decide) dL_act_463 (fun H locs hP hD hS => ?_)
    have hP : va_P D vwCl (sw cy am nS nB (va_up st i (upd (upd (st i) 1 0) 0 (((st i) 0) - (((st i) 0) / 10)))) bk gate nu (xw cy h ad nS nB st bk gate nu bt wt)) H := by rw [ww_set_st hi, up_upd] at hP; exact hP
    have hD : va_D A (sw cy am nS nB (va_up st i (upd (upd (st i) 1 0) 0 (((st i) 0) - (((st i) 0) / 10)))) bk gate nu (xw cy h ad nS nB st bk gate nu bt wt)) := by rw [ww_set_st hi, up_upd] at hD; exact hD
    refine lv_aload_n hx hb dL_act_464 rfl (lv_at hl 2 rfl) ?_
    refine lv_iload_n hx hb dL_act_465 rfl (lv_at hl 4 rfl) ?_
    refine lv_iload_n hx hb dL_act_466 rfl (lv_at hl 5 rfl) ?_
    refine xcS (As := [.int x, .int (nI nS)]) (rest := [.ref h]) ⟨hx, hb, hml, hown, hts⟩ (c_L_below l D cy x nS hn0 (by omega)) (va_cwS 2 hts gL_act_L_below rfl rfl rfl (by decide +kernel) ⟨Nat.le_of_ble_eq_true rfl, Nat.le_of_ble_eq_true rfl⟩) hK hP hD hS hA (xE_nil) rfl hl.1 rfl (Nat.le_of_ble_eq_true rfl) dL_act_467 ⟨Nat.le_of_ble_eq_true rfl, Nat.le_of_ble_eq_true rfl⟩ (fun _ H locs _ hP hD hS => ?_)
    have hP : va_P D vwCl (sw cy am nS nB (va_up st i (upd (upd (st i) 1 0) 0 (((st i) 0) - (((st i) 0) / 10)))) bk gate nu (xw cy h ad nS nB st bk gate nu bt wt)) H := hP
    have hD : va_D A (sw cy am nS nB (va_up st i (upd (upd (st i) 1 0) 0 (((st i) 0) - (((st i) 0) / 10)))) bk gate nu (xw cy h ad nS nB st bk gate nu bt wt)) := hD
    refine W.eq (g2 := F0 m 470 ls [.int (nI i), .ref h]) (by rw [← eI]; rfl) ?_
    refine xcV (As := [.int (nI i)]) (rest := []) ⟨hx, hb, hml, hown, hts⟩ (c_X3_smoke l D cy h ad nS nB st bk gate nu bt wt i hi hcS hcB) (cwV 1 hts gL_act_X3_smoke rfl rfl rfl (by decide +kernel) ⟨Nat.le_of_ble_eq_true rfl, Nat.le_of_ble_eq_true rfl⟩) hK hP hD hS hA rfl rfl rfl (xE_wr) rfl hl.1 rfl (Nat.le_of_ble_eq_true rfl) dL_act_470 ⟨Nat.le_of_ble_eq_true rfl, Nat.le_of_ble_eq_true rfl⟩ (fun _ H locs _ hP hD hS => ?_)
    have hP : va_P D vwCl (sw cy am nS nB (va_up st i (upd (upd (st i) 1 0) 0 (((st i) 0) - (((st i) 0) / 10)))) bk gate nu (xw cy h ad nS nB (va_up st i (sSmoke (st i))) bk gate nu bt wt)) H := hP
    have hD : va_D A (sw cy am nS nB (va_up st i (upd (upd (st i) 1 0) 0 (((st i) 0) - (((st i) 0) / 10)))) bk gate nu (xw cy h ad nS nB (va_up st i (sSmoke (st i))) bk gate nu bt wt)) := hD
    refine W.eq (g2 := F0 m 473 ls [.int (st i 1)]) rfl ?_
    refine lv_iload hx hb dL_act_473 (lv_at hl 0 rfl) ?_
    refine lv_icmp_ne (tgt := 482) hx hb dL_act_475 (by decide) (fun z => absurd rfl z) (fun _ => ?_)
    refine lv_iconst (v := 1) hx hb dL_act_478 (by decide) ?_
    refine lv_goto (tgt := 483) hx hb dL_act_479 (by decide) ?_
    exact xrz (am, ad, nS, nB, (va_up st i (sSmoke (st i)), bk, nu), gate) hx hb hr hlocks hS (Nat.le_of_ble_eq_true rfl) (Nat.le_of_ble_eq_true rfl) dL_act_483 (by decide) hP hD rfl ⟨jinv_same hI (inv_st hI.1 (sOK_smoke (hI.1.1 i hi))) (fun _ _ => rfl), htS, htB, hcS, hcB, rfl⟩
  · refine lv_iconst (v := 1) hx hb dL_act_425 (by decide) ?_
    exact xrz (am, ad, nS, nB, (st, bk, nu), gate) hx hb hr hlocks hS (Nat.le_of_ble_eq_true rfl) (Nat.le_of_ble_eq_true rfl) dL_act_426 (by decide) hP hD rfl ⟨hI, htS, htB, hcS, hcB, rfl⟩

set_option maxHeartbeats 4000000 in
set_option maxRecDepth 100000 in
/-- rations: nobody -/
theorem a_4840 {p : Program} {l : Launch} {e : Env} {s : State} {m : MethodId} {below : List Frame} {meth : Method} {c : Code} {D : va_G} {cy : Nat → ClassId} {A : Nat → Prop} {h : Nat} {am ad : Nat → Nat} {nS nB tS tB : Nat} {st bk : Nat → Iu} {gate nu : Iu} {bt : Nat} {wt : va_W} {hq : Nat} {x : Int32} (F : aF p s m meth c D cy A h (am 0) x) (hI : jInv nS nB gate hq (st, bk, nu)) (htS : tS ≤ nS) (htB : tB ≤ nB) (hcS : nS ≤ 4) (hcB : nB ≤ 6) (hm0 : nB = 0) : aS p l e s m below meth c D cy A h (am 0) x bt wt hq tS tB 484 [(0, .ref h), (1, .ref (am 0)), (2, .int x), (3, .int (nI nS)), (4, .int (nI nB))] (sw cy am nS nB st bk gate nu (xw cy h ad nS nB st bk gate nu bt wt)) := by
  obtain ⟨hx, hb, hts, hown, hlocks, hml, hK, hA, hr⟩ := F
  intro H locs ls hP hD hS hl
  refine lv_iload hx hb dL_act_484 (lv_at hl 4 rfl) ?_
  refine lv_if_ne (tgt := 491) hx hb dL_act_486 (by decide) (fun z => absurd (by rw [hm0]; rfl) z) (fun _ => ?_)
  refine lv_iconst (v := 1) hx hb dL_act_489 (by decide) ?_
  exact xrz (am, ad, nS, nB, (st, bk, nu), gate) hx hb hr hlocks hS (Nat.le_of_ble_eq_true rfl) (Nat.le_of_ble_eq_true rfl) dL_act_490 (by decide) hP hD rfl ⟨hI, htS, htB, hcS, hcB, rfl⟩

set_option maxHeartbeats 4000000 in
set_option maxRecDepth 100000 in
/-- weighing: nobody -/
theorem a_5470 {p : Program} {l : Launch} {e : Env} {s : State} {m : MethodId} {below : List Frame} {meth : Method} {c : Code} {D : va_G} {cy : Nat → ClassId} {A : Nat → Prop} {h : Nat} {am ad : Nat → Nat} {nS nB tS tB : Nat} {st bk : Nat → Iu} {gate nu : Iu} {bt : Nat} {wt : va_W} {hq : Nat} {x : Int32} (F : aF p s m meth c D cy A h (am 0) x) (hI : jInv nS nB gate hq (st, bk, nu)) (htS : tS ≤ nS) (htB : tB ≤ nB) (hcS : nS ≤ 4) (hcB : nB ≤ 6) (hm0 : nB = 0) : aS p l e s m below meth c D cy A h (am 0) x bt wt hq tS tB 547 [(0, .ref h), (1, .ref (am 0)), (2, .int x), (3, .int (nI nS)), (4, .int (nI nB))] (sw cy am nS nB st bk gate nu (xw cy h ad nS nB st bk gate nu bt wt)) := by
  obtain ⟨hx, hb, hts, hown, hlocks, hml, hK, hA, hr⟩ := F
  intro H locs ls hP hD hS hl
  refine lv_iload hx hb dL_act_547 (lv_at hl 4 rfl) ?_
  refine lv_if_eq (tgt := 568) hx hb dL_act_549 (by decide) (fun _ => ?_) (fun z => absurd (by rw [hm0]; rfl) z)
  refine lv_iconst (v := 1) hx hb dL_act_568 (by decide) ?_
  exact xrz (am, ad, nS, nB, (st, bk, nu), gate) hx hb hr hlocks hS (Nat.le_of_ble_eq_true rfl) (Nat.le_of_ble_eq_true rfl) dL_act_569 (by decide) hP hD rfl ⟨hI, htS, htB, hcS, hcB, rfl⟩

set_option maxHeartbeats 4000000 in
set_option maxRecDepth 100000 in
/-- pardon: nobody -/
theorem a_6290 {p : Program} {l : Launch} {e : Env} {s : State} {m : MethodId} {below : List Frame} {meth : Method} {c : Code} {D : va_G} {cy : Nat → ClassId} {A : Nat → Prop} {h : Nat} {am ad : Nat → Nat} {nS nB tS tB : Nat} {st bk : Nat → Iu} {gate nu : Iu} {bt : Nat} {wt : va_W} {hq : Nat} {x : Int32} (F : aF p s m meth c D cy A h (am 0) x) (hI : jInv nS nB gate hq (st, bk, nu)) (htS : tS ≤ nS) (htB : tB ≤ nB) (hcS : nS ≤ 4) (hcB : nB ≤ 6) (hm0 : nB = 0) : aS p l e s m below meth c D cy A h (am 0) x bt wt hq tS tB 629 [(0, .ref h), (1, .ref (am 0)), (2, .int x), (3, .int (nI nS)), (4, .int (nI nB))] (sw cy am nS nB st bk gate nu (xw cy h ad nS nB st bk gate nu bt wt)) := by
  obtain ⟨hx, hb, hts, hown, hlocks, hml, hK, hA, hr⟩ := F
  intro H locs ls hP hD hS hl
  refine lv_iload hx hb dL_act_629 (lv_at hl 4 rfl) ?_
  refine lv_if_ne (tgt := 636) hx hb dL_act_631 (by decide) (fun z => absurd (by rw [hm0]; rfl) z) (fun _ => ?_)
  refine lv_iconst (v := 1) hx hb dL_act_634 (by decide) ?_
  exact xrz (am, ad, nS, nB, (st, bk, nu), gate) hx hb hr hlocks hS (Nat.le_of_ble_eq_true rfl) (Nat.le_of_ble_eq_true rfl) dL_act_635 (by decide) hP hD rfl ⟨hI, htS, htB, hcS, hcB, rfl⟩

set_option maxHeartbeats 4000000 in
set_option maxRecDepth 100000 in
/-- rations -/
theorem a_484 {p : Program} {l : Launch} {e : Env} {s : State} {m : MethodId} {below : List Frame} {meth : Method} {c : Code} {D : va_G} {cy : Nat → ClassId} {A : Nat → Prop} {h : Nat} {am ad : Nat → Nat} {nS nB tS tB : Nat} {st bk : Nat → Iu} {gate nu : Iu} {bt : Nat} {wt : va_W} {hq : Nat} {x : Int32} (F : aF p s m meth c D cy A h (am 0) x) (hI : jInv nS nB gate hq (st, bk, nu)) (htS : tS ≤ nS) (htB : tB ≤ nB) (hcS : nS ≤ 4) (hcB : nB ≤ 6) (hm0 : 0 < nB) : aS p l e s m below meth c D cy A h (am 0) x bt wt hq tS tB 484 [(0, .ref h), (1, .ref (am 0)), (2, .int x), (3, .int (nI nS)), (4, .int (nI nB))] (sw cy am nS nB st bk gate nu (xw cy h ad nS nB st bk gate nu bt wt)) := by
  obtain ⟨hx, hb, hts, hown, hlocks, hml, hK, hA, hr⟩ := F
  intro H locs ls hP hD hS hl
  have hj := blw_lt (v := x) (n := nB) hm0
  generalize eJ : blw x nB = j at hj
  have hinX4 : ∀ w ∈ wsX40, w ∈ wsL_act := fun _ h => List.mem_cons_of_mem _ (List.mem_append_left _ (List.mem_append_left _ (List.mem_append_left _ (List.mem_append_left _ (List.mem_append_left _ (List.mem_append_left _ (List.mem_append_left _ (List.mem_append_right _ h))))))))
  refine lv_iload hx hb dL_act_484 (lv_at hl 4 rfl) ?_
  refine lv_if_ne (tgt := 491) hx hb dL_act_486 (by decide) (fun _ => ?_) (fun z => absurd z (nI_ne0 hm0 (by omega)))
  refine lv_aload_n hx hb dL_act_491 rfl (lv_at hl 1 rfl) ?_
  refine va_get (D := D) (ci := 4) (v := .ref (am 3)) (C := RX4) (T := TX4) (N := 9) hx hb hts hinX4 hown hK.1 hP 0 rfl rfl 3 (by decide) (hts (.fieldLink RL 15 "LoafMarksLaw$Sim" "bakers" "[[I") (List.mem_of_getElem? (i := 2) rfl)) (fun _ h9 => h9) rfl dL_act_492 ?_
  refine lv_iload_n hx hb dL_act_495 rfl (lv_at hl 2 rfl) ?_
  refine lv_iload hx hb dL_act_496 (lv_at hl 4 rfl) ?_
  refine xcS (As := [.int x, .int (nI nB)]) (rest := [.ref (am 3)]) ⟨hx, hb, hml, hown, hts⟩ (c_L_below l D cy x nB hm0 (by omega)) (va_cwS 2 hts gL_act_L_below rfl rfl rfl (by decide +kernel) ⟨Nat.le_of_ble_eq_true rfl, Nat.le_of_ble_eq_true rfl⟩) hK hP hD hS hA (xE_nil) rfl hl.1 rfl (Nat.le_of_ble_eq_true rfl) dL_act_498 ⟨Nat.le_of_ble_eq_true rfl, Nat.le_of_ble_eq_true rfl⟩ (fun _ H locs _ hP hD hS => ?_)
  have hP : va_P D vwCl (sw cy am nS nB st bk gate nu (xw cy h ad nS nB st bk gate nu bt wt)) H := hP
  have hD : va_D A (sw cy am nS nB st bk gate nu (xw cy h ad nS nB st bk gate nu bt wt)) := hD
  refine W.eq (g2 := F0 m 501 ls [.int (nI j), .ref (am 3)]) (by rw [← eJ]; rfl) ?_
  refine xaldB hx hb hK hP (3) (am := am) rfl j rfl (by omega) hcB dL_act_501 ?_
  refine lv_astore (lv' := [(16, .ref (am (8 + j))), (0, .ref h), (1, .ref (am 0)), (2, .int x), (3, .int (nI nS)), (4, .int (nI nB))]) hx hb dL_act_502 hl (by decide) rfl (fun ls hl => ?_)
  refine lv_aload hx hb dL_act_504 (lv_at hl 0 rfl) ?_
  refine lv_iconst (v := 2) hx hb dL_act_506 (by decide) ?_
  refine xiald hx hb hK hP (4 + nS + j) (ww_bk hj) 2 (by decide) (by decide) (by decide) dL_act_507 ?_
  refine lv_istore (lv' := [(17, .int (bk j 2)), (16, .ref (am (8 + j))), (0, .ref h), (1, .ref (am 0)), (2, .int x), (3, .int (nI nS)), (4, .int (nI nB))]) hx hb dL_act_508 hl (by decide) rfl (fun ls hl => ?_)
  refine lv_aload hx hb dL_act_510 (lv_at hl 1 rfl) ?_
  refine lv_iconst (v := 2) hx hb dL_act_512 (by decide) ?_
  refine lv_iload_n hx hb dL_act_513 rfl (lv_at hl 4 rfl) ?_
  refine lv_iconst (v := 2) hx hb dL_act_514 (by decide) ?_
  refine lv_ishr hx hb dL_act_515 ?_
  refine lv_bipush (v := 91) hx hb dL_act_516 (by decide) ?_
  refine xcS (As := [.int (x >>> 2), .int 91]) (rest := [.int 2, .ref (am (8 + j))]) ⟨hx, hb, hml, hown, hts⟩ (c_L_below l D cy (x >>> 2) 91 (by decide) (by decide)) (va_cwS 2 hts gL_act_L_below rfl rfl rfl (by decide +kernel) ⟨Nat.le_of_ble_eq_true rfl, Nat.le_of_ble_eq_true rfl⟩) hK hP hD hS hA (xE_nil) rfl hl.1 rfl (Nat.le_of_ble_eq_true rfl) dL_act_518 ⟨Nat.le_of_ble_eq_true rfl, Nat.le_of_ble_eq_true rfl⟩ (fun _ H locs _ hP hD hS => ?_)
  have hP : va_P D vwCl (sw cy am nS nB st bk gate nu (xw cy h ad nS nB st bk gate nu bt wt)) H := hP
  have hD : va_D A (sw cy am nS nB st bk gate nu (xw cy h ad nS nB st bk gate nu bt wt)) := hD
  refine W.eq (g2 := F0 m 521 ls [.int (nI (blw (x >>> 2) 91)), .int 2, .ref (am (8 + j))]) rfl ?_
  have hk518 : blw (x >>> 2) 91 < 91 := blw_lt (by decide)
  generalize blw (x >>> 2) 91 = k518 at hk518 ⊢
  refine xiast hx hb hK hP hD hS (4 + nS + j) (ww_bk hj) 2 (by decide) (by decide) (by decide) dL_act_521 (fun H locs hP hD hS => ?_)
  have hP : va_P D vwCl (sw cy am nS nB st (va_up bk j (upd (bk j) 2 (nI k518))) gate nu (xw cy h ad nS nB st bk gate nu bt wt)) H := by rw [ww_set_bk hj] at hP; exact hP
  have hD : va_D A (sw cy am nS nB st (va_up bk j (upd (bk j) 2 (nI k518))) gate nu (xw cy h ad nS nB st bk gate nu bt wt)) := by rw [ww_set_bk hj] at hD; exact hD
  refine lv_aload_n hx hb dL_act_522 rfl (lv_at hl 2 rfl) ?_
  refine lv_iload_n hx hb dL_act_523 rfl (lv_at hl 4 rfl) ?_
  refine lv_iload hx hb dL_act_524 (lv_at hl 6 rfl) ?_
  refine xcS (As := [.int x, .int (nI nB)]) (rest := [.ref h]) ⟨hx, hb, hml, hown, hts⟩ (c_L_below l D cy x nB hm0 (by omega)) (va_cwS 2 hts gL_act_L_below rfl rfl rfl (by decide +kernel) ⟨Nat.le_of_ble_eq_true rfl, Nat.le_of_ble_eq_true rfl⟩) hK hP hD hS hA (xE_nil) rfl hl.1 rfl (Nat.le_of_ble_eq_true rfl) dL_act_526 ⟨Nat.le_of_ble_eq_true rfl, Nat.le_of_ble_eq_true rfl⟩ (fun _ H locs _ hP hD hS => ?_)
  have hP : va_P D vwCl (sw cy am nS nB st (va_up bk j (upd (bk j) 2 (nI k518))) gate nu (xw cy h ad nS nB st bk gate nu bt wt)) H := hP
  have hD : va_D A (sw cy am nS nB st (va_up bk j (upd (bk j) 2 (nI k518))) gate nu (xw cy h ad nS nB st bk gate nu bt wt)) := hD
  refine W.eq (g2 := F0 m 529 ls [.int (nI j), .ref h]) (by rw [← eJ]; rfl) ?_
  refine lv_aload hx hb dL_act_529 (lv_at hl 1 rfl) ?_
  refine lv_iconst (v := 2) hx hb dL_act_531 (by decide) ?_
  refine xiald hx hb hK hP (4 + nS + j) (ww_bk hj) 2 (by decide) (by decide) (by decide) dL_act_532 ?_
  refine W.eq (g2 := F0 m 533 ls [.int (nI k518), .int (nI j), .ref h]) (by first | (rw [up_at]; done) | (rw [up_at]; rfl)) ?_
  refine xcV (As := [.int (nI j), .int (nI k518)]) (rest := []) ⟨hx, hb, hml, hown, hts⟩ (c_X3_deal l D cy h ad nS nB st bk gate nu bt wt j hj (nI k518) (bt_nI (a := 0) (k := k518) (b := 90) (by omega) (by omega) (by decide)) hcS hcB) (cwV 2 hts gL_act_X3_deal rfl rfl rfl (by decide +kernel) ⟨Nat.le_of_ble_eq_true rfl, Nat.le_of_ble_eq_true rfl⟩) hK hP hD hS hA rfl rfl rfl (xE_wr) rfl hl.1 rfl (Nat.le_of_ble_eq_true rfl) dL_act_533 ⟨Nat.le_of_ble_eq_true rfl, Nat.le_of_ble_eq_true rfl⟩ (fun _ H locs _ hP hD hS => ?_)
  have hP : va_P D vwCl (sw cy am nS nB st (va_up bk j (upd (bk j) 2 (nI k518))) gate nu (xw cy h ad nS nB st (va_up bk j (upd (bk j) 2 (nI k518))) gate nu bt wt)) H := hP
  have hD : va_D A (sw cy am nS nB st (va_up bk j (upd (bk j) 2 (nI k518))) gate nu (xw cy h ad nS nB st (va_up bk j (upd (bk j) 2 (nI k518))) gate nu bt wt)) := hD
  refine W.eq (g2 := F0 m 536 ls [.int (bk j 2)]) rfl ?_
  refine lv_iload hx hb dL_act_536 (lv_at hl 0 rfl) ?_
  refine lv_icmp_ne (tgt := 545) hx hb dL_act_538 (by decide) (fun z => absurd rfl z) (fun _ => ?_)
  refine lv_iconst (v := 1) hx hb dL_act_541 (by decide) ?_
  refine lv_goto (tgt := 546) hx hb dL_act_542 (by decide) ?_
  exact xrz (am, ad, nS, nB, (st, va_up bk j (upd (bk j) 2 (nI k518)), nu), gate) hx hb hr hlocks hS (Nat.le_of_ble_eq_true rfl) (Nat.le_of_ble_eq_true rfl) dL_act_546 (by decide) hP hD rfl ⟨jinv_same hI (inv_bk hI.1 (bOK_ration (hI.1.2.1 j hj) (rg_nI (a := 0) (k := k518) (b := 90) (by omega) (by omega) (by decide)))) (fun q _ => up_mark (f := upd (bk j) 2 (nI k518)) rfl q), htS, htB, hcS, hcB, rfl⟩

set_option maxHeartbeats 4000000 in
set_option maxRecDepth 100000 in
/-- weighing -/
theorem a_547 {p : Program} {l : Launch} {e : Env} {s : State} {m : MethodId} {below : List Frame} {meth : Method} {c : Code} {D : va_G} {cy : Nat → ClassId} {A : Nat → Prop} {h : Nat} {am ad : Nat → Nat} {nS nB tS tB : Nat} {st bk : Nat → Iu} {gate nu : Iu} {bt : Nat} {wt : va_W} {hq : Nat} {x : Int32} (F : aF p s m meth c D cy A h (am 0) x) (hI : jInv nS nB gate hq (st, bk, nu)) (htS : tS ≤ nS) (htB : tB ≤ nB) (hcS : nS ≤ 4) (hcB : nB ≤ 6) (hm0 : 0 < nB) : aS p l e s m below meth c D cy A h (am 0) x bt wt hq tS tB 547 [(0, .ref h), (1, .ref (am 0)), (2, .int x), (3, .int (nI nS)), (4, .int (nI nB))] (sw cy am nS nB st bk gate nu (xw cy h ad nS nB st bk gate nu bt wt)) := by
  obtain ⟨hx, hb, hts, hown, hlocks, hml, hK, hA, hr⟩ := F
  intro H locs ls hP hD hS hl
  have hj := blw_lt (v := x) (n := nB) hm0
  generalize eJ : blw x nB = j at hj
  have hinX4 : ∀ w ∈ wsX40, w ∈ wsL_act := fun _ h => List.mem_cons_of_mem _ (List.mem_append_left _ (List.mem_append_left _ (List.mem_append_left _ (List.mem_append_left _ (List.mem_append_left _ (List.mem_append_left _ (List.mem_append_left _ (List.mem_append_right _ h))))))))
  refine lv_iload hx hb dL_act_547 (lv_at hl 4 rfl) ?_
  refine lv_if_eq (tgt := 568) hx hb dL_act_549 (by decide) (fun z => absurd z (nI_ne0 hm0 (by omega))) (fun _ => ?_)
  refine lv_aload_n hx hb dL_act_552 rfl (lv_at hl 1 rfl) ?_
  refine va_get (D := D) (ci := 4) (v := .ref (am 3)) (C := RX4) (T := TX4) (N := 9) hx hb hts hinX4 hown hK.1 hP 0 rfl rfl 3 (by decide) (hts (.fieldLink RL 15 "LoafMarksLaw$Sim" "bakers" "[[I") (List.mem_of_getElem? (i := 2) rfl)) (fun _ h9 => h9) rfl dL_act_553 ?_
  refine lv_iload_n hx hb dL_act_556 rfl (lv_at hl 2 rfl) ?_
  refine lv_iload hx hb dL_act_557 (lv_at hl 4 rfl) ?_
  refine xcS (As := [.int x, .int (nI nB)]) (rest := [.ref (am 3)]) ⟨hx, hb, hml, hown, hts⟩ (c_L_below l D cy x nB hm0 (by omega)) (va_cwS 2 hts gL_act_L_below rfl rfl rfl (by decide +kernel) ⟨Nat.le_of_ble_eq_true rfl, Nat.le_of_ble_eq_true rfl⟩) hK hP hD hS hA (xE_nil) rfl hl.1 rfl (Nat.le_of_ble_eq_true rfl) dL_act_559 ⟨Nat.le_of_ble_eq_true rfl, Nat.le_of_ble_eq_true rfl⟩ (fun _ H locs _ hP hD hS => ?_)
  have hP : va_P D vwCl (sw cy am nS nB st bk gate nu (xw cy h ad nS nB st bk gate nu bt wt)) H := hP
  have hD : va_D A (sw cy am nS nB st bk gate nu (xw cy h ad nS nB st bk gate nu bt wt)) := hD
  refine W.eq (g2 := F0 m 562 ls [.int (nI j), .ref (am 3)]) (by rw [← eJ]; rfl) ?_
  refine xaldB hx hb hK hP (3) (am := am) rfl j rfl (by omega) hcB dL_act_562 ?_
  refine lv_iconst (v := 5) hx hb dL_act_563 (by decide) ?_
  refine xiald hx hb hK hP (4 + nS + j) (ww_bk hj) 5 (by decide) (by decide) (by decide) dL_act_564 ?_
  refine lv_if_ne (tgt := 570) hx hb dL_act_565 (by decide) (fun c565 => ?_) (fun c565 => ?_)
  · have h50 : 0 < bk j 5 := pos_of (hI.1.2.1 j hj).2.2.2.2.2.1 c565
    refine lv_aload_n hx hb dL_act_570 rfl (lv_at hl 1 rfl) ?_
    refine va_get (D := D) (ci := 4) (v := .ref (am 3)) (C := RX4) (T := TX4) (N := 9) hx hb hts hinX4 hown hK.1 hP 0 rfl rfl 3 (by decide) (hts (.fieldLink RL 15 "LoafMarksLaw$Sim" "bakers" "[[I") (List.mem_of_getElem? (i := 2) rfl)) (fun _ h9 => h9) rfl dL_act_571 ?_
    refine lv_iload_n hx hb dL_act_574 rfl (lv_at hl 2 rfl) ?_
    refine lv_iload hx hb dL_act_575 (lv_at hl 4 rfl) ?_
    refine xcS (As := [.int x, .int (nI nB)]) (rest := [.ref (am 3)]) ⟨hx, hb, hml, hown, hts⟩ (c_L_below l D cy x nB hm0 (by omega)) (va_cwS 2 hts gL_act_L_below rfl rfl rfl (by decide +kernel) ⟨Nat.le_of_ble_eq_true rfl, Nat.le_of_ble_eq_true rfl⟩) hK hP hD hS hA (xE_nil) rfl hl.1 rfl (Nat.le_of_ble_eq_true rfl) dL_act_577 ⟨Nat.le_of_ble_eq_true rfl, Nat.le_of_ble_eq_true rfl⟩ (fun _ H locs _ hP hD hS => ?_)
    have hP : va_P D vwCl (sw cy am nS nB st bk gate nu (xw cy h ad nS nB st bk gate nu bt wt)) H := hP
    have hD : va_D A (sw cy am nS nB st bk gate nu (xw cy h ad nS nB st bk gate nu bt wt)) := hD
    refine W.eq (g2 := F0 m 580 ls [.int (nI j), .ref (am 3)]) (by rw [← eJ]; rfl) ?_
    refine xaldB hx hb hK hP (3) (am := am) rfl j rfl (by omega) hcB dL_act_580 ?_
    refine lv_astore (lv' := [(18, .ref (am (8 + j))), (0, .ref h), (1, .ref (am 0)), (2, .int x), (3, .int (nI nS)), (4, .int (nI nB))]) hx hb dL_act_581 hl (by decide) rfl (fun ls hl => ?_)
    refine lv_aload hx hb dL_act_583 (lv_at hl 0 rfl) ?_
    refine lv_iconst (v := 5) hx hb dL_act_585 (by decide) ?_
    refine lv_dup2_11 hx hb dL_act_586 rfl rfl ?_
    refine xiald hx hb hK hP (4 + nS + j) (ww_bk hj) 5 (by decide) (by decide) (by decide) dL_act_587 ?_
    refine lv_iconst (v := 1) hx hb dL_act_588 (by decide) ?_
    refine lv_isub hx hb dL_act_589 ?_
    refine xiast hx hb hK hP hD hS (4 + nS + j) (ww_bk hj) 5 (by decide) (by decide) (by decide) dL_act_590 (fun H locs hP hD hS => ?_)
    have hP : va_P D vwCl (sw cy am nS nB st (va_up bk j (upd (bk j) 5 ((bk j 5) - 1))) gate nu (xw cy h ad nS nB st bk gate nu bt wt)) H := by rw [ww_set_bk hj] at hP; exact hP
    have hD : va_D A (sw cy am nS nB st (va_up bk j (upd (bk j) 5 ((bk j 5) - 1))) gate nu (xw cy h ad nS nB st bk gate nu bt wt)) := by rw [ww_set_bk hj] at hD; exact hD
    refine lv_aload hx hb dL_act_591 (lv_at hl 0 rfl) ?_
    refine lv_iconst (v := 4) hx hb dL_act_593 (by decide) ?_
    refine xiald hx hb hK hP (4 + nS + j) (ww_bk hj) 4 (by decide) (by decide) (by decide) dL_act_594 ?_
    refine W.eq (g2 := F0 m 595 ls [.int ((bk j) 4)]) (by first | (rw [up_at]; done) | (rw [up_at]; rfl)) ?_
    refine lv_bipush (v := 10) hx hb dL_act_595 (by decide) ?_
    refine lv_icmp_ge (tgt := 606) hx hb dL_act_597 (by decide) (fun c597 => ?_) (fun c597 => ?_)
    · refine lv_aload_n hx hb dL_act_606 rfl (lv_at hl 1 rfl) ?_
      refine lv_iload_n hx hb dL_act_607 rfl (lv_at hl 3 rfl) ?_
      refine lv_iload hx hb dL_act_608 (lv_at hl 5 rfl) ?_
      refine xcS (As := [.int x, .int (nI nB)]) (rest := [.ref h]) ⟨hx, hb, hml, hown, hts⟩ (c_L_below l D cy x nB hm0 (by omega)) (va_cwS 2 hts gL_act_L_below rfl rfl rfl (by decide +kernel) ⟨Nat.le_of_ble_eq_true rfl, Nat.le_of_ble_eq_true rfl⟩) hK hP hD hS hA (xE_nil) rfl hl.1 rfl (Nat.le_of_ble_eq_true rfl) dL_act_610 ⟨Nat.le_of_ble_eq_true rfl, Nat.le_of_ble_eq_true rfl⟩ (fun _ H locs _ hP hD hS => ?_)
      have hP : va_P D vwCl (sw cy am nS nB st (va_up bk j (upd (bk j) 5 ((bk j 5) - 1))) gate nu (xw cy h ad nS nB st bk gate nu bt wt)) H := hP
      have hD : va_D A (sw cy am nS nB st (va_up bk j (upd (bk j) 5 ((bk j 5) - 1))) gate nu (xw cy h ad nS nB st bk gate nu bt wt)) := hD
      refine W.eq (g2 := F0 m 613 ls [.int (nI j), .ref h]) (by rw [← eJ]; rfl) ?_
      refine xcV (As := [.int (nI j)]) (rest := []) ⟨hx, hb, hml, hown, hts⟩ (c_X3_weigh l D cy h ad nS nB st bk gate nu bt wt j hj h50 hcS hcB) (cwV 1 hts gL_act_X3_weigh rfl rfl rfl (by decide +kernel) ⟨Nat.le_of_ble_eq_true rfl, Nat.le_of_ble_eq_true rfl⟩) hK hP hD hS hA rfl rfl rfl (xE_wr) rfl hl.1 rfl (Nat.le_of_ble_eq_true rfl) dL_act_613 ⟨Nat.le_of_ble_eq_true rfl, Nat.le_of_ble_eq_true rfl⟩ (fun _ H locs _ hP hD hS => ?_)
      have hP : va_P D vwCl (sw cy am nS nB st (va_up bk j (upd (bk j) 5 ((bk j 5) - 1))) gate nu (xw cy h ad nS nB st (va_up bk j (bInspect (bk j))) gate nu bt wt)) H := hP
      have hD : va_D A (sw cy am nS nB st (va_up bk j (upd (bk j) 5 ((bk j 5) - 1))) gate nu (xw cy h ad nS nB st (va_up bk j (bInspect (bk j))) gate nu bt wt)) := hD
      refine W.eq (g2 := F0 m 616 ls [.int (bk j 4)]) rfl ?_
      refine lv_aload hx hb dL_act_616 (lv_at hl 0 rfl) ?_
      refine lv_iconst (v := 4) hx hb dL_act_618 (by decide) ?_
      refine xiald hx hb hK hP (4 + nS + j) (ww_bk hj) 4 (by decide) (by decide) (by decide) dL_act_619 ?_
      refine W.eq (g2 := F0 m 620 ls [.int ((bk j) 4), .int (bk j 4)]) (by first | (rw [up_at]; done) | (rw [up_at]; rfl)) ?_
      refine lv_icmp_ne (tgt := 627) hx hb dL_act_620 (by decide) (fun z => absurd rfl z) (fun _ => ?_)
      refine lv_iconst (v := 1) hx hb dL_act_623 (by decide) ?_
      refine lv_goto (tgt := 628) hx hb dL_act_624 (by decide) ?_
      have e : bInspect (bk j) = upd (bk j) 5 ((bk j 5) - 1) := if_neg (Int32.not_lt.mpr c597)
      rw [e] at hP hD
      exact xrz (am, ad, nS, nB, (st, va_up bk j (upd (bk j) 5 ((bk j 5) - 1)), nu), gate) hx hb hr hlocks hS (Nat.le_of_ble_eq_true rfl) (Nat.le_of_ble_eq_true rfl) dL_act_628 (by decide) hP hD rfl ⟨jinv_same hI (inv_bk hI.1 (by rw [← e]; exact bOK_inspect (hI.1.2.1 j hj) (Int32.lt_iff_toInt_lt.mp h50))) (fun q _ => up_mark (f := upd (bk j) 5 ((bk j 5) - 1)) rfl q), htS, htB, hcS, hcB, rfl⟩
    · refine lv_aload hx hb dL_act_600 (lv_at hl 0 rfl) ?_
      refine lv_bipush (v := 7) hx hb dL_act_602 (by decide) ?_
      refine lv_iconst (v := 1) hx hb dL_act_604 (by decide) ?_
      refine xiast hx hb hK hP hD hS (4 + nS + j) (ww_bk hj) 7 (by decide) (by decide) (by decide) dL_act_605 (fun H locs hP hD hS => ?_)
      have hP : va_P D vwCl (sw cy am nS nB st (va_up bk j (upd (upd (bk j) 5 ((bk j 5) - 1)) 7 1)) gate nu (xw cy h ad nS nB st bk gate nu bt wt)) H := by rw [ww_set_bk hj, up_upd] at hP; exact hP
      have hD : va_D A (sw cy am nS nB st (va_up bk j (upd (upd (bk j) 5 ((bk j 5) - 1)) 7 1)) gate nu (xw cy h ad nS nB st bk gate nu bt wt)) := by rw [ww_set_bk hj, up_upd] at hD; exact hD
      refine lv_aload_n hx hb dL_act_606 rfl (lv_at hl 1 rfl) ?_
      refine lv_iload_n hx hb dL_act_607 rfl (lv_at hl 3 rfl) ?_
      refine lv_iload hx hb dL_act_608 (lv_at hl 5 rfl) ?_
      refine xcS (As := [.int x, .int (nI nB)]) (rest := [.ref h]) ⟨hx, hb, hml, hown, hts⟩ (c_L_below l D cy x nB hm0 (by omega)) (va_cwS 2 hts gL_act_L_below rfl rfl rfl (by decide +kernel) ⟨Nat.le_of_ble_eq_true rfl, Nat.le_of_ble_eq_true rfl⟩) hK hP hD hS hA (xE_nil) rfl hl.1 rfl (Nat.le_of_ble_eq_true rfl) dL_act_610 ⟨Nat.le_of_ble_eq_true rfl, Nat.le_of_ble_eq_true rfl⟩ (fun _ H locs _ hP hD hS => ?_)
      have hP : va_P D vwCl (sw cy am nS nB st (va_up bk j (upd (upd (bk j) 5 ((bk j 5) - 1)) 7 1)) gate nu (xw cy h ad nS nB st bk gate nu bt wt)) H := hP
      have hD : va_D A (sw cy am nS nB st (va_up bk j (upd (upd (bk j) 5 ((bk j 5) - 1)) 7 1)) gate nu (xw cy h ad nS nB st bk gate nu bt wt)) := hD
      refine W.eq (g2 := F0 m 613 ls [.int (nI j), .ref h]) (by rw [← eJ]; rfl) ?_
      refine xcV (As := [.int (nI j)]) (rest := []) ⟨hx, hb, hml, hown, hts⟩ (c_X3_weigh l D cy h ad nS nB st bk gate nu bt wt j hj h50 hcS hcB) (cwV 1 hts gL_act_X3_weigh rfl rfl rfl (by decide +kernel) ⟨Nat.le_of_ble_eq_true rfl, Nat.le_of_ble_eq_true rfl⟩) hK hP hD hS hA rfl rfl rfl (xE_wr) rfl hl.1 rfl (Nat.le_of_ble_eq_true rfl) dL_act_613 ⟨Nat.le_of_ble_eq_true rfl, Nat.le_of_ble_eq_true rfl⟩ (fun _ H locs _ hP hD hS => ?_)
      have hP : va_P D vwCl (sw cy am nS nB st (va_up bk j (upd (upd (bk j) 5 ((bk j 5) - 1)) 7 1)) gate nu (xw cy h ad nS nB st (va_up bk j (bInspect (bk j))) gate nu bt wt)) H := hP
      have hD : va_D A (sw cy am nS nB st (va_up bk j (upd (upd (bk j) 5 ((bk j 5) - 1)) 7 1)) gate nu (xw cy h ad nS nB st (va_up bk j (bInspect (bk j))) gate nu bt wt)) := hD
      refine W.eq (g2 := F0 m 616 ls [.int (bk j 4)]) rfl ?_
      refine lv_aload hx hb dL_act_616 (lv_at hl 0 rfl) ?_
      refine lv_iconst (v := 4) hx hb dL_act_618 (by decide) ?_
      refine xiald hx hb hK hP (4 + nS + j) (ww_bk hj) 4 (by decide) (by decide) (by decide) dL_act_619 ?_
      refine W.eq (g2 := F0 m 620 ls [.int ((bk j) 4), .int (bk j 4)]) (by first | (rw [up_at]; done) | (rw [up_at]; rfl)) ?_
      refine lv_icmp_ne (tgt := 627) hx hb dL_act_620 (by decide) (fun z => absurd rfl z) (fun _ => ?_)
      refine lv_iconst (v := 1) hx hb dL_act_623 (by decide) ?_
      refine lv_goto (tgt := 628) hx hb dL_act_624 (by decide) ?_
      have e : bInspect (bk j) = upd (upd (bk j) 5 ((bk j 5) - 1)) 7 1 := if_pos (Int32.not_le.mp c597)
      rw [e] at hP hD
      exact xrz (am, ad, nS, nB, (st, va_up bk j (upd (upd (bk j) 5 ((bk j 5) - 1)) 7 1), nu), gate) hx hb hr hlocks hS (Nat.le_of_ble_eq_true rfl) (Nat.le_of_ble_eq_true rfl) dL_act_628 (by decide) hP hD rfl ⟨jinv_same hI (inv_bk hI.1 (by rw [← e]; exact bOK_inspect (hI.1.2.1 j hj) (Int32.lt_iff_toInt_lt.mp h50))) (fun q _ => up_mark (f := upd (upd (bk j) 5 ((bk j 5) - 1)) 7 1) rfl q), htS, htB, hcS, hcB, rfl⟩
  · refine lv_iconst (v := 1) hx hb dL_act_568 (by decide) ?_
    exact xrz (am, ad, nS, nB, (st, bk, nu), gate) hx hb hr hlocks hS (Nat.le_of_ble_eq_true rfl) (Nat.le_of_ble_eq_true rfl) dL_act_569 (by decide) hP hD rfl ⟨hI, htS, htB, hcS, hcB, rfl⟩

set_option maxHeartbeats 4000000 in
set_option maxRecDepth 100000 in
/-- pardon -/
theorem a_629 {p : Program} {l : Launch} {e : Env} {s : State} {m : MethodId} {below : List Frame} {meth : Method} {c : Code} {D : va_G} {cy : Nat → ClassId} {A : Nat → Prop} {h : Nat} {am ad : Nat → Nat} {nS nB tS tB : Nat} {st bk : Nat → Iu} {gate nu : Iu} {bt : Nat} {wt : va_W} {hq : Nat} {x : Int32} (F : aF p s m meth c D cy A h (am 0) x) (hI : jInv nS nB gate hq (st, bk, nu)) (htS : tS ≤ nS) (htB : tB ≤ nB) (hcS : nS ≤ 4) (hcB : nB ≤ 6) (hm0 : 0 < nB) : aS p l e s m below meth c D cy A h (am 0) x bt wt hq tS tB 629 [(0, .ref h), (1, .ref (am 0)), (2, .int x), (3, .int (nI nS)), (4, .int (nI nB))] (sw cy am nS nB st bk gate nu (xw cy h ad nS nB st bk gate nu bt wt)) := by
  obtain ⟨hx, hb, hts, hown, hlocks, hml, hK, hA, hr⟩ := F
  intro H locs ls hP hD hS hl
  have hj := blw_lt (v := x) (n := nB) hm0
  generalize eJ : blw x nB = j at hj
  have hinX4 : ∀ w ∈ wsX40, w ∈ wsL_act := fun _ h => List.mem_cons_of_mem _ (List.mem_append_left _ (List.mem_append_left _ (List.mem_append_left _ (List.mem_append_left _ (List.mem_append_left _ (List.mem_append_left _ (List.mem_append_left _ (List.mem_append_right _ h))))))))
  refine lv_iload hx hb dL_act_629 (lv_at hl 4 rfl) ?_
  refine lv_if_ne (tgt := 636) hx hb dL_act_631 (by decide) (fun _ => ?_) (fun z => absurd z (nI_ne0 hm0 (by omega)))
  refine lv_aload_n hx hb dL_act_636 rfl (lv_at hl 1 rfl) ?_
  refine va_get (D := D) (ci := 4) (v := .ref (am 3)) (C := RX4) (T := TX4) (N := 9) hx hb hts hinX4 hown hK.1 hP 0 rfl rfl 3 (by decide) (hts (.fieldLink RL 15 "LoafMarksLaw$Sim" "bakers" "[[I") (List.mem_of_getElem? (i := 2) rfl)) (fun _ h9 => h9) rfl dL_act_637 ?_
  refine lv_iload_n hx hb dL_act_640 rfl (lv_at hl 2 rfl) ?_
  refine lv_iload hx hb dL_act_641 (lv_at hl 4 rfl) ?_
  refine xcS (As := [.int x, .int (nI nB)]) (rest := [.ref (am 3)]) ⟨hx, hb, hml, hown, hts⟩ (c_L_below l D cy x nB hm0 (by omega)) (va_cwS 2 hts gL_act_L_below rfl rfl rfl (by decide +kernel) ⟨Nat.le_of_ble_eq_true rfl, Nat.le_of_ble_eq_true rfl⟩) hK hP hD hS hA (xE_nil) rfl hl.1 rfl (Nat.le_of_ble_eq_true rfl) dL_act_643 ⟨Nat.le_of_ble_eq_true rfl, Nat.le_of_ble_eq_true rfl⟩ (fun _ H locs _ hP hD hS => ?_)
  have hP : va_P D vwCl (sw cy am nS nB st bk gate nu (xw cy h ad nS nB st bk gate nu bt wt)) H := hP
  have hD : va_D A (sw cy am nS nB st bk gate nu (xw cy h ad nS nB st bk gate nu bt wt)) := hD
  refine W.eq (g2 := F0 m 646 ls [.int (nI j), .ref (am 3)]) (by rw [← eJ]; rfl) ?_
  refine xaldB hx hb hK hP (3) (am := am) rfl j rfl (by omega) hcB dL_act_646 ?_
  refine lv_astore (lv' := [(19, .ref (am (8 + j))), (0, .ref h), (1, .ref (am 0)), (2, .int x), (3, .int (nI nS)), (4, .int (nI nB))]) hx hb dL_act_647 hl (by decide) rfl (fun ls hl => ?_)
  refine lv_aload hx hb dL_act_649 (lv_at hl 0 rfl) ?_
  refine lv_bipush (v := 7) hx hb dL_act_651 (by decide) ?_
  refine xiald hx hb hK hP (4 + nS + j) (ww_bk hj) 7 (by decide) (by decide) (by decide) dL_act_653 ?_
  refine lv_iconst (v := 1) hx hb dL_act_654 (by decide) ?_
  refine lv_icmp_ne (tgt := 662) hx hb dL_act_655 (by decide) (fun c655 => ?_) (fun c655 => ?_)
  · refine lv_iconst (v := 0) hx hb dL_act_662 (by decide) ?_
    refine lv_istore (lv' := [(20, .int 0), (19, .ref (am (8 + j))), (0, .ref h), (1, .ref (am 0)), (2, .int x), (3, .int (nI nS)), (4, .int (nI nB))]) hx hb dL_act_663 hl (by decide) rfl (fun ls hl => ?_)
    refine lv_aload hx hb dL_act_665 (lv_at hl 1 rfl) ?_
    refine lv_bipush (v := 7) hx hb dL_act_667 (by decide) ?_
    refine lv_iconst (v := 0) hx hb dL_act_669 (by decide) ?_
    refine xiast hx hb hK hP hD hS (4 + nS + j) (ww_bk hj) 7 (by decide) (by decide) (by decide) dL_act_670 (fun H locs hP hD hS => ?_)
    have hP : va_P D vwCl (sw cy am nS nB st (va_up bk j (upd (bk j) 7 0)) gate nu (xw cy h ad nS nB st bk gate nu bt wt)) H := by rw [ww_set_bk hj] at hP; exact hP
    have hD : va_D A (sw cy am nS nB st (va_up bk j (upd (bk j) 7 0)) gate nu (xw cy h ad nS nB st bk gate nu bt wt)) := by rw [ww_set_bk hj] at hD; exact hD
    refine lv_aload hx hb dL_act_671 (lv_at hl 1 rfl) ?_
    refine lv_iconst (v := 4) hx hb dL_act_673 (by decide) ?_
    refine xiald hx hb hK hP (4 + nS + j) (ww_bk hj) 4 (by decide) (by decide) (by decide) dL_act_674 ?_
    refine W.eq (g2 := F0 m 675 ls [.int ((bk j) 4)]) (by first | (rw [up_at]; done) | (rw [up_at]; rfl)) ?_
    refine lv_bipush (v := 10) hx hb dL_act_675 (by decide) ?_
    refine lv_icmp_ge (tgt := 686) hx hb dL_act_677 (by decide) (fun c677 => ?_) (fun c677 => ?_)
    · refine lv_aload_n hx hb dL_act_686 rfl (lv_at hl 2 rfl) ?_
      refine lv_iload_n hx hb dL_act_687 rfl (lv_at hl 4 rfl) ?_
      refine lv_iload hx hb dL_act_688 (lv_at hl 6 rfl) ?_
      refine xcS (As := [.int x, .int (nI nB)]) (rest := [.ref h]) ⟨hx, hb, hml, hown, hts⟩ (c_L_below l D cy x nB hm0 (by omega)) (va_cwS 2 hts gL_act_L_below rfl rfl rfl (by decide +kernel) ⟨Nat.le_of_ble_eq_true rfl, Nat.le_of_ble_eq_true rfl⟩) hK hP hD hS hA (xE_nil) rfl hl.1 rfl (Nat.le_of_ble_eq_true rfl) dL_act_690 ⟨Nat.le_of_ble_eq_true rfl, Nat.le_of_ble_eq_true rfl⟩ (fun _ H locs _ hP hD hS => ?_)
      have hP : va_P D vwCl (sw cy am nS nB st (va_up bk j (upd (bk j) 7 0)) gate nu (xw cy h ad nS nB st bk gate nu bt wt)) H := hP
      have hD : va_D A (sw cy am nS nB st (va_up bk j (upd (bk j) 7 0)) gate nu (xw cy h ad nS nB st bk gate nu bt wt)) := hD
      refine W.eq (g2 := F0 m 693 ls [.int (nI j), .ref h]) (by rw [← eJ]; rfl) ?_
      refine xcV (As := [.int (nI j)]) (rest := []) ⟨hx, hb, hml, hown, hts⟩ (c_X3_pardon l D cy h ad nS nB st bk gate nu bt wt j hj (hI.1.2.1 j hj).2.1 hcS hcB) (cwV 1 hts gL_act_X3_pardon rfl rfl rfl (by decide +kernel) ⟨Nat.le_of_ble_eq_true rfl, Nat.le_of_ble_eq_true rfl⟩) hK hP hD hS hA rfl rfl rfl (xE_wr) rfl hl.1 rfl (Nat.le_of_ble_eq_true rfl) dL_act_693 ⟨Nat.le_of_ble_eq_true rfl, Nat.le_of_ble_eq_true rfl⟩ (fun _ H locs _ hP hD hS => ?_)
      have hP : va_P D vwCl (sw cy am nS nB st (va_up bk j (upd (bk j) 7 0)) gate nu (xw cy h ad nS nB st (va_up bk j (bForgive (bk j))) gate nu bt wt)) H := hP
      have hD : va_D A (sw cy am nS nB st (va_up bk j (upd (bk j) 7 0)) gate nu (xw cy h ad nS nB st (va_up bk j (bForgive (bk j))) gate nu bt wt)) := hD
      refine W.eq (g2 := F0 m 696 ls [.int (bk j 7)]) rfl ?_
      refine lv_iload hx hb dL_act_696 (lv_at hl 0 rfl) ?_
      refine lv_icmp_ne (tgt := 705) hx hb dL_act_698 (by decide) (fun z => absurd (zero_of (hI.1.2.1 j hj).2.1 c655) z) (fun _ => ?_)
      refine lv_iconst (v := 1) hx hb dL_act_701 (by decide) ?_
      refine lv_goto (tgt := 706) hx hb dL_act_702 (by decide) ?_
      have e : bForgive (bk j) = upd (bk j) 7 0 := fg_ge c677
      rw [e] at hP hD
      exact xrz (am, ad, nS, nB, (st, va_up bk j (upd (bk j) 7 0), nu), gate) hx hb hr hlocks hS (Nat.le_of_ble_eq_true rfl) (Nat.le_of_ble_eq_true rfl) dL_act_706 (by decide) hP hD rfl ⟨jinv_same hI (inv_bk hI.1 (by rw [← e]; exact bOK_forgive (hI.1.2.1 j hj))) (fun q _ => up_mark (f := upd (bk j) 7 0) rfl q), htS, htB, hcS, hcB, rfl⟩
    · refine lv_aload hx hb dL_act_680 (lv_at hl 1 rfl) ?_
      refine lv_iconst (v := 4) hx hb dL_act_682 (by decide) ?_
      refine lv_bipush (v := 10) hx hb dL_act_683 (by decide) ?_
      refine xiast hx hb hK hP hD hS (4 + nS + j) (ww_bk hj) 4 (by decide) (by decide) (by decide) dL_act_685 (fun H locs hP hD hS => ?_)
      have hP : va_P D vwCl (sw cy am nS nB st (va_up bk j (upd (upd (bk j) 7 0) 4 10)) gate nu (xw cy h ad nS nB st bk gate nu bt wt)) H := by rw [ww_set_bk hj, up_upd] at hP; exact hP
      have hD : va_D A (sw cy am nS nB st (va_up bk j (upd (upd (bk j) 7 0) 4 10)) gate nu (xw cy h ad nS nB st bk gate nu bt wt)) := by rw [ww_set_bk hj, up_upd] at hD; exact hD
      refine lv_aload_n hx hb dL_act_686 rfl (lv_at hl 2 rfl) ?_
      refine lv_iload_n hx hb dL_act_687 rfl (lv_at hl 4 rfl) ?_
      refine lv_iload hx hb dL_act_688 (lv_at hl 6 rfl) ?_
      refine xcS (As := [.int x, .int (nI nB)]) (rest := [.ref h]) ⟨hx, hb, hml, hown, hts⟩ (c_L_below l D cy x nB hm0 (by omega)) (va_cwS 2 hts gL_act_L_below rfl rfl rfl (by decide +kernel) ⟨Nat.le_of_ble_eq_true rfl, Nat.le_of_ble_eq_true rfl⟩) hK hP hD hS hA (xE_nil) rfl hl.1 rfl (Nat.le_of_ble_eq_true rfl) dL_act_690 ⟨Nat.le_of_ble_eq_true rfl, Nat.le_of_ble_eq_true rfl⟩ (fun _ H locs _ hP hD hS => ?_)
      have hP : va_P D vwCl (sw cy am nS nB st (va_up bk j (upd (upd (bk j) 7 0) 4 10)) gate nu (xw cy h ad nS nB st bk gate nu bt wt)) H := hP
      have hD : va_D A (sw cy am nS nB st (va_up bk j (upd (upd (bk j) 7 0) 4 10)) gate nu (xw cy h ad nS nB st bk gate nu bt wt)) := hD
      refine W.eq (g2 := F0 m 693 ls [.int (nI j), .ref h]) (by rw [← eJ]; rfl) ?_
      refine xcV (As := [.int (nI j)]) (rest := []) ⟨hx, hb, hml, hown, hts⟩ (c_X3_pardon l D cy h ad nS nB st bk gate nu bt wt j hj (hI.1.2.1 j hj).2.1 hcS hcB) (cwV 1 hts gL_act_X3_pardon rfl rfl rfl (by decide +kernel) ⟨Nat.le_of_ble_eq_true rfl, Nat.le_of_ble_eq_true rfl⟩) hK hP hD hS hA rfl rfl rfl (xE_wr) rfl hl.1 rfl (Nat.le_of_ble_eq_true rfl) dL_act_693 ⟨Nat.le_of_ble_eq_true rfl, Nat.le_of_ble_eq_true rfl⟩ (fun _ H locs _ hP hD hS => ?_)
      have hP : va_P D vwCl (sw cy am nS nB st (va_up bk j (upd (upd (bk j) 7 0) 4 10)) gate nu (xw cy h ad nS nB st (va_up bk j (bForgive (bk j))) gate nu bt wt)) H := hP
      have hD : va_D A (sw cy am nS nB st (va_up bk j (upd (upd (bk j) 7 0) 4 10)) gate nu (xw cy h ad nS nB st (va_up bk j (bForgive (bk j))) gate nu bt wt)) := hD
      refine W.eq (g2 := F0 m 696 ls [.int (bk j 7)]) rfl ?_
      refine lv_iload hx hb dL_act_696 (lv_at hl 0 rfl) ?_
      refine lv_icmp_ne (tgt := 705) hx hb dL_act_698 (by decide) (fun z => absurd (zero_of (hI.1.2.1 j hj).2.1 c655) z) (fun _ => ?_)
      refine lv_iconst (v := 1) hx hb dL_act_701 (by decide) ?_
      refine lv_goto (tgt := 706) hx hb dL_act_702 (by decide) ?_
      have e : bForgive (bk j) = upd (upd (bk j) 7 0) 4 10 := fg_lt c677
      rw [e] at hP hD
      exact xrz (am, ad, nS, nB, (st, va_up bk j (upd (upd (bk j) 7 0) 4 10), nu), gate) hx hb hr hlocks hS (Nat.le_of_ble_eq_true rfl) (Nat.le_of_ble_eq_true rfl) dL_act_706 (by decide) hP hD rfl ⟨jinv_same hI (inv_bk hI.1 (by rw [← e]; exact bOK_forgive (hI.1.2.1 j hj))) (fun q _ => up_mark (f := upd (upd (bk j) 7 0) 4 10) rfl q), htS, htB, hcS, hcB, rfl⟩
  · refine lv_iconst (v := 1) hx hb dL_act_658 (by decide) ?_
    refine lv_goto (tgt := 663) hx hb dL_act_659 (by decide) ?_
    refine lv_istore (lv' := [(20, .int 1), (19, .ref (am (8 + j))), (0, .ref h), (1, .ref (am 0)), (2, .int x), (3, .int (nI nS)), (4, .int (nI nB))]) hx hb dL_act_663 hl (by decide) rfl (fun ls hl => ?_)
    refine lv_aload hx hb dL_act_665 (lv_at hl 1 rfl) ?_
    refine lv_bipush (v := 7) hx hb dL_act_667 (by decide) ?_
    refine lv_iconst (v := 0) hx hb dL_act_669 (by decide) ?_
    refine xiast hx hb hK hP hD hS (4 + nS + j) (ww_bk hj) 7 (by decide) (by decide) (by decide) dL_act_670 (fun H locs hP hD hS => ?_)
    have hP : va_P D vwCl (sw cy am nS nB st (va_up bk j (upd (bk j) 7 0)) gate nu (xw cy h ad nS nB st bk gate nu bt wt)) H := by rw [ww_set_bk hj] at hP; exact hP
    have hD : va_D A (sw cy am nS nB st (va_up bk j (upd (bk j) 7 0)) gate nu (xw cy h ad nS nB st bk gate nu bt wt)) := by rw [ww_set_bk hj] at hD; exact hD
    refine lv_aload hx hb dL_act_671 (lv_at hl 1 rfl) ?_
    refine lv_iconst (v := 4) hx hb dL_act_673 (by decide) ?_
    refine xiald hx hb hK hP (4 + nS + j) (ww_bk hj) 4 (by decide) (by decide) (by decide) dL_act_674 ?_
    refine W.eq (g2 := F0 m 675 ls [.int ((bk j) 4)]) (by first | (rw [up_at]; done) | (rw [up_at]; rfl)) ?_
    refine lv_bipush (v := 10) hx hb dL_act_675 (by decide) ?_
    refine lv_icmp_ge (tgt := 686) hx hb dL_act_677 (by decide) (fun c677 => ?_) (fun c677 => ?_)
    · refine lv_aload_n hx hb dL_act_686 rfl (lv_at hl 2 rfl) ?_
      refine lv_iload_n hx hb dL_act_687 rfl (lv_at hl 4 rfl) ?_
      refine lv_iload hx hb dL_act_688 (lv_at hl 6 rfl) ?_
      refine xcS (As := [.int x, .int (nI nB)]) (rest := [.ref h]) ⟨hx, hb, hml, hown, hts⟩ (c_L_below l D cy x nB hm0 (by omega)) (va_cwS 2 hts gL_act_L_below rfl rfl rfl (by decide +kernel) ⟨Nat.le_of_ble_eq_true rfl, Nat.le_of_ble_eq_true rfl⟩) hK hP hD hS hA (xE_nil) rfl hl.1 rfl (Nat.le_of_ble_eq_true rfl) dL_act_690 ⟨Nat.le_of_ble_eq_true rfl, Nat.le_of_ble_eq_true rfl⟩ (fun _ H locs _ hP hD hS => ?_)
      have hP : va_P D vwCl (sw cy am nS nB st (va_up bk j (upd (bk j) 7 0)) gate nu (xw cy h ad nS nB st bk gate nu bt wt)) H := hP
      have hD : va_D A (sw cy am nS nB st (va_up bk j (upd (bk j) 7 0)) gate nu (xw cy h ad nS nB st bk gate nu bt wt)) := hD
      refine W.eq (g2 := F0 m 693 ls [.int (nI j), .ref h]) (by rw [← eJ]; rfl) ?_
      refine xcV (As := [.int (nI j)]) (rest := []) ⟨hx, hb, hml, hown, hts⟩ (c_X3_pardon l D cy h ad nS nB st bk gate nu bt wt j hj (hI.1.2.1 j hj).2.1 hcS hcB) (cwV 1 hts gL_act_X3_pardon rfl rfl rfl (by decide +kernel) ⟨Nat.le_of_ble_eq_true rfl, Nat.le_of_ble_eq_true rfl⟩) hK hP hD hS hA rfl rfl rfl (xE_wr) rfl hl.1 rfl (Nat.le_of_ble_eq_true rfl) dL_act_693 ⟨Nat.le_of_ble_eq_true rfl, Nat.le_of_ble_eq_true rfl⟩ (fun _ H locs _ hP hD hS => ?_)
      have hP : va_P D vwCl (sw cy am nS nB st (va_up bk j (upd (bk j) 7 0)) gate nu (xw cy h ad nS nB st (va_up bk j (bForgive (bk j))) gate nu bt wt)) H := hP
      have hD : va_D A (sw cy am nS nB st (va_up bk j (upd (bk j) 7 0)) gate nu (xw cy h ad nS nB st (va_up bk j (bForgive (bk j))) gate nu bt wt)) := hD
      refine W.eq (g2 := F0 m 696 ls [.int (bk j 7)]) rfl ?_
      refine lv_iload hx hb dL_act_696 (lv_at hl 0 rfl) ?_
      refine lv_icmp_ne (tgt := 705) hx hb dL_act_698 (by decide) (fun z => absurd c655 z) (fun _ => ?_)
      refine lv_iconst (v := 1) hx hb dL_act_701 (by decide) ?_
      refine lv_goto (tgt := 706) hx hb dL_act_702 (by decide) ?_
      have e : bForgive (bk j) = upd (bk j) 7 0 := fg_ge c677
      rw [e] at hP hD
      exact xrz (am, ad, nS, nB, (st, va_up bk j (upd (bk j) 7 0), nu), gate) hx hb hr hlocks hS (Nat.le_of_ble_eq_true rfl) (Nat.le_of_ble_eq_true rfl) dL_act_706 (by decide) hP hD rfl ⟨jinv_same hI (inv_bk hI.1 (by rw [← e]; exact bOK_forgive (hI.1.2.1 j hj))) (fun q _ => up_mark (f := upd (bk j) 7 0) rfl q), htS, htB, hcS, hcB, rfl⟩
    · refine lv_aload hx hb dL_act_680 (lv_at hl 1 rfl) ?_
      refine lv_iconst (v := 4) hx hb dL_act_682 (by decide) ?_
      refine lv_bipush (v := 10) hx hb dL_act_683 (by decide) ?_
      refine xiast hx hb hK hP hD hS (4 + nS + j) (ww_bk hj) 4 (by decide) (by decide) (by decide) dL_act_685 (fun H locs hP hD hS => ?_)
      have hP : va_P D vwCl (sw cy am nS nB st (va_up bk j (upd (upd (bk j) 7 0) 4 10)) gate nu (xw cy h ad nS nB st bk gate nu bt wt)) H := by rw [ww_set_bk hj, up_upd] at hP; exact hP
      have hD : va_D A (sw cy am nS nB st (va_up bk j (upd (upd (bk j) 7 0) 4 10)) gate nu (xw cy h ad nS nB st bk gate nu bt wt)) := by rw [ww_set_bk hj, up_upd] at hD; exact hD
      refine lv_aload_n hx hb dL_act_686 rfl (lv_at hl 2 rfl) ?_
      refine lv_iload_n hx hb dL_act_687 rfl (lv_at hl 4 rfl) ?_
      refine lv_iload hx hb dL_act_688 (lv_at hl 6 rfl) ?_
      refine xcS (As := [.int x, .int (nI nB)]) (rest := [.ref h]) ⟨hx, hb, hml, hown, hts⟩ (c_L_below l D cy x nB hm0 (by omega)) (va_cwS 2 hts gL_act_L_below rfl rfl rfl (by decide +kernel) ⟨Nat.le_of_ble_eq_true rfl, Nat.le_of_ble_eq_true rfl⟩) hK hP hD hS hA (xE_nil) rfl hl.1 rfl (Nat.le_of_ble_eq_true rfl) dL_act_690 ⟨Nat.le_of_ble_eq_true rfl, Nat.le_of_ble_eq_true rfl⟩ (fun _ H locs _ hP hD hS => ?_)
      have hP : va_P D vwCl (sw cy am nS nB st (va_up bk j (upd (upd (bk j) 7 0) 4 10)) gate nu (xw cy h ad nS nB st bk gate nu bt wt)) H := hP
      have hD : va_D A (sw cy am nS nB st (va_up bk j (upd (upd (bk j) 7 0) 4 10)) gate nu (xw cy h ad nS nB st bk gate nu bt wt)) := hD
      refine W.eq (g2 := F0 m 693 ls [.int (nI j), .ref h]) (by rw [← eJ]; rfl) ?_
      refine xcV (As := [.int (nI j)]) (rest := []) ⟨hx, hb, hml, hown, hts⟩ (c_X3_pardon l D cy h ad nS nB st bk gate nu bt wt j hj (hI.1.2.1 j hj).2.1 hcS hcB) (cwV 1 hts gL_act_X3_pardon rfl rfl rfl (by decide +kernel) ⟨Nat.le_of_ble_eq_true rfl, Nat.le_of_ble_eq_true rfl⟩) hK hP hD hS hA rfl rfl rfl (xE_wr) rfl hl.1 rfl (Nat.le_of_ble_eq_true rfl) dL_act_693 ⟨Nat.le_of_ble_eq_true rfl, Nat.le_of_ble_eq_true rfl⟩ (fun _ H locs _ hP hD hS => ?_)
      have hP : va_P D vwCl (sw cy am nS nB st (va_up bk j (upd (upd (bk j) 7 0) 4 10)) gate nu (xw cy h ad nS nB st (va_up bk j (bForgive (bk j))) gate nu bt wt)) H := hP
      have hD : va_D A (sw cy am nS nB st (va_up bk j (upd (upd (bk j) 7 0) 4 10)) gate nu (xw cy h ad nS nB st (va_up bk j (bForgive (bk j))) gate nu bt wt)) := hD
      refine W.eq (g2 := F0 m 696 ls [.int (bk j 7)]) rfl ?_
      refine lv_iload hx hb dL_act_696 (lv_at hl 0 rfl) ?_
      refine lv_icmp_ne (tgt := 705) hx hb dL_act_698 (by decide) (fun z => absurd c655 z) (fun _ => ?_)
      refine lv_iconst (v := 1) hx hb dL_act_701 (by decide) ?_
      refine lv_goto (tgt := 706) hx hb dL_act_702 (by decide) ?_
      have e : bForgive (bk j) = upd (upd (bk j) 7 0) 4 10 := fg_lt c677
      rw [e] at hP hD
      exact xrz (am, ad, nS, nB, (st, va_up bk j (upd (upd (bk j) 7 0) 4 10), nu), gate) hx hb hr hlocks hS (Nat.le_of_ble_eq_true rfl) (Nat.le_of_ble_eq_true rfl) dL_act_706 (by decide) hP hD rfl ⟨jinv_same hI (inv_bk hI.1 (by rw [← e]; exact bOK_forgive (hI.1.2.1 j hj))) (fun q _ => up_mark (f := upd (upd (bk j) 7 0) 4 10) rfl q), htS, htB, hcS, hcB, rfl⟩
