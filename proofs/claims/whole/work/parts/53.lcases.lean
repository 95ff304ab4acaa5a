/-! ===== the law: a call each (laid by gen53.py) ===== -/
set_option maxHeartbeats 4000000 in
set_option maxRecDepth 100000 in
theorem l_case_setPeople {p : Program} {l : Launch} {e : Env} {s : State} {m : MethodId} {below : List Frame} {meth : Method} {c : Code} {b L : Nat} {xs : Nat → Int32} {D : va_G} {cy : Nat → ClassId} {sa : Nat → Nat} {h o mb i : Nat} (C1 : lwC p l s m meth c b L xs D cy sa) (hi : 5 * i + 5 ≤ L) (KK : lwS p l e s m below meth c b D cy h o mb 1159 i (i + 1)) : lwS p l e s m below meth c b D cy h o mb 124 i i := by
  obtain ⟨hst, C0, hK0, hV0, hZ0, hN0, hL⟩ := C1
  obtain ⟨hx, hb, hr, hml, hown, hts0, hX0, hbl, hlocks, hgv⟩ := id C0
  intro ad av am thr nS nB tS tB st bk ts tb gate nu tg tn g hq d0 H locs ls hd0 hnS hnB htS htB hhq hI hP hD hS hl
  unfold WW at hP hD
  have hbA : ¬ (fun q : Nat => s.heap.size ≤ q) b := Nat.not_le.mpr hbl
  have hA : ∀ q : Nat, s.heap.size ≤ q → (fun q : Nat => s.heap.size ≤ q) q := fun _ z => z
  have hts : ∀ w ∈ wsL_law, w.before #[Value.ref b] (s.setDrawn d0) = true := fun w z => dr_words hts0 d0 w (wsL_law_in w z)
  have hK := XK.same (s := s) (U := s.setDrawn d0) rfl hK0
  have hV := XV.same (s := s) (U := s.setDrawn d0) rfl hV0
  have hZ : xZ (fun q : Nat => s.heap.size ≤ q) (s.setDrawn d0) (s.setDrawn d0).heap := xZ.moved (Vm.Alike.refl _) hZ0
  have hNc : xNcs (s.setDrawn d0) := hN0.moved (Vm.Alike.refl _)
  have hX : va_X b L xs (s.setDrawn d0) s.heap := va_X.moved (Vm.Alike.refl _) hX0
  obtain ⟨a1, ea1⟩ : ∃ a, a = xs (5 * i + 1) := ⟨_, rfl⟩
  rcases Decidable.em ((0 : Int32) ≤ a1 ∧ a1 ≤ 500) with h1 | h1
  · refine lv_aload_n hx hb dL_law_124 rfl (lv_at hl 1 rfl) ?_
    refine lv_aload_n hx hb dL_law_125 rfl (lv_at hl 0 rfl) ?_
    refine lv_iload hx hb dL_law_126 (lv_at hl 4 rfl) ?_
    refine lv_iconst (v := 1) hx hb dL_law_128 (by decide) ?_
    refine lv_iadd hx hb dL_law_129 ?_
    refine W.eq (g2 := F0 m 130 ls [.int (nI (5 * i + 1)), .ref b, .ref h]) (by rw [show nI (5 * i) + 1 = nI (5 * i + 1) from nI_add (5 * i) 1]) ?_
    refine va_sld hx hb hX hbl hbA hS (i := nI (5 * i + 1)) (vp_in_nI (by omega) (by omega)) dL_law_130 ?_
    refine W.eq (g2 := F0 m 131 ls [.int a1, .ref h]) (by rw [nI_clamp (show 5 * i + 1 < 2 ^ 31 by omega), ← ea1]) ?_
    refine lv_aload_n hx hb dL_law_131 rfl (lv_at hl 3 rfl) ?_
    refine xcL (As := [.ref h, .int a1, .ref o]) (rest := []) ⟨hx, hb, hml, hown, hts⟩ (c_L_setPeople l D cy sa h ad nS nB st bk gate nu (av 0) (tw cy av tS tB ts tb tg tn) a1 h1 o g) (vx_cwSW 3 hts gL_law_L_setPeople rfl rfl rfl (by decide +kernel) ⟨Nat.le_of_ble_eq_true rfl, Nat.le_of_ble_eq_true rfl⟩) hK hV hZ hNc hP hD hS hA (xE_l) rfl hl.1 rfl (Nat.le_of_ble_eq_true rfl) dL_law_132 ⟨by show 15 + 120 * i + 0 + 1 ≤ 601024; omega, by show 187 + 700 * i + 0 + 6 ≤ 7293034; omega⟩ (fun u H locs _ hP hD hS => ?_)
    have hP : va_P D vwCl (((xw cy h ad nS nB st bk gate (upd nu 1 a1) (av 0) (tw cy av tS tB ts tb tg tn)) ++ [(o, .inl (cy 4, 1, .inr (.inl (vp_updL g 0 ((nu 1).toInt64)))))]) ++ (mw cy mb am thr nS nB st bk gate nu)) H := hP
    have hD : va_D (fun q : Nat => s.heap.size ≤ q) (((xw cy h ad nS nB st bk gate (upd nu 1 a1) (av 0) (tw cy av tS tB ts tb tg tn)) ++ [(o, .inl (cy 4, 1, .inr (.inl (vp_updL g 0 ((nu 1).toInt64)))))]) ++ (mw cy mb am thr nS nB st bk gate nu)) := hD
    refine W.eq (g2 := F0 m 135 ls [.int 0]) rfl ?_
    refine W.cs (cells' := 15 + 120 * i + 1) (slots' := 187 + 700 * i + 6) rfl rfl ?_
    refine lv_istore (lv' := [(5, .int 0), (0, .ref b), (1, .ref h), (2, .ref mb), (3, .ref o), (4, .int (nI (5 * i)))]) hx hb dL_law_135 hl (by decide) rfl (fun ls hl => ?_)
    refine lv_aload_n hx hb dL_law_137 rfl (lv_at hl 3 rfl) ?_
    refine lv_aload_n hx hb dL_law_138 rfl (lv_at hl 1 rfl) ?_
    refine lv_iload hx hb dL_law_139 (lv_at hl 5 rfl) ?_
    refine lv_iconst (v := 1) hx hb dL_law_141 (by decide) ?_
    refine lv_iadd hx hb dL_law_142 ?_
    refine W.eq (g2 := F0 m 143 ls [.int (nI (5 * i + 1)), .ref b, .ref mb]) (by rw [show nI (5 * i) + 1 = nI (5 * i + 1) from nI_add (5 * i) 1]) ?_
    refine va_sld hx hb hX hbl hbA hS (i := nI (5 * i + 1)) (vp_in_nI (by omega) (by omega)) dL_law_143 ?_
    refine W.eq (g2 := F0 m 144 ls [.int a1, .ref mb]) (by rw [nI_clamp (show 5 * i + 1 < 2 ^ 31 by omega), ← ea1]) ?_
    refine xcV (As := [.int a1]) (rest := []) ⟨hx, hb, hml, hown, hts⟩ (c_X4_setPeople l D cy mb am thr nS nB st bk gate nu a1 h1) (cwV 1 hts gL_law_X4_setPeople rfl rfl rfl (by decide +kernel) ⟨Nat.le_of_ble_eq_true rfl, Nat.le_of_ble_eq_true rfl⟩) hK hP hD hS hA rfl rfl rfl (xE_r) rfl hl.1 rfl (Nat.le_of_ble_eq_true rfl) dL_law_144 ⟨by show 15 + 120 * i + 1 + 0 ≤ 601024; omega, by show 187 + 700 * i + 6 + 0 ≤ 7293034; omega⟩ (fun _ H locs _ hP hD hS => ?_)
    have hP : va_P D vwCl (((xw cy h ad nS nB st bk gate (upd nu 1 a1) (av 0) (tw cy av tS tB ts tb tg tn)) ++ [(o, .inl (cy 4, 1, .inr (.inl (vp_updL g 0 ((nu 1).toInt64)))))]) ++ (mw cy mb am 0 nS nB st bk gate (upd nu 1 a1))) H := hP
    have hD : va_D (fun q : Nat => s.heap.size ≤ q) (((xw cy h ad nS nB st bk gate (upd nu 1 a1) (av 0) (tw cy av tS tB ts tb tg tn)) ++ [(o, .inl (cy 4, 1, .inr (.inl (vp_updL g 0 ((nu 1).toInt64)))))]) ++ (mw cy mb am 0 nS nB st bk gate (upd nu 1 a1))) := hD
    refine W.eq (g2 := F0 m 147 ls [.int (nu 1)]) rfl ?_
    refine W.cs (cells' := 15 + 120 * i + 1) (slots' := 187 + 700 * i + 6) rfl rfl ?_
    refine lv_istore (lv' := [(6, .int (nu 1)), (5, .int 0), (0, .ref b), (1, .ref h), (2, .ref mb), (3, .ref o), (4, .int (nI (5 * i)))]) hx hb dL_law_147 hl (by decide) rfl (fun ls hl => ?_)
    refine lv_aload_n hx hb dL_law_149 rfl (lv_at hl 4 rfl) ?_
    refine xcV (As := []) (rest := []) ⟨hx, hb, hml, hown, hts⟩ (c_X4_thrown l D cy mb am 0 nS nB st bk gate (upd nu 1 a1)) (cwV 0 hts gL_law_X4_thrown rfl rfl rfl (by decide +kernel) ⟨Nat.le_of_ble_eq_true rfl, Nat.le_of_ble_eq_true rfl⟩) hK hP hD hS hA rfl rfl rfl (xE_r) rfl hl.1 rfl (Nat.le_of_ble_eq_true rfl) dL_law_150 ⟨by show 15 + 120 * i + 1 + 0 ≤ 601024; omega, by show 187 + 700 * i + 6 + 0 ≤ 7293034; omega⟩ (fun _ H locs _ hP hD hS => ?_)
    have hP : va_P D vwCl (((xw cy h ad nS nB st bk gate (upd nu 1 a1) (av 0) (tw cy av tS tB ts tb tg tn)) ++ [(o, .inl (cy 4, 1, .inr (.inl (vp_updL g 0 ((nu 1).toInt64)))))]) ++ (mw cy mb am 0 nS nB st bk gate (upd nu 1 a1))) H := hP
    have hD : va_D (fun q : Nat => s.heap.size ≤ q) (((xw cy h ad nS nB st bk gate (upd nu 1 a1) (av 0) (tw cy av tS tB ts tb tg tn)) ++ [(o, .inl (cy 4, 1, .inr (.inl (vp_updL g 0 ((nu 1).toInt64)))))]) ++ (mw cy mb am 0 nS nB st bk gate (upd nu 1 a1))) := hD
    refine W.eq (g2 := F0 m 153 ls [.int 0]) rfl ?_
    refine W.cs (cells' := 15 + 120 * i + 1) (slots' := 187 + 700 * i + 6) rfl rfl ?_
    refine lv_iload hx hb dL_law_153 (lv_at hl 1 rfl) ?_
    refine lv_icmp_eq (tgt := 160) hx hb dL_law_155 (by decide) (fun _ => ?_) (fun z => absurd rfl z)
    refine lv_iload hx hb dL_law_160 (lv_at hl 1 rfl) ?_
    refine lv_if_ne (tgt := 177) hx hb dL_law_162 (by decide) (fun z => absurd rfl z) (fun _ => ?_)
    refine lv_aload_n hx hb dL_law_165 rfl (lv_at hl 5 rfl) ?_
    refine lv_iconst (v := 0) hx hb dL_law_166 (by decide) ?_
    refine va_lald hx hb hK.1 hP _ 4 (at_l last_at) rfl (i := 0) (vp_in_nI (n := 0) (by decide) (by decide)) dL_law_167 ?_
    refine W.eq (g2 := F0 m 168 ls [.long ((nu 1).toInt64)]) rfl ?_
    refine lv_iload hx hb dL_law_168 (lv_at hl 0 rfl) ?_
    refine lv_i2l (v := (nu 1).toInt64) hx hb dL_law_170 rfl ?_
    refine W.lcmp hx hb dL_law_171 ?_
    refine W.eq (g2 := F0 m 172 ls [.int 0]) (by rw [lg_same]) ?_
    refine lv_if_eq (tgt := 177) hx hb dL_law_172 (by decide) (fun _ => ?_) (fun z => absurd rfl z)
    refine lv_goto (tgt := 1159) hx hb dL_law_177 (by decide) ?_
    refine W.widen (k := 15 + 120 * (i + 1)) (n := 187 + 700 * (i + 1)) (by omega) (by omega) ?_
    exact KK ad av am 0 nS nB tS tB st bk ts tb gate (upd nu 1 a1) tg tn (vp_updL g 0 ((nu 1).toInt64)) hq d0  _ _ _ hd0 hnS hnB htS htB (by omega) (inv_people hI (rg5 h1)) hP hD hS (lv_sub hl [2, 3, 4, 5, 6] rfl)
  · refine lv_aload_n hx hb dL_law_124 rfl (lv_at hl 1 rfl) ?_
    refine lv_aload_n hx hb dL_law_125 rfl (lv_at hl 0 rfl) ?_
    refine lv_iload hx hb dL_law_126 (lv_at hl 4 rfl) ?_
    refine lv_iconst (v := 1) hx hb dL_law_128 (by decide) ?_
    refine lv_iadd hx hb dL_law_129 ?_
    refine W.eq (g2 := F0 m 130 ls [.int (nI (5 * i + 1)), .ref b, .ref h]) (by rw [show nI (5 * i) + 1 = nI (5 * i + 1) from nI_add (5 * i) 1]) ?_
    refine va_sld hx hb hX hbl hbA hS (i := nI (5 * i + 1)) (vp_in_nI (by omega) (by omega)) dL_law_130 ?_
    refine W.eq (g2 := F0 m 131 ls [.int a1, .ref h]) (by rw [nI_clamp (show 5 * i + 1 < 2 ^ 31 by omega), ← ea1]) ?_
    refine lv_aload_n hx hb dL_law_131 rfl (lv_at hl 3 rfl) ?_
    refine xcL (As := [.ref h, .int a1, .ref o]) (rest := []) ⟨hx, hb, hml, hown, hts⟩ (c_L_setPeople_1 l hst D cy sa h ad nS nB st bk gate nu (av 0) (tw cy av tS tB ts tb tg tn) a1 h1 o g) (vx_cwSW 3 hts gL_law_L_setPeople rfl rfl rfl (by decide +kernel) ⟨Nat.le_of_ble_eq_true rfl, Nat.le_of_ble_eq_true rfl⟩) hK hV hZ hNc hP hD hS hA (xE_l) rfl hl.1 rfl (Nat.le_of_ble_eq_true rfl) dL_law_132 ⟨by show 15 + 120 * i + 0 + 1 ≤ 601024; omega, by show 187 + 700 * i + 0 + 6 ≤ 7293034; omega⟩ (fun u H locs _ hP hD hS => ?_)
    have hP : va_P D vwCl (((xw cy h ad nS nB st bk gate nu (av 0) (tw cy av tS tB ts tb tg tn)) ++ [(o, .inl (cy 4, 1, .inr (.inl g)))]) ++ (mw cy mb am thr nS nB st bk gate nu)) H := hP
    have hD : va_D (fun q : Nat => s.heap.size ≤ q) (((xw cy h ad nS nB st bk gate nu (av 0) (tw cy av tS tB ts tb tg tn)) ++ [(o, .inl (cy 4, 1, .inr (.inl g)))]) ++ (mw cy mb am thr nS nB st bk gate nu)) := hD
    refine W.eq (g2 := F0 m 135 ls [.int 1]) rfl ?_
    refine W.cs (cells' := 15 + 120 * i + 1) (slots' := 187 + 700 * i + 6) rfl rfl ?_
    refine lv_istore (lv' := [(5, .int 1), (0, .ref b), (1, .ref h), (2, .ref mb), (3, .ref o), (4, .int (nI (5 * i)))]) hx hb dL_law_135 hl (by decide) rfl (fun ls hl => ?_)
    refine lv_aload_n hx hb dL_law_137 rfl (lv_at hl 3 rfl) ?_
    refine lv_aload_n hx hb dL_law_138 rfl (lv_at hl 1 rfl) ?_
    refine lv_iload hx hb dL_law_139 (lv_at hl 5 rfl) ?_
    refine lv_iconst (v := 1) hx hb dL_law_141 (by decide) ?_
    refine lv_iadd hx hb dL_law_142 ?_
    refine W.eq (g2 := F0 m 143 ls [.int (nI (5 * i + 1)), .ref b, .ref mb]) (by rw [show nI (5 * i) + 1 = nI (5 * i + 1) from nI_add (5 * i) 1]) ?_
    refine va_sld hx hb hX hbl hbA hS (i := nI (5 * i + 1)) (vp_in_nI (by omega) (by omega)) dL_law_143 ?_
    refine W.eq (g2 := F0 m 144 ls [.int a1, .ref mb]) (by rw [nI_clamp (show 5 * i + 1 < 2 ^ 31 by omega), ← ea1]) ?_
    refine xcV (As := [.int a1]) (rest := []) ⟨hx, hb, hml, hown, hts⟩ (c_X4_setPeople_1 l D cy mb am thr nS nB st bk gate nu a1 h1) (cwV 1 hts gL_law_X4_setPeople rfl rfl rfl (by decide +kernel) ⟨Nat.le_of_ble_eq_true rfl, Nat.le_of_ble_eq_true rfl⟩) hK hP hD hS hA rfl rfl rfl (xE_r) rfl hl.1 rfl (Nat.le_of_ble_eq_true rfl) dL_law_144 ⟨by show 15 + 120 * i + 1 + 0 ≤ 601024; omega, by show 187 + 700 * i + 6 + 0 ≤ 7293034; omega⟩ (fun _ H locs _ hP hD hS => ?_)
    have hP : va_P D vwCl (((xw cy h ad nS nB st bk gate nu (av 0) (tw cy av tS tB ts tb tg tn)) ++ [(o, .inl (cy 4, 1, .inr (.inl g)))]) ++ (mw cy mb am 1 nS nB st bk gate nu)) H := hP
    have hD : va_D (fun q : Nat => s.heap.size ≤ q) (((xw cy h ad nS nB st bk gate nu (av 0) (tw cy av tS tB ts tb tg tn)) ++ [(o, .inl (cy 4, 1, .inr (.inl g)))]) ++ (mw cy mb am 1 nS nB st bk gate nu)) := hD
    refine W.eq (g2 := F0 m 147 ls [.int 0]) rfl ?_
    refine W.cs (cells' := 15 + 120 * i + 1) (slots' := 187 + 700 * i + 6) rfl rfl ?_
    refine lv_istore (lv' := [(6, .int 0), (5, .int 1), (0, .ref b), (1, .ref h), (2, .ref mb), (3, .ref o), (4, .int (nI (5 * i)))]) hx hb dL_law_147 hl (by decide) rfl (fun ls hl => ?_)
    refine lv_aload_n hx hb dL_law_149 rfl (lv_at hl 4 rfl) ?_
    refine xcV (As := []) (rest := []) ⟨hx, hb, hml, hown, hts⟩ (c_X4_thrown l D cy mb am 1 nS nB st bk gate nu) (cwV 0 hts gL_law_X4_thrown rfl rfl rfl (by decide +kernel) ⟨Nat.le_of_ble_eq_true rfl, Nat.le_of_ble_eq_true rfl⟩) hK hP hD hS hA rfl rfl rfl (xE_r) rfl hl.1 rfl (Nat.le_of_ble_eq_true rfl) dL_law_150 ⟨by show 15 + 120 * i + 1 + 0 ≤ 601024; omega, by show 187 + 700 * i + 6 + 0 ≤ 7293034; omega⟩ (fun _ H locs _ hP hD hS => ?_)
    have hP : va_P D vwCl (((xw cy h ad nS nB st bk gate nu (av 0) (tw cy av tS tB ts tb tg tn)) ++ [(o, .inl (cy 4, 1, .inr (.inl g)))]) ++ (mw cy mb am 1 nS nB st bk gate nu)) H := hP
    have hD : va_D (fun q : Nat => s.heap.size ≤ q) (((xw cy h ad nS nB st bk gate nu (av 0) (tw cy av tS tB ts tb tg tn)) ++ [(o, .inl (cy 4, 1, .inr (.inl g)))]) ++ (mw cy mb am 1 nS nB st bk gate nu)) := hD
    refine W.eq (g2 := F0 m 153 ls [.int 1]) rfl ?_
    refine W.cs (cells' := 15 + 120 * i + 1) (slots' := 187 + 700 * i + 6) rfl rfl ?_
    refine lv_iload hx hb dL_law_153 (lv_at hl 1 rfl) ?_
    refine lv_icmp_eq (tgt := 160) hx hb dL_law_155 (by decide) (fun _ => ?_) (fun z => absurd rfl z)
    refine lv_iload hx hb dL_law_160 (lv_at hl 1 rfl) ?_
    refine lv_if_ne (tgt := 177) hx hb dL_law_162 (by decide) (fun _ => ?_) (fun z => absurd z (by decide))
    refine lv_goto (tgt := 1159) hx hb dL_law_177 (by decide) ?_
    refine W.widen (k := 15 + 120 * (i + 1)) (n := 187 + 700 * (i + 1)) (by omega) (by omega) ?_
    exact KK ad av am 1 nS nB tS tB st bk ts tb gate nu tg tn g hq d0  _ _ _ hd0 hnS hnB htS htB (by omega) hI hP hD hS (lv_sub hl [2, 3, 4, 5, 6] rfl)

set_option maxHeartbeats 4000000 in
set_option maxRecDepth 100000 in
theorem l_case_setGate {p : Program} {l : Launch} {e : Env} {s : State} {m : MethodId} {below : List Frame} {meth : Method} {c : Code} {b L : Nat} {xs : Nat → Int32} {D : va_G} {cy : Nat → ClassId} {sa : Nat → Nat} {h o mb i : Nat} (C1 : lwC p l s m meth c b L xs D cy sa) (hi : 5 * i + 5 ≤ L) (KK : lwS p l e s m below meth c b D cy h o mb 1159 i (i + 1)) : lwS p l e s m below meth c b D cy h o mb 180 i i := by
  obtain ⟨hst, C0, hK0, hV0, hZ0, hN0, hL⟩ := C1
  obtain ⟨hx, hb, hr, hml, hown, hts0, hX0, hbl, hlocks, hgv⟩ := id C0
  intro ad av am thr nS nB tS tB st bk ts tb gate nu tg tn g hq d0 H locs ls hd0 hnS hnB htS htB hhq hI hP hD hS hl
  unfold WW at hP hD
  have hbA : ¬ (fun q : Nat => s.heap.size ≤ q) b := Nat.not_le.mpr hbl
  have hA : ∀ q : Nat, s.heap.size ≤ q → (fun q : Nat => s.heap.size ≤ q) q := fun _ z => z
  have hts : ∀ w ∈ wsL_law, w.before #[Value.ref b] (s.setDrawn d0) = true := fun w z => dr_words hts0 d0 w (wsL_law_in w z)
  have hK := XK.same (s := s) (U := s.setDrawn d0) rfl hK0
  have hV := XV.same (s := s) (U := s.setDrawn d0) rfl hV0
  have hZ : xZ (fun q : Nat => s.heap.size ≤ q) (s.setDrawn d0) (s.setDrawn d0).heap := xZ.moved (Vm.Alike.refl _) hZ0
  have hNc : xNcs (s.setDrawn d0) := hN0.moved (Vm.Alike.refl _)
  have hX : va_X b L xs (s.setDrawn d0) s.heap := va_X.moved (Vm.Alike.refl _) hX0
  obtain ⟨a1, ea1⟩ : ∃ a, a = xs (5 * i + 1) := ⟨_, rfl⟩
  obtain ⟨a2, ea2⟩ : ∃ a, a = xs (5 * i + 2) := ⟨_, rfl⟩
  rcases Decidable.em ((0 : Int32) ≤ a1 ∧ a1 ≤ 23) with h1 | h1
  · obtain ⟨k, hka, hkb, rfl⟩ := nat_of (a := 0) (b := 23) (by decide) h1 (by decide)
    rcases Decidable.em ((0 : Int32) ≤ a2 ∧ a2 ≤ 99) with h2 | h2
    · refine lv_aload_n hx hb dL_law_180 rfl (lv_at hl 1 rfl) ?_
      refine lv_aload_n hx hb dL_law_181 rfl (lv_at hl 0 rfl) ?_
      refine lv_iload hx hb dL_law_182 (lv_at hl 4 rfl) ?_
      refine lv_iconst (v := 1) hx hb dL_law_184 (by decide) ?_
      refine lv_iadd hx hb dL_law_185 ?_
      refine W.eq (g2 := F0 m 186 ls [.int (nI (5 * i + 1)), .ref b, .ref h]) (by rw [show nI (5 * i) + 1 = nI (5 * i + 1) from nI_add (5 * i) 1]) ?_
      refine va_sld hx hb hX hbl hbA hS (i := nI (5 * i + 1)) (vp_in_nI (by omega) (by omega)) dL_law_186 ?_
      refine W.eq (g2 := F0 m 187 ls [.int (nI k), .ref h]) (by rw [nI_clamp (show 5 * i + 1 < 2 ^ 31 by omega), ← ea1]) ?_
      refine lv_aload_n hx hb dL_law_187 rfl (lv_at hl 0 rfl) ?_
      refine lv_iload hx hb dL_law_188 (lv_at hl 4 rfl) ?_
      refine lv_iconst (v := 2) hx hb dL_law_190 (by decide) ?_
      refine lv_iadd hx hb dL_law_191 ?_
      refine W.eq (g2 := F0 m 192 ls [.int (nI (5 * i + 2)), .ref b, .int (nI k), .ref h]) (by rw [show nI (5 * i) + 2 = nI (5 * i + 2) from nI_add (5 * i) 2]) ?_
      refine va_sld hx hb hX hbl hbA hS (i := nI (5 * i + 2)) (vp_in_nI (by omega) (by omega)) dL_law_192 ?_
      refine W.eq (g2 := F0 m 193 ls [.int a2, .int (nI k), .ref h]) (by rw [nI_clamp (show 5 * i + 2 < 2 ^ 31 by omega), ← ea2]) ?_
      refine lv_aload_n hx hb dL_law_193 rfl (lv_at hl 3 rfl) ?_
      refine xcL (As := [.ref h, .int (nI k), .int a2, .ref o]) (rest := []) ⟨hx, hb, hml, hown, hts⟩ (c_L_setGate l D cy sa h ad nS nB st bk gate nu (av 0) (tw cy av tS tB ts tb tg tn) k (by omega) a2 h2 o g) (vx_cwSW 4 hts gL_law_L_setGate rfl rfl rfl (by decide +kernel) ⟨Nat.le_of_ble_eq_true rfl, Nat.le_of_ble_eq_true rfl⟩) hK hV hZ hNc hP hD hS hA (xE_l) rfl hl.1 rfl (Nat.le_of_ble_eq_true rfl) dL_law_194 ⟨by show 15 + 120 * i + 0 + 1 ≤ 601024; omega, by show 187 + 700 * i + 0 + 6 ≤ 7293034; omega⟩ (fun u H locs _ hP hD hS => ?_)
      have hP : va_P D vwCl (((xw cy h ad nS nB st bk (upd gate k a2) nu (av 0) (tw cy av tS tB ts tb tg tn)) ++ [(o, .inl (cy 4, 1, .inr (.inl (vp_updL g 0 ((gate k).toInt64)))))]) ++ (mw cy mb am thr nS nB st bk gate nu)) H := hP
      have hD : va_D (fun q : Nat => s.heap.size ≤ q) (((xw cy h ad nS nB st bk (upd gate k a2) nu (av 0) (tw cy av tS tB ts tb tg tn)) ++ [(o, .inl (cy 4, 1, .inr (.inl (vp_updL g 0 ((gate k).toInt64)))))]) ++ (mw cy mb am thr nS nB st bk gate nu)) := hD
      refine W.eq (g2 := F0 m 197 ls [.int 0]) rfl ?_
      refine W.cs (cells' := 15 + 120 * i + 1) (slots' := 187 + 700 * i + 6) rfl rfl ?_
      refine lv_istore (lv' := [(5, .int 0), (0, .ref b), (1, .ref h), (2, .ref mb), (3, .ref o), (4, .int (nI (5 * i)))]) hx hb dL_law_197 hl (by decide) rfl (fun ls hl => ?_)
      refine lv_aload_n hx hb dL_law_199 rfl (lv_at hl 3 rfl) ?_
      refine lv_aload_n hx hb dL_law_200 rfl (lv_at hl 1 rfl) ?_
      refine lv_iload hx hb dL_law_201 (lv_at hl 5 rfl) ?_
      refine lv_iconst (v := 1) hx hb dL_law_203 (by decide) ?_
      refine lv_iadd hx hb dL_law_204 ?_
      refine W.eq (g2 := F0 m 205 ls [.int (nI (5 * i + 1)), .ref b, .ref mb]) (by rw [show nI (5 * i) + 1 = nI (5 * i + 1) from nI_add (5 * i) 1]) ?_
      refine va_sld hx hb hX hbl hbA hS (i := nI (5 * i + 1)) (vp_in_nI (by omega) (by omega)) dL_law_205 ?_
      refine W.eq (g2 := F0 m 206 ls [.int (nI k), .ref mb]) (by rw [nI_clamp (show 5 * i + 1 < 2 ^ 31 by omega), ← ea1]) ?_
      refine lv_aload_n hx hb dL_law_206 rfl (lv_at hl 1 rfl) ?_
      refine lv_iload hx hb dL_law_207 (lv_at hl 5 rfl) ?_
      refine lv_iconst (v := 2) hx hb dL_law_209 (by decide) ?_
      refine lv_iadd hx hb dL_law_210 ?_
      refine W.eq (g2 := F0 m 211 ls [.int (nI (5 * i + 2)), .ref b, .int (nI k), .ref mb]) (by rw [show nI (5 * i) + 2 = nI (5 * i + 2) from nI_add (5 * i) 2]) ?_
      refine va_sld hx hb hX hbl hbA hS (i := nI (5 * i + 2)) (vp_in_nI (by omega) (by omega)) dL_law_211 ?_
      refine W.eq (g2 := F0 m 212 ls [.int a2, .int (nI k), .ref mb]) (by rw [nI_clamp (show 5 * i + 2 < 2 ^ 31 by omega), ← ea2]) ?_
      refine xcV (As := [.int (nI k), .int a2]) (rest := []) ⟨hx, hb, hml, hown, hts⟩ (c_X4_setGate l D cy mb am thr nS nB st bk gate nu k (by omega) a2 h2) (cwV 2 hts gL_law_X4_setGate rfl rfl rfl (by decide +kernel) ⟨Nat.le_of_ble_eq_true rfl, Nat.le_of_ble_eq_true rfl⟩) hK hP hD hS hA rfl rfl rfl (xE_r) rfl hl.1 rfl (Nat.le_of_ble_eq_true rfl) dL_law_212 ⟨by show 15 + 120 * i + 1 + 0 ≤ 601024; omega, by show 187 + 700 * i + 6 + 0 ≤ 7293034; omega⟩ (fun _ H locs _ hP hD hS => ?_)
      have hP : va_P D vwCl (((xw cy h ad nS nB st bk (upd gate k a2) nu (av 0) (tw cy av tS tB ts tb tg tn)) ++ [(o, .inl (cy 4, 1, .inr (.inl (vp_updL g 0 ((gate k).toInt64)))))]) ++ (mw cy mb am 0 nS nB st bk (upd gate k a2) nu)) H := hP
      have hD : va_D (fun q : Nat => s.heap.size ≤ q) (((xw cy h ad nS nB st bk (upd gate k a2) nu (av 0) (tw cy av tS tB ts tb tg tn)) ++ [(o, .inl (cy 4, 1, .inr (.inl (vp_updL g 0 ((gate k).toInt64)))))]) ++ (mw cy mb am 0 nS nB st bk (upd gate k a2) nu)) := hD
      refine W.eq (g2 := F0 m 215 ls [.int (gate k)]) rfl ?_
      refine W.cs (cells' := 15 + 120 * i + 1) (slots' := 187 + 700 * i + 6) rfl rfl ?_
      refine lv_istore (lv' := [(6, .int (gate k)), (5, .int 0), (0, .ref b), (1, .ref h), (2, .ref mb), (3, .ref o), (4, .int (nI (5 * i)))]) hx hb dL_law_215 hl (by decide) rfl (fun ls hl => ?_)
      refine lv_aload_n hx hb dL_law_217 rfl (lv_at hl 4 rfl) ?_
      refine xcV (As := []) (rest := []) ⟨hx, hb, hml, hown, hts⟩ (c_X4_thrown l D cy mb am 0 nS nB st bk (upd gate k a2) nu) (cwV 0 hts gL_law_X4_thrown rfl rfl rfl (by decide +kernel) ⟨Nat.le_of_ble_eq_true rfl, Nat.le_of_ble_eq_true rfl⟩) hK hP hD hS hA rfl rfl rfl (xE_r) rfl hl.1 rfl (Nat.le_of_ble_eq_true rfl) dL_law_218 ⟨by show 15 + 120 * i + 1 + 0 ≤ 601024; omega, by show 187 + 700 * i + 6 + 0 ≤ 7293034; omega⟩ (fun _ H locs _ hP hD hS => ?_)
      have hP : va_P D vwCl (((xw cy h ad nS nB st bk (upd gate k a2) nu (av 0) (tw cy av tS tB ts tb tg tn)) ++ [(o, .inl (cy 4, 1, .inr (.inl (vp_updL g 0 ((gate k).toInt64)))))]) ++ (mw cy mb am 0 nS nB st bk (upd gate k a2) nu)) H := hP
      have hD : va_D (fun q : Nat => s.heap.size ≤ q) (((xw cy h ad nS nB st bk (upd gate k a2) nu (av 0) (tw cy av tS tB ts tb tg tn)) ++ [(o, .inl (cy 4, 1, .inr (.inl (vp_updL g 0 ((gate k).toInt64)))))]) ++ (mw cy mb am 0 nS nB st bk (upd gate k a2) nu)) := hD
      refine W.eq (g2 := F0 m 221 ls [.int 0]) rfl ?_
      refine W.cs (cells' := 15 + 120 * i + 1) (slots' := 187 + 700 * i + 6) rfl rfl ?_
      refine lv_iload hx hb dL_law_221 (lv_at hl 1 rfl) ?_
      refine lv_icmp_eq (tgt := 228) hx hb dL_law_223 (by decide) (fun _ => ?_) (fun z => absurd rfl z)
      refine lv_iload hx hb dL_law_228 (lv_at hl 1 rfl) ?_
      refine lv_if_ne (tgt := 245) hx hb dL_law_230 (by decide) (fun z => absurd rfl z) (fun _ => ?_)
      refine lv_aload_n hx hb dL_law_233 rfl (lv_at hl 5 rfl) ?_
      refine lv_iconst (v := 0) hx hb dL_law_234 (by decide) ?_
      refine va_lald hx hb hK.1 hP _ 4 (at_l last_at) rfl (i := 0) (vp_in_nI (n := 0) (by decide) (by decide)) dL_law_235 ?_
      refine W.eq (g2 := F0 m 236 ls [.long ((gate k).toInt64)]) rfl ?_
      refine lv_iload hx hb dL_law_236 (lv_at hl 0 rfl) ?_
      refine lv_i2l (v := (gate k).toInt64) hx hb dL_law_238 rfl ?_
      refine W.lcmp hx hb dL_law_239 ?_
      refine W.eq (g2 := F0 m 240 ls [.int 0]) (by rw [lg_same]) ?_
      refine lv_if_eq (tgt := 245) hx hb dL_law_240 (by decide) (fun _ => ?_) (fun z => absurd rfl z)
      refine lv_goto (tgt := 1159) hx hb dL_law_245 (by decide) ?_
      refine W.widen (k := 15 + 120 * (i + 1)) (n := 187 + 700 * (i + 1)) (by omega) (by omega) ?_
      exact KK ad av am 0 nS nB tS tB st bk ts tb (upd gate k a2) nu tg tn (vp_updL g 0 ((gate k).toInt64)) hq d0  _ _ _ hd0 hnS hnB htS htB (by omega) (inv_gate hI (rg99 h2)) hP hD hS (lv_sub hl [2, 3, 4, 5, 6] rfl)
    · refine lv_aload_n hx hb dL_law_180 rfl (lv_at hl 1 rfl) ?_
      refine lv_aload_n hx hb dL_law_181 rfl (lv_at hl 0 rfl) ?_
      refine lv_iload hx hb dL_law_182 (lv_at hl 4 rfl) ?_
      refine lv_iconst (v := 1) hx hb dL_law_184 (by decide) ?_
      refine lv_iadd hx hb dL_law_185 ?_
      refine W.eq (g2 := F0 m 186 ls [.int (nI (5 * i + 1)), .ref b, .ref h]) (by rw [show nI (5 * i) + 1 = nI (5 * i + 1) from nI_add (5 * i) 1]) ?_
      refine va_sld hx hb hX hbl hbA hS (i := nI (5 * i + 1)) (vp_in_nI (by omega) (by omega)) dL_law_186 ?_
      refine W.eq (g2 := F0 m 187 ls [.int (nI k), .ref h]) (by rw [nI_clamp (show 5 * i + 1 < 2 ^ 31 by omega), ← ea1]) ?_
      refine lv_aload_n hx hb dL_law_187 rfl (lv_at hl 0 rfl) ?_
      refine lv_iload hx hb dL_law_188 (lv_at hl 4 rfl) ?_
      refine lv_iconst (v := 2) hx hb dL_law_190 (by decide) ?_
      refine lv_iadd hx hb dL_law_191 ?_
      refine W.eq (g2 := F0 m 192 ls [.int (nI (5 * i + 2)), .ref b, .int (nI k), .ref h]) (by rw [show nI (5 * i) + 2 = nI (5 * i + 2) from nI_add (5 * i) 2]) ?_
      refine va_sld hx hb hX hbl hbA hS (i := nI (5 * i + 2)) (vp_in_nI (by omega) (by omega)) dL_law_192 ?_
      refine W.eq (g2 := F0 m 193 ls [.int a2, .int (nI k), .ref h]) (by rw [nI_clamp (show 5 * i + 2 < 2 ^ 31 by omega), ← ea2]) ?_
      refine lv_aload_n hx hb dL_law_193 rfl (lv_at hl 3 rfl) ?_
      refine xcL (As := [.ref h, .int (nI k), .int a2, .ref o]) (rest := []) ⟨hx, hb, hml, hown, hts⟩ (c_L_setGate_2 l hst D cy sa h ad nS nB st bk gate nu (av 0) (tw cy av tS tB ts tb tg tn) (nI k) a2 h1 h2 o g) (vx_cwSW 4 hts gL_law_L_setGate rfl rfl rfl (by decide +kernel) ⟨Nat.le_of_ble_eq_true rfl, Nat.le_of_ble_eq_true rfl⟩) hK hV hZ hNc hP hD hS hA (xE_l) rfl hl.1 rfl (Nat.le_of_ble_eq_true rfl) dL_law_194 ⟨by show 15 + 120 * i + 0 + 1 ≤ 601024; omega, by show 187 + 700 * i + 0 + 6 ≤ 7293034; omega⟩ (fun u H locs _ hP hD hS => ?_)
      have hP : va_P D vwCl (((xw cy h ad nS nB st bk gate nu (av 0) (tw cy av tS tB ts tb tg tn)) ++ [(o, .inl (cy 4, 1, .inr (.inl g)))]) ++ (mw cy mb am thr nS nB st bk gate nu)) H := hP
      have hD : va_D (fun q : Nat => s.heap.size ≤ q) (((xw cy h ad nS nB st bk gate nu (av 0) (tw cy av tS tB ts tb tg tn)) ++ [(o, .inl (cy 4, 1, .inr (.inl g)))]) ++ (mw cy mb am thr nS nB st bk gate nu)) := hD
      refine W.eq (g2 := F0 m 197 ls [.int 2]) rfl ?_
      refine W.cs (cells' := 15 + 120 * i + 1) (slots' := 187 + 700 * i + 6) rfl rfl ?_
      refine lv_istore (lv' := [(5, .int 2), (0, .ref b), (1, .ref h), (2, .ref mb), (3, .ref o), (4, .int (nI (5 * i)))]) hx hb dL_law_197 hl (by decide) rfl (fun ls hl => ?_)
      refine lv_aload_n hx hb dL_law_199 rfl (lv_at hl 3 rfl) ?_
      refine lv_aload_n hx hb dL_law_200 rfl (lv_at hl 1 rfl) ?_
      refine lv_iload hx hb dL_law_201 (lv_at hl 5 rfl) ?_
      refine lv_iconst (v := 1) hx hb dL_law_203 (by decide) ?_
      refine lv_iadd hx hb dL_law_204 ?_
      refine W.eq (g2 := F0 m 205 ls [.int (nI (5 * i + 1)), .ref b, .ref mb]) (by rw [show nI (5 * i) + 1 = nI (5 * i + 1) from nI_add (5 * i) 1]) ?_
      refine va_sld hx hb hX hbl hbA hS (i := nI (5 * i + 1)) (vp_in_nI (by omega) (by omega)) dL_law_205 ?_
      refine W.eq (g2 := F0 m 206 ls [.int (nI k), .ref mb]) (by rw [nI_clamp (show 5 * i + 1 < 2 ^ 31 by omega), ← ea1]) ?_
      refine lv_aload_n hx hb dL_law_206 rfl (lv_at hl 1 rfl) ?_
      refine lv_iload hx hb dL_law_207 (lv_at hl 5 rfl) ?_
      refine lv_iconst (v := 2) hx hb dL_law_209 (by decide) ?_
      refine lv_iadd hx hb dL_law_210 ?_
      refine W.eq (g2 := F0 m 211 ls [.int (nI (5 * i + 2)), .ref b, .int (nI k), .ref mb]) (by rw [show nI (5 * i) + 2 = nI (5 * i + 2) from nI_add (5 * i) 2]) ?_
      refine va_sld hx hb hX hbl hbA hS (i := nI (5 * i + 2)) (vp_in_nI (by omega) (by omega)) dL_law_211 ?_
      refine W.eq (g2 := F0 m 212 ls [.int a2, .int (nI k), .ref mb]) (by rw [nI_clamp (show 5 * i + 2 < 2 ^ 31 by omega), ← ea2]) ?_
      refine xcV (As := [.int (nI k), .int a2]) (rest := []) ⟨hx, hb, hml, hown, hts⟩ (c_X4_setGate_2 l D cy mb am thr nS nB st bk gate nu (nI k) a2 h1 h2) (cwV 2 hts gL_law_X4_setGate rfl rfl rfl (by decide +kernel) ⟨Nat.le_of_ble_eq_true rfl, Nat.le_of_ble_eq_true rfl⟩) hK hP hD hS hA rfl rfl rfl (xE_r) rfl hl.1 rfl (Nat.le_of_ble_eq_true rfl) dL_law_212 ⟨by show 15 + 120 * i + 1 + 0 ≤ 601024; omega, by show 187 + 700 * i + 6 + 0 ≤ 7293034; omega⟩ (fun _ H locs _ hP hD hS => ?_)
      have hP : va_P D vwCl (((xw cy h ad nS nB st bk gate nu (av 0) (tw cy av tS tB ts tb tg tn)) ++ [(o, .inl (cy 4, 1, .inr (.inl g)))]) ++ (mw cy mb am 2 nS nB st bk gate nu)) H := hP
      have hD : va_D (fun q : Nat => s.heap.size ≤ q) (((xw cy h ad nS nB st bk gate nu (av 0) (tw cy av tS tB ts tb tg tn)) ++ [(o, .inl (cy 4, 1, .inr (.inl g)))]) ++ (mw cy mb am 2 nS nB st bk gate nu)) := hD
      refine W.eq (g2 := F0 m 215 ls [.int 0]) rfl ?_
      refine W.cs (cells' := 15 + 120 * i + 1) (slots' := 187 + 700 * i + 6) rfl rfl ?_
      refine lv_istore (lv' := [(6, .int 0), (5, .int 2), (0, .ref b), (1, .ref h), (2, .ref mb), (3, .ref o), (4, .int (nI (5 * i)))]) hx hb dL_law_215 hl (by decide) rfl (fun ls hl => ?_)
      refine lv_aload_n hx hb dL_law_217 rfl (lv_at hl 4 rfl) ?_
      refine xcV (As := []) (rest := []) ⟨hx, hb, hml, hown, hts⟩ (c_X4_thrown l D cy mb am 2 nS nB st bk gate nu) (cwV 0 hts gL_law_X4_thrown rfl rfl rfl (by decide +kernel) ⟨Nat.le_of_ble_eq_true rfl, Nat.le_of_ble_eq_true rfl⟩) hK hP hD hS hA rfl rfl rfl (xE_r) rfl hl.1 rfl (Nat.le_of_ble_eq_true rfl) dL_law_218 ⟨by show 15 + 120 * i + 1 + 0 ≤ 601024; omega, by show 187 + 700 * i + 6 + 0 ≤ 7293034; omega⟩ (fun _ H locs _ hP hD hS => ?_)
      have hP : va_P D vwCl (((xw cy h ad nS nB st bk gate nu (av 0) (tw cy av tS tB ts tb tg tn)) ++ [(o, .inl (cy 4, 1, .inr (.inl g)))]) ++ (mw cy mb am 2 nS nB st bk gate nu)) H := hP
      have hD : va_D (fun q : Nat => s.heap.size ≤ q) (((xw cy h ad nS nB st bk gate nu (av 0) (tw cy av tS tB ts tb tg tn)) ++ [(o, .inl (cy 4, 1, .inr (.inl g)))]) ++ (mw cy mb am 2 nS nB st bk gate nu)) := hD
      refine W.eq (g2 := F0 m 221 ls [.int 2]) rfl ?_
      refine W.cs (cells' := 15 + 120 * i + 1) (slots' := 187 + 700 * i + 6) rfl rfl ?_
      refine lv_iload hx hb dL_law_221 (lv_at hl 1 rfl) ?_
      refine lv_icmp_eq (tgt := 228) hx hb dL_law_223 (by decide) (fun _ => ?_) (fun z => absurd rfl z)
      refine lv_iload hx hb dL_law_228 (lv_at hl 1 rfl) ?_
      refine lv_if_ne (tgt := 245) hx hb dL_law_230 (by decide) (fun _ => ?_) (fun z => absurd z (by decide))
      refine lv_goto (tgt := 1159) hx hb dL_law_245 (by decide) ?_
      refine W.widen (k := 15 + 120 * (i + 1)) (n := 187 + 700 * (i + 1)) (by omega) (by omega) ?_
      exact KK ad av am 2 nS nB tS tB st bk ts tb gate nu tg tn g hq d0  _ _ _ hd0 hnS hnB htS htB (by omega) hI hP hD hS (lv_sub hl [2, 3, 4, 5, 6] rfl)
  · refine lv_aload_n hx hb dL_law_180 rfl (lv_at hl 1 rfl) ?_
    refine lv_aload_n hx hb dL_law_181 rfl (lv_at hl 0 rfl) ?_
    refine lv_iload hx hb dL_law_182 (lv_at hl 4 rfl) ?_
    refine lv_iconst (v := 1) hx hb dL_law_184 (by decide) ?_
    refine lv_iadd hx hb dL_law_185 ?_
    refine W.eq (g2 := F0 m 186 ls [.int (nI (5 * i + 1)), .ref b, .ref h]) (by rw [show nI (5 * i) + 1 = nI (5 * i + 1) from nI_add (5 * i) 1]) ?_
    refine va_sld hx hb hX hbl hbA hS (i := nI (5 * i + 1)) (vp_in_nI (by omega) (by omega)) dL_law_186 ?_
    refine W.eq (g2 := F0 m 187 ls [.int a1, .ref h]) (by rw [nI_clamp (show 5 * i + 1 < 2 ^ 31 by omega), ← ea1]) ?_
    refine lv_aload_n hx hb dL_law_187 rfl (lv_at hl 0 rfl) ?_
    refine lv_iload hx hb dL_law_188 (lv_at hl 4 rfl) ?_
    refine lv_iconst (v := 2) hx hb dL_law_190 (by decide) ?_
    refine lv_iadd hx hb dL_law_191 ?_
    refine W.eq (g2 := F0 m 192 ls [.int (nI (5 * i + 2)), .ref b, .int a1, .ref h]) (by rw [show nI (5 * i) + 2 = nI (5 * i + 2) from nI_add (5 * i) 2]) ?_
    refine va_sld hx hb hX hbl hbA hS (i := nI (5 * i + 2)) (vp_in_nI (by omega) (by omega)) dL_law_192 ?_
    refine W.eq (g2 := F0 m 193 ls [.int a2, .int a1, .ref h]) (by rw [nI_clamp (show 5 * i + 2 < 2 ^ 31 by omega), ← ea2]) ?_
    refine lv_aload_n hx hb dL_law_193 rfl (lv_at hl 3 rfl) ?_
    refine xcL (As := [.ref h, .int a1, .int a2, .ref o]) (rest := []) ⟨hx, hb, hml, hown, hts⟩ (c_L_setGate_1 l hst D cy sa h ad nS nB st bk gate nu (av 0) (tw cy av tS tB ts tb tg tn) a1 a2 h1 o g) (vx_cwSW 4 hts gL_law_L_setGate rfl rfl rfl (by decide +kernel) ⟨Nat.le_of_ble_eq_true rfl, Nat.le_of_ble_eq_true rfl⟩) hK hV hZ hNc hP hD hS hA (xE_l) rfl hl.1 rfl (Nat.le_of_ble_eq_true rfl) dL_law_194 ⟨by show 15 + 120 * i + 0 + 1 ≤ 601024; omega, by show 187 + 700 * i + 0 + 6 ≤ 7293034; omega⟩ (fun u H locs _ hP hD hS => ?_)
    have hP : va_P D vwCl (((xw cy h ad nS nB st bk gate nu (av 0) (tw cy av tS tB ts tb tg tn)) ++ [(o, .inl (cy 4, 1, .inr (.inl g)))]) ++ (mw cy mb am thr nS nB st bk gate nu)) H := hP
    have hD : va_D (fun q : Nat => s.heap.size ≤ q) (((xw cy h ad nS nB st bk gate nu (av 0) (tw cy av tS tB ts tb tg tn)) ++ [(o, .inl (cy 4, 1, .inr (.inl g)))]) ++ (mw cy mb am thr nS nB st bk gate nu)) := hD
    refine W.eq (g2 := F0 m 197 ls [.int 1]) rfl ?_
    refine W.cs (cells' := 15 + 120 * i + 1) (slots' := 187 + 700 * i + 6) rfl rfl ?_
    refine lv_istore (lv' := [(5, .int 1), (0, .ref b), (1, .ref h), (2, .ref mb), (3, .ref o), (4, .int (nI (5 * i)))]) hx hb dL_law_197 hl (by decide) rfl (fun ls hl => ?_)
    refine lv_aload_n hx hb dL_law_199 rfl (lv_at hl 3 rfl) ?_
    refine lv_aload_n hx hb dL_law_200 rfl (lv_at hl 1 rfl) ?_
    refine lv_iload hx hb dL_law_201 (lv_at hl 5 rfl) ?_
    refine lv_iconst (v := 1) hx hb dL_law_203 (by decide) ?_
    refine lv_iadd hx hb dL_law_204 ?_
    refine W.eq (g2 := F0 m 205 ls [.int (nI (5 * i + 1)), .ref b, .ref mb]) (by rw [show nI (5 * i) + 1 = nI (5 * i + 1) from nI_add (5 * i) 1]) ?_
    refine va_sld hx hb hX hbl hbA hS (i := nI (5 * i + 1)) (vp_in_nI (by omega) (by omega)) dL_law_205 ?_
    refine W.eq (g2 := F0 m 206 ls [.int a1, .ref mb]) (by rw [nI_clamp (show 5 * i + 1 < 2 ^ 31 by omega), ← ea1]) ?_
    refine lv_aload_n hx hb dL_law_206 rfl (lv_at hl 1 rfl) ?_
    refine lv_iload hx hb dL_law_207 (lv_at hl 5 rfl) ?_
    refine lv_iconst (v := 2) hx hb dL_law_209 (by decide) ?_
    refine lv_iadd hx hb dL_law_210 ?_
    refine W.eq (g2 := F0 m 211 ls [.int (nI (5 * i + 2)), .ref b, .int a1, .ref mb]) (by rw [show nI (5 * i) + 2 = nI (5 * i + 2) from nI_add (5 * i) 2]) ?_
    refine va_sld hx hb hX hbl hbA hS (i := nI (5 * i + 2)) (vp_in_nI (by omega) (by omega)) dL_law_211 ?_
    refine W.eq (g2 := F0 m 212 ls [.int a2, .int a1, .ref mb]) (by rw [nI_clamp (show 5 * i + 2 < 2 ^ 31 by omega), ← ea2]) ?_
    refine xcV (As := [.int a1, .int a2]) (rest := []) ⟨hx, hb, hml, hown, hts⟩ (c_X4_setGate_1 l D cy mb am thr nS nB st bk gate nu a1 a2 h1) (cwV 2 hts gL_law_X4_setGate rfl rfl rfl (by decide +kernel) ⟨Nat.le_of_ble_eq_true rfl, Nat.le_of_ble_eq_true rfl⟩) hK hP hD hS hA rfl rfl rfl (xE_r) rfl hl.1 rfl (Nat.le_of_ble_eq_true rfl) dL_law_212 ⟨by show 15 + 120 * i + 1 + 0 ≤ 601024; omega, by show 187 + 700 * i + 6 + 0 ≤ 7293034; omega⟩ (fun _ H locs _ hP hD hS => ?_)
    have hP : va_P D vwCl (((xw cy h ad nS nB st bk gate nu (av 0) (tw cy av tS tB ts tb tg tn)) ++ [(o, .inl (cy 4, 1, .inr (.inl g)))]) ++ (mw cy mb am 1 nS nB st bk gate nu)) H := hP
    have hD : va_D (fun q : Nat => s.heap.size ≤ q) (((xw cy h ad nS nB st bk gate nu (av 0) (tw cy av tS tB ts tb tg tn)) ++ [(o, .inl (cy 4, 1, .inr (.inl g)))]) ++ (mw cy mb am 1 nS nB st bk gate nu)) := hD
    refine W.eq (g2 := F0 m 215 ls [.int 0]) rfl ?_
    refine W.cs (cells' := 15 + 120 * i + 1) (slots' := 187 + 700 * i + 6) rfl rfl ?_
    refine lv_istore (lv' := [(6, .int 0), (5, .int 1), (0, .ref b), (1, .ref h), (2, .ref mb), (3, .ref o), (4, .int (nI (5 * i)))]) hx hb dL_law_215 hl (by decide) rfl (fun ls hl => ?_)
    refine lv_aload_n hx hb dL_law_217 rfl (lv_at hl 4 rfl) ?_
    refine xcV (As := []) (rest := []) ⟨hx, hb, hml, hown, hts⟩ (c_X4_thrown l D cy mb am 1 nS nB st bk gate nu) (cwV 0 hts gL_law_X4_thrown rfl rfl rfl (by decide +kernel) ⟨Nat.le_of_ble_eq_true rfl, Nat.le_of_ble_eq_true rfl⟩) hK hP hD hS hA rfl rfl rfl (xE_r) rfl hl.1 rfl (Nat.le_of_ble_eq_true rfl) dL_law_218 ⟨by show 15 + 120 * i + 1 + 0 ≤ 601024; omega, by show 187 + 700 * i + 6 + 0 ≤ 7293034; omega⟩ (fun _ H locs _ hP hD hS => ?_)
    have hP : va_P D vwCl (((xw cy h ad nS nB st bk gate nu (av 0) (tw cy av tS tB ts tb tg tn)) ++ [(o, .inl (cy 4, 1, .inr (.inl g)))]) ++ (mw cy mb am 1 nS nB st bk gate nu)) H := hP
    have hD : va_D (fun q : Nat => s.heap.size ≤ q) (((xw cy h ad nS nB st bk gate nu (av 0) (tw cy av tS tB ts tb tg tn)) ++ [(o, .inl (cy 4, 1, .inr (.inl g)))]) ++ (mw cy mb am 1 nS nB st bk gate nu)) := hD
    refine W.eq (g2 := F0 m 221 ls [.int 1]) rfl ?_
    refine W.cs (cells' := 15 + 120 * i + 1) (slots' := 187 + 700 * i + 6) rfl rfl ?_
    refine lv_iload hx hb dL_law_221 (lv_at hl 1 rfl) ?_
    refine lv_icmp_eq (tgt := 228) hx hb dL_law_223 (by decide) (fun _ => ?_) (fun z => absurd rfl z)
    refine lv_iload hx hb dL_law_228 (lv_at hl 1 rfl) ?_
    refine lv_if_ne (tgt := 245) hx hb dL_law_230 (by decide) (fun _ => ?_) (fun z => absurd z (by decide))
    refine lv_goto (tgt := 1159) hx hb dL_law_245 (by decide) ?_
    refine W.widen (k := 15 + 120 * (i + 1)) (n := 187 + 700 * (i + 1)) (by omega) (by omega) ?_
    exact KK ad av am 1 nS nB tS tB st bk ts tb gate nu tg tn g hq d0  _ _ _ hd0 hnS hnB htS htB (by omega) hI hP hD hS (lv_sub hl [2, 3, 4, 5, 6] rfl)

set_option maxHeartbeats 4000000 in
set_option maxRecDepth 100000 in
theorem l_case_open {p : Program} {l : Launch} {e : Env} {s : State} {m : MethodId} {below : List Frame} {meth : Method} {c : Code} {b L : Nat} {xs : Nat → Int32} {D : va_G} {cy : Nat → ClassId} {sa : Nat → Nat} {h o mb i : Nat} (C1 : lwC p l s m meth c b L xs D cy sa) (hi : 5 * i + 5 ≤ L) (KK : lwS p l e s m below meth c b D cy h o mb 1159 i (i + 1)) : lwS p l e s m below meth c b D cy h o mb 248 i i := by
  obtain ⟨hst, C0, hK0, hV0, hZ0, hN0, hL⟩ := C1
  obtain ⟨hx, hb, hr, hml, hown, hts0, hX0, hbl, hlocks, hgv⟩ := id C0
  intro ad av am thr nS nB tS tB st bk ts tb gate nu tg tn g hq d0 H locs ls hd0 hnS hnB htS htB hhq hI hP hD hS hl
  unfold WW at hP hD
  have hbA : ¬ (fun q : Nat => s.heap.size ≤ q) b := Nat.not_le.mpr hbl
  have hA : ∀ q : Nat, s.heap.size ≤ q → (fun q : Nat => s.heap.size ≤ q) q := fun _ z => z
  have hts : ∀ w ∈ wsL_law, w.before #[Value.ref b] (s.setDrawn d0) = true := fun w z => dr_words hts0 d0 w (wsL_law_in w z)
  have hK := XK.same (s := s) (U := s.setDrawn d0) rfl hK0
  have hV := XV.same (s := s) (U := s.setDrawn d0) rfl hV0
  have hZ : xZ (fun q : Nat => s.heap.size ≤ q) (s.setDrawn d0) (s.setDrawn d0).heap := xZ.moved (Vm.Alike.refl _) hZ0
  have hNc : xNcs (s.setDrawn d0) := hN0.moved (Vm.Alike.refl _)
  have hX : va_X b L xs (s.setDrawn d0) s.heap := va_X.moved (Vm.Alike.refl _) hX0
  obtain ⟨a1, ea1⟩ : ∃ a, a = xs (5 * i + 1) := ⟨_, rfl⟩
  obtain ⟨a2, ea2⟩ : ∃ a, a = xs (5 * i + 2) := ⟨_, rfl⟩
  rcases Decidable.em ((0 : Int32) ≤ a1 ∧ a1 ≤ 900) with h1 | h1
  · rcases Decidable.em ((0 : Int32) ≤ a2 ∧ a2 ≤ 50) with h2 | h2
    · rcases Nat.lt_or_ge nS 4 with hro | hro
      · refine lv_aload_n hx hb dL_law_248 rfl (lv_at hl 1 rfl) ?_
        refine lv_aload_n hx hb dL_law_249 rfl (lv_at hl 0 rfl) ?_
        refine lv_iload hx hb dL_law_250 (lv_at hl 4 rfl) ?_
        refine lv_iconst (v := 1) hx hb dL_law_252 (by decide) ?_
        refine lv_iadd hx hb dL_law_253 ?_
        refine W.eq (g2 := F0 m 254 ls [.int (nI (5 * i + 1)), .ref b, .ref h]) (by rw [show nI (5 * i) + 1 = nI (5 * i + 1) from nI_add (5 * i) 1]) ?_
        refine va_sld hx hb hX hbl hbA hS (i := nI (5 * i + 1)) (vp_in_nI (by omega) (by omega)) dL_law_254 ?_
        refine W.eq (g2 := F0 m 255 ls [.int a1, .ref h]) (by rw [nI_clamp (show 5 * i + 1 < 2 ^ 31 by omega), ← ea1]) ?_
        refine lv_aload_n hx hb dL_law_255 rfl (lv_at hl 0 rfl) ?_
        refine lv_iload hx hb dL_law_256 (lv_at hl 4 rfl) ?_
        refine lv_iconst (v := 2) hx hb dL_law_258 (by decide) ?_
        refine lv_iadd hx hb dL_law_259 ?_
        refine W.eq (g2 := F0 m 260 ls [.int (nI (5 * i + 2)), .ref b, .int a1, .ref h]) (by rw [show nI (5 * i) + 2 = nI (5 * i + 2) from nI_add (5 * i) 2]) ?_
        refine va_sld hx hb hX hbl hbA hS (i := nI (5 * i + 2)) (vp_in_nI (by omega) (by omega)) dL_law_260 ?_
        refine W.eq (g2 := F0 m 261 ls [.int a2, .int a1, .ref h]) (by rw [nI_clamp (show 5 * i + 2 < 2 ^ 31 by omega), ← ea2]) ?_
        refine lv_aload_n hx hb dL_law_261 rfl (lv_at hl 3 rfl) ?_
        refine xcL (As := [.ref h, .int a1, .int a2, .ref o]) (rest := []) ⟨hx, hb, hml, hown, hts⟩ (c_L_open l D cy sa h ad nS nB st bk gate nu (av 0) (tw cy av tS tB ts tb tg tn) a1 a2 h1 h2 hro o g) (vx_cwSW 4 hts gL_law_L_open rfl rfl rfl (by decide +kernel) ⟨Nat.le_of_ble_eq_true rfl, Nat.le_of_ble_eq_true rfl⟩) hK hV hZ hNc hP hD hS hA (xE_l) rfl hl.1 rfl (Nat.le_of_ble_eq_true rfl) dL_law_262 ⟨by show 15 + 120 * i + 0 + 2 ≤ 601024; omega, by show 187 + 700 * i + 0 + 9 ≤ 7293034; omega⟩ (fun u H locs _ hP hD hS => ?_)
        have hP : va_P D vwCl (((xw cy h (va_up ad (4 + nS) u) (nS + 1) nB (va_up st nS (newS a1 a2)) bk gate nu (av 0) (tw cy av tS tB ts tb tg tn)) ++ [(o, .inl (cy 4, 1, .inr (.inl (vp_updL g 0 ((nI nS).toInt64)))))]) ++ (mw cy mb am thr nS nB st bk gate nu)) H := hP
        have hD : va_D (fun q : Nat => s.heap.size ≤ q) (((xw cy h (va_up ad (4 + nS) u) (nS + 1) nB (va_up st nS (newS a1 a2)) bk gate nu (av 0) (tw cy av tS tB ts tb tg tn)) ++ [(o, .inl (cy 4, 1, .inr (.inl (vp_updL g 0 ((nI nS).toInt64)))))]) ++ (mw cy mb am thr nS nB st bk gate nu)) := hD
        refine W.eq (g2 := F0 m 265 ls [.int 0]) rfl ?_
        refine W.cs (cells' := 15 + 120 * i + 2) (slots' := 187 + 700 * i + 9) rfl rfl ?_
        refine lv_istore (lv' := [(5, .int 0), (0, .ref b), (1, .ref h), (2, .ref mb), (3, .ref o), (4, .int (nI (5 * i)))]) hx hb dL_law_265 hl (by decide) rfl (fun ls hl => ?_)
        refine lv_aload_n hx hb dL_law_267 rfl (lv_at hl 3 rfl) ?_
        refine lv_aload_n hx hb dL_law_268 rfl (lv_at hl 1 rfl) ?_
        refine lv_iload hx hb dL_law_269 (lv_at hl 5 rfl) ?_
        refine lv_iconst (v := 1) hx hb dL_law_271 (by decide) ?_
        refine lv_iadd hx hb dL_law_272 ?_
        refine W.eq (g2 := F0 m 273 ls [.int (nI (5 * i + 1)), .ref b, .ref mb]) (by rw [show nI (5 * i) + 1 = nI (5 * i + 1) from nI_add (5 * i) 1]) ?_
        refine va_sld hx hb hX hbl hbA hS (i := nI (5 * i + 1)) (vp_in_nI (by omega) (by omega)) dL_law_273 ?_
        refine W.eq (g2 := F0 m 274 ls [.int a1, .ref mb]) (by rw [nI_clamp (show 5 * i + 1 < 2 ^ 31 by omega), ← ea1]) ?_
        refine lv_aload_n hx hb dL_law_274 rfl (lv_at hl 1 rfl) ?_
        refine lv_iload hx hb dL_law_275 (lv_at hl 5 rfl) ?_
        refine lv_iconst (v := 2) hx hb dL_law_277 (by decide) ?_
        refine lv_iadd hx hb dL_law_278 ?_
        refine W.eq (g2 := F0 m 279 ls [.int (nI (5 * i + 2)), .ref b, .int a1, .ref mb]) (by rw [show nI (5 * i) + 2 = nI (5 * i + 2) from nI_add (5 * i) 2]) ?_
        refine va_sld hx hb hX hbl hbA hS (i := nI (5 * i + 2)) (vp_in_nI (by omega) (by omega)) dL_law_279 ?_
        refine W.eq (g2 := F0 m 280 ls [.int a2, .int a1, .ref mb]) (by rw [nI_clamp (show 5 * i + 2 < 2 ^ 31 by omega), ← ea2]) ?_
        refine xcV (As := [.int a1, .int a2]) (rest := []) ⟨hx, hb, hml, hown, hts⟩ (c_X4_open l D cy mb am thr nS nB st bk gate nu a1 a2 h1 h2 hro) (cwV 2 hts gL_law_X4_open rfl rfl rfl (by decide +kernel) ⟨Nat.le_of_ble_eq_true rfl, Nat.le_of_ble_eq_true rfl⟩) hK hP hD hS hA rfl rfl rfl (xE_r) rfl hl.1 rfl (Nat.le_of_ble_eq_true rfl) dL_law_280 ⟨by show 15 + 120 * i + 2 + 1 ≤ 601024; omega, by show 187 + 700 * i + 9 + 3 ≤ 7293034; omega⟩ (fun _ H locs _ hP hD hS => ?_)
        have hP : va_P D vwCl (((xw cy h (va_up ad (4 + nS) u) (nS + 1) nB (va_up st nS (newS a1 a2)) bk gate nu (av 0) (tw cy av tS tB ts tb tg tn)) ++ [(o, .inl (cy 4, 1, .inr (.inl (vp_updL g 0 ((nI nS).toInt64)))))]) ++ (mw cy mb am 0 (nS + 1) nB (va_up st nS (newS a1 a2)) bk gate nu)) H := hP
        have hD : va_D (fun q : Nat => s.heap.size ≤ q) (((xw cy h (va_up ad (4 + nS) u) (nS + 1) nB (va_up st nS (newS a1 a2)) bk gate nu (av 0) (tw cy av tS tB ts tb tg tn)) ++ [(o, .inl (cy 4, 1, .inr (.inl (vp_updL g 0 ((nI nS).toInt64)))))]) ++ (mw cy mb am 0 (nS + 1) nB (va_up st nS (newS a1 a2)) bk gate nu)) := hD
        refine W.eq (g2 := F0 m 283 ls [.int (nI nS)]) rfl ?_
        refine W.cs (cells' := 15 + 120 * i + 3) (slots' := 187 + 700 * i + 12) rfl rfl ?_
        refine lv_istore (lv' := [(6, .int (nI nS)), (5, .int 0), (0, .ref b), (1, .ref h), (2, .ref mb), (3, .ref o), (4, .int (nI (5 * i)))]) hx hb dL_law_283 hl (by decide) rfl (fun ls hl => ?_)
        refine lv_aload_n hx hb dL_law_285 rfl (lv_at hl 4 rfl) ?_
        refine xcV (As := []) (rest := []) ⟨hx, hb, hml, hown, hts⟩ (c_X4_thrown l D cy mb am 0 (nS + 1) nB (va_up st nS (newS a1 a2)) bk gate nu) (cwV 0 hts gL_law_X4_thrown rfl rfl rfl (by decide +kernel) ⟨Nat.le_of_ble_eq_true rfl, Nat.le_of_ble_eq_true rfl⟩) hK hP hD hS hA rfl rfl rfl (xE_r) rfl hl.1 rfl (Nat.le_of_ble_eq_true rfl) dL_law_286 ⟨by show 15 + 120 * i + 3 + 0 ≤ 601024; omega, by show 187 + 700 * i + 12 + 0 ≤ 7293034; omega⟩ (fun _ H locs _ hP hD hS => ?_)
        have hP : va_P D vwCl (((xw cy h (va_up ad (4 + nS) u) (nS + 1) nB (va_up st nS (newS a1 a2)) bk gate nu (av 0) (tw cy av tS tB ts tb tg tn)) ++ [(o, .inl (cy 4, 1, .inr (.inl (vp_updL g 0 ((nI nS).toInt64)))))]) ++ (mw cy mb am 0 (nS + 1) nB (va_up st nS (newS a1 a2)) bk gate nu)) H := hP
        have hD : va_D (fun q : Nat => s.heap.size ≤ q) (((xw cy h (va_up ad (4 + nS) u) (nS + 1) nB (va_up st nS (newS a1 a2)) bk gate nu (av 0) (tw cy av tS tB ts tb tg tn)) ++ [(o, .inl (cy 4, 1, .inr (.inl (vp_updL g 0 ((nI nS).toInt64)))))]) ++ (mw cy mb am 0 (nS + 1) nB (va_up st nS (newS a1 a2)) bk gate nu)) := hD
        refine W.eq (g2 := F0 m 289 ls [.int 0]) rfl ?_
        refine W.cs (cells' := 15 + 120 * i + 3) (slots' := 187 + 700 * i + 12) rfl rfl ?_
        refine lv_iload hx hb dL_law_289 (lv_at hl 1 rfl) ?_
        refine lv_icmp_eq (tgt := 296) hx hb dL_law_291 (by decide) (fun _ => ?_) (fun z => absurd rfl z)
        refine lv_iload hx hb dL_law_296 (lv_at hl 1 rfl) ?_
        refine lv_if_ne (tgt := 313) hx hb dL_law_298 (by decide) (fun z => absurd rfl z) (fun _ => ?_)
        refine lv_aload_n hx hb dL_law_301 rfl (lv_at hl 5 rfl) ?_
        refine lv_iconst (v := 0) hx hb dL_law_302 (by decide) ?_
        refine va_lald hx hb hK.1 hP _ 4 (at_l last_at) rfl (i := 0) (vp_in_nI (n := 0) (by decide) (by decide)) dL_law_303 ?_
        refine W.eq (g2 := F0 m 304 ls [.long ((nI nS).toInt64)]) rfl ?_
        refine lv_iload hx hb dL_law_304 (lv_at hl 0 rfl) ?_
        refine lv_i2l (v := (nI nS).toInt64) hx hb dL_law_306 rfl ?_
        refine W.lcmp hx hb dL_law_307 ?_
        refine W.eq (g2 := F0 m 308 ls [.int 0]) (by rw [lg_same]) ?_
        refine lv_if_eq (tgt := 313) hx hb dL_law_308 (by decide) (fun _ => ?_) (fun z => absurd rfl z)
        refine lv_goto (tgt := 1159) hx hb dL_law_313 (by decide) ?_
        refine W.widen (k := 15 + 120 * (i + 1)) (n := 187 + 700 * (i + 1)) (by omega) (by omega) ?_
        exact KK (va_up ad (4 + nS) u) av am 0 (nS + 1) nB tS tB (va_up st nS (newS a1 a2)) bk ts tb gate nu tg tn (vp_updL g 0 ((nI nS).toInt64)) hq d0  _ _ _ hd0 (by omega) hnB (by omega) htB (by omega) (inv_open hI (rg900 h1) (rg50 h2)) hP hD hS (lv_sub hl [2, 3, 4, 5, 6] rfl)
      · refine lv_aload_n hx hb dL_law_248 rfl (lv_at hl 1 rfl) ?_
        refine lv_aload_n hx hb dL_law_249 rfl (lv_at hl 0 rfl) ?_
        refine lv_iload hx hb dL_law_250 (lv_at hl 4 rfl) ?_
        refine lv_iconst (v := 1) hx hb dL_law_252 (by decide) ?_
        refine lv_iadd hx hb dL_law_253 ?_
        refine W.eq (g2 := F0 m 254 ls [.int (nI (5 * i + 1)), .ref b, .ref h]) (by rw [show nI (5 * i) + 1 = nI (5 * i + 1) from nI_add (5 * i) 1]) ?_
        refine va_sld hx hb hX hbl hbA hS (i := nI (5 * i + 1)) (vp_in_nI (by omega) (by omega)) dL_law_254 ?_
        refine W.eq (g2 := F0 m 255 ls [.int a1, .ref h]) (by rw [nI_clamp (show 5 * i + 1 < 2 ^ 31 by omega), ← ea1]) ?_
        refine lv_aload_n hx hb dL_law_255 rfl (lv_at hl 0 rfl) ?_
        refine lv_iload hx hb dL_law_256 (lv_at hl 4 rfl) ?_
        refine lv_iconst (v := 2) hx hb dL_law_258 (by decide) ?_
        refine lv_iadd hx hb dL_law_259 ?_
        refine W.eq (g2 := F0 m 260 ls [.int (nI (5 * i + 2)), .ref b, .int a1, .ref h]) (by rw [show nI (5 * i) + 2 = nI (5 * i + 2) from nI_add (5 * i) 2]) ?_
        refine va_sld hx hb hX hbl hbA hS (i := nI (5 * i + 2)) (vp_in_nI (by omega) (by omega)) dL_law_260 ?_
        refine W.eq (g2 := F0 m 261 ls [.int a2, .int a1, .ref h]) (by rw [nI_clamp (show 5 * i + 2 < 2 ^ 31 by omega), ← ea2]) ?_
        refine lv_aload_n hx hb dL_law_261 rfl (lv_at hl 3 rfl) ?_
        refine xcL (As := [.ref h, .int a1, .int a2, .ref o]) (rest := []) ⟨hx, hb, hml, hown, hts⟩ (c_L_open_2 l hst D cy sa h ad nS nB st bk gate nu (av 0) (tw cy av tS tB ts tb tg tn) a1 a2 h1 h2 (by omega) o g) (vx_cwSW 4 hts gL_law_L_open rfl rfl rfl (by decide +kernel) ⟨Nat.le_of_ble_eq_true rfl, Nat.le_of_ble_eq_true rfl⟩) hK hV hZ hNc hP hD hS hA (xE_l) rfl hl.1 rfl (Nat.le_of_ble_eq_true rfl) dL_law_262 ⟨by show 15 + 120 * i + 0 + 2 ≤ 601024; omega, by show 187 + 700 * i + 0 + 9 ≤ 7293034; omega⟩ (fun u H locs _ hP hD hS => ?_)
        have hP : va_P D vwCl (((xw cy h ad nS nB st bk gate nu (av 0) (tw cy av tS tB ts tb tg tn)) ++ [(o, .inl (cy 4, 1, .inr (.inl g)))]) ++ (mw cy mb am thr nS nB st bk gate nu)) H := hP
        have hD : va_D (fun q : Nat => s.heap.size ≤ q) (((xw cy h ad nS nB st bk gate nu (av 0) (tw cy av tS tB ts tb tg tn)) ++ [(o, .inl (cy 4, 1, .inr (.inl g)))]) ++ (mw cy mb am thr nS nB st bk gate nu)) := hD
        refine W.eq (g2 := F0 m 265 ls [.int 2]) rfl ?_
        refine W.cs (cells' := 15 + 120 * i + 2) (slots' := 187 + 700 * i + 9) rfl rfl ?_
        refine lv_istore (lv' := [(5, .int 2), (0, .ref b), (1, .ref h), (2, .ref mb), (3, .ref o), (4, .int (nI (5 * i)))]) hx hb dL_law_265 hl (by decide) rfl (fun ls hl => ?_)
        refine lv_aload_n hx hb dL_law_267 rfl (lv_at hl 3 rfl) ?_
        refine lv_aload_n hx hb dL_law_268 rfl (lv_at hl 1 rfl) ?_
        refine lv_iload hx hb dL_law_269 (lv_at hl 5 rfl) ?_
        refine lv_iconst (v := 1) hx hb dL_law_271 (by decide) ?_
        refine lv_iadd hx hb dL_law_272 ?_
        refine W.eq (g2 := F0 m 273 ls [.int (nI (5 * i + 1)), .ref b, .ref mb]) (by rw [show nI (5 * i) + 1 = nI (5 * i + 1) from nI_add (5 * i) 1]) ?_
        refine va_sld hx hb hX hbl hbA hS (i := nI (5 * i + 1)) (vp_in_nI (by omega) (by omega)) dL_law_273 ?_
        refine W.eq (g2 := F0 m 274 ls [.int a1, .ref mb]) (by rw [nI_clamp (show 5 * i + 1 < 2 ^ 31 by omega), ← ea1]) ?_
        refine lv_aload_n hx hb dL_law_274 rfl (lv_at hl 1 rfl) ?_
        refine lv_iload hx hb dL_law_275 (lv_at hl 5 rfl) ?_
        refine lv_iconst (v := 2) hx hb dL_law_277 (by decide) ?_
        refine lv_iadd hx hb dL_law_278 ?_
        refine W.eq (g2 := F0 m 279 ls [.int (nI (5 * i + 2)), .ref b, .int a1, .ref mb]) (by rw [show nI (5 * i) + 2 = nI (5 * i + 2) from nI_add (5 * i) 2]) ?_
        refine va_sld hx hb hX hbl hbA hS (i := nI (5 * i + 2)) (vp_in_nI (by omega) (by omega)) dL_law_279 ?_
        refine W.eq (g2 := F0 m 280 ls [.int a2, .int a1, .ref mb]) (by rw [nI_clamp (show 5 * i + 2 < 2 ^ 31 by omega), ← ea2]) ?_
        refine xcV (As := [.int a1, .int a2]) (rest := []) ⟨hx, hb, hml, hown, hts⟩ (c_X4_open_2 l D cy mb am thr nS nB st bk gate nu a1 a2 h1 h2 (by omega)) (cwV 2 hts gL_law_X4_open rfl rfl rfl (by decide +kernel) ⟨Nat.le_of_ble_eq_true rfl, Nat.le_of_ble_eq_true rfl⟩) hK hP hD hS hA rfl rfl rfl (xE_r) rfl hl.1 rfl (Nat.le_of_ble_eq_true rfl) dL_law_280 ⟨by show 15 + 120 * i + 2 + 1 ≤ 601024; omega, by show 187 + 700 * i + 9 + 3 ≤ 7293034; omega⟩ (fun _ H locs _ hP hD hS => ?_)
        have hP : va_P D vwCl (((xw cy h ad nS nB st bk gate nu (av 0) (tw cy av tS tB ts tb tg tn)) ++ [(o, .inl (cy 4, 1, .inr (.inl g)))]) ++ (mw cy mb am 2 nS nB st bk gate nu)) H := hP
        have hD : va_D (fun q : Nat => s.heap.size ≤ q) (((xw cy h ad nS nB st bk gate nu (av 0) (tw cy av tS tB ts tb tg tn)) ++ [(o, .inl (cy 4, 1, .inr (.inl g)))]) ++ (mw cy mb am 2 nS nB st bk gate nu)) := hD
        refine W.eq (g2 := F0 m 283 ls [.int 0]) rfl ?_
        refine W.cs (cells' := 15 + 120 * i + 3) (slots' := 187 + 700 * i + 12) rfl rfl ?_
        refine lv_istore (lv' := [(6, .int 0), (5, .int 2), (0, .ref b), (1, .ref h), (2, .ref mb), (3, .ref o), (4, .int (nI (5 * i)))]) hx hb dL_law_283 hl (by decide) rfl (fun ls hl => ?_)
        refine lv_aload_n hx hb dL_law_285 rfl (lv_at hl 4 rfl) ?_
        refine xcV (As := []) (rest := []) ⟨hx, hb, hml, hown, hts⟩ (c_X4_thrown l D cy mb am 2 nS nB st bk gate nu) (cwV 0 hts gL_law_X4_thrown rfl rfl rfl (by decide +kernel) ⟨Nat.le_of_ble_eq_true rfl, Nat.le_of_ble_eq_true rfl⟩) hK hP hD hS hA rfl rfl rfl (xE_r) rfl hl.1 rfl (Nat.le_of_ble_eq_true rfl) dL_law_286 ⟨by show 15 + 120 * i + 3 + 0 ≤ 601024; omega, by show 187 + 700 * i + 12 + 0 ≤ 7293034; omega⟩ (fun _ H locs _ hP hD hS => ?_)
        have hP : va_P D vwCl (((xw cy h ad nS nB st bk gate nu (av 0) (tw cy av tS tB ts tb tg tn)) ++ [(o, .inl (cy 4, 1, .inr (.inl g)))]) ++ (mw cy mb am 2 nS nB st bk gate nu)) H := hP
        have hD : va_D (fun q : Nat => s.heap.size ≤ q) (((xw cy h ad nS nB st bk gate nu (av 0) (tw cy av tS tB ts tb tg tn)) ++ [(o, .inl (cy 4, 1, .inr (.inl g)))]) ++ (mw cy mb am 2 nS nB st bk gate nu)) := hD
        refine W.eq (g2 := F0 m 289 ls [.int 2]) rfl ?_
        refine W.cs (cells' := 15 + 120 * i + 3) (slots' := 187 + 700 * i + 12) rfl rfl ?_
        refine lv_iload hx hb dL_law_289 (lv_at hl 1 rfl) ?_
        refine lv_icmp_eq (tgt := 296) hx hb dL_law_291 (by decide) (fun _ => ?_) (fun z => absurd rfl z)
        refine lv_iload hx hb dL_law_296 (lv_at hl 1 rfl) ?_
        refine lv_if_ne (tgt := 313) hx hb dL_law_298 (by decide) (fun _ => ?_) (fun z => absurd z (by decide))
        refine lv_goto (tgt := 1159) hx hb dL_law_313 (by decide) ?_
        refine W.widen (k := 15 + 120 * (i + 1)) (n := 187 + 700 * (i + 1)) (by omega) (by omega) ?_
        exact KK ad av am 2 nS nB tS tB st bk ts tb gate nu tg tn g hq d0  _ _ _ hd0 hnS hnB htS htB (by omega) hI hP hD hS (lv_sub hl [2, 3, 4, 5, 6] rfl)
    · refine lv_aload_n hx hb dL_law_248 rfl (lv_at hl 1 rfl) ?_
      refine lv_aload_n hx hb dL_law_249 rfl (lv_at hl 0 rfl) ?_
      refine lv_iload hx hb dL_law_250 (lv_at hl 4 rfl) ?_
      refine lv_iconst (v := 1) hx hb dL_law_252 (by decide) ?_
      refine lv_iadd hx hb dL_law_253 ?_
      refine W.eq (g2 := F0 m 254 ls [.int (nI (5 * i + 1)), .ref b, .ref h]) (by rw [show nI (5 * i) + 1 = nI (5 * i + 1) from nI_add (5 * i) 1]) ?_
      refine va_sld hx hb hX hbl hbA hS (i := nI (5 * i + 1)) (vp_in_nI (by omega) (by omega)) dL_law_254 ?_
      refine W.eq (g2 := F0 m 255 ls [.int a1, .ref h]) (by rw [nI_clamp (show 5 * i + 1 < 2 ^ 31 by omega), ← ea1]) ?_
      refine lv_aload_n hx hb dL_law_255 rfl (lv_at hl 0 rfl) ?_
      refine lv_iload hx hb dL_law_256 (lv_at hl 4 rfl) ?_
      refine lv_iconst (v := 2) hx hb dL_law_258 (by decide) ?_
      refine lv_iadd hx hb dL_law_259 ?_
      refine W.eq (g2 := F0 m 260 ls [.int (nI (5 * i + 2)), .ref b, .int a1, .ref h]) (by rw [show nI (5 * i) + 2 = nI (5 * i + 2) from nI_add (5 * i) 2]) ?_
      refine va_sld hx hb hX hbl hbA hS (i := nI (5 * i + 2)) (vp_in_nI (by omega) (by omega)) dL_law_260 ?_
      refine W.eq (g2 := F0 m 261 ls [.int a2, .int a1, .ref h]) (by rw [nI_clamp (show 5 * i + 2 < 2 ^ 31 by omega), ← ea2]) ?_
      refine lv_aload_n hx hb dL_law_261 rfl (lv_at hl 3 rfl) ?_
      refine xcL (As := [.ref h, .int a1, .int a2, .ref o]) (rest := []) ⟨hx, hb, hml, hown, hts⟩ (c_L_open_1b l hst D cy sa h ad nS nB st bk gate nu (av 0) (tw cy av tS tB ts tb tg tn) a1 a2 h1 h2 o g) (vx_cwSW 4 hts gL_law_L_open rfl rfl rfl (by decide +kernel) ⟨Nat.le_of_ble_eq_true rfl, Nat.le_of_ble_eq_true rfl⟩) hK hV hZ hNc hP hD hS hA (xE_l) rfl hl.1 rfl (Nat.le_of_ble_eq_true rfl) dL_law_262 ⟨by show 15 + 120 * i + 0 + 2 ≤ 601024; omega, by show 187 + 700 * i + 0 + 9 ≤ 7293034; omega⟩ (fun u H locs _ hP hD hS => ?_)
      have hP : va_P D vwCl (((xw cy h ad nS nB st bk gate nu (av 0) (tw cy av tS tB ts tb tg tn)) ++ [(o, .inl (cy 4, 1, .inr (.inl g)))]) ++ (mw cy mb am thr nS nB st bk gate nu)) H := hP
      have hD : va_D (fun q : Nat => s.heap.size ≤ q) (((xw cy h ad nS nB st bk gate nu (av 0) (tw cy av tS tB ts tb tg tn)) ++ [(o, .inl (cy 4, 1, .inr (.inl g)))]) ++ (mw cy mb am thr nS nB st bk gate nu)) := hD
      refine W.eq (g2 := F0 m 265 ls [.int 1]) rfl ?_
      refine W.cs (cells' := 15 + 120 * i + 2) (slots' := 187 + 700 * i + 9) rfl rfl ?_
      refine lv_istore (lv' := [(5, .int 1), (0, .ref b), (1, .ref h), (2, .ref mb), (3, .ref o), (4, .int (nI (5 * i)))]) hx hb dL_law_265 hl (by decide) rfl (fun ls hl => ?_)
      refine lv_aload_n hx hb dL_law_267 rfl (lv_at hl 3 rfl) ?_
      refine lv_aload_n hx hb dL_law_268 rfl (lv_at hl 1 rfl) ?_
      refine lv_iload hx hb dL_law_269 (lv_at hl 5 rfl) ?_
      refine lv_iconst (v := 1) hx hb dL_law_271 (by decide) ?_
      refine lv_iadd hx hb dL_law_272 ?_
      refine W.eq (g2 := F0 m 273 ls [.int (nI (5 * i + 1)), .ref b, .ref mb]) (by rw [show nI (5 * i) + 1 = nI (5 * i + 1) from nI_add (5 * i) 1]) ?_
      refine va_sld hx hb hX hbl hbA hS (i := nI (5 * i + 1)) (vp_in_nI (by omega) (by omega)) dL_law_273 ?_
      refine W.eq (g2 := F0 m 274 ls [.int a1, .ref mb]) (by rw [nI_clamp (show 5 * i + 1 < 2 ^ 31 by omega), ← ea1]) ?_
      refine lv_aload_n hx hb dL_law_274 rfl (lv_at hl 1 rfl) ?_
      refine lv_iload hx hb dL_law_275 (lv_at hl 5 rfl) ?_
      refine lv_iconst (v := 2) hx hb dL_law_277 (by decide) ?_
      refine lv_iadd hx hb dL_law_278 ?_
      refine W.eq (g2 := F0 m 279 ls [.int (nI (5 * i + 2)), .ref b, .int a1, .ref mb]) (by rw [show nI (5 * i) + 2 = nI (5 * i + 2) from nI_add (5 * i) 2]) ?_
      refine va_sld hx hb hX hbl hbA hS (i := nI (5 * i + 2)) (vp_in_nI (by omega) (by omega)) dL_law_279 ?_
      refine W.eq (g2 := F0 m 280 ls [.int a2, .int a1, .ref mb]) (by rw [nI_clamp (show 5 * i + 2 < 2 ^ 31 by omega), ← ea2]) ?_
      refine xcV (As := [.int a1, .int a2]) (rest := []) ⟨hx, hb, hml, hown, hts⟩ (c_X4_open_1b l D cy mb am thr nS nB st bk gate nu a1 a2 h1 h2) (cwV 2 hts gL_law_X4_open rfl rfl rfl (by decide +kernel) ⟨Nat.le_of_ble_eq_true rfl, Nat.le_of_ble_eq_true rfl⟩) hK hP hD hS hA rfl rfl rfl (xE_r) rfl hl.1 rfl (Nat.le_of_ble_eq_true rfl) dL_law_280 ⟨by show 15 + 120 * i + 2 + 1 ≤ 601024; omega, by show 187 + 700 * i + 9 + 3 ≤ 7293034; omega⟩ (fun _ H locs _ hP hD hS => ?_)
      have hP : va_P D vwCl (((xw cy h ad nS nB st bk gate nu (av 0) (tw cy av tS tB ts tb tg tn)) ++ [(o, .inl (cy 4, 1, .inr (.inl g)))]) ++ (mw cy mb am 1 nS nB st bk gate nu)) H := hP
      have hD : va_D (fun q : Nat => s.heap.size ≤ q) (((xw cy h ad nS nB st bk gate nu (av 0) (tw cy av tS tB ts tb tg tn)) ++ [(o, .inl (cy 4, 1, .inr (.inl g)))]) ++ (mw cy mb am 1 nS nB st bk gate nu)) := hD
      refine W.eq (g2 := F0 m 283 ls [.int 0]) rfl ?_
      refine W.cs (cells' := 15 + 120 * i + 3) (slots' := 187 + 700 * i + 12) rfl rfl ?_
      refine lv_istore (lv' := [(6, .int 0), (5, .int 1), (0, .ref b), (1, .ref h), (2, .ref mb), (3, .ref o), (4, .int (nI (5 * i)))]) hx hb dL_law_283 hl (by decide) rfl (fun ls hl => ?_)
      refine lv_aload_n hx hb dL_law_285 rfl (lv_at hl 4 rfl) ?_
      refine xcV (As := []) (rest := []) ⟨hx, hb, hml, hown, hts⟩ (c_X4_thrown l D cy mb am 1 nS nB st bk gate nu) (cwV 0 hts gL_law_X4_thrown rfl rfl rfl (by decide +kernel) ⟨Nat.le_of_ble_eq_true rfl, Nat.le_of_ble_eq_true rfl⟩) hK hP hD hS hA rfl rfl rfl (xE_r) rfl hl.1 rfl (Nat.le_of_ble_eq_true rfl) dL_law_286 ⟨by show 15 + 120 * i + 3 + 0 ≤ 601024; omega, by show 187 + 700 * i + 12 + 0 ≤ 7293034; omega⟩ (fun _ H locs _ hP hD hS => ?_)
      have hP : va_P D vwCl (((xw cy h ad nS nB st bk gate nu (av 0) (tw cy av tS tB ts tb tg tn)) ++ [(o, .inl (cy 4, 1, .inr (.inl g)))]) ++ (mw cy mb am 1 nS nB st bk gate nu)) H := hP
      have hD : va_D (fun q : Nat => s.heap.size ≤ q) (((xw cy h ad nS nB st bk gate nu (av 0) (tw cy av tS tB ts tb tg tn)) ++ [(o, .inl (cy 4, 1, .inr (.inl g)))]) ++ (mw cy mb am 1 nS nB st bk gate nu)) := hD
      refine W.eq (g2 := F0 m 289 ls [.int 1]) rfl ?_
      refine W.cs (cells' := 15 + 120 * i + 3) (slots' := 187 + 700 * i + 12) rfl rfl ?_
      refine lv_iload hx hb dL_law_289 (lv_at hl 1 rfl) ?_
      refine lv_icmp_eq (tgt := 296) hx hb dL_law_291 (by decide) (fun _ => ?_) (fun z => absurd rfl z)
      refine lv_iload hx hb dL_law_296 (lv_at hl 1 rfl) ?_
      refine lv_if_ne (tgt := 313) hx hb dL_law_298 (by decide) (fun _ => ?_) (fun z => absurd z (by decide))
      refine lv_goto (tgt := 1159) hx hb dL_law_313 (by decide) ?_
      refine W.widen (k := 15 + 120 * (i + 1)) (n := 187 + 700 * (i + 1)) (by omega) (by omega) ?_
      exact KK ad av am 1 nS nB tS tB st bk ts tb gate nu tg tn g hq d0  _ _ _ hd0 hnS hnB htS htB (by omega) hI hP hD hS (lv_sub hl [2, 3, 4, 5, 6] rfl)
  · refine lv_aload_n hx hb dL_law_248 rfl (lv_at hl 1 rfl) ?_
    refine lv_aload_n hx hb dL_law_249 rfl (lv_at hl 0 rfl) ?_
    refine lv_iload hx hb dL_law_250 (lv_at hl 4 rfl) ?_
    refine lv_iconst (v := 1) hx hb dL_law_252 (by decide) ?_
    refine lv_iadd hx hb dL_law_253 ?_
    refine W.eq (g2 := F0 m 254 ls [.int (nI (5 * i + 1)), .ref b, .ref h]) (by rw [show nI (5 * i) + 1 = nI (5 * i + 1) from nI_add (5 * i) 1]) ?_
    refine va_sld hx hb hX hbl hbA hS (i := nI (5 * i + 1)) (vp_in_nI (by omega) (by omega)) dL_law_254 ?_
    refine W.eq (g2 := F0 m 255 ls [.int a1, .ref h]) (by rw [nI_clamp (show 5 * i + 1 < 2 ^ 31 by omega), ← ea1]) ?_
    refine lv_aload_n hx hb dL_law_255 rfl (lv_at hl 0 rfl) ?_
    refine lv_iload hx hb dL_law_256 (lv_at hl 4 rfl) ?_
    refine lv_iconst (v := 2) hx hb dL_law_258 (by decide) ?_
    refine lv_iadd hx hb dL_law_259 ?_
    refine W.eq (g2 := F0 m 260 ls [.int (nI (5 * i + 2)), .ref b, .int a1, .ref h]) (by rw [show nI (5 * i) + 2 = nI (5 * i + 2) from nI_add (5 * i) 2]) ?_
    refine va_sld hx hb hX hbl hbA hS (i := nI (5 * i + 2)) (vp_in_nI (by omega) (by omega)) dL_law_260 ?_
    refine W.eq (g2 := F0 m 261 ls [.int a2, .int a1, .ref h]) (by rw [nI_clamp (show 5 * i + 2 < 2 ^ 31 by omega), ← ea2]) ?_
    refine lv_aload_n hx hb dL_law_261 rfl (lv_at hl 3 rfl) ?_
    refine xcL (As := [.ref h, .int a1, .int a2, .ref o]) (rest := []) ⟨hx, hb, hml, hown, hts⟩ (c_L_open_1a l hst D cy sa h ad nS nB st bk gate nu (av 0) (tw cy av tS tB ts tb tg tn) a1 a2 h1 o g) (vx_cwSW 4 hts gL_law_L_open rfl rfl rfl (by decide +kernel) ⟨Nat.le_of_ble_eq_true rfl, Nat.le_of_ble_eq_true rfl⟩) hK hV hZ hNc hP hD hS hA (xE_l) rfl hl.1 rfl (Nat.le_of_ble_eq_true rfl) dL_law_262 ⟨by show 15 + 120 * i + 0 + 2 ≤ 601024; omega, by show 187 + 700 * i + 0 + 9 ≤ 7293034; omega⟩ (fun u H locs _ hP hD hS => ?_)
    have hP : va_P D vwCl (((xw cy h ad nS nB st bk gate nu (av 0) (tw cy av tS tB ts tb tg tn)) ++ [(o, .inl (cy 4, 1, .inr (.inl g)))]) ++ (mw cy mb am thr nS nB st bk gate nu)) H := hP
    have hD : va_D (fun q : Nat => s.heap.size ≤ q) (((xw cy h ad nS nB st bk gate nu (av 0) (tw cy av tS tB ts tb tg tn)) ++ [(o, .inl (cy 4, 1, .inr (.inl g)))]) ++ (mw cy mb am thr nS nB st bk gate nu)) := hD
    refine W.eq (g2 := F0 m 265 ls [.int 1]) rfl ?_
    refine W.cs (cells' := 15 + 120 * i + 2) (slots' := 187 + 700 * i + 9) rfl rfl ?_
    refine lv_istore (lv' := [(5, .int 1), (0, .ref b), (1, .ref h), (2, .ref mb), (3, .ref o), (4, .int (nI (5 * i)))]) hx hb dL_law_265 hl (by decide) rfl (fun ls hl => ?_)
    refine lv_aload_n hx hb dL_law_267 rfl (lv_at hl 3 rfl) ?_
    refine lv_aload_n hx hb dL_law_268 rfl (lv_at hl 1 rfl) ?_
    refine lv_iload hx hb dL_law_269 (lv_at hl 5 rfl) ?_
    refine lv_iconst (v := 1) hx hb dL_law_271 (by decide) ?_
    refine lv_iadd hx hb dL_law_272 ?_
    refine W.eq (g2 := F0 m 273 ls [.int (nI (5 * i + 1)), .ref b, .ref mb]) (by rw [show nI (5 * i) + 1 = nI (5 * i + 1) from nI_add (5 * i) 1]) ?_
    refine va_sld hx hb hX hbl hbA hS (i := nI (5 * i + 1)) (vp_in_nI (by omega) (by omega)) dL_law_273 ?_
    refine W.eq (g2 := F0 m 274 ls [.int a1, .ref mb]) (by rw [nI_clamp (show 5 * i + 1 < 2 ^ 31 by omega), ← ea1]) ?_
    refine lv_aload_n hx hb dL_law_274 rfl (lv_at hl 1 rfl) ?_
    refine lv_iload hx hb dL_law_275 (lv_at hl 5 rfl) ?_
    refine lv_iconst (v := 2) hx hb dL_law_277 (by decide) ?_
    refine lv_iadd hx hb dL_law_278 ?_
    refine W.eq (g2 := F0 m 279 ls [.int (nI (5 * i + 2)), .ref b, .int a1, .ref mb]) (by rw [show nI (5 * i) + 2 = nI (5 * i + 2) from nI_add (5 * i) 2]) ?_
    refine va_sld hx hb hX hbl hbA hS (i := nI (5 * i + 2)) (vp_in_nI (by omega) (by omega)) dL_law_279 ?_
    refine W.eq (g2 := F0 m 280 ls [.int a2, .int a1, .ref mb]) (by rw [nI_clamp (show 5 * i + 2 < 2 ^ 31 by omega), ← ea2]) ?_
    refine xcV (As := [.int a1, .int a2]) (rest := []) ⟨hx, hb, hml, hown, hts⟩ (c_X4_open_1a l D cy mb am thr nS nB st bk gate nu a1 a2 h1) (cwV 2 hts gL_law_X4_open rfl rfl rfl (by decide +kernel) ⟨Nat.le_of_ble_eq_true rfl, Nat.le_of_ble_eq_true rfl⟩) hK hP hD hS hA rfl rfl rfl (xE_r) rfl hl.1 rfl (Nat.le_of_ble_eq_true rfl) dL_law_280 ⟨by show 15 + 120 * i + 2 + 1 ≤ 601024; omega, by show 187 + 700 * i + 9 + 3 ≤ 7293034; omega⟩ (fun _ H locs _ hP hD hS => ?_)
    have hP : va_P D vwCl (((xw cy h ad nS nB st bk gate nu (av 0) (tw cy av tS tB ts tb tg tn)) ++ [(o, .inl (cy 4, 1, .inr (.inl g)))]) ++ (mw cy mb am 1 nS nB st bk gate nu)) H := hP
    have hD : va_D (fun q : Nat => s.heap.size ≤ q) (((xw cy h ad nS nB st bk gate nu (av 0) (tw cy av tS tB ts tb tg tn)) ++ [(o, .inl (cy 4, 1, .inr (.inl g)))]) ++ (mw cy mb am 1 nS nB st bk gate nu)) := hD
    refine W.eq (g2 := F0 m 283 ls [.int 0]) rfl ?_
    refine W.cs (cells' := 15 + 120 * i + 3) (slots' := 187 + 700 * i + 12) rfl rfl ?_
    refine lv_istore (lv' := [(6, .int 0), (5, .int 1), (0, .ref b), (1, .ref h), (2, .ref mb), (3, .ref o), (4, .int (nI (5 * i)))]) hx hb dL_law_283 hl (by decide) rfl (fun ls hl => ?_)
    refine lv_aload_n hx hb dL_law_285 rfl (lv_at hl 4 rfl) ?_
    refine xcV (As := []) (rest := []) ⟨hx, hb, hml, hown, hts⟩ (c_X4_thrown l D cy mb am 1 nS nB st bk gate nu) (cwV 0 hts gL_law_X4_thrown rfl rfl rfl (by decide +kernel) ⟨Nat.le_of_ble_eq_true rfl, Nat.le_of_ble_eq_true rfl⟩) hK hP hD hS hA rfl rfl rfl (xE_r) rfl hl.1 rfl (Nat.le_of_ble_eq_true rfl) dL_law_286 ⟨by show 15 + 120 * i + 3 + 0 ≤ 601024; omega, by show 187 + 700 * i + 12 + 0 ≤ 7293034; omega⟩ (fun _ H locs _ hP hD hS => ?_)
    have hP : va_P D vwCl (((xw cy h ad nS nB st bk gate nu (av 0) (tw cy av tS tB ts tb tg tn)) ++ [(o, .inl (cy 4, 1, .inr (.inl g)))]) ++ (mw cy mb am 1 nS nB st bk gate nu)) H := hP
    have hD : va_D (fun q : Nat => s.heap.size ≤ q) (((xw cy h ad nS nB st bk gate nu (av 0) (tw cy av tS tB ts tb tg tn)) ++ [(o, .inl (cy 4, 1, .inr (.inl g)))]) ++ (mw cy mb am 1 nS nB st bk gate nu)) := hD
    refine W.eq (g2 := F0 m 289 ls [.int 1]) rfl ?_
    refine W.cs (cells' := 15 + 120 * i + 3) (slots' := 187 + 700 * i + 12) rfl rfl ?_
    refine lv_iload hx hb dL_law_289 (lv_at hl 1 rfl) ?_
    refine lv_icmp_eq (tgt := 296) hx hb dL_law_291 (by decide) (fun _ => ?_) (fun z => absurd rfl z)
    refine lv_iload hx hb dL_law_296 (lv_at hl 1 rfl) ?_
    refine lv_if_ne (tgt := 313) hx hb dL_law_298 (by decide) (fun _ => ?_) (fun z => absurd z (by decide))
    refine lv_goto (tgt := 1159) hx hb dL_law_313 (by decide) ?_
    refine W.widen (k := 15 + 120 * (i + 1)) (n := 187 + 700 * (i + 1)) (by omega) (by omega) ?_
    exact KK ad av am 1 nS nB tS tB st bk ts tb gate nu tg tn g hq d0  _ _ _ hd0 hnS hnB htS htB (by omega) hI hP hD hS (lv_sub hl [2, 3, 4, 5, 6] rfl)

set_option maxHeartbeats 4000000 in
set_option maxRecDepth 100000 in
theorem l_case_smoke {p : Program} {l : Launch} {e : Env} {s : State} {m : MethodId} {below : List Frame} {meth : Method} {c : Code} {b L : Nat} {xs : Nat → Int32} {D : va_G} {cy : Nat → ClassId} {sa : Nat → Nat} {h o mb i : Nat} (C1 : lwC p l s m meth c b L xs D cy sa) (hi : 5 * i + 5 ≤ L) (KK : lwS p l e s m below meth c b D cy h o mb 1159 i (i + 1)) : lwS p l e s m below meth c b D cy h o mb 316 i i := by
  obtain ⟨hst, C0, hK0, hV0, hZ0, hN0, hL⟩ := C1
  obtain ⟨hx, hb, hr, hml, hown, hts0, hX0, hbl, hlocks, hgv⟩ := id C0
  intro ad av am thr nS nB tS tB st bk ts tb gate nu tg tn g hq d0 H locs ls hd0 hnS hnB htS htB hhq hI hP hD hS hl
  unfold WW at hP hD
  have hbA : ¬ (fun q : Nat => s.heap.size ≤ q) b := Nat.not_le.mpr hbl
  have hA : ∀ q : Nat, s.heap.size ≤ q → (fun q : Nat => s.heap.size ≤ q) q := fun _ z => z
  have hts : ∀ w ∈ wsL_law, w.before #[Value.ref b] (s.setDrawn d0) = true := fun w z => dr_words hts0 d0 w (wsL_law_in w z)
  have hK := XK.same (s := s) (U := s.setDrawn d0) rfl hK0
  have hV := XV.same (s := s) (U := s.setDrawn d0) rfl hV0
  have hZ : xZ (fun q : Nat => s.heap.size ≤ q) (s.setDrawn d0) (s.setDrawn d0).heap := xZ.moved (Vm.Alike.refl _) hZ0
  have hNc : xNcs (s.setDrawn d0) := hN0.moved (Vm.Alike.refl _)
  have hX : va_X b L xs (s.setDrawn d0) s.heap := va_X.moved (Vm.Alike.refl _) hX0
  obtain ⟨a1, ea1⟩ : ∃ a, a = xs (5 * i + 1) := ⟨_, rfl⟩
  rcases Classical.em (vp_in a1 nS) with hv | hv
  · obtain ⟨si, hsi, rfl⟩ := vp_in_of hv (by omega)
    refine lv_aload_n hx hb dL_law_316 rfl (lv_at hl 1 rfl) ?_
    refine lv_aload_n hx hb dL_law_317 rfl (lv_at hl 0 rfl) ?_
    refine lv_iload hx hb dL_law_318 (lv_at hl 4 rfl) ?_
    refine lv_iconst (v := 1) hx hb dL_law_320 (by decide) ?_
    refine lv_iadd hx hb dL_law_321 ?_
    refine W.eq (g2 := F0 m 322 ls [.int (nI (5 * i + 1)), .ref b, .ref h]) (by rw [show nI (5 * i) + 1 = nI (5 * i + 1) from nI_add (5 * i) 1]) ?_
    refine va_sld hx hb hX hbl hbA hS (i := nI (5 * i + 1)) (vp_in_nI (by omega) (by omega)) dL_law_322 ?_
    refine W.eq (g2 := F0 m 323 ls [.int (nI si), .ref h]) (by rw [nI_clamp (show 5 * i + 1 < 2 ^ 31 by omega), ← ea1]) ?_
    refine lv_aload_n hx hb dL_law_323 rfl (lv_at hl 3 rfl) ?_
    refine xcL (As := [.ref h, .int (nI si), .ref o]) (rest := []) ⟨hx, hb, hml, hown, hts⟩ (c_L_smoke l D cy sa h ad nS nB st bk gate nu (av 0) (tw cy av tS tB ts tb tg tn) si hsi hnS hnB o g) (vx_cwSW 3 hts gL_law_L_smoke rfl rfl rfl (by decide +kernel) ⟨Nat.le_of_ble_eq_true rfl, Nat.le_of_ble_eq_true rfl⟩) hK hV hZ hNc hP hD hS hA (xE_l) rfl hl.1 rfl (Nat.le_of_ble_eq_true rfl) dL_law_324 ⟨by show 15 + 120 * i + 0 + 1 ≤ 601024; omega, by show 187 + 700 * i + 0 + 6 ≤ 7293034; omega⟩ (fun u H locs _ hP hD hS => ?_)
    have hP : va_P D vwCl (((xw cy h ad nS nB (va_up st si (sSmoke (st si))) bk gate nu (av 0) (tw cy av tS tB ts tb tg tn)) ++ [(o, .inl (cy 4, 1, .inr (.inl (vp_updL g 0 ((st si 1).toInt64)))))]) ++ (mw cy mb am thr nS nB st bk gate nu)) H := hP
    have hD : va_D (fun q : Nat => s.heap.size ≤ q) (((xw cy h ad nS nB (va_up st si (sSmoke (st si))) bk gate nu (av 0) (tw cy av tS tB ts tb tg tn)) ++ [(o, .inl (cy 4, 1, .inr (.inl (vp_updL g 0 ((st si 1).toInt64)))))]) ++ (mw cy mb am thr nS nB st bk gate nu)) := hD
    refine W.eq (g2 := F0 m 327 ls [.int 0]) rfl ?_
    refine W.cs (cells' := 15 + 120 * i + 1) (slots' := 187 + 700 * i + 6) rfl rfl ?_
    refine lv_istore (lv' := [(5, .int 0), (0, .ref b), (1, .ref h), (2, .ref mb), (3, .ref o), (4, .int (nI (5 * i)))]) hx hb dL_law_327 hl (by decide) rfl (fun ls hl => ?_)
    refine lv_aload_n hx hb dL_law_329 rfl (lv_at hl 3 rfl) ?_
    refine lv_aload_n hx hb dL_law_330 rfl (lv_at hl 1 rfl) ?_
    refine lv_iload hx hb dL_law_331 (lv_at hl 5 rfl) ?_
    refine lv_iconst (v := 1) hx hb dL_law_333 (by decide) ?_
    refine lv_iadd hx hb dL_law_334 ?_
    refine W.eq (g2 := F0 m 335 ls [.int (nI (5 * i + 1)), .ref b, .ref mb]) (by rw [show nI (5 * i) + 1 = nI (5 * i + 1) from nI_add (5 * i) 1]) ?_
    refine va_sld hx hb hX hbl hbA hS (i := nI (5 * i + 1)) (vp_in_nI (by omega) (by omega)) dL_law_335 ?_
    refine W.eq (g2 := F0 m 336 ls [.int (nI si), .ref mb]) (by rw [nI_clamp (show 5 * i + 1 < 2 ^ 31 by omega), ← ea1]) ?_
    refine xcV (As := [.int (nI si)]) (rest := []) ⟨hx, hb, hml, hown, hts⟩ (c_X4_smoke l D cy mb am thr nS nB st bk gate nu si hsi hnS) (cwV 1 hts gL_law_X4_smoke rfl rfl rfl (by decide +kernel) ⟨Nat.le_of_ble_eq_true rfl, Nat.le_of_ble_eq_true rfl⟩) hK hP hD hS hA rfl rfl rfl (xE_r) rfl hl.1 rfl (Nat.le_of_ble_eq_true rfl) dL_law_336 ⟨by show 15 + 120 * i + 1 + 0 ≤ 601024; omega, by show 187 + 700 * i + 6 + 0 ≤ 7293034; omega⟩ (fun _ H locs _ hP hD hS => ?_)
    have hP : va_P D vwCl (((xw cy h ad nS nB (va_up st si (sSmoke (st si))) bk gate nu (av 0) (tw cy av tS tB ts tb tg tn)) ++ [(o, .inl (cy 4, 1, .inr (.inl (vp_updL g 0 ((st si 1).toInt64)))))]) ++ (mw cy mb am 0 nS nB (va_up st si (sSmoke (st si))) bk gate nu)) H := hP
    have hD : va_D (fun q : Nat => s.heap.size ≤ q) (((xw cy h ad nS nB (va_up st si (sSmoke (st si))) bk gate nu (av 0) (tw cy av tS tB ts tb tg tn)) ++ [(o, .inl (cy 4, 1, .inr (.inl (vp_updL g 0 ((st si 1).toInt64)))))]) ++ (mw cy mb am 0 nS nB (va_up st si (sSmoke (st si))) bk gate nu)) := hD
    refine W.eq (g2 := F0 m 339 ls [.int (st si 1)]) rfl ?_
    refine W.cs (cells' := 15 + 120 * i + 1) (slots' := 187 + 700 * i + 6) rfl rfl ?_
    refine lv_istore (lv' := [(6, .int (st si 1)), (5, .int 0), (0, .ref b), (1, .ref h), (2, .ref mb), (3, .ref o), (4, .int (nI (5 * i)))]) hx hb dL_law_339 hl (by decide) rfl (fun ls hl => ?_)
    refine lv_aload_n hx hb dL_law_341 rfl (lv_at hl 4 rfl) ?_
    refine xcV (As := []) (rest := []) ⟨hx, hb, hml, hown, hts⟩ (c_X4_thrown l D cy mb am 0 nS nB (va_up st si (sSmoke (st si))) bk gate nu) (cwV 0 hts gL_law_X4_thrown rfl rfl rfl (by decide +kernel) ⟨Nat.le_of_ble_eq_true rfl, Nat.le_of_ble_eq_true rfl⟩) hK hP hD hS hA rfl rfl rfl (xE_r) rfl hl.1 rfl (Nat.le_of_ble_eq_true rfl) dL_law_342 ⟨by show 15 + 120 * i + 1 + 0 ≤ 601024; omega, by show 187 + 700 * i + 6 + 0 ≤ 7293034; omega⟩ (fun _ H locs _ hP hD hS => ?_)
    have hP : va_P D vwCl (((xw cy h ad nS nB (va_up st si (sSmoke (st si))) bk gate nu (av 0) (tw cy av tS tB ts tb tg tn)) ++ [(o, .inl (cy 4, 1, .inr (.inl (vp_updL g 0 ((st si 1).toInt64)))))]) ++ (mw cy mb am 0 nS nB (va_up st si (sSmoke (st si))) bk gate nu)) H := hP
    have hD : va_D (fun q : Nat => s.heap.size ≤ q) (((xw cy h ad nS nB (va_up st si (sSmoke (st si))) bk gate nu (av 0) (tw cy av tS tB ts tb tg tn)) ++ [(o, .inl (cy 4, 1, .inr (.inl (vp_updL g 0 ((st si 1).toInt64)))))]) ++ (mw cy mb am 0 nS nB (va_up st si (sSmoke (st si))) bk gate nu)) := hD
    refine W.eq (g2 := F0 m 345 ls [.int 0]) rfl ?_
    refine W.cs (cells' := 15 + 120 * i + 1) (slots' := 187 + 700 * i + 6) rfl rfl ?_
    refine lv_iload hx hb dL_law_345 (lv_at hl 1 rfl) ?_
    refine lv_icmp_eq (tgt := 352) hx hb dL_law_347 (by decide) (fun _ => ?_) (fun z => absurd rfl z)
    refine lv_iload hx hb dL_law_352 (lv_at hl 1 rfl) ?_
    refine lv_if_ne (tgt := 369) hx hb dL_law_354 (by decide) (fun z => absurd rfl z) (fun _ => ?_)
    refine lv_aload_n hx hb dL_law_357 rfl (lv_at hl 5 rfl) ?_
    refine lv_iconst (v := 0) hx hb dL_law_358 (by decide) ?_
    refine va_lald hx hb hK.1 hP _ 4 (at_l last_at) rfl (i := 0) (vp_in_nI (n := 0) (by decide) (by decide)) dL_law_359 ?_
    refine W.eq (g2 := F0 m 360 ls [.long ((st si 1).toInt64)]) rfl ?_
    refine lv_iload hx hb dL_law_360 (lv_at hl 0 rfl) ?_
    refine lv_i2l (v := (st si 1).toInt64) hx hb dL_law_362 rfl ?_
    refine W.lcmp hx hb dL_law_363 ?_
    refine W.eq (g2 := F0 m 364 ls [.int 0]) (by rw [lg_same]) ?_
    refine lv_if_eq (tgt := 369) hx hb dL_law_364 (by decide) (fun _ => ?_) (fun z => absurd rfl z)
    refine lv_goto (tgt := 1159) hx hb dL_law_369 (by decide) ?_
    refine W.widen (k := 15 + 120 * (i + 1)) (n := 187 + 700 * (i + 1)) (by omega) (by omega) ?_
    exact KK ad av am 0 nS nB tS tB (va_up st si (sSmoke (st si))) bk ts tb gate nu tg tn (vp_updL g 0 ((st si 1).toInt64)) hq d0  _ _ _ hd0 hnS hnB htS htB (by omega) (inv_st hI (sOK_smoke (hI.1 si hsi))) hP hD hS (lv_sub hl [2, 3, 4, 5, 6] rfl)
  · refine lv_aload_n hx hb dL_law_316 rfl (lv_at hl 1 rfl) ?_
    refine lv_aload_n hx hb dL_law_317 rfl (lv_at hl 0 rfl) ?_
    refine lv_iload hx hb dL_law_318 (lv_at hl 4 rfl) ?_
    refine lv_iconst (v := 1) hx hb dL_law_320 (by decide) ?_
    refine lv_iadd hx hb dL_law_321 ?_
    refine W.eq (g2 := F0 m 322 ls [.int (nI (5 * i + 1)), .ref b, .ref h]) (by rw [show nI (5 * i) + 1 = nI (5 * i + 1) from nI_add (5 * i) 1]) ?_
    refine va_sld hx hb hX hbl hbA hS (i := nI (5 * i + 1)) (vp_in_nI (by omega) (by omega)) dL_law_322 ?_
    refine W.eq (g2 := F0 m 323 ls [.int a1, .ref h]) (by rw [nI_clamp (show 5 * i + 1 < 2 ^ 31 by omega), ← ea1]) ?_
    refine lv_aload_n hx hb dL_law_323 rfl (lv_at hl 3 rfl) ?_
    refine xcL (As := [.ref h, .int a1, .ref o]) (rest := []) ⟨hx, hb, hml, hown, hts⟩ (c_L_smoke_1 l hst D cy sa h ad nS nB st bk gate nu (av 0) (tw cy av tS tB ts tb tg tn) a1 hv hnS hnB o g) (vx_cwSW 3 hts gL_law_L_smoke rfl rfl rfl (by decide +kernel) ⟨Nat.le_of_ble_eq_true rfl, Nat.le_of_ble_eq_true rfl⟩) hK hV hZ hNc hP hD hS hA (xE_l) rfl hl.1 rfl (Nat.le_of_ble_eq_true rfl) dL_law_324 ⟨by show 15 + 120 * i + 0 + 1 ≤ 601024; omega, by show 187 + 700 * i + 0 + 6 ≤ 7293034; omega⟩ (fun u H locs _ hP hD hS => ?_)
    have hP : va_P D vwCl (((xw cy h ad nS nB st bk gate nu (av 0) (tw cy av tS tB ts tb tg tn)) ++ [(o, .inl (cy 4, 1, .inr (.inl g)))]) ++ (mw cy mb am thr nS nB st bk gate nu)) H := hP
    have hD : va_D (fun q : Nat => s.heap.size ≤ q) (((xw cy h ad nS nB st bk gate nu (av 0) (tw cy av tS tB ts tb tg tn)) ++ [(o, .inl (cy 4, 1, .inr (.inl g)))]) ++ (mw cy mb am thr nS nB st bk gate nu)) := hD
    refine W.eq (g2 := F0 m 327 ls [.int 1]) rfl ?_
    refine W.cs (cells' := 15 + 120 * i + 1) (slots' := 187 + 700 * i + 6) rfl rfl ?_
    refine lv_istore (lv' := [(5, .int 1), (0, .ref b), (1, .ref h), (2, .ref mb), (3, .ref o), (4, .int (nI (5 * i)))]) hx hb dL_law_327 hl (by decide) rfl (fun ls hl => ?_)
    refine lv_aload_n hx hb dL_law_329 rfl (lv_at hl 3 rfl) ?_
    refine lv_aload_n hx hb dL_law_330 rfl (lv_at hl 1 rfl) ?_
    refine lv_iload hx hb dL_law_331 (lv_at hl 5 rfl) ?_
    refine lv_iconst (v := 1) hx hb dL_law_333 (by decide) ?_
    refine lv_iadd hx hb dL_law_334 ?_
    refine W.eq (g2 := F0 m 335 ls [.int (nI (5 * i + 1)), .ref b, .ref mb]) (by rw [show nI (5 * i) + 1 = nI (5 * i + 1) from nI_add (5 * i) 1]) ?_
    refine va_sld hx hb hX hbl hbA hS (i := nI (5 * i + 1)) (vp_in_nI (by omega) (by omega)) dL_law_335 ?_
    refine W.eq (g2 := F0 m 336 ls [.int a1, .ref mb]) (by rw [nI_clamp (show 5 * i + 1 < 2 ^ 31 by omega), ← ea1]) ?_
    refine xcV (As := [.int a1]) (rest := []) ⟨hx, hb, hml, hown, hts⟩ (c_X4_smoke_1 l D cy mb am thr nS nB st bk gate nu a1 hv hnS) (cwV 1 hts gL_law_X4_smoke rfl rfl rfl (by decide +kernel) ⟨Nat.le_of_ble_eq_true rfl, Nat.le_of_ble_eq_true rfl⟩) hK hP hD hS hA rfl rfl rfl (xE_r) rfl hl.1 rfl (Nat.le_of_ble_eq_true rfl) dL_law_336 ⟨by show 15 + 120 * i + 1 + 0 ≤ 601024; omega, by show 187 + 700 * i + 6 + 0 ≤ 7293034; omega⟩ (fun _ H locs _ hP hD hS => ?_)
    have hP : va_P D vwCl (((xw cy h ad nS nB st bk gate nu (av 0) (tw cy av tS tB ts tb tg tn)) ++ [(o, .inl (cy 4, 1, .inr (.inl g)))]) ++ (mw cy mb am 1 nS nB st bk gate nu)) H := hP
    have hD : va_D (fun q : Nat => s.heap.size ≤ q) (((xw cy h ad nS nB st bk gate nu (av 0) (tw cy av tS tB ts tb tg tn)) ++ [(o, .inl (cy 4, 1, .inr (.inl g)))]) ++ (mw cy mb am 1 nS nB st bk gate nu)) := hD
    refine W.eq (g2 := F0 m 339 ls [.int 0]) rfl ?_
    refine W.cs (cells' := 15 + 120 * i + 1) (slots' := 187 + 700 * i + 6) rfl rfl ?_
    refine lv_istore (lv' := [(6, .int 0), (5, .int 1), (0, .ref b), (1, .ref h), (2, .ref mb), (3, .ref o), (4, .int (nI (5 * i)))]) hx hb dL_law_339 hl (by decide) rfl (fun ls hl => ?_)
    refine lv_aload_n hx hb dL_law_341 rfl (lv_at hl 4 rfl) ?_
    refine xcV (As := []) (rest := []) ⟨hx, hb, hml, hown, hts⟩ (c_X4_thrown l D cy mb am 1 nS nB st bk gate nu) (cwV 0 hts gL_law_X4_thrown rfl rfl rfl (by decide +kernel) ⟨Nat.le_of_ble_eq_true rfl, Nat.le_of_ble_eq_true rfl⟩) hK hP hD hS hA rfl rfl rfl (xE_r) rfl hl.1 rfl (Nat.le_of_ble_eq_true rfl) dL_law_342 ⟨by show 15 + 120 * i + 1 + 0 ≤ 601024; omega, by show 187 + 700 * i + 6 + 0 ≤ 7293034; omega⟩ (fun _ H locs _ hP hD hS => ?_)
    have hP : va_P D vwCl (((xw cy h ad nS nB st bk gate nu (av 0) (tw cy av tS tB ts tb tg tn)) ++ [(o, .inl (cy 4, 1, .inr (.inl g)))]) ++ (mw cy mb am 1 nS nB st bk gate nu)) H := hP
    have hD : va_D (fun q : Nat => s.heap.size ≤ q) (((xw cy h ad nS nB st bk gate nu (av 0) (tw cy av tS tB ts tb tg tn)) ++ [(o, .inl (cy 4, 1, .inr (.inl g)))]) ++ (mw cy mb am 1 nS nB st bk gate nu)) := hD
    refine W.eq (g2 := F0 m 345 ls [.int 1]) rfl ?_
    refine W.cs (cells' := 15 + 120 * i + 1) (slots' := 187 + 700 * i + 6) rfl rfl ?_
    refine lv_iload hx hb dL_law_345 (lv_at hl 1 rfl) ?_
    refine lv_icmp_eq (tgt := 352) hx hb dL_law_347 (by decide) (fun _ => ?_) (fun z => absurd rfl z)
    refine lv_iload hx hb dL_law_352 (lv_at hl 1 rfl) ?_
    refine lv_if_ne (tgt := 369) hx hb dL_law_354 (by decide) (fun _ => ?_) (fun z => absurd z (by decide))
    refine lv_goto (tgt := 1159) hx hb dL_law_369 (by decide) ?_
    refine W.widen (k := 15 + 120 * (i + 1)) (n := 187 + 700 * (i + 1)) (by omega) (by omega) ?_
    exact KK ad av am 1 nS nB tS tB st bk ts tb gate nu tg tn g hq d0  _ _ _ hd0 hnS hnB htS htB (by omega) hI hP hD hS (lv_sub hl [2, 3, 4, 5, 6] rfl)

set_option maxHeartbeats 4000000 in
set_option maxRecDepth 100000 in
theorem l_case_swear {p : Program} {l : Launch} {e : Env} {s : State} {m : MethodId} {below : List Frame} {meth : Method} {c : Code} {b L : Nat} {xs : Nat → Int32} {D : va_G} {cy : Nat → ClassId} {sa : Nat → Nat} {h o mb i : Nat} (C1 : lwC p l s m meth c b L xs D cy sa) (hi : 5 * i + 5 ≤ L) (KK : lwS p l e s m below meth c b D cy h o mb 1159 i (i + 1)) : lwS p l e s m below meth c b D cy h o mb 372 i i := by
  obtain ⟨hst, C0, hK0, hV0, hZ0, hN0, hL⟩ := C1
  obtain ⟨hx, hb, hr, hml, hown, hts0, hX0, hbl, hlocks, hgv⟩ := id C0
  intro ad av am thr nS nB tS tB st bk ts tb gate nu tg tn g hq d0 H locs ls hd0 hnS hnB htS htB hhq hI hP hD hS hl
  unfold WW at hP hD
  have hbA : ¬ (fun q : Nat => s.heap.size ≤ q) b := Nat.not_le.mpr hbl
  have hA : ∀ q : Nat, s.heap.size ≤ q → (fun q : Nat => s.heap.size ≤ q) q := fun _ z => z
  have hts : ∀ w ∈ wsL_law, w.before #[Value.ref b] (s.setDrawn d0) = true := fun w z => dr_words hts0 d0 w (wsL_law_in w z)
  have hK := XK.same (s := s) (U := s.setDrawn d0) rfl hK0
  have hV := XV.same (s := s) (U := s.setDrawn d0) rfl hV0
  have hZ : xZ (fun q : Nat => s.heap.size ≤ q) (s.setDrawn d0) (s.setDrawn d0).heap := xZ.moved (Vm.Alike.refl _) hZ0
  have hNc : xNcs (s.setDrawn d0) := hN0.moved (Vm.Alike.refl _)
  have hX : va_X b L xs (s.setDrawn d0) s.heap := va_X.moved (Vm.Alike.refl _) hX0
  obtain ⟨a1, ea1⟩ : ∃ a, a = xs (5 * i + 1) := ⟨_, rfl⟩
  obtain ⟨a2, ea2⟩ : ∃ a, a = xs (5 * i + 2) := ⟨_, rfl⟩
  obtain ⟨a3, ea3⟩ : ∃ a, a = xs (5 * i + 3) := ⟨_, rfl⟩
  obtain ⟨a4, ea4⟩ : ∃ a, a = xs (5 * i + 4) := ⟨_, rfl⟩
  rcases Classical.em (vp_in a1 nS) with hv | hv
  · obtain ⟨si, hsi, rfl⟩ := vp_in_of hv (by omega)
    rcases Decidable.em ((0 : Int32) ≤ a2 ∧ a2 ≤ 25) with h1 | h1
    · rcases Decidable.em ((5 : Int32) ≤ a3 ∧ a3 ≤ 12) with h2 | h2
      · rcases Decidable.em ((0 : Int32) ≤ a4 ∧ a4 ≤ 90) with h3 | h3
        · have hoi := ownF_ge bk a2 nB 0 (by omega)
          rcases Nat.lt_or_ge nB 6 with hro | hro
          · rcases Decidable.em (ownF bk a2 nB 0 = -1) with hno | hno
            · refine lv_aload_n hx hb dL_law_372 rfl (lv_at hl 1 rfl) ?_
              refine lv_aload_n hx hb dL_law_373 rfl (lv_at hl 0 rfl) ?_
              refine lv_iload hx hb dL_law_374 (lv_at hl 4 rfl) ?_
              refine lv_iconst (v := 1) hx hb dL_law_376 (by decide) ?_
              refine lv_iadd hx hb dL_law_377 ?_
              refine W.eq (g2 := F0 m 378 ls [.int (nI (5 * i + 1)), .ref b, .ref h]) (by rw [show nI (5 * i) + 1 = nI (5 * i + 1) from nI_add (5 * i) 1]) ?_
              refine va_sld hx hb hX hbl hbA hS (i := nI (5 * i + 1)) (vp_in_nI (by omega) (by omega)) dL_law_378 ?_
              refine W.eq (g2 := F0 m 379 ls [.int (nI si), .ref h]) (by rw [nI_clamp (show 5 * i + 1 < 2 ^ 31 by omega), ← ea1]) ?_
              refine lv_aload_n hx hb dL_law_379 rfl (lv_at hl 0 rfl) ?_
              refine lv_iload hx hb dL_law_380 (lv_at hl 4 rfl) ?_
              refine lv_iconst (v := 2) hx hb dL_law_382 (by decide) ?_
              refine lv_iadd hx hb dL_law_383 ?_
              refine W.eq (g2 := F0 m 384 ls [.int (nI (5 * i + 2)), .ref b, .int (nI si), .ref h]) (by rw [show nI (5 * i) + 2 = nI (5 * i + 2) from nI_add (5 * i) 2]) ?_
              refine va_sld hx hb hX hbl hbA hS (i := nI (5 * i + 2)) (vp_in_nI (by omega) (by omega)) dL_law_384 ?_
              refine W.eq (g2 := F0 m 385 ls [.int a2, .int (nI si), .ref h]) (by rw [nI_clamp (show 5 * i + 2 < 2 ^ 31 by omega), ← ea2]) ?_
              refine lv_aload_n hx hb dL_law_385 rfl (lv_at hl 0 rfl) ?_
              refine lv_iload hx hb dL_law_386 (lv_at hl 4 rfl) ?_
              refine lv_iconst (v := 3) hx hb dL_law_388 (by decide) ?_
              refine lv_iadd hx hb dL_law_389 ?_
              refine W.eq (g2 := F0 m 390 ls [.int (nI (5 * i + 3)), .ref b, .int a2, .int (nI si), .ref h]) (by rw [show nI (5 * i) + 3 = nI (5 * i + 3) from nI_add (5 * i) 3]) ?_
              refine va_sld hx hb hX hbl hbA hS (i := nI (5 * i + 3)) (vp_in_nI (by omega) (by omega)) dL_law_390 ?_
              refine W.eq (g2 := F0 m 391 ls [.int a3, .int a2, .int (nI si), .ref h]) (by rw [nI_clamp (show 5 * i + 3 < 2 ^ 31 by omega), ← ea3]) ?_
              refine lv_aload_n hx hb dL_law_391 rfl (lv_at hl 0 rfl) ?_
              refine lv_iload hx hb dL_law_392 (lv_at hl 4 rfl) ?_
              refine lv_iconst (v := 4) hx hb dL_law_394 (by decide) ?_
              refine lv_iadd hx hb dL_law_395 ?_
              refine W.eq (g2 := F0 m 396 ls [.int (nI (5 * i + 4)), .ref b, .int a3, .int a2, .int (nI si), .ref h]) (by rw [show nI (5 * i) + 4 = nI (5 * i + 4) from nI_add (5 * i) 4]) ?_
              refine va_sld hx hb hX hbl hbA hS (i := nI (5 * i + 4)) (vp_in_nI (by omega) (by omega)) dL_law_396 ?_
              refine W.eq (g2 := F0 m 397 ls [.int a4, .int a3, .int a2, .int (nI si), .ref h]) (by rw [nI_clamp (show 5 * i + 4 < 2 ^ 31 by omega), ← ea4]) ?_
              refine lv_aload_n hx hb dL_law_397 rfl (lv_at hl 3 rfl) ?_
              refine xcL (As := [.ref h, .int (nI si), .int a2, .int a3, .int a4, .ref o]) (rest := []) ⟨hx, hb, hml, hown, hts⟩ (c_L_swear l D cy sa h ad nS nB st bk gate nu (av 0) (tw cy av tS tB ts tb tg tn) si hsi a2 a3 a4 h1 h2 h3 (hoi.mpr hno) hro hnS hnB o g) (vx_cwSW 6 hts gL_law_L_swear rfl rfl rfl (by decide +kernel) ⟨Nat.le_of_ble_eq_true rfl, Nat.le_of_ble_eq_true rfl⟩) hK hV hZ hNc hP hD hS hA (xE_l) rfl hl.1 rfl (Nat.le_of_ble_eq_true rfl) dL_law_398 ⟨by show 15 + 120 * i + 0 + 2 ≤ 601024; omega, by show 187 + 700 * i + 0 + 14 ≤ 7293034; omega⟩ (fun u H locs _ hP hD hS => ?_)
              have hP : va_P D vwCl (((xw cy h (va_up ad (8 + nB) u) nS (nB + 1) st (va_up bk nB (newB (nI si) a2 a3 a4)) gate nu (av 0) (tw cy av tS tB ts tb tg tn)) ++ [(o, .inl (cy 4, 1, .inr (.inl (vp_updL g 0 ((nI nB).toInt64)))))]) ++ (mw cy mb am thr nS nB st bk gate nu)) H := hP
              have hD : va_D (fun q : Nat => s.heap.size ≤ q) (((xw cy h (va_up ad (8 + nB) u) nS (nB + 1) st (va_up bk nB (newB (nI si) a2 a3 a4)) gate nu (av 0) (tw cy av tS tB ts tb tg tn)) ++ [(o, .inl (cy 4, 1, .inr (.inl (vp_updL g 0 ((nI nB).toInt64)))))]) ++ (mw cy mb am thr nS nB st bk gate nu)) := hD
              refine W.eq (g2 := F0 m 401 ls [.int 0]) rfl ?_
              refine W.cs (cells' := 15 + 120 * i + 2) (slots' := 187 + 700 * i + 14) rfl rfl ?_
              refine lv_istore (lv' := [(5, .int 0), (0, .ref b), (1, .ref h), (2, .ref mb), (3, .ref o), (4, .int (nI (5 * i)))]) hx hb dL_law_401 hl (by decide) rfl (fun ls hl => ?_)
              refine lv_aload_n hx hb dL_law_403 rfl (lv_at hl 3 rfl) ?_
              refine lv_aload_n hx hb dL_law_404 rfl (lv_at hl 1 rfl) ?_
              refine lv_iload hx hb dL_law_405 (lv_at hl 5 rfl) ?_
              refine lv_iconst (v := 1) hx hb dL_law_407 (by decide) ?_
              refine lv_iadd hx hb dL_law_408 ?_
              refine W.eq (g2 := F0 m 409 ls [.int (nI (5 * i + 1)), .ref b, .ref mb]) (by rw [show nI (5 * i) + 1 = nI (5 * i + 1) from nI_add (5 * i) 1]) ?_
              refine va_sld hx hb hX hbl hbA hS (i := nI (5 * i + 1)) (vp_in_nI (by omega) (by omega)) dL_law_409 ?_
              refine W.eq (g2 := F0 m 410 ls [.int (nI si), .ref mb]) (by rw [nI_clamp (show 5 * i + 1 < 2 ^ 31 by omega), ← ea1]) ?_
              refine lv_aload_n hx hb dL_law_410 rfl (lv_at hl 1 rfl) ?_
              refine lv_iload hx hb dL_law_411 (lv_at hl 5 rfl) ?_
              refine lv_iconst (v := 2) hx hb dL_law_413 (by decide) ?_
              refine lv_iadd hx hb dL_law_414 ?_
              refine W.eq (g2 := F0 m 415 ls [.int (nI (5 * i + 2)), .ref b, .int (nI si), .ref mb]) (by rw [show nI (5 * i) + 2 = nI (5 * i + 2) from nI_add (5 * i) 2]) ?_
              refine va_sld hx hb hX hbl hbA hS (i := nI (5 * i + 2)) (vp_in_nI (by omega) (by omega)) dL_law_415 ?_
              refine W.eq (g2 := F0 m 416 ls [.int a2, .int (nI si), .ref mb]) (by rw [nI_clamp (show 5 * i + 2 < 2 ^ 31 by omega), ← ea2]) ?_
              refine lv_aload_n hx hb dL_law_416 rfl (lv_at hl 1 rfl) ?_
              refine lv_iload hx hb dL_law_417 (lv_at hl 5 rfl) ?_
              refine lv_iconst (v := 3) hx hb dL_law_419 (by decide) ?_
              refine lv_iadd hx hb dL_law_420 ?_
              refine W.eq (g2 := F0 m 421 ls [.int (nI (5 * i + 3)), .ref b, .int a2, .int (nI si), .ref mb]) (by rw [show nI (5 * i) + 3 = nI (5 * i + 3) from nI_add (5 * i) 3]) ?_
              refine va_sld hx hb hX hbl hbA hS (i := nI (5 * i + 3)) (vp_in_nI (by omega) (by omega)) dL_law_421 ?_
              refine W.eq (g2 := F0 m 422 ls [.int a3, .int a2, .int (nI si), .ref mb]) (by rw [nI_clamp (show 5 * i + 3 < 2 ^ 31 by omega), ← ea3]) ?_
              refine lv_aload_n hx hb dL_law_422 rfl (lv_at hl 1 rfl) ?_
              refine lv_iload hx hb dL_law_423 (lv_at hl 5 rfl) ?_
              refine lv_iconst (v := 4) hx hb dL_law_425 (by decide) ?_
              refine lv_iadd hx hb dL_law_426 ?_
              refine W.eq (g2 := F0 m 427 ls [.int (nI (5 * i + 4)), .ref b, .int a3, .int a2, .int (nI si), .ref mb]) (by rw [show nI (5 * i) + 4 = nI (5 * i + 4) from nI_add (5 * i) 4]) ?_
              refine va_sld hx hb hX hbl hbA hS (i := nI (5 * i + 4)) (vp_in_nI (by omega) (by omega)) dL_law_427 ?_
              refine W.eq (g2 := F0 m 428 ls [.int a4, .int a3, .int a2, .int (nI si), .ref mb]) (by rw [nI_clamp (show 5 * i + 4 < 2 ^ 31 by omega), ← ea4]) ?_
              refine xcV (As := [.int (nI si), .int a2, .int a3, .int a4]) (rest := []) ⟨hx, hb, hml, hown, hts⟩ (c_X4_swear l D cy mb am thr nS nB st bk gate nu si hsi a2 a3 a4 h1 h2 h3 hno hro hnS) (cwV 4 hts gL_law_X4_swear rfl rfl rfl (by decide +kernel) ⟨Nat.le_of_ble_eq_true rfl, Nat.le_of_ble_eq_true rfl⟩) hK hP hD hS hA rfl rfl rfl (xE_r) rfl hl.1 rfl (Nat.le_of_ble_eq_true rfl) dL_law_428 ⟨by show 15 + 120 * i + 2 + 1 ≤ 601024; omega, by show 187 + 700 * i + 14 + 8 ≤ 7293034; omega⟩ (fun _ H locs _ hP hD hS => ?_)
              have hP : va_P D vwCl (((xw cy h (va_up ad (8 + nB) u) nS (nB + 1) st (va_up bk nB (newB (nI si) a2 a3 a4)) gate nu (av 0) (tw cy av tS tB ts tb tg tn)) ++ [(o, .inl (cy 4, 1, .inr (.inl (vp_updL g 0 ((nI nB).toInt64)))))]) ++ (mw cy mb am 0 nS (nB + 1) st (va_up bk nB (newB (nI si) a2 a3 a4)) gate nu)) H := hP
              have hD : va_D (fun q : Nat => s.heap.size ≤ q) (((xw cy h (va_up ad (8 + nB) u) nS (nB + 1) st (va_up bk nB (newB (nI si) a2 a3 a4)) gate nu (av 0) (tw cy av tS tB ts tb tg tn)) ++ [(o, .inl (cy 4, 1, .inr (.inl (vp_updL g 0 ((nI nB).toInt64)))))]) ++ (mw cy mb am 0 nS (nB + 1) st (va_up bk nB (newB (nI si) a2 a3 a4)) gate nu)) := hD
              refine W.eq (g2 := F0 m 431 ls [.int (nI nB)]) rfl ?_
              refine W.cs (cells' := 15 + 120 * i + 3) (slots' := 187 + 700 * i + 22) rfl rfl ?_
              refine lv_istore (lv' := [(6, .int (nI nB)), (5, .int 0), (0, .ref b), (1, .ref h), (2, .ref mb), (3, .ref o), (4, .int (nI (5 * i)))]) hx hb dL_law_431 hl (by decide) rfl (fun ls hl => ?_)
              refine lv_aload_n hx hb dL_law_433 rfl (lv_at hl 4 rfl) ?_
              refine xcV (As := []) (rest := []) ⟨hx, hb, hml, hown, hts⟩ (c_X4_thrown l D cy mb am 0 nS (nB + 1) st (va_up bk nB (newB (nI si) a2 a3 a4)) gate nu) (cwV 0 hts gL_law_X4_thrown rfl rfl rfl (by decide +kernel) ⟨Nat.le_of_ble_eq_true rfl, Nat.le_of_ble_eq_true rfl⟩) hK hP hD hS hA rfl rfl rfl (xE_r) rfl hl.1 rfl (Nat.le_of_ble_eq_true rfl) dL_law_434 ⟨by show 15 + 120 * i + 3 + 0 ≤ 601024; omega, by show 187 + 700 * i + 22 + 0 ≤ 7293034; omega⟩ (fun _ H locs _ hP hD hS => ?_)
              have hP : va_P D vwCl (((xw cy h (va_up ad (8 + nB) u) nS (nB + 1) st (va_up bk nB (newB (nI si) a2 a3 a4)) gate nu (av 0) (tw cy av tS tB ts tb tg tn)) ++ [(o, .inl (cy 4, 1, .inr (.inl (vp_updL g 0 ((nI nB).toInt64)))))]) ++ (mw cy mb am 0 nS (nB + 1) st (va_up bk nB (newB (nI si) a2 a3 a4)) gate nu)) H := hP
              have hD : va_D (fun q : Nat => s.heap.size ≤ q) (((xw cy h (va_up ad (8 + nB) u) nS (nB + 1) st (va_up bk nB (newB (nI si) a2 a3 a4)) gate nu (av 0) (tw cy av tS tB ts tb tg tn)) ++ [(o, .inl (cy 4, 1, .inr (.inl (vp_updL g 0 ((nI nB).toInt64)))))]) ++ (mw cy mb am 0 nS (nB + 1) st (va_up bk nB (newB (nI si) a2 a3 a4)) gate nu)) := hD
              refine W.eq (g2 := F0 m 437 ls [.int 0]) rfl ?_
              refine W.cs (cells' := 15 + 120 * i + 3) (slots' := 187 + 700 * i + 22) rfl rfl ?_
              refine lv_iload hx hb dL_law_437 (lv_at hl 1 rfl) ?_
              refine lv_icmp_eq (tgt := 444) hx hb dL_law_439 (by decide) (fun _ => ?_) (fun z => absurd rfl z)
              refine lv_iload hx hb dL_law_444 (lv_at hl 1 rfl) ?_
              refine lv_if_ne (tgt := 461) hx hb dL_law_446 (by decide) (fun z => absurd rfl z) (fun _ => ?_)
              refine lv_aload_n hx hb dL_law_449 rfl (lv_at hl 5 rfl) ?_
              refine lv_iconst (v := 0) hx hb dL_law_450 (by decide) ?_
              refine va_lald hx hb hK.1 hP _ 4 (at_l last_at) rfl (i := 0) (vp_in_nI (n := 0) (by decide) (by decide)) dL_law_451 ?_
              refine W.eq (g2 := F0 m 452 ls [.long ((nI nB).toInt64)]) rfl ?_
              refine lv_iload hx hb dL_law_452 (lv_at hl 0 rfl) ?_
              refine lv_i2l (v := (nI nB).toInt64) hx hb dL_law_454 rfl ?_
              refine W.lcmp hx hb dL_law_455 ?_
              refine W.eq (g2 := F0 m 456 ls [.int 0]) (by rw [lg_same]) ?_
              refine lv_if_eq (tgt := 461) hx hb dL_law_456 (by decide) (fun _ => ?_) (fun z => absurd rfl z)
              refine lv_goto (tgt := 1159) hx hb dL_law_461 (by decide) ?_
              refine W.widen (k := 15 + 120 * (i + 1)) (n := 187 + 700 * (i + 1)) (by omega) (by omega) ?_
              exact KK (va_up ad (8 + nB) u) av am 0 nS (nB + 1) tS tB st (va_up bk nB (newB (nI si) a2 a3 a4)) ts tb gate nu tg tn (vp_updL g 0 ((nI nB).toInt64)) hq d0  _ _ _ hd0 hnS (by omega) htS (by omega) (by omega) (inv_swear hI hsi (rg12 h2) (rg90 h3)) hP hD hS (lv_sub hl [2, 3, 4, 5, 6] rfl)
            · refine lv_aload_n hx hb dL_law_372 rfl (lv_at hl 1 rfl) ?_
              refine lv_aload_n hx hb dL_law_373 rfl (lv_at hl 0 rfl) ?_
              refine lv_iload hx hb dL_law_374 (lv_at hl 4 rfl) ?_
              refine lv_iconst (v := 1) hx hb dL_law_376 (by decide) ?_
              refine lv_iadd hx hb dL_law_377 ?_
              refine W.eq (g2 := F0 m 378 ls [.int (nI (5 * i + 1)), .ref b, .ref h]) (by rw [show nI (5 * i) + 1 = nI (5 * i + 1) from nI_add (5 * i) 1]) ?_
              refine va_sld hx hb hX hbl hbA hS (i := nI (5 * i + 1)) (vp_in_nI (by omega) (by omega)) dL_law_378 ?_
              refine W.eq (g2 := F0 m 379 ls [.int (nI si), .ref h]) (by rw [nI_clamp (show 5 * i + 1 < 2 ^ 31 by omega), ← ea1]) ?_
              refine lv_aload_n hx hb dL_law_379 rfl (lv_at hl 0 rfl) ?_
              refine lv_iload hx hb dL_law_380 (lv_at hl 4 rfl) ?_
              refine lv_iconst (v := 2) hx hb dL_law_382 (by decide) ?_
              refine lv_iadd hx hb dL_law_383 ?_
              refine W.eq (g2 := F0 m 384 ls [.int (nI (5 * i + 2)), .ref b, .int (nI si), .ref h]) (by rw [show nI (5 * i) + 2 = nI (5 * i + 2) from nI_add (5 * i) 2]) ?_
              refine va_sld hx hb hX hbl hbA hS (i := nI (5 * i + 2)) (vp_in_nI (by omega) (by omega)) dL_law_384 ?_
              refine W.eq (g2 := F0 m 385 ls [.int a2, .int (nI si), .ref h]) (by rw [nI_clamp (show 5 * i + 2 < 2 ^ 31 by omega), ← ea2]) ?_
              refine lv_aload_n hx hb dL_law_385 rfl (lv_at hl 0 rfl) ?_
              refine lv_iload hx hb dL_law_386 (lv_at hl 4 rfl) ?_
              refine lv_iconst (v := 3) hx hb dL_law_388 (by decide) ?_
              refine lv_iadd hx hb dL_law_389 ?_
              refine W.eq (g2 := F0 m 390 ls [.int (nI (5 * i + 3)), .ref b, .int a2, .int (nI si), .ref h]) (by rw [show nI (5 * i) + 3 = nI (5 * i + 3) from nI_add (5 * i) 3]) ?_
              refine va_sld hx hb hX hbl hbA hS (i := nI (5 * i + 3)) (vp_in_nI (by omega) (by omega)) dL_law_390 ?_
              refine W.eq (g2 := F0 m 391 ls [.int a3, .int a2, .int (nI si), .ref h]) (by rw [nI_clamp (show 5 * i + 3 < 2 ^ 31 by omega), ← ea3]) ?_
              refine lv_aload_n hx hb dL_law_391 rfl (lv_at hl 0 rfl) ?_
              refine lv_iload hx hb dL_law_392 (lv_at hl 4 rfl) ?_
              refine lv_iconst (v := 4) hx hb dL_law_394 (by decide) ?_
              refine lv_iadd hx hb dL_law_395 ?_
              refine W.eq (g2 := F0 m 396 ls [.int (nI (5 * i + 4)), .ref b, .int a3, .int a2, .int (nI si), .ref h]) (by rw [show nI (5 * i) + 4 = nI (5 * i + 4) from nI_add (5 * i) 4]) ?_
              refine va_sld hx hb hX hbl hbA hS (i := nI (5 * i + 4)) (vp_in_nI (by omega) (by omega)) dL_law_396 ?_
              refine W.eq (g2 := F0 m 397 ls [.int a4, .int a3, .int a2, .int (nI si), .ref h]) (by rw [nI_clamp (show 5 * i + 4 < 2 ^ 31 by omega), ← ea4]) ?_
              refine lv_aload_n hx hb dL_law_397 rfl (lv_at hl 3 rfl) ?_
              refine xcL (As := [.ref h, .int (nI si), .int a2, .int a3, .int a4, .ref o]) (rest := []) ⟨hx, hb, hml, hown, hts⟩ (c_L_swear_3a l hst D cy sa h ad nS nB st bk gate nu (av 0) (tw cy av tS tB ts tb tg tn) si hsi a2 a3 a4 h1 h2 h3 (fun z => hno (hoi.mp z)) hnS hnB o g) (vx_cwSW 6 hts gL_law_L_swear rfl rfl rfl (by decide +kernel) ⟨Nat.le_of_ble_eq_true rfl, Nat.le_of_ble_eq_true rfl⟩) hK hV hZ hNc hP hD hS hA (xE_l) rfl hl.1 rfl (Nat.le_of_ble_eq_true rfl) dL_law_398 ⟨by show 15 + 120 * i + 0 + 2 ≤ 601024; omega, by show 187 + 700 * i + 0 + 14 ≤ 7293034; omega⟩ (fun u H locs _ hP hD hS => ?_)
              have hP : va_P D vwCl (((xw cy h ad nS nB st bk gate nu (av 0) (tw cy av tS tB ts tb tg tn)) ++ [(o, .inl (cy 4, 1, .inr (.inl g)))]) ++ (mw cy mb am thr nS nB st bk gate nu)) H := hP
              have hD : va_D (fun q : Nat => s.heap.size ≤ q) (((xw cy h ad nS nB st bk gate nu (av 0) (tw cy av tS tB ts tb tg tn)) ++ [(o, .inl (cy 4, 1, .inr (.inl g)))]) ++ (mw cy mb am thr nS nB st bk gate nu)) := hD
              refine W.eq (g2 := F0 m 401 ls [.int 3]) rfl ?_
              refine W.cs (cells' := 15 + 120 * i + 2) (slots' := 187 + 700 * i + 14) rfl rfl ?_
              refine lv_istore (lv' := [(5, .int 3), (0, .ref b), (1, .ref h), (2, .ref mb), (3, .ref o), (4, .int (nI (5 * i)))]) hx hb dL_law_401 hl (by decide) rfl (fun ls hl => ?_)
              refine lv_aload_n hx hb dL_law_403 rfl (lv_at hl 3 rfl) ?_
              refine lv_aload_n hx hb dL_law_404 rfl (lv_at hl 1 rfl) ?_
              refine lv_iload hx hb dL_law_405 (lv_at hl 5 rfl) ?_
              refine lv_iconst (v := 1) hx hb dL_law_407 (by decide) ?_
              refine lv_iadd hx hb dL_law_408 ?_
              refine W.eq (g2 := F0 m 409 ls [.int (nI (5 * i + 1)), .ref b, .ref mb]) (by rw [show nI (5 * i) + 1 = nI (5 * i + 1) from nI_add (5 * i) 1]) ?_
              refine va_sld hx hb hX hbl hbA hS (i := nI (5 * i + 1)) (vp_in_nI (by omega) (by omega)) dL_law_409 ?_
              refine W.eq (g2 := F0 m 410 ls [.int (nI si), .ref mb]) (by rw [nI_clamp (show 5 * i + 1 < 2 ^ 31 by omega), ← ea1]) ?_
              refine lv_aload_n hx hb dL_law_410 rfl (lv_at hl 1 rfl) ?_
              refine lv_iload hx hb dL_law_411 (lv_at hl 5 rfl) ?_
              refine lv_iconst (v := 2) hx hb dL_law_413 (by decide) ?_
              refine lv_iadd hx hb dL_law_414 ?_
              refine W.eq (g2 := F0 m 415 ls [.int (nI (5 * i + 2)), .ref b, .int (nI si), .ref mb]) (by rw [show nI (5 * i) + 2 = nI (5 * i + 2) from nI_add (5 * i) 2]) ?_
              refine va_sld hx hb hX hbl hbA hS (i := nI (5 * i + 2)) (vp_in_nI (by omega) (by omega)) dL_law_415 ?_
              refine W.eq (g2 := F0 m 416 ls [.int a2, .int (nI si), .ref mb]) (by rw [nI_clamp (show 5 * i + 2 < 2 ^ 31 by omega), ← ea2]) ?_
              refine lv_aload_n hx hb dL_law_416 rfl (lv_at hl 1 rfl) ?_
              refine lv_iload hx hb dL_law_417 (lv_at hl 5 rfl) ?_
              refine lv_iconst (v := 3) hx hb dL_law_419 (by decide) ?_
              refine lv_iadd hx hb dL_law_420 ?_
              refine W.eq (g2 := F0 m 421 ls [.int (nI (5 * i + 3)), .ref b, .int a2, .int (nI si), .ref mb]) (by rw [show nI (5 * i) + 3 = nI (5 * i + 3) from nI_add (5 * i) 3]) ?_
              refine va_sld hx hb hX hbl hbA hS (i := nI (5 * i + 3)) (vp_in_nI (by omega) (by omega)) dL_law_421 ?_
              refine W.eq (g2 := F0 m 422 ls [.int a3, .int a2, .int (nI si), .ref mb]) (by rw [nI_clamp (show 5 * i + 3 < 2 ^ 31 by omega), ← ea3]) ?_
              refine lv_aload_n hx hb dL_law_422 rfl (lv_at hl 1 rfl) ?_
              refine lv_iload hx hb dL_law_423 (lv_at hl 5 rfl) ?_
              refine lv_iconst (v := 4) hx hb dL_law_425 (by decide) ?_
              refine lv_iadd hx hb dL_law_426 ?_
              refine W.eq (g2 := F0 m 427 ls [.int (nI (5 * i + 4)), .ref b, .int a3, .int a2, .int (nI si), .ref mb]) (by rw [show nI (5 * i) + 4 = nI (5 * i + 4) from nI_add (5 * i) 4]) ?_
              refine va_sld hx hb hX hbl hbA hS (i := nI (5 * i + 4)) (vp_in_nI (by omega) (by omega)) dL_law_427 ?_
              refine W.eq (g2 := F0 m 428 ls [.int a4, .int a3, .int a2, .int (nI si), .ref mb]) (by rw [nI_clamp (show 5 * i + 4 < 2 ^ 31 by omega), ← ea4]) ?_
              refine xcV (As := [.int (nI si), .int a2, .int a3, .int a4]) (rest := []) ⟨hx, hb, hml, hown, hts⟩ (c_X4_swear_3a l D cy mb am thr nS nB st bk gate nu si hsi a2 a3 a4 h1 h2 h3 hno hro hnS) (cwV 4 hts gL_law_X4_swear rfl rfl rfl (by decide +kernel) ⟨Nat.le_of_ble_eq_true rfl, Nat.le_of_ble_eq_true rfl⟩) hK hP hD hS hA rfl rfl rfl (xE_r) rfl hl.1 rfl (Nat.le_of_ble_eq_true rfl) dL_law_428 ⟨by show 15 + 120 * i + 2 + 1 ≤ 601024; omega, by show 187 + 700 * i + 14 + 8 ≤ 7293034; omega⟩ (fun _ H locs _ hP hD hS => ?_)
              have hP : va_P D vwCl (((xw cy h ad nS nB st bk gate nu (av 0) (tw cy av tS tB ts tb tg tn)) ++ [(o, .inl (cy 4, 1, .inr (.inl g)))]) ++ (mw cy mb am 3 nS nB st bk gate nu)) H := hP
              have hD : va_D (fun q : Nat => s.heap.size ≤ q) (((xw cy h ad nS nB st bk gate nu (av 0) (tw cy av tS tB ts tb tg tn)) ++ [(o, .inl (cy 4, 1, .inr (.inl g)))]) ++ (mw cy mb am 3 nS nB st bk gate nu)) := hD
              refine W.eq (g2 := F0 m 431 ls [.int 0]) rfl ?_
              refine W.cs (cells' := 15 + 120 * i + 3) (slots' := 187 + 700 * i + 22) rfl rfl ?_
              refine lv_istore (lv' := [(6, .int 0), (5, .int 3), (0, .ref b), (1, .ref h), (2, .ref mb), (3, .ref o), (4, .int (nI (5 * i)))]) hx hb dL_law_431 hl (by decide) rfl (fun ls hl => ?_)
              refine lv_aload_n hx hb dL_law_433 rfl (lv_at hl 4 rfl) ?_
              refine xcV (As := []) (rest := []) ⟨hx, hb, hml, hown, hts⟩ (c_X4_thrown l D cy mb am 3 nS nB st bk gate nu) (cwV 0 hts gL_law_X4_thrown rfl rfl rfl (by decide +kernel) ⟨Nat.le_of_ble_eq_true rfl, Nat.le_of_ble_eq_true rfl⟩) hK hP hD hS hA rfl rfl rfl (xE_r) rfl hl.1 rfl (Nat.le_of_ble_eq_true rfl) dL_law_434 ⟨by show 15 + 120 * i + 3 + 0 ≤ 601024; omega, by show 187 + 700 * i + 22 + 0 ≤ 7293034; omega⟩ (fun _ H locs _ hP hD hS => ?_)
              have hP : va_P D vwCl (((xw cy h ad nS nB st bk gate nu (av 0) (tw cy av tS tB ts tb tg tn)) ++ [(o, .inl (cy 4, 1, .inr (.inl g)))]) ++ (mw cy mb am 3 nS nB st bk gate nu)) H := hP
              have hD : va_D (fun q : Nat => s.heap.size ≤ q) (((xw cy h ad nS nB st bk gate nu (av 0) (tw cy av tS tB ts tb tg tn)) ++ [(o, .inl (cy 4, 1, .inr (.inl g)))]) ++ (mw cy mb am 3 nS nB st bk gate nu)) := hD
              refine W.eq (g2 := F0 m 437 ls [.int 3]) rfl ?_
              refine W.cs (cells' := 15 + 120 * i + 3) (slots' := 187 + 700 * i + 22) rfl rfl ?_
              refine lv_iload hx hb dL_law_437 (lv_at hl 1 rfl) ?_
              refine lv_icmp_eq (tgt := 444) hx hb dL_law_439 (by decide) (fun _ => ?_) (fun z => absurd rfl z)
              refine lv_iload hx hb dL_law_444 (lv_at hl 1 rfl) ?_
              refine lv_if_ne (tgt := 461) hx hb dL_law_446 (by decide) (fun _ => ?_) (fun z => absurd z (by decide))
              refine lv_goto (tgt := 1159) hx hb dL_law_461 (by decide) ?_
              refine W.widen (k := 15 + 120 * (i + 1)) (n := 187 + 700 * (i + 1)) (by omega) (by omega) ?_
              exact KK ad av am 3 nS nB tS tB st bk ts tb gate nu tg tn g hq d0  _ _ _ hd0 hnS hnB htS htB (by omega) hI hP hD hS (lv_sub hl [2, 3, 4, 5, 6] rfl)
          · rcases Decidable.em (ownF bk a2 nB 0 < 0) with hno | hno
            · refine lv_aload_n hx hb dL_law_372 rfl (lv_at hl 1 rfl) ?_
              refine lv_aload_n hx hb dL_law_373 rfl (lv_at hl 0 rfl) ?_
              refine lv_iload hx hb dL_law_374 (lv_at hl 4 rfl) ?_
              refine lv_iconst (v := 1) hx hb dL_law_376 (by decide) ?_
              refine lv_iadd hx hb dL_law_377 ?_
              refine W.eq (g2 := F0 m 378 ls [.int (nI (5 * i + 1)), .ref b, .ref h]) (by rw [show nI (5 * i) + 1 = nI (5 * i + 1) from nI_add (5 * i) 1]) ?_
              refine va_sld hx hb hX hbl hbA hS (i := nI (5 * i + 1)) (vp_in_nI (by omega) (by omega)) dL_law_378 ?_
              refine W.eq (g2 := F0 m 379 ls [.int (nI si), .ref h]) (by rw [nI_clamp (show 5 * i + 1 < 2 ^ 31 by omega), ← ea1]) ?_
              refine lv_aload_n hx hb dL_law_379 rfl (lv_at hl 0 rfl) ?_
              refine lv_iload hx hb dL_law_380 (lv_at hl 4 rfl) ?_
              refine lv_iconst (v := 2) hx hb dL_law_382 (by decide) ?_
              refine lv_iadd hx hb dL_law_383 ?_
              refine W.eq (g2 := F0 m 384 ls [.int (nI (5 * i + 2)), .ref b, .int (nI si), .ref h]) (by rw [show nI (5 * i) + 2 = nI (5 * i + 2) from nI_add (5 * i) 2]) ?_
              refine va_sld hx hb hX hbl hbA hS (i := nI (5 * i + 2)) (vp_in_nI (by omega) (by omega)) dL_law_384 ?_
              refine W.eq (g2 := F0 m 385 ls [.int a2, .int (nI si), .ref h]) (by rw [nI_clamp (show 5 * i + 2 < 2 ^ 31 by omega), ← ea2]) ?_
              refine lv_aload_n hx hb dL_law_385 rfl (lv_at hl 0 rfl) ?_
              refine lv_iload hx hb dL_law_386 (lv_at hl 4 rfl) ?_
              refine lv_iconst (v := 3) hx hb dL_law_388 (by decide) ?_
              refine lv_iadd hx hb dL_law_389 ?_
              refine W.eq (g2 := F0 m 390 ls [.int (nI (5 * i + 3)), .ref b, .int a2, .int (nI si), .ref h]) (by rw [show nI (5 * i) + 3 = nI (5 * i + 3) from nI_add (5 * i) 3]) ?_
              refine va_sld hx hb hX hbl hbA hS (i := nI (5 * i + 3)) (vp_in_nI (by omega) (by omega)) dL_law_390 ?_
              refine W.eq (g2 := F0 m 391 ls [.int a3, .int a2, .int (nI si), .ref h]) (by rw [nI_clamp (show 5 * i + 3 < 2 ^ 31 by omega), ← ea3]) ?_
              refine lv_aload_n hx hb dL_law_391 rfl (lv_at hl 0 rfl) ?_
              refine lv_iload hx hb dL_law_392 (lv_at hl 4 rfl) ?_
              refine lv_iconst (v := 4) hx hb dL_law_394 (by decide) ?_
              refine lv_iadd hx hb dL_law_395 ?_
              refine W.eq (g2 := F0 m 396 ls [.int (nI (5 * i + 4)), .ref b, .int a3, .int a2, .int (nI si), .ref h]) (by rw [show nI (5 * i) + 4 = nI (5 * i + 4) from nI_add (5 * i) 4]) ?_
              refine va_sld hx hb hX hbl hbA hS (i := nI (5 * i + 4)) (vp_in_nI (by omega) (by omega)) dL_law_396 ?_
              refine W.eq (g2 := F0 m 397 ls [.int a4, .int a3, .int a2, .int (nI si), .ref h]) (by rw [nI_clamp (show 5 * i + 4 < 2 ^ 31 by omega), ← ea4]) ?_
              refine lv_aload_n hx hb dL_law_397 rfl (lv_at hl 3 rfl) ?_
              refine xcL (As := [.ref h, .int (nI si), .int a2, .int a3, .int a4, .ref o]) (rest := []) ⟨hx, hb, hml, hown, hts⟩ (c_L_swear_3b l hst D cy sa h ad nS nB st bk gate nu (av 0) (tw cy av tS tB ts tb tg tn) si hsi a2 a3 a4 h1 h2 h3 hno (by omega) hnS hnB o g) (vx_cwSW 6 hts gL_law_L_swear rfl rfl rfl (by decide +kernel) ⟨Nat.le_of_ble_eq_true rfl, Nat.le_of_ble_eq_true rfl⟩) hK hV hZ hNc hP hD hS hA (xE_l) rfl hl.1 rfl (Nat.le_of_ble_eq_true rfl) dL_law_398 ⟨by show 15 + 120 * i + 0 + 2 ≤ 601024; omega, by show 187 + 700 * i + 0 + 14 ≤ 7293034; omega⟩ (fun u H locs _ hP hD hS => ?_)
              have hP : va_P D vwCl (((xw cy h ad nS nB st bk gate nu (av 0) (tw cy av tS tB ts tb tg tn)) ++ [(o, .inl (cy 4, 1, .inr (.inl g)))]) ++ (mw cy mb am thr nS nB st bk gate nu)) H := hP
              have hD : va_D (fun q : Nat => s.heap.size ≤ q) (((xw cy h ad nS nB st bk gate nu (av 0) (tw cy av tS tB ts tb tg tn)) ++ [(o, .inl (cy 4, 1, .inr (.inl g)))]) ++ (mw cy mb am thr nS nB st bk gate nu)) := hD
              refine W.eq (g2 := F0 m 401 ls [.int 3]) rfl ?_
              refine W.cs (cells' := 15 + 120 * i + 2) (slots' := 187 + 700 * i + 14) rfl rfl ?_
              refine lv_istore (lv' := [(5, .int 3), (0, .ref b), (1, .ref h), (2, .ref mb), (3, .ref o), (4, .int (nI (5 * i)))]) hx hb dL_law_401 hl (by decide) rfl (fun ls hl => ?_)
              refine lv_aload_n hx hb dL_law_403 rfl (lv_at hl 3 rfl) ?_
              refine lv_aload_n hx hb dL_law_404 rfl (lv_at hl 1 rfl) ?_
              refine lv_iload hx hb dL_law_405 (lv_at hl 5 rfl) ?_
              refine lv_iconst (v := 1) hx hb dL_law_407 (by decide) ?_
              refine lv_iadd hx hb dL_law_408 ?_
              refine W.eq (g2 := F0 m 409 ls [.int (nI (5 * i + 1)), .ref b, .ref mb]) (by rw [show nI (5 * i) + 1 = nI (5 * i + 1) from nI_add (5 * i) 1]) ?_
              refine va_sld hx hb hX hbl hbA hS (i := nI (5 * i + 1)) (vp_in_nI (by omega) (by omega)) dL_law_409 ?_
              refine W.eq (g2 := F0 m 410 ls [.int (nI si), .ref mb]) (by rw [nI_clamp (show 5 * i + 1 < 2 ^ 31 by omega), ← ea1]) ?_
              refine lv_aload_n hx hb dL_law_410 rfl (lv_at hl 1 rfl) ?_
              refine lv_iload hx hb dL_law_411 (lv_at hl 5 rfl) ?_
              refine lv_iconst (v := 2) hx hb dL_law_413 (by decide) ?_
              refine lv_iadd hx hb dL_law_414 ?_
              refine W.eq (g2 := F0 m 415 ls [.int (nI (5 * i + 2)), .ref b, .int (nI si), .ref mb]) (by rw [show nI (5 * i) + 2 = nI (5 * i + 2) from nI_add (5 * i) 2]) ?_
              refine va_sld hx hb hX hbl hbA hS (i := nI (5 * i + 2)) (vp_in_nI (by omega) (by omega)) dL_law_415 ?_
              refine W.eq (g2 := F0 m 416 ls [.int a2, .int (nI si), .ref mb]) (by rw [nI_clamp (show 5 * i + 2 < 2 ^ 31 by omega), ← ea2]) ?_
              refine lv_aload_n hx hb dL_law_416 rfl (lv_at hl 1 rfl) ?_
              refine lv_iload hx hb dL_law_417 (lv_at hl 5 rfl) ?_
              refine lv_iconst (v := 3) hx hb dL_law_419 (by decide) ?_
              refine lv_iadd hx hb dL_law_420 ?_
              refine W.eq (g2 := F0 m 421 ls [.int (nI (5 * i + 3)), .ref b, .int a2, .int (nI si), .ref mb]) (by rw [show nI (5 * i) + 3 = nI (5 * i + 3) from nI_add (5 * i) 3]) ?_
              refine va_sld hx hb hX hbl hbA hS (i := nI (5 * i + 3)) (vp_in_nI (by omega) (by omega)) dL_law_421 ?_
              refine W.eq (g2 := F0 m 422 ls [.int a3, .int a2, .int (nI si), .ref mb]) (by rw [nI_clamp (show 5 * i + 3 < 2 ^ 31 by omega), ← ea3]) ?_
              refine lv_aload_n hx hb dL_law_422 rfl (lv_at hl 1 rfl) ?_
              refine lv_iload hx hb dL_law_423 (lv_at hl 5 rfl) ?_
              refine lv_iconst (v := 4) hx hb dL_law_425 (by decide) ?_
              refine lv_iadd hx hb dL_law_426 ?_
              refine W.eq (g2 := F0 m 427 ls [.int (nI (5 * i + 4)), .ref b, .int a3, .int a2, .int (nI si), .ref mb]) (by rw [show nI (5 * i) + 4 = nI (5 * i + 4) from nI_add (5 * i) 4]) ?_
              refine va_sld hx hb hX hbl hbA hS (i := nI (5 * i + 4)) (vp_in_nI (by omega) (by omega)) dL_law_427 ?_
              refine W.eq (g2 := F0 m 428 ls [.int a4, .int a3, .int a2, .int (nI si), .ref mb]) (by rw [nI_clamp (show 5 * i + 4 < 2 ^ 31 by omega), ← ea4]) ?_
              refine xcV (As := [.int (nI si), .int a2, .int a3, .int a4]) (rest := []) ⟨hx, hb, hml, hown, hts⟩ (c_X4_swear_3b l D cy mb am thr nS nB st bk gate nu si hsi a2 a3 a4 h1 h2 h3 (by omega) hnS) (cwV 4 hts gL_law_X4_swear rfl rfl rfl (by decide +kernel) ⟨Nat.le_of_ble_eq_true rfl, Nat.le_of_ble_eq_true rfl⟩) hK hP hD hS hA rfl rfl rfl (xE_r) rfl hl.1 rfl (Nat.le_of_ble_eq_true rfl) dL_law_428 ⟨by show 15 + 120 * i + 2 + 1 ≤ 601024; omega, by show 187 + 700 * i + 14 + 8 ≤ 7293034; omega⟩ (fun _ H locs _ hP hD hS => ?_)
              have hP : va_P D vwCl (((xw cy h ad nS nB st bk gate nu (av 0) (tw cy av tS tB ts tb tg tn)) ++ [(o, .inl (cy 4, 1, .inr (.inl g)))]) ++ (mw cy mb am 3 nS nB st bk gate nu)) H := hP
              have hD : va_D (fun q : Nat => s.heap.size ≤ q) (((xw cy h ad nS nB st bk gate nu (av 0) (tw cy av tS tB ts tb tg tn)) ++ [(o, .inl (cy 4, 1, .inr (.inl g)))]) ++ (mw cy mb am 3 nS nB st bk gate nu)) := hD
              refine W.eq (g2 := F0 m 431 ls [.int 0]) rfl ?_
              refine W.cs (cells' := 15 + 120 * i + 3) (slots' := 187 + 700 * i + 22) rfl rfl ?_
              refine lv_istore (lv' := [(6, .int 0), (5, .int 3), (0, .ref b), (1, .ref h), (2, .ref mb), (3, .ref o), (4, .int (nI (5 * i)))]) hx hb dL_law_431 hl (by decide) rfl (fun ls hl => ?_)
              refine lv_aload_n hx hb dL_law_433 rfl (lv_at hl 4 rfl) ?_
              refine xcV (As := []) (rest := []) ⟨hx, hb, hml, hown, hts⟩ (c_X4_thrown l D cy mb am 3 nS nB st bk gate nu) (cwV 0 hts gL_law_X4_thrown rfl rfl rfl (by decide +kernel) ⟨Nat.le_of_ble_eq_true rfl, Nat.le_of_ble_eq_true rfl⟩) hK hP hD hS hA rfl rfl rfl (xE_r) rfl hl.1 rfl (Nat.le_of_ble_eq_true rfl) dL_law_434 ⟨by show 15 + 120 * i + 3 + 0 ≤ 601024; omega, by show 187 + 700 * i + 22 + 0 ≤ 7293034; omega⟩ (fun _ H locs _ hP hD hS => ?_)
              have hP : va_P D vwCl (((xw cy h ad nS nB st bk gate nu (av 0) (tw cy av tS tB ts tb tg tn)) ++ [(o, .inl (cy 4, 1, .inr (.inl g)))]) ++ (mw cy mb am 3 nS nB st bk gate nu)) H := hP
              have hD : va_D (fun q : Nat => s.heap.size ≤ q) (((xw cy h ad nS nB st bk gate nu (av 0) (tw cy av tS tB ts tb tg tn)) ++ [(o, .inl (cy 4, 1, .inr (.inl g)))]) ++ (mw cy mb am 3 nS nB st bk gate nu)) := hD
              refine W.eq (g2 := F0 m 437 ls [.int 3]) rfl ?_
              refine W.cs (cells' := 15 + 120 * i + 3) (slots' := 187 + 700 * i + 22) rfl rfl ?_
              refine lv_iload hx hb dL_law_437 (lv_at hl 1 rfl) ?_
              refine lv_icmp_eq (tgt := 444) hx hb dL_law_439 (by decide) (fun _ => ?_) (fun z => absurd rfl z)
              refine lv_iload hx hb dL_law_444 (lv_at hl 1 rfl) ?_
              refine lv_if_ne (tgt := 461) hx hb dL_law_446 (by decide) (fun _ => ?_) (fun z => absurd z (by decide))
              refine lv_goto (tgt := 1159) hx hb dL_law_461 (by decide) ?_
              refine W.widen (k := 15 + 120 * (i + 1)) (n := 187 + 700 * (i + 1)) (by omega) (by omega) ?_
              exact KK ad av am 3 nS nB tS tB st bk ts tb gate nu tg tn g hq d0  _ _ _ hd0 hnS hnB htS htB (by omega) hI hP hD hS (lv_sub hl [2, 3, 4, 5, 6] rfl)
            · refine lv_aload_n hx hb dL_law_372 rfl (lv_at hl 1 rfl) ?_
              refine lv_aload_n hx hb dL_law_373 rfl (lv_at hl 0 rfl) ?_
              refine lv_iload hx hb dL_law_374 (lv_at hl 4 rfl) ?_
              refine lv_iconst (v := 1) hx hb dL_law_376 (by decide) ?_
              refine lv_iadd hx hb dL_law_377 ?_
              refine W.eq (g2 := F0 m 378 ls [.int (nI (5 * i + 1)), .ref b, .ref h]) (by rw [show nI (5 * i) + 1 = nI (5 * i + 1) from nI_add (5 * i) 1]) ?_
              refine va_sld hx hb hX hbl hbA hS (i := nI (5 * i + 1)) (vp_in_nI (by omega) (by omega)) dL_law_378 ?_
              refine W.eq (g2 := F0 m 379 ls [.int (nI si), .ref h]) (by rw [nI_clamp (show 5 * i + 1 < 2 ^ 31 by omega), ← ea1]) ?_
              refine lv_aload_n hx hb dL_law_379 rfl (lv_at hl 0 rfl) ?_
              refine lv_iload hx hb dL_law_380 (lv_at hl 4 rfl) ?_
              refine lv_iconst (v := 2) hx hb dL_law_382 (by decide) ?_
              refine lv_iadd hx hb dL_law_383 ?_
              refine W.eq (g2 := F0 m 384 ls [.int (nI (5 * i + 2)), .ref b, .int (nI si), .ref h]) (by rw [show nI (5 * i) + 2 = nI (5 * i + 2) from nI_add (5 * i) 2]) ?_
              refine va_sld hx hb hX hbl hbA hS (i := nI (5 * i + 2)) (vp_in_nI (by omega) (by omega)) dL_law_384 ?_
              refine W.eq (g2 := F0 m 385 ls [.int a2, .int (nI si), .ref h]) (by rw [nI_clamp (show 5 * i + 2 < 2 ^ 31 by omega), ← ea2]) ?_
              refine lv_aload_n hx hb dL_law_385 rfl (lv_at hl 0 rfl) ?_
              refine lv_iload hx hb dL_law_386 (lv_at hl 4 rfl) ?_
              refine lv_iconst (v := 3) hx hb dL_law_388 (by decide) ?_
              refine lv_iadd hx hb dL_law_389 ?_
              refine W.eq (g2 := F0 m 390 ls [.int (nI (5 * i + 3)), .ref b, .int a2, .int (nI si), .ref h]) (by rw [show nI (5 * i) + 3 = nI (5 * i + 3) from nI_add (5 * i) 3]) ?_
              refine va_sld hx hb hX hbl hbA hS (i := nI (5 * i + 3)) (vp_in_nI (by omega) (by omega)) dL_law_390 ?_
              refine W.eq (g2 := F0 m 391 ls [.int a3, .int a2, .int (nI si), .ref h]) (by rw [nI_clamp (show 5 * i + 3 < 2 ^ 31 by omega), ← ea3]) ?_
              refine lv_aload_n hx hb dL_law_391 rfl (lv_at hl 0 rfl) ?_
              refine lv_iload hx hb dL_law_392 (lv_at hl 4 rfl) ?_
              refine lv_iconst (v := 4) hx hb dL_law_394 (by decide) ?_
              refine lv_iadd hx hb dL_law_395 ?_
              refine W.eq (g2 := F0 m 396 ls [.int (nI (5 * i + 4)), .ref b, .int a3, .int a2, .int (nI si), .ref h]) (by rw [show nI (5 * i) + 4 = nI (5 * i + 4) from nI_add (5 * i) 4]) ?_
              refine va_sld hx hb hX hbl hbA hS (i := nI (5 * i + 4)) (vp_in_nI (by omega) (by omega)) dL_law_396 ?_
              refine W.eq (g2 := F0 m 397 ls [.int a4, .int a3, .int a2, .int (nI si), .ref h]) (by rw [nI_clamp (show 5 * i + 4 < 2 ^ 31 by omega), ← ea4]) ?_
              refine lv_aload_n hx hb dL_law_397 rfl (lv_at hl 3 rfl) ?_
              refine xcL (As := [.ref h, .int (nI si), .int a2, .int a3, .int a4, .ref o]) (rest := []) ⟨hx, hb, hml, hown, hts⟩ (c_L_swear_3a l hst D cy sa h ad nS nB st bk gate nu (av 0) (tw cy av tS tB ts tb tg tn) si hsi a2 a3 a4 h1 h2 h3 hno hnS hnB o g) (vx_cwSW 6 hts gL_law_L_swear rfl rfl rfl (by decide +kernel) ⟨Nat.le_of_ble_eq_true rfl, Nat.le_of_ble_eq_true rfl⟩) hK hV hZ hNc hP hD hS hA (xE_l) rfl hl.1 rfl (Nat.le_of_ble_eq_true rfl) dL_law_398 ⟨by show 15 + 120 * i + 0 + 2 ≤ 601024; omega, by show 187 + 700 * i + 0 + 14 ≤ 7293034; omega⟩ (fun u H locs _ hP hD hS => ?_)
              have hP : va_P D vwCl (((xw cy h ad nS nB st bk gate nu (av 0) (tw cy av tS tB ts tb tg tn)) ++ [(o, .inl (cy 4, 1, .inr (.inl g)))]) ++ (mw cy mb am thr nS nB st bk gate nu)) H := hP
              have hD : va_D (fun q : Nat => s.heap.size ≤ q) (((xw cy h ad nS nB st bk gate nu (av 0) (tw cy av tS tB ts tb tg tn)) ++ [(o, .inl (cy 4, 1, .inr (.inl g)))]) ++ (mw cy mb am thr nS nB st bk gate nu)) := hD
              refine W.eq (g2 := F0 m 401 ls [.int 3]) rfl ?_
              refine W.cs (cells' := 15 + 120 * i + 2) (slots' := 187 + 700 * i + 14) rfl rfl ?_
              refine lv_istore (lv' := [(5, .int 3), (0, .ref b), (1, .ref h), (2, .ref mb), (3, .ref o), (4, .int (nI (5 * i)))]) hx hb dL_law_401 hl (by decide) rfl (fun ls hl => ?_)
              refine lv_aload_n hx hb dL_law_403 rfl (lv_at hl 3 rfl) ?_
              refine lv_aload_n hx hb dL_law_404 rfl (lv_at hl 1 rfl) ?_
              refine lv_iload hx hb dL_law_405 (lv_at hl 5 rfl) ?_
              refine lv_iconst (v := 1) hx hb dL_law_407 (by decide) ?_
              refine lv_iadd hx hb dL_law_408 ?_
              refine W.eq (g2 := F0 m 409 ls [.int (nI (5 * i + 1)), .ref b, .ref mb]) (by rw [show nI (5 * i) + 1 = nI (5 * i + 1) from nI_add (5 * i) 1]) ?_
              refine va_sld hx hb hX hbl hbA hS (i := nI (5 * i + 1)) (vp_in_nI (by omega) (by omega)) dL_law_409 ?_
              refine W.eq (g2 := F0 m 410 ls [.int (nI si), .ref mb]) (by rw [nI_clamp (show 5 * i + 1 < 2 ^ 31 by omega), ← ea1]) ?_
              refine lv_aload_n hx hb dL_law_410 rfl (lv_at hl 1 rfl) ?_
              refine lv_iload hx hb dL_law_411 (lv_at hl 5 rfl) ?_
              refine lv_iconst (v := 2) hx hb dL_law_413 (by decide) ?_
              refine lv_iadd hx hb dL_law_414 ?_
              refine W.eq (g2 := F0 m 415 ls [.int (nI (5 * i + 2)), .ref b, .int (nI si), .ref mb]) (by rw [show nI (5 * i) + 2 = nI (5 * i + 2) from nI_add (5 * i) 2]) ?_
              refine va_sld hx hb hX hbl hbA hS (i := nI (5 * i + 2)) (vp_in_nI (by omega) (by omega)) dL_law_415 ?_
              refine W.eq (g2 := F0 m 416 ls [.int a2, .int (nI si), .ref mb]) (by rw [nI_clamp (show 5 * i + 2 < 2 ^ 31 by omega), ← ea2]) ?_
              refine lv_aload_n hx hb dL_law_416 rfl (lv_at hl 1 rfl) ?_
              refine lv_iload hx hb dL_law_417 (lv_at hl 5 rfl) ?_
              refine lv_iconst (v := 3) hx hb dL_law_419 (by decide) ?_
              refine lv_iadd hx hb dL_law_420 ?_
              refine W.eq (g2 := F0 m 421 ls [.int (nI (5 * i + 3)), .ref b, .int a2, .int (nI si), .ref mb]) (by rw [show nI (5 * i) + 3 = nI (5 * i + 3) from nI_add (5 * i) 3]) ?_
              refine va_sld hx hb hX hbl hbA hS (i := nI (5 * i + 3)) (vp_in_nI (by omega) (by omega)) dL_law_421 ?_
              refine W.eq (g2 := F0 m 422 ls [.int a3, .int a2, .int (nI si), .ref mb]) (by rw [nI_clamp (show 5 * i + 3 < 2 ^ 31 by omega), ← ea3]) ?_
              refine lv_aload_n hx hb dL_law_422 rfl (lv_at hl 1 rfl) ?_
              refine lv_iload hx hb dL_law_423 (lv_at hl 5 rfl) ?_
              refine lv_iconst (v := 4) hx hb dL_law_425 (by decide) ?_
              refine lv_iadd hx hb dL_law_426 ?_
              refine W.eq (g2 := F0 m 427 ls [.int (nI (5 * i + 4)), .ref b, .int a3, .int a2, .int (nI si), .ref mb]) (by rw [show nI (5 * i) + 4 = nI (5 * i + 4) from nI_add (5 * i) 4]) ?_
              refine va_sld hx hb hX hbl hbA hS (i := nI (5 * i + 4)) (vp_in_nI (by omega) (by omega)) dL_law_427 ?_
              refine W.eq (g2 := F0 m 428 ls [.int a4, .int a3, .int a2, .int (nI si), .ref mb]) (by rw [nI_clamp (show 5 * i + 4 < 2 ^ 31 by omega), ← ea4]) ?_
              refine xcV (As := [.int (nI si), .int a2, .int a3, .int a4]) (rest := []) ⟨hx, hb, hml, hown, hts⟩ (c_X4_swear_3b l D cy mb am thr nS nB st bk gate nu si hsi a2 a3 a4 h1 h2 h3 (by omega) hnS) (cwV 4 hts gL_law_X4_swear rfl rfl rfl (by decide +kernel) ⟨Nat.le_of_ble_eq_true rfl, Nat.le_of_ble_eq_true rfl⟩) hK hP hD hS hA rfl rfl rfl (xE_r) rfl hl.1 rfl (Nat.le_of_ble_eq_true rfl) dL_law_428 ⟨by show 15 + 120 * i + 2 + 1 ≤ 601024; omega, by show 187 + 700 * i + 14 + 8 ≤ 7293034; omega⟩ (fun _ H locs _ hP hD hS => ?_)
              have hP : va_P D vwCl (((xw cy h ad nS nB st bk gate nu (av 0) (tw cy av tS tB ts tb tg tn)) ++ [(o, .inl (cy 4, 1, .inr (.inl g)))]) ++ (mw cy mb am 3 nS nB st bk gate nu)) H := hP
              have hD : va_D (fun q : Nat => s.heap.size ≤ q) (((xw cy h ad nS nB st bk gate nu (av 0) (tw cy av tS tB ts tb tg tn)) ++ [(o, .inl (cy 4, 1, .inr (.inl g)))]) ++ (mw cy mb am 3 nS nB st bk gate nu)) := hD
              refine W.eq (g2 := F0 m 431 ls [.int 0]) rfl ?_
              refine W.cs (cells' := 15 + 120 * i + 3) (slots' := 187 + 700 * i + 22) rfl rfl ?_
              refine lv_istore (lv' := [(6, .int 0), (5, .int 3), (0, .ref b), (1, .ref h), (2, .ref mb), (3, .ref o), (4, .int (nI (5 * i)))]) hx hb dL_law_431 hl (by decide) rfl (fun ls hl => ?_)
              refine lv_aload_n hx hb dL_law_433 rfl (lv_at hl 4 rfl) ?_
              refine xcV (As := []) (rest := []) ⟨hx, hb, hml, hown, hts⟩ (c_X4_thrown l D cy mb am 3 nS nB st bk gate nu) (cwV 0 hts gL_law_X4_thrown rfl rfl rfl (by decide +kernel) ⟨Nat.le_of_ble_eq_true rfl, Nat.le_of_ble_eq_true rfl⟩) hK hP hD hS hA rfl rfl rfl (xE_r) rfl hl.1 rfl (Nat.le_of_ble_eq_true rfl) dL_law_434 ⟨by show 15 + 120 * i + 3 + 0 ≤ 601024; omega, by show 187 + 700 * i + 22 + 0 ≤ 7293034; omega⟩ (fun _ H locs _ hP hD hS => ?_)
              have hP : va_P D vwCl (((xw cy h ad nS nB st bk gate nu (av 0) (tw cy av tS tB ts tb tg tn)) ++ [(o, .inl (cy 4, 1, .inr (.inl g)))]) ++ (mw cy mb am 3 nS nB st bk gate nu)) H := hP
              have hD : va_D (fun q : Nat => s.heap.size ≤ q) (((xw cy h ad nS nB st bk gate nu (av 0) (tw cy av tS tB ts tb tg tn)) ++ [(o, .inl (cy 4, 1, .inr (.inl g)))]) ++ (mw cy mb am 3 nS nB st bk gate nu)) := hD
              refine W.eq (g2 := F0 m 437 ls [.int 3]) rfl ?_
              refine W.cs (cells' := 15 + 120 * i + 3) (slots' := 187 + 700 * i + 22) rfl rfl ?_
              refine lv_iload hx hb dL_law_437 (lv_at hl 1 rfl) ?_
              refine lv_icmp_eq (tgt := 444) hx hb dL_law_439 (by decide) (fun _ => ?_) (fun z => absurd rfl z)
              refine lv_iload hx hb dL_law_444 (lv_at hl 1 rfl) ?_
              refine lv_if_ne (tgt := 461) hx hb dL_law_446 (by decide) (fun _ => ?_) (fun z => absurd z (by decide))
              refine lv_goto (tgt := 1159) hx hb dL_law_461 (by decide) ?_
              refine W.widen (k := 15 + 120 * (i + 1)) (n := 187 + 700 * (i + 1)) (by omega) (by omega) ?_
              exact KK ad av am 3 nS nB tS tB st bk ts tb gate nu tg tn g hq d0  _ _ _ hd0 hnS hnB htS htB (by omega) hI hP hD hS (lv_sub hl [2, 3, 4, 5, 6] rfl)
        · refine lv_aload_n hx hb dL_law_372 rfl (lv_at hl 1 rfl) ?_
          refine lv_aload_n hx hb dL_law_373 rfl (lv_at hl 0 rfl) ?_
          refine lv_iload hx hb dL_law_374 (lv_at hl 4 rfl) ?_
          refine lv_iconst (v := 1) hx hb dL_law_376 (by decide) ?_
          refine lv_iadd hx hb dL_law_377 ?_
          refine W.eq (g2 := F0 m 378 ls [.int (nI (5 * i + 1)), .ref b, .ref h]) (by rw [show nI (5 * i) + 1 = nI (5 * i + 1) from nI_add (5 * i) 1]) ?_
          refine va_sld hx hb hX hbl hbA hS (i := nI (5 * i + 1)) (vp_in_nI (by omega) (by omega)) dL_law_378 ?_
          refine W.eq (g2 := F0 m 379 ls [.int (nI si), .ref h]) (by rw [nI_clamp (show 5 * i + 1 < 2 ^ 31 by omega), ← ea1]) ?_
          refine lv_aload_n hx hb dL_law_379 rfl (lv_at hl 0 rfl) ?_
          refine lv_iload hx hb dL_law_380 (lv_at hl 4 rfl) ?_
          refine lv_iconst (v := 2) hx hb dL_law_382 (by decide) ?_
          refine lv_iadd hx hb dL_law_383 ?_
          refine W.eq (g2 := F0 m 384 ls [.int (nI (5 * i + 2)), .ref b, .int (nI si), .ref h]) (by rw [show nI (5 * i) + 2 = nI (5 * i + 2) from nI_add (5 * i) 2]) ?_
          refine va_sld hx hb hX hbl hbA hS (i := nI (5 * i + 2)) (vp_in_nI (by omega) (by omega)) dL_law_384 ?_
          refine W.eq (g2 := F0 m 385 ls [.int a2, .int (nI si), .ref h]) (by rw [nI_clamp (show 5 * i + 2 < 2 ^ 31 by omega), ← ea2]) ?_
          refine lv_aload_n hx hb dL_law_385 rfl (lv_at hl 0 rfl) ?_
          refine lv_iload hx hb dL_law_386 (lv_at hl 4 rfl) ?_
          refine lv_iconst (v := 3) hx hb dL_law_388 (by decide) ?_
          refine lv_iadd hx hb dL_law_389 ?_
          refine W.eq (g2 := F0 m 390 ls [.int (nI (5 * i + 3)), .ref b, .int a2, .int (nI si), .ref h]) (by rw [show nI (5 * i) + 3 = nI (5 * i + 3) from nI_add (5 * i) 3]) ?_
          refine va_sld hx hb hX hbl hbA hS (i := nI (5 * i + 3)) (vp_in_nI (by omega) (by omega)) dL_law_390 ?_
          refine W.eq (g2 := F0 m 391 ls [.int a3, .int a2, .int (nI si), .ref h]) (by rw [nI_clamp (show 5 * i + 3 < 2 ^ 31 by omega), ← ea3]) ?_
          refine lv_aload_n hx hb dL_law_391 rfl (lv_at hl 0 rfl) ?_
          refine lv_iload hx hb dL_law_392 (lv_at hl 4 rfl) ?_
          refine lv_iconst (v := 4) hx hb dL_law_394 (by decide) ?_
          refine lv_iadd hx hb dL_law_395 ?_
          refine W.eq (g2 := F0 m 396 ls [.int (nI (5 * i + 4)), .ref b, .int a3, .int a2, .int (nI si), .ref h]) (by rw [show nI (5 * i) + 4 = nI (5 * i + 4) from nI_add (5 * i) 4]) ?_
          refine va_sld hx hb hX hbl hbA hS (i := nI (5 * i + 4)) (vp_in_nI (by omega) (by omega)) dL_law_396 ?_
          refine W.eq (g2 := F0 m 397 ls [.int a4, .int a3, .int a2, .int (nI si), .ref h]) (by rw [nI_clamp (show 5 * i + 4 < 2 ^ 31 by omega), ← ea4]) ?_
          refine lv_aload_n hx hb dL_law_397 rfl (lv_at hl 3 rfl) ?_
          refine xcL (As := [.ref h, .int (nI si), .int a2, .int a3, .int a4, .ref o]) (rest := []) ⟨hx, hb, hml, hown, hts⟩ (c_L_swear_2c l hst D cy sa h ad nS nB st bk gate nu (av 0) (tw cy av tS tB ts tb tg tn) si hsi a2 a3 a4 h1 h2 h3 hnS hnB o g) (vx_cwSW 6 hts gL_law_L_swear rfl rfl rfl (by decide +kernel) ⟨Nat.le_of_ble_eq_true rfl, Nat.le_of_ble_eq_true rfl⟩) hK hV hZ hNc hP hD hS hA (xE_l) rfl hl.1 rfl (Nat.le_of_ble_eq_true rfl) dL_law_398 ⟨by show 15 + 120 * i + 0 + 2 ≤ 601024; omega, by show 187 + 700 * i + 0 + 14 ≤ 7293034; omega⟩ (fun u H locs _ hP hD hS => ?_)
          have hP : va_P D vwCl (((xw cy h ad nS nB st bk gate nu (av 0) (tw cy av tS tB ts tb tg tn)) ++ [(o, .inl (cy 4, 1, .inr (.inl g)))]) ++ (mw cy mb am thr nS nB st bk gate nu)) H := hP
          have hD : va_D (fun q : Nat => s.heap.size ≤ q) (((xw cy h ad nS nB st bk gate nu (av 0) (tw cy av tS tB ts tb tg tn)) ++ [(o, .inl (cy 4, 1, .inr (.inl g)))]) ++ (mw cy mb am thr nS nB st bk gate nu)) := hD
          refine W.eq (g2 := F0 m 401 ls [.int 2]) rfl ?_
          refine W.cs (cells' := 15 + 120 * i + 2) (slots' := 187 + 700 * i + 14) rfl rfl ?_
          refine lv_istore (lv' := [(5, .int 2), (0, .ref b), (1, .ref h), (2, .ref mb), (3, .ref o), (4, .int (nI (5 * i)))]) hx hb dL_law_401 hl (by decide) rfl (fun ls hl => ?_)
          refine lv_aload_n hx hb dL_law_403 rfl (lv_at hl 3 rfl) ?_
          refine lv_aload_n hx hb dL_law_404 rfl (lv_at hl 1 rfl) ?_
          refine lv_iload hx hb dL_law_405 (lv_at hl 5 rfl) ?_
          refine lv_iconst (v := 1) hx hb dL_law_407 (by decide) ?_
          refine lv_iadd hx hb dL_law_408 ?_
          refine W.eq (g2 := F0 m 409 ls [.int (nI (5 * i + 1)), .ref b, .ref mb]) (by rw [show nI (5 * i) + 1 = nI (5 * i + 1) from nI_add (5 * i) 1]) ?_
          refine va_sld hx hb hX hbl hbA hS (i := nI (5 * i + 1)) (vp_in_nI (by omega) (by omega)) dL_law_409 ?_
          refine W.eq (g2 := F0 m 410 ls [.int (nI si), .ref mb]) (by rw [nI_clamp (show 5 * i + 1 < 2 ^ 31 by omega), ← ea1]) ?_
          refine lv_aload_n hx hb dL_law_410 rfl (lv_at hl 1 rfl) ?_
          refine lv_iload hx hb dL_law_411 (lv_at hl 5 rfl) ?_
          refine lv_iconst (v := 2) hx hb dL_law_413 (by decide) ?_
          refine lv_iadd hx hb dL_law_414 ?_
          refine W.eq (g2 := F0 m 415 ls [.int (nI (5 * i + 2)), .ref b, .int (nI si), .ref mb]) (by rw [show nI (5 * i) + 2 = nI (5 * i + 2) from nI_add (5 * i) 2]) ?_
          refine va_sld hx hb hX hbl hbA hS (i := nI (5 * i + 2)) (vp_in_nI (by omega) (by omega)) dL_law_415 ?_
          refine W.eq (g2 := F0 m 416 ls [.int a2, .int (nI si), .ref mb]) (by rw [nI_clamp (show 5 * i + 2 < 2 ^ 31 by omega), ← ea2]) ?_
          refine lv_aload_n hx hb dL_law_416 rfl (lv_at hl 1 rfl) ?_
          refine lv_iload hx hb dL_law_417 (lv_at hl 5 rfl) ?_
          refine lv_iconst (v := 3) hx hb dL_law_419 (by decide) ?_
          refine lv_iadd hx hb dL_law_420 ?_
          refine W.eq (g2 := F0 m 421 ls [.int (nI (5 * i + 3)), .ref b, .int a2, .int (nI si), .ref mb]) (by rw [show nI (5 * i) + 3 = nI (5 * i + 3) from nI_add (5 * i) 3]) ?_
          refine va_sld hx hb hX hbl hbA hS (i := nI (5 * i + 3)) (vp_in_nI (by omega) (by omega)) dL_law_421 ?_
          refine W.eq (g2 := F0 m 422 ls [.int a3, .int a2, .int (nI si), .ref mb]) (by rw [nI_clamp (show 5 * i + 3 < 2 ^ 31 by omega), ← ea3]) ?_
          refine lv_aload_n hx hb dL_law_422 rfl (lv_at hl 1 rfl) ?_
          refine lv_iload hx hb dL_law_423 (lv_at hl 5 rfl) ?_
          refine lv_iconst (v := 4) hx hb dL_law_425 (by decide) ?_
          refine lv_iadd hx hb dL_law_426 ?_
          refine W.eq (g2 := F0 m 427 ls [.int (nI (5 * i + 4)), .ref b, .int a3, .int a2, .int (nI si), .ref mb]) (by rw [show nI (5 * i) + 4 = nI (5 * i + 4) from nI_add (5 * i) 4]) ?_
          refine va_sld hx hb hX hbl hbA hS (i := nI (5 * i + 4)) (vp_in_nI (by omega) (by omega)) dL_law_427 ?_
          refine W.eq (g2 := F0 m 428 ls [.int a4, .int a3, .int a2, .int (nI si), .ref mb]) (by rw [nI_clamp (show 5 * i + 4 < 2 ^ 31 by omega), ← ea4]) ?_
          refine xcV (As := [.int (nI si), .int a2, .int a3, .int a4]) (rest := []) ⟨hx, hb, hml, hown, hts⟩ (c_X4_swear_2c l D cy mb am thr nS nB st bk gate nu si hsi a2 a3 a4 h1 h2 h3 hnS) (cwV 4 hts gL_law_X4_swear rfl rfl rfl (by decide +kernel) ⟨Nat.le_of_ble_eq_true rfl, Nat.le_of_ble_eq_true rfl⟩) hK hP hD hS hA rfl rfl rfl (xE_r) rfl hl.1 rfl (Nat.le_of_ble_eq_true rfl) dL_law_428 ⟨by show 15 + 120 * i + 2 + 1 ≤ 601024; omega, by show 187 + 700 * i + 14 + 8 ≤ 7293034; omega⟩ (fun _ H locs _ hP hD hS => ?_)
          have hP : va_P D vwCl (((xw cy h ad nS nB st bk gate nu (av 0) (tw cy av tS tB ts tb tg tn)) ++ [(o, .inl (cy 4, 1, .inr (.inl g)))]) ++ (mw cy mb am 2 nS nB st bk gate nu)) H := hP
          have hD : va_D (fun q : Nat => s.heap.size ≤ q) (((xw cy h ad nS nB st bk gate nu (av 0) (tw cy av tS tB ts tb tg tn)) ++ [(o, .inl (cy 4, 1, .inr (.inl g)))]) ++ (mw cy mb am 2 nS nB st bk gate nu)) := hD
          refine W.eq (g2 := F0 m 431 ls [.int 0]) rfl ?_
          refine W.cs (cells' := 15 + 120 * i + 3) (slots' := 187 + 700 * i + 22) rfl rfl ?_
          refine lv_istore (lv' := [(6, .int 0), (5, .int 2), (0, .ref b), (1, .ref h), (2, .ref mb), (3, .ref o), (4, .int (nI (5 * i)))]) hx hb dL_law_431 hl (by decide) rfl (fun ls hl => ?_)
          refine lv_aload_n hx hb dL_law_433 rfl (lv_at hl 4 rfl) ?_
          refine xcV (As := []) (rest := []) ⟨hx, hb, hml, hown, hts⟩ (c_X4_thrown l D cy mb am 2 nS nB st bk gate nu) (cwV 0 hts gL_law_X4_thrown rfl rfl rfl (by decide +kernel) ⟨Nat.le_of_ble_eq_true rfl, Nat.le_of_ble_eq_true rfl⟩) hK hP hD hS hA rfl rfl rfl (xE_r) rfl hl.1 rfl (Nat.le_of_ble_eq_true rfl) dL_law_434 ⟨by show 15 + 120 * i + 3 + 0 ≤ 601024; omega, by show 187 + 700 * i + 22 + 0 ≤ 7293034; omega⟩ (fun _ H locs _ hP hD hS => ?_)
          have hP : va_P D vwCl (((xw cy h ad nS nB st bk gate nu (av 0) (tw cy av tS tB ts tb tg tn)) ++ [(o, .inl (cy 4, 1, .inr (.inl g)))]) ++ (mw cy mb am 2 nS nB st bk gate nu)) H := hP
          have hD : va_D (fun q : Nat => s.heap.size ≤ q) (((xw cy h ad nS nB st bk gate nu (av 0) (tw cy av tS tB ts tb tg tn)) ++ [(o, .inl (cy 4, 1, .inr (.inl g)))]) ++ (mw cy mb am 2 nS nB st bk gate nu)) := hD
          refine W.eq (g2 := F0 m 437 ls [.int 2]) rfl ?_
          refine W.cs (cells' := 15 + 120 * i + 3) (slots' := 187 + 700 * i + 22) rfl rfl ?_
          refine lv_iload hx hb dL_law_437 (lv_at hl 1 rfl) ?_
          refine lv_icmp_eq (tgt := 444) hx hb dL_law_439 (by decide) (fun _ => ?_) (fun z => absurd rfl z)
          refine lv_iload hx hb dL_law_444 (lv_at hl 1 rfl) ?_
          refine lv_if_ne (tgt := 461) hx hb dL_law_446 (by decide) (fun _ => ?_) (fun z => absurd z (by decide))
          refine lv_goto (tgt := 1159) hx hb dL_law_461 (by decide) ?_
          refine W.widen (k := 15 + 120 * (i + 1)) (n := 187 + 700 * (i + 1)) (by omega) (by omega) ?_
          exact KK ad av am 2 nS nB tS tB st bk ts tb gate nu tg tn g hq d0  _ _ _ hd0 hnS hnB htS htB (by omega) hI hP hD hS (lv_sub hl [2, 3, 4, 5, 6] rfl)
      · refine lv_aload_n hx hb dL_law_372 rfl (lv_at hl 1 rfl) ?_
        refine lv_aload_n hx hb dL_law_373 rfl (lv_at hl 0 rfl) ?_
        refine lv_iload hx hb dL_law_374 (lv_at hl 4 rfl) ?_
        refine lv_iconst (v := 1) hx hb dL_law_376 (by decide) ?_
        refine lv_iadd hx hb dL_law_377 ?_
        refine W.eq (g2 := F0 m 378 ls [.int (nI (5 * i + 1)), .ref b, .ref h]) (by rw [show nI (5 * i) + 1 = nI (5 * i + 1) from nI_add (5 * i) 1]) ?_
        refine va_sld hx hb hX hbl hbA hS (i := nI (5 * i + 1)) (vp_in_nI (by omega) (by omega)) dL_law_378 ?_
        refine W.eq (g2 := F0 m 379 ls [.int (nI si), .ref h]) (by rw [nI_clamp (show 5 * i + 1 < 2 ^ 31 by omega), ← ea1]) ?_
        refine lv_aload_n hx hb dL_law_379 rfl (lv_at hl 0 rfl) ?_
        refine lv_iload hx hb dL_law_380 (lv_at hl 4 rfl) ?_
        refine lv_iconst (v := 2) hx hb dL_law_382 (by decide) ?_
        refine lv_iadd hx hb dL_law_383 ?_
        refine W.eq (g2 := F0 m 384 ls [.int (nI (5 * i + 2)), .ref b, .int (nI si), .ref h]) (by rw [show nI (5 * i) + 2 = nI (5 * i + 2) from nI_add (5 * i) 2]) ?_
        refine va_sld hx hb hX hbl hbA hS (i := nI (5 * i + 2)) (vp_in_nI (by omega) (by omega)) dL_law_384 ?_
        refine W.eq (g2 := F0 m 385 ls [.int a2, .int (nI si), .ref h]) (by rw [nI_clamp (show 5 * i + 2 < 2 ^ 31 by omega), ← ea2]) ?_
        refine lv_aload_n hx hb dL_law_385 rfl (lv_at hl 0 rfl) ?_
        refine lv_iload hx hb dL_law_386 (lv_at hl 4 rfl) ?_
        refine lv_iconst (v := 3) hx hb dL_law_388 (by decide) ?_
        refine lv_iadd hx hb dL_law_389 ?_
        refine W.eq (g2 := F0 m 390 ls [.int (nI (5 * i + 3)), .ref b, .int a2, .int (nI si), .ref h]) (by rw [show nI (5 * i) + 3 = nI (5 * i + 3) from nI_add (5 * i) 3]) ?_
        refine va_sld hx hb hX hbl hbA hS (i := nI (5 * i + 3)) (vp_in_nI (by omega) (by omega)) dL_law_390 ?_
        refine W.eq (g2 := F0 m 391 ls [.int a3, .int a2, .int (nI si), .ref h]) (by rw [nI_clamp (show 5 * i + 3 < 2 ^ 31 by omega), ← ea3]) ?_
        refine lv_aload_n hx hb dL_law_391 rfl (lv_at hl 0 rfl) ?_
        refine lv_iload hx hb dL_law_392 (lv_at hl 4 rfl) ?_
        refine lv_iconst (v := 4) hx hb dL_law_394 (by decide) ?_
        refine lv_iadd hx hb dL_law_395 ?_
        refine W.eq (g2 := F0 m 396 ls [.int (nI (5 * i + 4)), .ref b, .int a3, .int a2, .int (nI si), .ref h]) (by rw [show nI (5 * i) + 4 = nI (5 * i + 4) from nI_add (5 * i) 4]) ?_
        refine va_sld hx hb hX hbl hbA hS (i := nI (5 * i + 4)) (vp_in_nI (by omega) (by omega)) dL_law_396 ?_
        refine W.eq (g2 := F0 m 397 ls [.int a4, .int a3, .int a2, .int (nI si), .ref h]) (by rw [nI_clamp (show 5 * i + 4 < 2 ^ 31 by omega), ← ea4]) ?_
        refine lv_aload_n hx hb dL_law_397 rfl (lv_at hl 3 rfl) ?_
        refine xcL (As := [.ref h, .int (nI si), .int a2, .int a3, .int a4, .ref o]) (rest := []) ⟨hx, hb, hml, hown, hts⟩ (c_L_swear_2b l hst D cy sa h ad nS nB st bk gate nu (av 0) (tw cy av tS tB ts tb tg tn) si hsi a2 a3 a4 h1 h2 hnS hnB o g) (vx_cwSW 6 hts gL_law_L_swear rfl rfl rfl (by decide +kernel) ⟨Nat.le_of_ble_eq_true rfl, Nat.le_of_ble_eq_true rfl⟩) hK hV hZ hNc hP hD hS hA (xE_l) rfl hl.1 rfl (Nat.le_of_ble_eq_true rfl) dL_law_398 ⟨by show 15 + 120 * i + 0 + 2 ≤ 601024; omega, by show 187 + 700 * i + 0 + 14 ≤ 7293034; omega⟩ (fun u H locs _ hP hD hS => ?_)
        have hP : va_P D vwCl (((xw cy h ad nS nB st bk gate nu (av 0) (tw cy av tS tB ts tb tg tn)) ++ [(o, .inl (cy 4, 1, .inr (.inl g)))]) ++ (mw cy mb am thr nS nB st bk gate nu)) H := hP
        have hD : va_D (fun q : Nat => s.heap.size ≤ q) (((xw cy h ad nS nB st bk gate nu (av 0) (tw cy av tS tB ts tb tg tn)) ++ [(o, .inl (cy 4, 1, .inr (.inl g)))]) ++ (mw cy mb am thr nS nB st bk gate nu)) := hD
        refine W.eq (g2 := F0 m 401 ls [.int 2]) rfl ?_
        refine W.cs (cells' := 15 + 120 * i + 2) (slots' := 187 + 700 * i + 14) rfl rfl ?_
        refine lv_istore (lv' := [(5, .int 2), (0, .ref b), (1, .ref h), (2, .ref mb), (3, .ref o), (4, .int (nI (5 * i)))]) hx hb dL_law_401 hl (by decide) rfl (fun ls hl => ?_)
        refine lv_aload_n hx hb dL_law_403 rfl (lv_at hl 3 rfl) ?_
        refine lv_aload_n hx hb dL_law_404 rfl (lv_at hl 1 rfl) ?_
        refine lv_iload hx hb dL_law_405 (lv_at hl 5 rfl) ?_
        refine lv_iconst (v := 1) hx hb dL_law_407 (by decide) ?_
        refine lv_iadd hx hb dL_law_408 ?_
        refine W.eq (g2 := F0 m 409 ls [.int (nI (5 * i + 1)), .ref b, .ref mb]) (by rw [show nI (5 * i) + 1 = nI (5 * i + 1) from nI_add (5 * i) 1]) ?_
        refine va_sld hx hb hX hbl hbA hS (i := nI (5 * i + 1)) (vp_in_nI (by omega) (by omega)) dL_law_409 ?_
        refine W.eq (g2 := F0 m 410 ls [.int (nI si), .ref mb]) (by rw [nI_clamp (show 5 * i + 1 < 2 ^ 31 by omega), ← ea1]) ?_
        refine lv_aload_n hx hb dL_law_410 rfl (lv_at hl 1 rfl) ?_
        refine lv_iload hx hb dL_law_411 (lv_at hl 5 rfl) ?_
        refine lv_iconst (v := 2) hx hb dL_law_413 (by decide) ?_
        refine lv_iadd hx hb dL_law_414 ?_
        refine W.eq (g2 := F0 m 415 ls [.int (nI (5 * i + 2)), .ref b, .int (nI si), .ref mb]) (by rw [show nI (5 * i) + 2 = nI (5 * i + 2) from nI_add (5 * i) 2]) ?_
        refine va_sld hx hb hX hbl hbA hS (i := nI (5 * i + 2)) (vp_in_nI (by omega) (by omega)) dL_law_415 ?_
        refine W.eq (g2 := F0 m 416 ls [.int a2, .int (nI si), .ref mb]) (by rw [nI_clamp (show 5 * i + 2 < 2 ^ 31 by omega), ← ea2]) ?_
        refine lv_aload_n hx hb dL_law_416 rfl (lv_at hl 1 rfl) ?_
        refine lv_iload hx hb dL_law_417 (lv_at hl 5 rfl) ?_
        refine lv_iconst (v := 3) hx hb dL_law_419 (by decide) ?_
        refine lv_iadd hx hb dL_law_420 ?_
        refine W.eq (g2 := F0 m 421 ls [.int (nI (5 * i + 3)), .ref b, .int a2, .int (nI si), .ref mb]) (by rw [show nI (5 * i) + 3 = nI (5 * i + 3) from nI_add (5 * i) 3]) ?_
        refine va_sld hx hb hX hbl hbA hS (i := nI (5 * i + 3)) (vp_in_nI (by omega) (by omega)) dL_law_421 ?_
        refine W.eq (g2 := F0 m 422 ls [.int a3, .int a2, .int (nI si), .ref mb]) (by rw [nI_clamp (show 5 * i + 3 < 2 ^ 31 by omega), ← ea3]) ?_
        refine lv_aload_n hx hb dL_law_422 rfl (lv_at hl 1 rfl) ?_
        refine lv_iload hx hb dL_law_423 (lv_at hl 5 rfl) ?_
        refine lv_iconst (v := 4) hx hb dL_law_425 (by decide) ?_
        refine lv_iadd hx hb dL_law_426 ?_
        refine W.eq (g2 := F0 m 427 ls [.int (nI (5 * i + 4)), .ref b, .int a3, .int a2, .int (nI si), .ref mb]) (by rw [show nI (5 * i) + 4 = nI (5 * i + 4) from nI_add (5 * i) 4]) ?_
        refine va_sld hx hb hX hbl hbA hS (i := nI (5 * i + 4)) (vp_in_nI (by omega) (by omega)) dL_law_427 ?_
        refine W.eq (g2 := F0 m 428 ls [.int a4, .int a3, .int a2, .int (nI si), .ref mb]) (by rw [nI_clamp (show 5 * i + 4 < 2 ^ 31 by omega), ← ea4]) ?_
        refine xcV (As := [.int (nI si), .int a2, .int a3, .int a4]) (rest := []) ⟨hx, hb, hml, hown, hts⟩ (c_X4_swear_2b l D cy mb am thr nS nB st bk gate nu si hsi a2 a3 a4 h1 h2 hnS) (cwV 4 hts gL_law_X4_swear rfl rfl rfl (by decide +kernel) ⟨Nat.le_of_ble_eq_true rfl, Nat.le_of_ble_eq_true rfl⟩) hK hP hD hS hA rfl rfl rfl (xE_r) rfl hl.1 rfl (Nat.le_of_ble_eq_true rfl) dL_law_428 ⟨by show 15 + 120 * i + 2 + 1 ≤ 601024; omega, by show 187 + 700 * i + 14 + 8 ≤ 7293034; omega⟩ (fun _ H locs _ hP hD hS => ?_)
        have hP : va_P D vwCl (((xw cy h ad nS nB st bk gate nu (av 0) (tw cy av tS tB ts tb tg tn)) ++ [(o, .inl (cy 4, 1, .inr (.inl g)))]) ++ (mw cy mb am 2 nS nB st bk gate nu)) H := hP
        have hD : va_D (fun q : Nat => s.heap.size ≤ q) (((xw cy h ad nS nB st bk gate nu (av 0) (tw cy av tS tB ts tb tg tn)) ++ [(o, .inl (cy 4, 1, .inr (.inl g)))]) ++ (mw cy mb am 2 nS nB st bk gate nu)) := hD
        refine W.eq (g2 := F0 m 431 ls [.int 0]) rfl ?_
        refine W.cs (cells' := 15 + 120 * i + 3) (slots' := 187 + 700 * i + 22) rfl rfl ?_
        refine lv_istore (lv' := [(6, .int 0), (5, .int 2), (0, .ref b), (1, .ref h), (2, .ref mb), (3, .ref o), (4, .int (nI (5 * i)))]) hx hb dL_law_431 hl (by decide) rfl (fun ls hl => ?_)
        refine lv_aload_n hx hb dL_law_433 rfl (lv_at hl 4 rfl) ?_
        refine xcV (As := []) (rest := []) ⟨hx, hb, hml, hown, hts⟩ (c_X4_thrown l D cy mb am 2 nS nB st bk gate nu) (cwV 0 hts gL_law_X4_thrown rfl rfl rfl (by decide +kernel) ⟨Nat.le_of_ble_eq_true rfl, Nat.le_of_ble_eq_true rfl⟩) hK hP hD hS hA rfl rfl rfl (xE_r) rfl hl.1 rfl (Nat.le_of_ble_eq_true rfl) dL_law_434 ⟨by show 15 + 120 * i + 3 + 0 ≤ 601024; omega, by show 187 + 700 * i + 22 + 0 ≤ 7293034; omega⟩ (fun _ H locs _ hP hD hS => ?_)
        have hP : va_P D vwCl (((xw cy h ad nS nB st bk gate nu (av 0) (tw cy av tS tB ts tb tg tn)) ++ [(o, .inl (cy 4, 1, .inr (.inl g)))]) ++ (mw cy mb am 2 nS nB st bk gate nu)) H := hP
        have hD : va_D (fun q : Nat => s.heap.size ≤ q) (((xw cy h ad nS nB st bk gate nu (av 0) (tw cy av tS tB ts tb tg tn)) ++ [(o, .inl (cy 4, 1, .inr (.inl g)))]) ++ (mw cy mb am 2 nS nB st bk gate nu)) := hD
        refine W.eq (g2 := F0 m 437 ls [.int 2]) rfl ?_
        refine W.cs (cells' := 15 + 120 * i + 3) (slots' := 187 + 700 * i + 22) rfl rfl ?_
        refine lv_iload hx hb dL_law_437 (lv_at hl 1 rfl) ?_
        refine lv_icmp_eq (tgt := 444) hx hb dL_law_439 (by decide) (fun _ => ?_) (fun z => absurd rfl z)
        refine lv_iload hx hb dL_law_444 (lv_at hl 1 rfl) ?_
        refine lv_if_ne (tgt := 461) hx hb dL_law_446 (by decide) (fun _ => ?_) (fun z => absurd z (by decide))
        refine lv_goto (tgt := 1159) hx hb dL_law_461 (by decide) ?_
        refine W.widen (k := 15 + 120 * (i + 1)) (n := 187 + 700 * (i + 1)) (by omega) (by omega) ?_
        exact KK ad av am 2 nS nB tS tB st bk ts tb gate nu tg tn g hq d0  _ _ _ hd0 hnS hnB htS htB (by omega) hI hP hD hS (lv_sub hl [2, 3, 4, 5, 6] rfl)
    · refine lv_aload_n hx hb dL_law_372 rfl (lv_at hl 1 rfl) ?_
      refine lv_aload_n hx hb dL_law_373 rfl (lv_at hl 0 rfl) ?_
      refine lv_iload hx hb dL_law_374 (lv_at hl 4 rfl) ?_
      refine lv_iconst (v := 1) hx hb dL_law_376 (by decide) ?_
      refine lv_iadd hx hb dL_law_377 ?_
      refine W.eq (g2 := F0 m 378 ls [.int (nI (5 * i + 1)), .ref b, .ref h]) (by rw [show nI (5 * i) + 1 = nI (5 * i + 1) from nI_add (5 * i) 1]) ?_
      refine va_sld hx hb hX hbl hbA hS (i := nI (5 * i + 1)) (vp_in_nI (by omega) (by omega)) dL_law_378 ?_
      refine W.eq (g2 := F0 m 379 ls [.int (nI si), .ref h]) (by rw [nI_clamp (show 5 * i + 1 < 2 ^ 31 by omega), ← ea1]) ?_
      refine lv_aload_n hx hb dL_law_379 rfl (lv_at hl 0 rfl) ?_
      refine lv_iload hx hb dL_law_380 (lv_at hl 4 rfl) ?_
      refine lv_iconst (v := 2) hx hb dL_law_382 (by decide) ?_
      refine lv_iadd hx hb dL_law_383 ?_
      refine W.eq (g2 := F0 m 384 ls [.int (nI (5 * i + 2)), .ref b, .int (nI si), .ref h]) (by rw [show nI (5 * i) + 2 = nI (5 * i + 2) from nI_add (5 * i) 2]) ?_
      refine va_sld hx hb hX hbl hbA hS (i := nI (5 * i + 2)) (vp_in_nI (by omega) (by omega)) dL_law_384 ?_
      refine W.eq (g2 := F0 m 385 ls [.int a2, .int (nI si), .ref h]) (by rw [nI_clamp (show 5 * i + 2 < 2 ^ 31 by omega), ← ea2]) ?_
      refine lv_aload_n hx hb dL_law_385 rfl (lv_at hl 0 rfl) ?_
      refine lv_iload hx hb dL_law_386 (lv_at hl 4 rfl) ?_
      refine lv_iconst (v := 3) hx hb dL_law_388 (by decide) ?_
      refine lv_iadd hx hb dL_law_389 ?_
      refine W.eq (g2 := F0 m 390 ls [.int (nI (5 * i + 3)), .ref b, .int a2, .int (nI si), .ref h]) (by rw [show nI (5 * i) + 3 = nI (5 * i + 3) from nI_add (5 * i) 3]) ?_
      refine va_sld hx hb hX hbl hbA hS (i := nI (5 * i + 3)) (vp_in_nI (by omega) (by omega)) dL_law_390 ?_
      refine W.eq (g2 := F0 m 391 ls [.int a3, .int a2, .int (nI si), .ref h]) (by rw [nI_clamp (show 5 * i + 3 < 2 ^ 31 by omega), ← ea3]) ?_
      refine lv_aload_n hx hb dL_law_391 rfl (lv_at hl 0 rfl) ?_
      refine lv_iload hx hb dL_law_392 (lv_at hl 4 rfl) ?_
      refine lv_iconst (v := 4) hx hb dL_law_394 (by decide) ?_
      refine lv_iadd hx hb dL_law_395 ?_
      refine W.eq (g2 := F0 m 396 ls [.int (nI (5 * i + 4)), .ref b, .int a3, .int a2, .int (nI si), .ref h]) (by rw [show nI (5 * i) + 4 = nI (5 * i + 4) from nI_add (5 * i) 4]) ?_
      refine va_sld hx hb hX hbl hbA hS (i := nI (5 * i + 4)) (vp_in_nI (by omega) (by omega)) dL_law_396 ?_
      refine W.eq (g2 := F0 m 397 ls [.int a4, .int a3, .int a2, .int (nI si), .ref h]) (by rw [nI_clamp (show 5 * i + 4 < 2 ^ 31 by omega), ← ea4]) ?_
      refine lv_aload_n hx hb dL_law_397 rfl (lv_at hl 3 rfl) ?_
      refine xcL (As := [.ref h, .int (nI si), .int a2, .int a3, .int a4, .ref o]) (rest := []) ⟨hx, hb, hml, hown, hts⟩ (c_L_swear_2a l hst D cy sa h ad nS nB st bk gate nu (av 0) (tw cy av tS tB ts tb tg tn) si hsi a2 a3 a4 h1 hnS hnB o g) (vx_cwSW 6 hts gL_law_L_swear rfl rfl rfl (by decide +kernel) ⟨Nat.le_of_ble_eq_true rfl, Nat.le_of_ble_eq_true rfl⟩) hK hV hZ hNc hP hD hS hA (xE_l) rfl hl.1 rfl (Nat.le_of_ble_eq_true rfl) dL_law_398 ⟨by show 15 + 120 * i + 0 + 2 ≤ 601024; omega, by show 187 + 700 * i + 0 + 14 ≤ 7293034; omega⟩ (fun u H locs _ hP hD hS => ?_)
      have hP : va_P D vwCl (((xw cy h ad nS nB st bk gate nu (av 0) (tw cy av tS tB ts tb tg tn)) ++ [(o, .inl (cy 4, 1, .inr (.inl g)))]) ++ (mw cy mb am thr nS nB st bk gate nu)) H := hP
      have hD : va_D (fun q : Nat => s.heap.size ≤ q) (((xw cy h ad nS nB st bk gate nu (av 0) (tw cy av tS tB ts tb tg tn)) ++ [(o, .inl (cy 4, 1, .inr (.inl g)))]) ++ (mw cy mb am thr nS nB st bk gate nu)) := hD
      refine W.eq (g2 := F0 m 401 ls [.int 2]) rfl ?_
      refine W.cs (cells' := 15 + 120 * i + 2) (slots' := 187 + 700 * i + 14) rfl rfl ?_
      refine lv_istore (lv' := [(5, .int 2), (0, .ref b), (1, .ref h), (2, .ref mb), (3, .ref o), (4, .int (nI (5 * i)))]) hx hb dL_law_401 hl (by decide) rfl (fun ls hl => ?_)
      refine lv_aload_n hx hb dL_law_403 rfl (lv_at hl 3 rfl) ?_
      refine lv_aload_n hx hb dL_law_404 rfl (lv_at hl 1 rfl) ?_
      refine lv_iload hx hb dL_law_405 (lv_at hl 5 rfl) ?_
      refine lv_iconst (v := 1) hx hb dL_law_407 (by decide) ?_
      refine lv_iadd hx hb dL_law_408 ?_
      refine W.eq (g2 := F0 m 409 ls [.int (nI (5 * i + 1)), .ref b, .ref mb]) (by rw [show nI (5 * i) + 1 = nI (5 * i + 1) from nI_add (5 * i) 1]) ?_
      refine va_sld hx hb hX hbl hbA hS (i := nI (5 * i + 1)) (vp_in_nI (by omega) (by omega)) dL_law_409 ?_
      refine W.eq (g2 := F0 m 410 ls [.int (nI si), .ref mb]) (by rw [nI_clamp (show 5 * i + 1 < 2 ^ 31 by omega), ← ea1]) ?_
      refine lv_aload_n hx hb dL_law_410 rfl (lv_at hl 1 rfl) ?_
      refine lv_iload hx hb dL_law_411 (lv_at hl 5 rfl) ?_
      refine lv_iconst (v := 2) hx hb dL_law_413 (by decide) ?_
      refine lv_iadd hx hb dL_law_414 ?_
      refine W.eq (g2 := F0 m 415 ls [.int (nI (5 * i + 2)), .ref b, .int (nI si), .ref mb]) (by rw [show nI (5 * i) + 2 = nI (5 * i + 2) from nI_add (5 * i) 2]) ?_
      refine va_sld hx hb hX hbl hbA hS (i := nI (5 * i + 2)) (vp_in_nI (by omega) (by omega)) dL_law_415 ?_
      refine W.eq (g2 := F0 m 416 ls [.int a2, .int (nI si), .ref mb]) (by rw [nI_clamp (show 5 * i + 2 < 2 ^ 31 by omega), ← ea2]) ?_
      refine lv_aload_n hx hb dL_law_416 rfl (lv_at hl 1 rfl) ?_
      refine lv_iload hx hb dL_law_417 (lv_at hl 5 rfl) ?_
      refine lv_iconst (v := 3) hx hb dL_law_419 (by decide) ?_
      refine lv_iadd hx hb dL_law_420 ?_
      refine W.eq (g2 := F0 m 421 ls [.int (nI (5 * i + 3)), .ref b, .int a2, .int (nI si), .ref mb]) (by rw [show nI (5 * i) + 3 = nI (5 * i + 3) from nI_add (5 * i) 3]) ?_
      refine va_sld hx hb hX hbl hbA hS (i := nI (5 * i + 3)) (vp_in_nI (by omega) (by omega)) dL_law_421 ?_
      refine W.eq (g2 := F0 m 422 ls [.int a3, .int a2, .int (nI si), .ref mb]) (by rw [nI_clamp (show 5 * i + 3 < 2 ^ 31 by omega), ← ea3]) ?_
      refine lv_aload_n hx hb dL_law_422 rfl (lv_at hl 1 rfl) ?_
      refine lv_iload hx hb dL_law_423 (lv_at hl 5 rfl) ?_
      refine lv_iconst (v := 4) hx hb dL_law_425 (by decide) ?_
      refine lv_iadd hx hb dL_law_426 ?_
      refine W.eq (g2 := F0 m 427 ls [.int (nI (5 * i + 4)), .ref b, .int a3, .int a2, .int (nI si), .ref mb]) (by rw [show nI (5 * i) + 4 = nI (5 * i + 4) from nI_add (5 * i) 4]) ?_
      refine va_sld hx hb hX hbl hbA hS (i := nI (5 * i + 4)) (vp_in_nI (by omega) (by omega)) dL_law_427 ?_
      refine W.eq (g2 := F0 m 428 ls [.int a4, .int a3, .int a2, .int (nI si), .ref mb]) (by rw [nI_clamp (show 5 * i + 4 < 2 ^ 31 by omega), ← ea4]) ?_
      refine xcV (As := [.int (nI si), .int a2, .int a3, .int a4]) (rest := []) ⟨hx, hb, hml, hown, hts⟩ (c_X4_swear_2a l D cy mb am thr nS nB st bk gate nu si hsi a2 a3 a4 h1 hnS) (cwV 4 hts gL_law_X4_swear rfl rfl rfl (by decide +kernel) ⟨Nat.le_of_ble_eq_true rfl, Nat.le_of_ble_eq_true rfl⟩) hK hP hD hS hA rfl rfl rfl (xE_r) rfl hl.1 rfl (Nat.le_of_ble_eq_true rfl) dL_law_428 ⟨by show 15 + 120 * i + 2 + 1 ≤ 601024; omega, by show 187 + 700 * i + 14 + 8 ≤ 7293034; omega⟩ (fun _ H locs _ hP hD hS => ?_)
      have hP : va_P D vwCl (((xw cy h ad nS nB st bk gate nu (av 0) (tw cy av tS tB ts tb tg tn)) ++ [(o, .inl (cy 4, 1, .inr (.inl g)))]) ++ (mw cy mb am 2 nS nB st bk gate nu)) H := hP
      have hD : va_D (fun q : Nat => s.heap.size ≤ q) (((xw cy h ad nS nB st bk gate nu (av 0) (tw cy av tS tB ts tb tg tn)) ++ [(o, .inl (cy 4, 1, .inr (.inl g)))]) ++ (mw cy mb am 2 nS nB st bk gate nu)) := hD
      refine W.eq (g2 := F0 m 431 ls [.int 0]) rfl ?_
      refine W.cs (cells' := 15 + 120 * i + 3) (slots' := 187 + 700 * i + 22) rfl rfl ?_
      refine lv_istore (lv' := [(6, .int 0), (5, .int 2), (0, .ref b), (1, .ref h), (2, .ref mb), (3, .ref o), (4, .int (nI (5 * i)))]) hx hb dL_law_431 hl (by decide) rfl (fun ls hl => ?_)
      refine lv_aload_n hx hb dL_law_433 rfl (lv_at hl 4 rfl) ?_
      refine xcV (As := []) (rest := []) ⟨hx, hb, hml, hown, hts⟩ (c_X4_thrown l D cy mb am 2 nS nB st bk gate nu) (cwV 0 hts gL_law_X4_thrown rfl rfl rfl (by decide +kernel) ⟨Nat.le_of_ble_eq_true rfl, Nat.le_of_ble_eq_true rfl⟩) hK hP hD hS hA rfl rfl rfl (xE_r) rfl hl.1 rfl (Nat.le_of_ble_eq_true rfl) dL_law_434 ⟨by show 15 + 120 * i + 3 + 0 ≤ 601024; omega, by show 187 + 700 * i + 22 + 0 ≤ 7293034; omega⟩ (fun _ H locs _ hP hD hS => ?_)
      have hP : va_P D vwCl (((xw cy h ad nS nB st bk gate nu (av 0) (tw cy av tS tB ts tb tg tn)) ++ [(o, .inl (cy 4, 1, .inr (.inl g)))]) ++ (mw cy mb am 2 nS nB st bk gate nu)) H := hP
      have hD : va_D (fun q : Nat => s.heap.size ≤ q) (((xw cy h ad nS nB st bk gate nu (av 0) (tw cy av tS tB ts tb tg tn)) ++ [(o, .inl (cy 4, 1, .inr (.inl g)))]) ++ (mw cy mb am 2 nS nB st bk gate nu)) := hD
      refine W.eq (g2 := F0 m 437 ls [.int 2]) rfl ?_
      refine W.cs (cells' := 15 + 120 * i + 3) (slots' := 187 + 700 * i + 22) rfl rfl ?_
      refine lv_iload hx hb dL_law_437 (lv_at hl 1 rfl) ?_
      refine lv_icmp_eq (tgt := 444) hx hb dL_law_439 (by decide) (fun _ => ?_) (fun z => absurd rfl z)
      refine lv_iload hx hb dL_law_444 (lv_at hl 1 rfl) ?_
      refine lv_if_ne (tgt := 461) hx hb dL_law_446 (by decide) (fun _ => ?_) (fun z => absurd z (by decide))
      refine lv_goto (tgt := 1159) hx hb dL_law_461 (by decide) ?_
      refine W.widen (k := 15 + 120 * (i + 1)) (n := 187 + 700 * (i + 1)) (by omega) (by omega) ?_
      exact KK ad av am 2 nS nB tS tB st bk ts tb gate nu tg tn g hq d0  _ _ _ hd0 hnS hnB htS htB (by omega) hI hP hD hS (lv_sub hl [2, 3, 4, 5, 6] rfl)
  · refine lv_aload_n hx hb dL_law_372 rfl (lv_at hl 1 rfl) ?_
    refine lv_aload_n hx hb dL_law_373 rfl (lv_at hl 0 rfl) ?_
    refine lv_iload hx hb dL_law_374 (lv_at hl 4 rfl) ?_
    refine lv_iconst (v := 1) hx hb dL_law_376 (by decide) ?_
    refine lv_iadd hx hb dL_law_377 ?_
    refine W.eq (g2 := F0 m 378 ls [.int (nI (5 * i + 1)), .ref b, .ref h]) (by rw [show nI (5 * i) + 1 = nI (5 * i + 1) from nI_add (5 * i) 1]) ?_
    refine va_sld hx hb hX hbl hbA hS (i := nI (5 * i + 1)) (vp_in_nI (by omega) (by omega)) dL_law_378 ?_
    refine W.eq (g2 := F0 m 379 ls [.int a1, .ref h]) (by rw [nI_clamp (show 5 * i + 1 < 2 ^ 31 by omega), ← ea1]) ?_
    refine lv_aload_n hx hb dL_law_379 rfl (lv_at hl 0 rfl) ?_
    refine lv_iload hx hb dL_law_380 (lv_at hl 4 rfl) ?_
    refine lv_iconst (v := 2) hx hb dL_law_382 (by decide) ?_
    refine lv_iadd hx hb dL_law_383 ?_
    refine W.eq (g2 := F0 m 384 ls [.int (nI (5 * i + 2)), .ref b, .int a1, .ref h]) (by rw [show nI (5 * i) + 2 = nI (5 * i + 2) from nI_add (5 * i) 2]) ?_
    refine va_sld hx hb hX hbl hbA hS (i := nI (5 * i + 2)) (vp_in_nI (by omega) (by omega)) dL_law_384 ?_
    refine W.eq (g2 := F0 m 385 ls [.int a2, .int a1, .ref h]) (by rw [nI_clamp (show 5 * i + 2 < 2 ^ 31 by omega), ← ea2]) ?_
    refine lv_aload_n hx hb dL_law_385 rfl (lv_at hl 0 rfl) ?_
    refine lv_iload hx hb dL_law_386 (lv_at hl 4 rfl) ?_
    refine lv_iconst (v := 3) hx hb dL_law_388 (by decide) ?_
    refine lv_iadd hx hb dL_law_389 ?_
    refine W.eq (g2 := F0 m 390 ls [.int (nI (5 * i + 3)), .ref b, .int a2, .int a1, .ref h]) (by rw [show nI (5 * i) + 3 = nI (5 * i + 3) from nI_add (5 * i) 3]) ?_
    refine va_sld hx hb hX hbl hbA hS (i := nI (5 * i + 3)) (vp_in_nI (by omega) (by omega)) dL_law_390 ?_
    refine W.eq (g2 := F0 m 391 ls [.int a3, .int a2, .int a1, .ref h]) (by rw [nI_clamp (show 5 * i + 3 < 2 ^ 31 by omega), ← ea3]) ?_
    refine lv_aload_n hx hb dL_law_391 rfl (lv_at hl 0 rfl) ?_
    refine lv_iload hx hb dL_law_392 (lv_at hl 4 rfl) ?_
    refine lv_iconst (v := 4) hx hb dL_law_394 (by decide) ?_
    refine lv_iadd hx hb dL_law_395 ?_
    refine W.eq (g2 := F0 m 396 ls [.int (nI (5 * i + 4)), .ref b, .int a3, .int a2, .int a1, .ref h]) (by rw [show nI (5 * i) + 4 = nI (5 * i + 4) from nI_add (5 * i) 4]) ?_
    refine va_sld hx hb hX hbl hbA hS (i := nI (5 * i + 4)) (vp_in_nI (by omega) (by omega)) dL_law_396 ?_
    refine W.eq (g2 := F0 m 397 ls [.int a4, .int a3, .int a2, .int a1, .ref h]) (by rw [nI_clamp (show 5 * i + 4 < 2 ^ 31 by omega), ← ea4]) ?_
    refine lv_aload_n hx hb dL_law_397 rfl (lv_at hl 3 rfl) ?_
    refine xcL (As := [.ref h, .int a1, .int a2, .int a3, .int a4, .ref o]) (rest := []) ⟨hx, hb, hml, hown, hts⟩ (c_L_swear_1 l hst D cy sa h ad nS nB st bk gate nu (av 0) (tw cy av tS tB ts tb tg tn) a1 a2 a3 a4 hv hnS hnB o g) (vx_cwSW 6 hts gL_law_L_swear rfl rfl rfl (by decide +kernel) ⟨Nat.le_of_ble_eq_true rfl, Nat.le_of_ble_eq_true rfl⟩) hK hV hZ hNc hP hD hS hA (xE_l) rfl hl.1 rfl (Nat.le_of_ble_eq_true rfl) dL_law_398 ⟨by show 15 + 120 * i + 0 + 2 ≤ 601024; omega, by show 187 + 700 * i + 0 + 14 ≤ 7293034; omega⟩ (fun u H locs _ hP hD hS => ?_)
    have hP : va_P D vwCl (((xw cy h ad nS nB st bk gate nu (av 0) (tw cy av tS tB ts tb tg tn)) ++ [(o, .inl (cy 4, 1, .inr (.inl g)))]) ++ (mw cy mb am thr nS nB st bk gate nu)) H := hP
    have hD : va_D (fun q : Nat => s.heap.size ≤ q) (((xw cy h ad nS nB st bk gate nu (av 0) (tw cy av tS tB ts tb tg tn)) ++ [(o, .inl (cy 4, 1, .inr (.inl g)))]) ++ (mw cy mb am thr nS nB st bk gate nu)) := hD
    refine W.eq (g2 := F0 m 401 ls [.int 1]) rfl ?_
    refine W.cs (cells' := 15 + 120 * i + 2) (slots' := 187 + 700 * i + 14) rfl rfl ?_
    refine lv_istore (lv' := [(5, .int 1), (0, .ref b), (1, .ref h), (2, .ref mb), (3, .ref o), (4, .int (nI (5 * i)))]) hx hb dL_law_401 hl (by decide) rfl (fun ls hl => ?_)
    refine lv_aload_n hx hb dL_law_403 rfl (lv_at hl 3 rfl) ?_
    refine lv_aload_n hx hb dL_law_404 rfl (lv_at hl 1 rfl) ?_
    refine lv_iload hx hb dL_law_405 (lv_at hl 5 rfl) ?_
    refine lv_iconst (v := 1) hx hb dL_law_407 (by decide) ?_
    refine lv_iadd hx hb dL_law_408 ?_
    refine W.eq (g2 := F0 m 409 ls [.int (nI (5 * i + 1)), .ref b, .ref mb]) (by rw [show nI (5 * i) + 1 = nI (5 * i + 1) from nI_add (5 * i) 1]) ?_
    refine va_sld hx hb hX hbl hbA hS (i := nI (5 * i + 1)) (vp_in_nI (by omega) (by omega)) dL_law_409 ?_
    refine W.eq (g2 := F0 m 410 ls [.int a1, .ref mb]) (by rw [nI_clamp (show 5 * i + 1 < 2 ^ 31 by omega), ← ea1]) ?_
    refine lv_aload_n hx hb dL_law_410 rfl (lv_at hl 1 rfl) ?_
    refine lv_iload hx hb dL_law_411 (lv_at hl 5 rfl) ?_
    refine lv_iconst (v := 2) hx hb dL_law_413 (by decide) ?_
    refine lv_iadd hx hb dL_law_414 ?_
    refine W.eq (g2 := F0 m 415 ls [.int (nI (5 * i + 2)), .ref b, .int a1, .ref mb]) (by rw [show nI (5 * i) + 2 = nI (5 * i + 2) from nI_add (5 * i) 2]) ?_
    refine va_sld hx hb hX hbl hbA hS (i := nI (5 * i + 2)) (vp_in_nI (by omega) (by omega)) dL_law_415 ?_
    refine W.eq (g2 := F0 m 416 ls [.int a2, .int a1, .ref mb]) (by rw [nI_clamp (show 5 * i + 2 < 2 ^ 31 by omega), ← ea2]) ?_
    refine lv_aload_n hx hb dL_law_416 rfl (lv_at hl 1 rfl) ?_
    refine lv_iload hx hb dL_law_417 (lv_at hl 5 rfl) ?_
    refine lv_iconst (v := 3) hx hb dL_law_419 (by decide) ?_
    refine lv_iadd hx hb dL_law_420 ?_
    refine W.eq (g2 := F0 m 421 ls [.int (nI (5 * i + 3)), .ref b, .int a2, .int a1, .ref mb]) (by rw [show nI (5 * i) + 3 = nI (5 * i + 3) from nI_add (5 * i) 3]) ?_
    refine va_sld hx hb hX hbl hbA hS (i := nI (5 * i + 3)) (vp_in_nI (by omega) (by omega)) dL_law_421 ?_
    refine W.eq (g2 := F0 m 422 ls [.int a3, .int a2, .int a1, .ref mb]) (by rw [nI_clamp (show 5 * i + 3 < 2 ^ 31 by omega), ← ea3]) ?_
    refine lv_aload_n hx hb dL_law_422 rfl (lv_at hl 1 rfl) ?_
    refine lv_iload hx hb dL_law_423 (lv_at hl 5 rfl) ?_
    refine lv_iconst (v := 4) hx hb dL_law_425 (by decide) ?_
    refine lv_iadd hx hb dL_law_426 ?_
    refine W.eq (g2 := F0 m 427 ls [.int (nI (5 * i + 4)), .ref b, .int a3, .int a2, .int a1, .ref mb]) (by rw [show nI (5 * i) + 4 = nI (5 * i + 4) from nI_add (5 * i) 4]) ?_
    refine va_sld hx hb hX hbl hbA hS (i := nI (5 * i + 4)) (vp_in_nI (by omega) (by omega)) dL_law_427 ?_
    refine W.eq (g2 := F0 m 428 ls [.int a4, .int a3, .int a2, .int a1, .ref mb]) (by rw [nI_clamp (show 5 * i + 4 < 2 ^ 31 by omega), ← ea4]) ?_
    refine xcV (As := [.int a1, .int a2, .int a3, .int a4]) (rest := []) ⟨hx, hb, hml, hown, hts⟩ (c_X4_swear_1 l D cy mb am thr nS nB st bk gate nu a1 a2 a3 a4 hv hnS) (cwV 4 hts gL_law_X4_swear rfl rfl rfl (by decide +kernel) ⟨Nat.le_of_ble_eq_true rfl, Nat.le_of_ble_eq_true rfl⟩) hK hP hD hS hA rfl rfl rfl (xE_r) rfl hl.1 rfl (Nat.le_of_ble_eq_true rfl) dL_law_428 ⟨by show 15 + 120 * i + 2 + 1 ≤ 601024; omega, by show 187 + 700 * i + 14 + 8 ≤ 7293034; omega⟩ (fun _ H locs _ hP hD hS => ?_)
    have hP : va_P D vwCl (((xw cy h ad nS nB st bk gate nu (av 0) (tw cy av tS tB ts tb tg tn)) ++ [(o, .inl (cy 4, 1, .inr (.inl g)))]) ++ (mw cy mb am 1 nS nB st bk gate nu)) H := hP
    have hD : va_D (fun q : Nat => s.heap.size ≤ q) (((xw cy h ad nS nB st bk gate nu (av 0) (tw cy av tS tB ts tb tg tn)) ++ [(o, .inl (cy 4, 1, .inr (.inl g)))]) ++ (mw cy mb am 1 nS nB st bk gate nu)) := hD
    refine W.eq (g2 := F0 m 431 ls [.int 0]) rfl ?_
    refine W.cs (cells' := 15 + 120 * i + 3) (slots' := 187 + 700 * i + 22) rfl rfl ?_
    refine lv_istore (lv' := [(6, .int 0), (5, .int 1), (0, .ref b), (1, .ref h), (2, .ref mb), (3, .ref o), (4, .int (nI (5 * i)))]) hx hb dL_law_431 hl (by decide) rfl (fun ls hl => ?_)
    refine lv_aload_n hx hb dL_law_433 rfl (lv_at hl 4 rfl) ?_
    refine xcV (As := []) (rest := []) ⟨hx, hb, hml, hown, hts⟩ (c_X4_thrown l D cy mb am 1 nS nB st bk gate nu) (cwV 0 hts gL_law_X4_thrown rfl rfl rfl (by decide +kernel) ⟨Nat.le_of_ble_eq_true rfl, Nat.le_of_ble_eq_true rfl⟩) hK hP hD hS hA rfl rfl rfl (xE_r) rfl hl.1 rfl (Nat.le_of_ble_eq_true rfl) dL_law_434 ⟨by show 15 + 120 * i + 3 + 0 ≤ 601024; omega, by show 187 + 700 * i + 22 + 0 ≤ 7293034; omega⟩ (fun _ H locs _ hP hD hS => ?_)
    have hP : va_P D vwCl (((xw cy h ad nS nB st bk gate nu (av 0) (tw cy av tS tB ts tb tg tn)) ++ [(o, .inl (cy 4, 1, .inr (.inl g)))]) ++ (mw cy mb am 1 nS nB st bk gate nu)) H := hP
    have hD : va_D (fun q : Nat => s.heap.size ≤ q) (((xw cy h ad nS nB st bk gate nu (av 0) (tw cy av tS tB ts tb tg tn)) ++ [(o, .inl (cy 4, 1, .inr (.inl g)))]) ++ (mw cy mb am 1 nS nB st bk gate nu)) := hD
    refine W.eq (g2 := F0 m 437 ls [.int 1]) rfl ?_
    refine W.cs (cells' := 15 + 120 * i + 3) (slots' := 187 + 700 * i + 22) rfl rfl ?_
    refine lv_iload hx hb dL_law_437 (lv_at hl 1 rfl) ?_
    refine lv_icmp_eq (tgt := 444) hx hb dL_law_439 (by decide) (fun _ => ?_) (fun z => absurd rfl z)
    refine lv_iload hx hb dL_law_444 (lv_at hl 1 rfl) ?_
    refine lv_if_ne (tgt := 461) hx hb dL_law_446 (by decide) (fun _ => ?_) (fun z => absurd z (by decide))
    refine lv_goto (tgt := 1159) hx hb dL_law_461 (by decide) ?_
    refine W.widen (k := 15 + 120 * (i + 1)) (n := 187 + 700 * (i + 1)) (by omega) (by omega) ?_
    exact KK ad av am 1 nS nB tS tB st bk ts tb gate nu tg tn g hq d0  _ _ _ hd0 hnS hnB htS htB (by omega) hI hP hD hS (lv_sub hl [2, 3, 4, 5, 6] rfl)

set_option maxHeartbeats 4000000 in
set_option maxRecDepth 100000 in
theorem l_case_deal {p : Program} {l : Launch} {e : Env} {s : State} {m : MethodId} {below : List Frame} {meth : Method} {c : Code} {b L : Nat} {xs : Nat → Int32} {D : va_G} {cy : Nat → ClassId} {sa : Nat → Nat} {h o mb i : Nat} (C1 : lwC p l s m meth c b L xs D cy sa) (hi : 5 * i + 5 ≤ L) (KK : lwS p l e s m below meth c b D cy h o mb 1159 i (i + 1)) : lwS p l e s m below meth c b D cy h o mb 464 i i := by
  obtain ⟨hst, C0, hK0, hV0, hZ0, hN0, hL⟩ := C1
  obtain ⟨hx, hb, hr, hml, hown, hts0, hX0, hbl, hlocks, hgv⟩ := id C0
  intro ad av am thr nS nB tS tB st bk ts tb gate nu tg tn g hq d0 H locs ls hd0 hnS hnB htS htB hhq hI hP hD hS hl
  unfold WW at hP hD
  have hbA : ¬ (fun q : Nat => s.heap.size ≤ q) b := Nat.not_le.mpr hbl
  have hA : ∀ q : Nat, s.heap.size ≤ q → (fun q : Nat => s.heap.size ≤ q) q := fun _ z => z
  have hts : ∀ w ∈ wsL_law, w.before #[Value.ref b] (s.setDrawn d0) = true := fun w z => dr_words hts0 d0 w (wsL_law_in w z)
  have hK := XK.same (s := s) (U := s.setDrawn d0) rfl hK0
  have hV := XV.same (s := s) (U := s.setDrawn d0) rfl hV0
  have hZ : xZ (fun q : Nat => s.heap.size ≤ q) (s.setDrawn d0) (s.setDrawn d0).heap := xZ.moved (Vm.Alike.refl _) hZ0
  have hNc : xNcs (s.setDrawn d0) := hN0.moved (Vm.Alike.refl _)
  have hX : va_X b L xs (s.setDrawn d0) s.heap := va_X.moved (Vm.Alike.refl _) hX0
  obtain ⟨a1, ea1⟩ : ∃ a, a = xs (5 * i + 1) := ⟨_, rfl⟩
  obtain ⟨a2, ea2⟩ : ∃ a, a = xs (5 * i + 2) := ⟨_, rfl⟩
  rcases Classical.em (vp_in a1 nB) with hv | hv
  · obtain ⟨bj, hbj, rfl⟩ := vp_in_of hv (by omega)
    rcases Decidable.em ((0 : Int32) ≤ a2 ∧ a2 ≤ 90) with h2 | h2
    · refine lv_aload_n hx hb dL_law_464 rfl (lv_at hl 1 rfl) ?_
      refine lv_aload_n hx hb dL_law_465 rfl (lv_at hl 0 rfl) ?_
      refine lv_iload hx hb dL_law_466 (lv_at hl 4 rfl) ?_
      refine lv_iconst (v := 1) hx hb dL_law_468 (by decide) ?_
      refine lv_iadd hx hb dL_law_469 ?_
      refine W.eq (g2 := F0 m 470 ls [.int (nI (5 * i + 1)), .ref b, .ref h]) (by rw [show nI (5 * i) + 1 = nI (5 * i + 1) from nI_add (5 * i) 1]) ?_
      refine va_sld hx hb hX hbl hbA hS (i := nI (5 * i + 1)) (vp_in_nI (by omega) (by omega)) dL_law_470 ?_
      refine W.eq (g2 := F0 m 471 ls [.int (nI bj), .ref h]) (by rw [nI_clamp (show 5 * i + 1 < 2 ^ 31 by omega), ← ea1]) ?_
      refine lv_aload_n hx hb dL_law_471 rfl (lv_at hl 0 rfl) ?_
      refine lv_iload hx hb dL_law_472 (lv_at hl 4 rfl) ?_
      refine lv_iconst (v := 2) hx hb dL_law_474 (by decide) ?_
      refine lv_iadd hx hb dL_law_475 ?_
      refine W.eq (g2 := F0 m 476 ls [.int (nI (5 * i + 2)), .ref b, .int (nI bj), .ref h]) (by rw [show nI (5 * i) + 2 = nI (5 * i + 2) from nI_add (5 * i) 2]) ?_
      refine va_sld hx hb hX hbl hbA hS (i := nI (5 * i + 2)) (vp_in_nI (by omega) (by omega)) dL_law_476 ?_
      refine W.eq (g2 := F0 m 477 ls [.int a2, .int (nI bj), .ref h]) (by rw [nI_clamp (show 5 * i + 2 < 2 ^ 31 by omega), ← ea2]) ?_
      refine lv_aload_n hx hb dL_law_477 rfl (lv_at hl 3 rfl) ?_
      refine xcL (As := [.ref h, .int (nI bj), .int a2, .ref o]) (rest := []) ⟨hx, hb, hml, hown, hts⟩ (c_L_deal l D cy sa h ad nS nB st bk gate nu (av 0) (tw cy av tS tB ts tb tg tn) bj hbj a2 h2 hnS hnB o g) (vx_cwSW 4 hts gL_law_L_deal rfl rfl rfl (by decide +kernel) ⟨Nat.le_of_ble_eq_true rfl, Nat.le_of_ble_eq_true rfl⟩) hK hV hZ hNc hP hD hS hA (xE_l) rfl hl.1 rfl (Nat.le_of_ble_eq_true rfl) dL_law_478 ⟨by show 15 + 120 * i + 0 + 1 ≤ 601024; omega, by show 187 + 700 * i + 0 + 6 ≤ 7293034; omega⟩ (fun u H locs _ hP hD hS => ?_)
      have hP : va_P D vwCl (((xw cy h ad nS nB st (va_up bk bj (upd (bk bj) 2 a2)) gate nu (av 0) (tw cy av tS tB ts tb tg tn)) ++ [(o, .inl (cy 4, 1, .inr (.inl (vp_updL g 0 ((bk bj 2).toInt64)))))]) ++ (mw cy mb am thr nS nB st bk gate nu)) H := hP
      have hD : va_D (fun q : Nat => s.heap.size ≤ q) (((xw cy h ad nS nB st (va_up bk bj (upd (bk bj) 2 a2)) gate nu (av 0) (tw cy av tS tB ts tb tg tn)) ++ [(o, .inl (cy 4, 1, .inr (.inl (vp_updL g 0 ((bk bj 2).toInt64)))))]) ++ (mw cy mb am thr nS nB st bk gate nu)) := hD
      refine W.eq (g2 := F0 m 481 ls [.int 0]) rfl ?_
      refine W.cs (cells' := 15 + 120 * i + 1) (slots' := 187 + 700 * i + 6) rfl rfl ?_
      refine lv_istore (lv' := [(5, .int 0), (0, .ref b), (1, .ref h), (2, .ref mb), (3, .ref o), (4, .int (nI (5 * i)))]) hx hb dL_law_481 hl (by decide) rfl (fun ls hl => ?_)
      refine lv_aload_n hx hb dL_law_483 rfl (lv_at hl 3 rfl) ?_
      refine lv_aload_n hx hb dL_law_484 rfl (lv_at hl 1 rfl) ?_
      refine lv_iload hx hb dL_law_485 (lv_at hl 5 rfl) ?_
      refine lv_iconst (v := 1) hx hb dL_law_487 (by decide) ?_
      refine lv_iadd hx hb dL_law_488 ?_
      refine W.eq (g2 := F0 m 489 ls [.int (nI (5 * i + 1)), .ref b, .ref mb]) (by rw [show nI (5 * i) + 1 = nI (5 * i + 1) from nI_add (5 * i) 1]) ?_
      refine va_sld hx hb hX hbl hbA hS (i := nI (5 * i + 1)) (vp_in_nI (by omega) (by omega)) dL_law_489 ?_
      refine W.eq (g2 := F0 m 490 ls [.int (nI bj), .ref mb]) (by rw [nI_clamp (show 5 * i + 1 < 2 ^ 31 by omega), ← ea1]) ?_
      refine lv_aload_n hx hb dL_law_490 rfl (lv_at hl 1 rfl) ?_
      refine lv_iload hx hb dL_law_491 (lv_at hl 5 rfl) ?_
      refine lv_iconst (v := 2) hx hb dL_law_493 (by decide) ?_
      refine lv_iadd hx hb dL_law_494 ?_
      refine W.eq (g2 := F0 m 495 ls [.int (nI (5 * i + 2)), .ref b, .int (nI bj), .ref mb]) (by rw [show nI (5 * i) + 2 = nI (5 * i + 2) from nI_add (5 * i) 2]) ?_
      refine va_sld hx hb hX hbl hbA hS (i := nI (5 * i + 2)) (vp_in_nI (by omega) (by omega)) dL_law_495 ?_
      refine W.eq (g2 := F0 m 496 ls [.int a2, .int (nI bj), .ref mb]) (by rw [nI_clamp (show 5 * i + 2 < 2 ^ 31 by omega), ← ea2]) ?_
      refine xcV (As := [.int (nI bj), .int a2]) (rest := []) ⟨hx, hb, hml, hown, hts⟩ (c_X4_deal l D cy mb am thr nS nB st bk gate nu bj hbj a2 h2 hnB) (cwV 2 hts gL_law_X4_deal rfl rfl rfl (by decide +kernel) ⟨Nat.le_of_ble_eq_true rfl, Nat.le_of_ble_eq_true rfl⟩) hK hP hD hS hA rfl rfl rfl (xE_r) rfl hl.1 rfl (Nat.le_of_ble_eq_true rfl) dL_law_496 ⟨by show 15 + 120 * i + 1 + 0 ≤ 601024; omega, by show 187 + 700 * i + 6 + 0 ≤ 7293034; omega⟩ (fun _ H locs _ hP hD hS => ?_)
      have hP : va_P D vwCl (((xw cy h ad nS nB st (va_up bk bj (upd (bk bj) 2 a2)) gate nu (av 0) (tw cy av tS tB ts tb tg tn)) ++ [(o, .inl (cy 4, 1, .inr (.inl (vp_updL g 0 ((bk bj 2).toInt64)))))]) ++ (mw cy mb am 0 nS nB st (va_up bk bj (upd (bk bj) 2 a2)) gate nu)) H := hP
      have hD : va_D (fun q : Nat => s.heap.size ≤ q) (((xw cy h ad nS nB st (va_up bk bj (upd (bk bj) 2 a2)) gate nu (av 0) (tw cy av tS tB ts tb tg tn)) ++ [(o, .inl (cy 4, 1, .inr (.inl (vp_updL g 0 ((bk bj 2).toInt64)))))]) ++ (mw cy mb am 0 nS nB st (va_up bk bj (upd (bk bj) 2 a2)) gate nu)) := hD
      refine W.eq (g2 := F0 m 499 ls [.int (bk bj 2)]) rfl ?_
      refine W.cs (cells' := 15 + 120 * i + 1) (slots' := 187 + 700 * i + 6) rfl rfl ?_
      refine lv_istore (lv' := [(6, .int (bk bj 2)), (5, .int 0), (0, .ref b), (1, .ref h), (2, .ref mb), (3, .ref o), (4, .int (nI (5 * i)))]) hx hb dL_law_499 hl (by decide) rfl (fun ls hl => ?_)
      refine lv_aload_n hx hb dL_law_501 rfl (lv_at hl 4 rfl) ?_
      refine xcV (As := []) (rest := []) ⟨hx, hb, hml, hown, hts⟩ (c_X4_thrown l D cy mb am 0 nS nB st (va_up bk bj (upd (bk bj) 2 a2)) gate nu) (cwV 0 hts gL_law_X4_thrown rfl rfl rfl (by decide +kernel) ⟨Nat.le_of_ble_eq_true rfl, Nat.le_of_ble_eq_true rfl⟩) hK hP hD hS hA rfl rfl rfl (xE_r) rfl hl.1 rfl (Nat.le_of_ble_eq_true rfl) dL_law_502 ⟨by show 15 + 120 * i + 1 + 0 ≤ 601024; omega, by show 187 + 700 * i + 6 + 0 ≤ 7293034; omega⟩ (fun _ H locs _ hP hD hS => ?_)
      have hP : va_P D vwCl (((xw cy h ad nS nB st (va_up bk bj (upd (bk bj) 2 a2)) gate nu (av 0) (tw cy av tS tB ts tb tg tn)) ++ [(o, .inl (cy 4, 1, .inr (.inl (vp_updL g 0 ((bk bj 2).toInt64)))))]) ++ (mw cy mb am 0 nS nB st (va_up bk bj (upd (bk bj) 2 a2)) gate nu)) H := hP
      have hD : va_D (fun q : Nat => s.heap.size ≤ q) (((xw cy h ad nS nB st (va_up bk bj (upd (bk bj) 2 a2)) gate nu (av 0) (tw cy av tS tB ts tb tg tn)) ++ [(o, .inl (cy 4, 1, .inr (.inl (vp_updL g 0 ((bk bj 2).toInt64)))))]) ++ (mw cy mb am 0 nS nB st (va_up bk bj (upd (bk bj) 2 a2)) gate nu)) := hD
      refine W.eq (g2 := F0 m 505 ls [.int 0]) rfl ?_
      refine W.cs (cells' := 15 + 120 * i + 1) (slots' := 187 + 700 * i + 6) rfl rfl ?_
      refine lv_iload hx hb dL_law_505 (lv_at hl 1 rfl) ?_
      refine lv_icmp_eq (tgt := 512) hx hb dL_law_507 (by decide) (fun _ => ?_) (fun z => absurd rfl z)
      refine lv_iload hx hb dL_law_512 (lv_at hl 1 rfl) ?_
      refine lv_if_ne (tgt := 529) hx hb dL_law_514 (by decide) (fun z => absurd rfl z) (fun _ => ?_)
      refine lv_aload_n hx hb dL_law_517 rfl (lv_at hl 5 rfl) ?_
      refine lv_iconst (v := 0) hx hb dL_law_518 (by decide) ?_
      refine va_lald hx hb hK.1 hP _ 4 (at_l last_at) rfl (i := 0) (vp_in_nI (n := 0) (by decide) (by decide)) dL_law_519 ?_
      refine W.eq (g2 := F0 m 520 ls [.long ((bk bj 2).toInt64)]) rfl ?_
      refine lv_iload hx hb dL_law_520 (lv_at hl 0 rfl) ?_
      refine lv_i2l (v := (bk bj 2).toInt64) hx hb dL_law_522 rfl ?_
      refine W.lcmp hx hb dL_law_523 ?_
      refine W.eq (g2 := F0 m 524 ls [.int 0]) (by rw [lg_same]) ?_
      refine lv_if_eq (tgt := 529) hx hb dL_law_524 (by decide) (fun _ => ?_) (fun z => absurd rfl z)
      refine lv_goto (tgt := 1159) hx hb dL_law_529 (by decide) ?_
      refine W.widen (k := 15 + 120 * (i + 1)) (n := 187 + 700 * (i + 1)) (by omega) (by omega) ?_
      exact KK ad av am 0 nS nB tS tB st (va_up bk bj (upd (bk bj) 2 a2)) ts tb gate nu tg tn (vp_updL g 0 ((bk bj 2).toInt64)) hq d0  _ _ _ hd0 hnS hnB htS htB (by omega) (inv_bk hI (bOK_ration (hI.2.1 bj hbj) (rg90 h2))) hP hD hS (lv_sub hl [2, 3, 4, 5, 6] rfl)
    · refine lv_aload_n hx hb dL_law_464 rfl (lv_at hl 1 rfl) ?_
      refine lv_aload_n hx hb dL_law_465 rfl (lv_at hl 0 rfl) ?_
      refine lv_iload hx hb dL_law_466 (lv_at hl 4 rfl) ?_
      refine lv_iconst (v := 1) hx hb dL_law_468 (by decide) ?_
      refine lv_iadd hx hb dL_law_469 ?_
      refine W.eq (g2 := F0 m 470 ls [.int (nI (5 * i + 1)), .ref b, .ref h]) (by rw [show nI (5 * i) + 1 = nI (5 * i + 1) from nI_add (5 * i) 1]) ?_
      refine va_sld hx hb hX hbl hbA hS (i := nI (5 * i + 1)) (vp_in_nI (by omega) (by omega)) dL_law_470 ?_
      refine W.eq (g2 := F0 m 471 ls [.int (nI bj), .ref h]) (by rw [nI_clamp (show 5 * i + 1 < 2 ^ 31 by omega), ← ea1]) ?_
      refine lv_aload_n hx hb dL_law_471 rfl (lv_at hl 0 rfl) ?_
      refine lv_iload hx hb dL_law_472 (lv_at hl 4 rfl) ?_
      refine lv_iconst (v := 2) hx hb dL_law_474 (by decide) ?_
      refine lv_iadd hx hb dL_law_475 ?_
      refine W.eq (g2 := F0 m 476 ls [.int (nI (5 * i + 2)), .ref b, .int (nI bj), .ref h]) (by rw [show nI (5 * i) + 2 = nI (5 * i + 2) from nI_add (5 * i) 2]) ?_
      refine va_sld hx hb hX hbl hbA hS (i := nI (5 * i + 2)) (vp_in_nI (by omega) (by omega)) dL_law_476 ?_
      refine W.eq (g2 := F0 m 477 ls [.int a2, .int (nI bj), .ref h]) (by rw [nI_clamp (show 5 * i + 2 < 2 ^ 31 by omega), ← ea2]) ?_
      refine lv_aload_n hx hb dL_law_477 rfl (lv_at hl 3 rfl) ?_
      refine xcL (As := [.ref h, .int (nI bj), .int a2, .ref o]) (rest := []) ⟨hx, hb, hml, hown, hts⟩ (c_L_deal_2 l hst D cy sa h ad nS nB st bk gate nu (av 0) (tw cy av tS tB ts tb tg tn) bj hbj a2 h2 hnS hnB o g) (vx_cwSW 4 hts gL_law_L_deal rfl rfl rfl (by decide +kernel) ⟨Nat.le_of_ble_eq_true rfl, Nat.le_of_ble_eq_true rfl⟩) hK hV hZ hNc hP hD hS hA (xE_l) rfl hl.1 rfl (Nat.le_of_ble_eq_true rfl) dL_law_478 ⟨by show 15 + 120 * i + 0 + 1 ≤ 601024; omega, by show 187 + 700 * i + 0 + 6 ≤ 7293034; omega⟩ (fun u H locs _ hP hD hS => ?_)
      have hP : va_P D vwCl (((xw cy h ad nS nB st bk gate nu (av 0) (tw cy av tS tB ts tb tg tn)) ++ [(o, .inl (cy 4, 1, .inr (.inl g)))]) ++ (mw cy mb am thr nS nB st bk gate nu)) H := hP
      have hD : va_D (fun q : Nat => s.heap.size ≤ q) (((xw cy h ad nS nB st bk gate nu (av 0) (tw cy av tS tB ts tb tg tn)) ++ [(o, .inl (cy 4, 1, .inr (.inl g)))]) ++ (mw cy mb am thr nS nB st bk gate nu)) := hD
      refine W.eq (g2 := F0 m 481 ls [.int 2]) rfl ?_
      refine W.cs (cells' := 15 + 120 * i + 1) (slots' := 187 + 700 * i + 6) rfl rfl ?_
      refine lv_istore (lv' := [(5, .int 2), (0, .ref b), (1, .ref h), (2, .ref mb), (3, .ref o), (4, .int (nI (5 * i)))]) hx hb dL_law_481 hl (by decide) rfl (fun ls hl => ?_)
      refine lv_aload_n hx hb dL_law_483 rfl (lv_at hl 3 rfl) ?_
      refine lv_aload_n hx hb dL_law_484 rfl (lv_at hl 1 rfl) ?_
      refine lv_iload hx hb dL_law_485 (lv_at hl 5 rfl) ?_
      refine lv_iconst (v := 1) hx hb dL_law_487 (by decide) ?_
      refine lv_iadd hx hb dL_law_488 ?_
      refine W.eq (g2 := F0 m 489 ls [.int (nI (5 * i + 1)), .ref b, .ref mb]) (by rw [show nI (5 * i) + 1 = nI (5 * i + 1) from nI_add (5 * i) 1]) ?_
      refine va_sld hx hb hX hbl hbA hS (i := nI (5 * i + 1)) (vp_in_nI (by omega) (by omega)) dL_law_489 ?_
      refine W.eq (g2 := F0 m 490 ls [.int (nI bj), .ref mb]) (by rw [nI_clamp (show 5 * i + 1 < 2 ^ 31 by omega), ← ea1]) ?_
      refine lv_aload_n hx hb dL_law_490 rfl (lv_at hl 1 rfl) ?_
      refine lv_iload hx hb dL_law_491 (lv_at hl 5 rfl) ?_
      refine lv_iconst (v := 2) hx hb dL_law_493 (by decide) ?_
      refine lv_iadd hx hb dL_law_494 ?_
      refine W.eq (g2 := F0 m 495 ls [.int (nI (5 * i + 2)), .ref b, .int (nI bj), .ref mb]) (by rw [show nI (5 * i) + 2 = nI (5 * i + 2) from nI_add (5 * i) 2]) ?_
      refine va_sld hx hb hX hbl hbA hS (i := nI (5 * i + 2)) (vp_in_nI (by omega) (by omega)) dL_law_495 ?_
      refine W.eq (g2 := F0 m 496 ls [.int a2, .int (nI bj), .ref mb]) (by rw [nI_clamp (show 5 * i + 2 < 2 ^ 31 by omega), ← ea2]) ?_
      refine xcV (As := [.int (nI bj), .int a2]) (rest := []) ⟨hx, hb, hml, hown, hts⟩ (c_X4_deal_2 l D cy mb am thr nS nB st bk gate nu bj hbj a2 h2 hnB) (cwV 2 hts gL_law_X4_deal rfl rfl rfl (by decide +kernel) ⟨Nat.le_of_ble_eq_true rfl, Nat.le_of_ble_eq_true rfl⟩) hK hP hD hS hA rfl rfl rfl (xE_r) rfl hl.1 rfl (Nat.le_of_ble_eq_true rfl) dL_law_496 ⟨by show 15 + 120 * i + 1 + 0 ≤ 601024; omega, by show 187 + 700 * i + 6 + 0 ≤ 7293034; omega⟩ (fun _ H locs _ hP hD hS => ?_)
      have hP : va_P D vwCl (((xw cy h ad nS nB st bk gate nu (av 0) (tw cy av tS tB ts tb tg tn)) ++ [(o, .inl (cy 4, 1, .inr (.inl g)))]) ++ (mw cy mb am 2 nS nB st bk gate nu)) H := hP
      have hD : va_D (fun q : Nat => s.heap.size ≤ q) (((xw cy h ad nS nB st bk gate nu (av 0) (tw cy av tS tB ts tb tg tn)) ++ [(o, .inl (cy 4, 1, .inr (.inl g)))]) ++ (mw cy mb am 2 nS nB st bk gate nu)) := hD
      refine W.eq (g2 := F0 m 499 ls [.int 0]) rfl ?_
      refine W.cs (cells' := 15 + 120 * i + 1) (slots' := 187 + 700 * i + 6) rfl rfl ?_
      refine lv_istore (lv' := [(6, .int 0), (5, .int 2), (0, .ref b), (1, .ref h), (2, .ref mb), (3, .ref o), (4, .int (nI (5 * i)))]) hx hb dL_law_499 hl (by decide) rfl (fun ls hl => ?_)
      refine lv_aload_n hx hb dL_law_501 rfl (lv_at hl 4 rfl) ?_
      refine xcV (As := []) (rest := []) ⟨hx, hb, hml, hown, hts⟩ (c_X4_thrown l D cy mb am 2 nS nB st bk gate nu) (cwV 0 hts gL_law_X4_thrown rfl rfl rfl (by decide +kernel) ⟨Nat.le_of_ble_eq_true rfl, Nat.le_of_ble_eq_true rfl⟩) hK hP hD hS hA rfl rfl rfl (xE_r) rfl hl.1 rfl (Nat.le_of_ble_eq_true rfl) dL_law_502 ⟨by show 15 + 120 * i + 1 + 0 ≤ 601024; omega, by show 187 + 700 * i + 6 + 0 ≤ 7293034; omega⟩ (fun _ H locs _ hP hD hS => ?_)
      have hP : va_P D vwCl (((xw cy h ad nS nB st bk gate nu (av 0) (tw cy av tS tB ts tb tg tn)) ++ [(o, .inl (cy 4, 1, .inr (.inl g)))]) ++ (mw cy mb am 2 nS nB st bk gate nu)) H := hP
      have hD : va_D (fun q : Nat => s.heap.size ≤ q) (((xw cy h ad nS nB st bk gate nu (av 0) (tw cy av tS tB ts tb tg tn)) ++ [(o, .inl (cy 4, 1, .inr (.inl g)))]) ++ (mw cy mb am 2 nS nB st bk gate nu)) := hD
      refine W.eq (g2 := F0 m 505 ls [.int 2]) rfl ?_
      refine W.cs (cells' := 15 + 120 * i + 1) (slots' := 187 + 700 * i + 6) rfl rfl ?_
      refine lv_iload hx hb dL_law_505 (lv_at hl 1 rfl) ?_
      refine lv_icmp_eq (tgt := 512) hx hb dL_law_507 (by decide) (fun _ => ?_) (fun z => absurd rfl z)
      refine lv_iload hx hb dL_law_512 (lv_at hl 1 rfl) ?_
      refine lv_if_ne (tgt := 529) hx hb dL_law_514 (by decide) (fun _ => ?_) (fun z => absurd z (by decide))
      refine lv_goto (tgt := 1159) hx hb dL_law_529 (by decide) ?_
      refine W.widen (k := 15 + 120 * (i + 1)) (n := 187 + 700 * (i + 1)) (by omega) (by omega) ?_
      exact KK ad av am 2 nS nB tS tB st bk ts tb gate nu tg tn g hq d0  _ _ _ hd0 hnS hnB htS htB (by omega) hI hP hD hS (lv_sub hl [2, 3, 4, 5, 6] rfl)
  · refine lv_aload_n hx hb dL_law_464 rfl (lv_at hl 1 rfl) ?_
    refine lv_aload_n hx hb dL_law_465 rfl (lv_at hl 0 rfl) ?_
    refine lv_iload hx hb dL_law_466 (lv_at hl 4 rfl) ?_
    refine lv_iconst (v := 1) hx hb dL_law_468 (by decide) ?_
    refine lv_iadd hx hb dL_law_469 ?_
    refine W.eq (g2 := F0 m 470 ls [.int (nI (5 * i + 1)), .ref b, .ref h]) (by rw [show nI (5 * i) + 1 = nI (5 * i + 1) from nI_add (5 * i) 1]) ?_
    refine va_sld hx hb hX hbl hbA hS (i := nI (5 * i + 1)) (vp_in_nI (by omega) (by omega)) dL_law_470 ?_
    refine W.eq (g2 := F0 m 471 ls [.int a1, .ref h]) (by rw [nI_clamp (show 5 * i + 1 < 2 ^ 31 by omega), ← ea1]) ?_
    refine lv_aload_n hx hb dL_law_471 rfl (lv_at hl 0 rfl) ?_
    refine lv_iload hx hb dL_law_472 (lv_at hl 4 rfl) ?_
    refine lv_iconst (v := 2) hx hb dL_law_474 (by decide) ?_
    refine lv_iadd hx hb dL_law_475 ?_
    refine W.eq (g2 := F0 m 476 ls [.int (nI (5 * i + 2)), .ref b, .int a1, .ref h]) (by rw [show nI (5 * i) + 2 = nI (5 * i + 2) from nI_add (5 * i) 2]) ?_
    refine va_sld hx hb hX hbl hbA hS (i := nI (5 * i + 2)) (vp_in_nI (by omega) (by omega)) dL_law_476 ?_
    refine W.eq (g2 := F0 m 477 ls [.int a2, .int a1, .ref h]) (by rw [nI_clamp (show 5 * i + 2 < 2 ^ 31 by omega), ← ea2]) ?_
    refine lv_aload_n hx hb dL_law_477 rfl (lv_at hl 3 rfl) ?_
    refine xcL (As := [.ref h, .int a1, .int a2, .ref o]) (rest := []) ⟨hx, hb, hml, hown, hts⟩ (c_L_deal_1 l hst D cy sa h ad nS nB st bk gate nu (av 0) (tw cy av tS tB ts tb tg tn) a1 a2 hv hnS hnB o g) (vx_cwSW 4 hts gL_law_L_deal rfl rfl rfl (by decide +kernel) ⟨Nat.le_of_ble_eq_true rfl, Nat.le_of_ble_eq_true rfl⟩) hK hV hZ hNc hP hD hS hA (xE_l) rfl hl.1 rfl (Nat.le_of_ble_eq_true rfl) dL_law_478 ⟨by show 15 + 120 * i + 0 + 1 ≤ 601024; omega, by show 187 + 700 * i + 0 + 6 ≤ 7293034; omega⟩ (fun u H locs _ hP hD hS => ?_)
    have hP : va_P D vwCl (((xw cy h ad nS nB st bk gate nu (av 0) (tw cy av tS tB ts tb tg tn)) ++ [(o, .inl (cy 4, 1, .inr (.inl g)))]) ++ (mw cy mb am thr nS nB st bk gate nu)) H := hP
    have hD : va_D (fun q : Nat => s.heap.size ≤ q) (((xw cy h ad nS nB st bk gate nu (av 0) (tw cy av tS tB ts tb tg tn)) ++ [(o, .inl (cy 4, 1, .inr (.inl g)))]) ++ (mw cy mb am thr nS nB st bk gate nu)) := hD
    refine W.eq (g2 := F0 m 481 ls [.int 1]) rfl ?_
    refine W.cs (cells' := 15 + 120 * i + 1) (slots' := 187 + 700 * i + 6) rfl rfl ?_
    refine lv_istore (lv' := [(5, .int 1), (0, .ref b), (1, .ref h), (2, .ref mb), (3, .ref o), (4, .int (nI (5 * i)))]) hx hb dL_law_481 hl (by decide) rfl (fun ls hl => ?_)
    refine lv_aload_n hx hb dL_law_483 rfl (lv_at hl 3 rfl) ?_
    refine lv_aload_n hx hb dL_law_484 rfl (lv_at hl 1 rfl) ?_
    refine lv_iload hx hb dL_law_485 (lv_at hl 5 rfl) ?_
    refine lv_iconst (v := 1) hx hb dL_law_487 (by decide) ?_
    refine lv_iadd hx hb dL_law_488 ?_
    refine W.eq (g2 := F0 m 489 ls [.int (nI (5 * i + 1)), .ref b, .ref mb]) (by rw [show nI (5 * i) + 1 = nI (5 * i + 1) from nI_add (5 * i) 1]) ?_
    refine va_sld hx hb hX hbl hbA hS (i := nI (5 * i + 1)) (vp_in_nI (by omega) (by omega)) dL_law_489 ?_
    refine W.eq (g2 := F0 m 490 ls [.int a1, .ref mb]) (by rw [nI_clamp (show 5 * i + 1 < 2 ^ 31 by omega), ← ea1]) ?_
    refine lv_aload_n hx hb dL_law_490 rfl (lv_at hl 1 rfl) ?_
    refine lv_iload hx hb dL_law_491 (lv_at hl 5 rfl) ?_
    refine lv_iconst (v := 2) hx hb dL_law_493 (by decide) ?_
    refine lv_iadd hx hb dL_law_494 ?_
    refine W.eq (g2 := F0 m 495 ls [.int (nI (5 * i + 2)), .ref b, .int a1, .ref mb]) (by rw [show nI (5 * i) + 2 = nI (5 * i + 2) from nI_add (5 * i) 2]) ?_
    refine va_sld hx hb hX hbl hbA hS (i := nI (5 * i + 2)) (vp_in_nI (by omega) (by omega)) dL_law_495 ?_
    refine W.eq (g2 := F0 m 496 ls [.int a2, .int a1, .ref mb]) (by rw [nI_clamp (show 5 * i + 2 < 2 ^ 31 by omega), ← ea2]) ?_
    refine xcV (As := [.int a1, .int a2]) (rest := []) ⟨hx, hb, hml, hown, hts⟩ (c_X4_deal_1 l D cy mb am thr nS nB st bk gate nu a1 a2 hv hnB) (cwV 2 hts gL_law_X4_deal rfl rfl rfl (by decide +kernel) ⟨Nat.le_of_ble_eq_true rfl, Nat.le_of_ble_eq_true rfl⟩) hK hP hD hS hA rfl rfl rfl (xE_r) rfl hl.1 rfl (Nat.le_of_ble_eq_true rfl) dL_law_496 ⟨by show 15 + 120 * i + 1 + 0 ≤ 601024; omega, by show 187 + 700 * i + 6 + 0 ≤ 7293034; omega⟩ (fun _ H locs _ hP hD hS => ?_)
    have hP : va_P D vwCl (((xw cy h ad nS nB st bk gate nu (av 0) (tw cy av tS tB ts tb tg tn)) ++ [(o, .inl (cy 4, 1, .inr (.inl g)))]) ++ (mw cy mb am 1 nS nB st bk gate nu)) H := hP
    have hD : va_D (fun q : Nat => s.heap.size ≤ q) (((xw cy h ad nS nB st bk gate nu (av 0) (tw cy av tS tB ts tb tg tn)) ++ [(o, .inl (cy 4, 1, .inr (.inl g)))]) ++ (mw cy mb am 1 nS nB st bk gate nu)) := hD
    refine W.eq (g2 := F0 m 499 ls [.int 0]) rfl ?_
    refine W.cs (cells' := 15 + 120 * i + 1) (slots' := 187 + 700 * i + 6) rfl rfl ?_
    refine lv_istore (lv' := [(6, .int 0), (5, .int 1), (0, .ref b), (1, .ref h), (2, .ref mb), (3, .ref o), (4, .int (nI (5 * i)))]) hx hb dL_law_499 hl (by decide) rfl (fun ls hl => ?_)
    refine lv_aload_n hx hb dL_law_501 rfl (lv_at hl 4 rfl) ?_
    refine xcV (As := []) (rest := []) ⟨hx, hb, hml, hown, hts⟩ (c_X4_thrown l D cy mb am 1 nS nB st bk gate nu) (cwV 0 hts gL_law_X4_thrown rfl rfl rfl (by decide +kernel) ⟨Nat.le_of_ble_eq_true rfl, Nat.le_of_ble_eq_true rfl⟩) hK hP hD hS hA rfl rfl rfl (xE_r) rfl hl.1 rfl (Nat.le_of_ble_eq_true rfl) dL_law_502 ⟨by show 15 + 120 * i + 1 + 0 ≤ 601024; omega, by show 187 + 700 * i + 6 + 0 ≤ 7293034; omega⟩ (fun _ H locs _ hP hD hS => ?_)
    have hP : va_P D vwCl (((xw cy h ad nS nB st bk gate nu (av 0) (tw cy av tS tB ts tb tg tn)) ++ [(o, .inl (cy 4, 1, .inr (.inl g)))]) ++ (mw cy mb am 1 nS nB st bk gate nu)) H := hP
    have hD : va_D (fun q : Nat => s.heap.size ≤ q) (((xw cy h ad nS nB st bk gate nu (av 0) (tw cy av tS tB ts tb tg tn)) ++ [(o, .inl (cy 4, 1, .inr (.inl g)))]) ++ (mw cy mb am 1 nS nB st bk gate nu)) := hD
    refine W.eq (g2 := F0 m 505 ls [.int 1]) rfl ?_
    refine W.cs (cells' := 15 + 120 * i + 1) (slots' := 187 + 700 * i + 6) rfl rfl ?_
    refine lv_iload hx hb dL_law_505 (lv_at hl 1 rfl) ?_
    refine lv_icmp_eq (tgt := 512) hx hb dL_law_507 (by decide) (fun _ => ?_) (fun z => absurd rfl z)
    refine lv_iload hx hb dL_law_512 (lv_at hl 1 rfl) ?_
    refine lv_if_ne (tgt := 529) hx hb dL_law_514 (by decide) (fun _ => ?_) (fun z => absurd z (by decide))
    refine lv_goto (tgt := 1159) hx hb dL_law_529 (by decide) ?_
    refine W.widen (k := 15 + 120 * (i + 1)) (n := 187 + 700 * (i + 1)) (by omega) (by omega) ?_
    exact KK ad av am 1 nS nB tS tB st bk ts tb gate nu tg tn g hq d0  _ _ _ hd0 hnS hnB htS htB (by omega) hI hP hD hS (lv_sub hl [2, 3, 4, 5, 6] rfl)

set_option maxHeartbeats 4000000 in
set_option maxRecDepth 100000 in
theorem l_case_weigh {p : Program} {l : Launch} {e : Env} {s : State} {m : MethodId} {below : List Frame} {meth : Method} {c : Code} {b L : Nat} {xs : Nat → Int32} {D : va_G} {cy : Nat → ClassId} {sa : Nat → Nat} {h o mb i : Nat} (C1 : lwC p l s m meth c b L xs D cy sa) (hi : 5 * i + 5 ≤ L) (KK : lwS p l e s m below meth c b D cy h o mb 1159 i (i + 1)) : lwS p l e s m below meth c b D cy h o mb 532 i i := by
  obtain ⟨hst, C0, hK0, hV0, hZ0, hN0, hL⟩ := C1
  obtain ⟨hx, hb, hr, hml, hown, hts0, hX0, hbl, hlocks, hgv⟩ := id C0
  intro ad av am thr nS nB tS tB st bk ts tb gate nu tg tn g hq d0 H locs ls hd0 hnS hnB htS htB hhq hI hP hD hS hl
  unfold WW at hP hD
  have hbA : ¬ (fun q : Nat => s.heap.size ≤ q) b := Nat.not_le.mpr hbl
  have hA : ∀ q : Nat, s.heap.size ≤ q → (fun q : Nat => s.heap.size ≤ q) q := fun _ z => z
  have hts : ∀ w ∈ wsL_law, w.before #[Value.ref b] (s.setDrawn d0) = true := fun w z => dr_words hts0 d0 w (wsL_law_in w z)
  have hK := XK.same (s := s) (U := s.setDrawn d0) rfl hK0
  have hV := XV.same (s := s) (U := s.setDrawn d0) rfl hV0
  have hZ : xZ (fun q : Nat => s.heap.size ≤ q) (s.setDrawn d0) (s.setDrawn d0).heap := xZ.moved (Vm.Alike.refl _) hZ0
  have hNc : xNcs (s.setDrawn d0) := hN0.moved (Vm.Alike.refl _)
  have hX : va_X b L xs (s.setDrawn d0) s.heap := va_X.moved (Vm.Alike.refl _) hX0
  obtain ⟨a1, ea1⟩ : ∃ a, a = xs (5 * i + 1) := ⟨_, rfl⟩
  rcases Classical.em (vp_in a1 nB) with hv | hv
  · obtain ⟨bj, hbj, rfl⟩ := vp_in_of hv (by omega)
    have hpi := pos_iff (hI.2.1 bj hbj).2.2.2.2.2
    rcases Decidable.em (bk bj 5 = 0) with h2 | h2
    · refine lv_aload_n hx hb dL_law_532 rfl (lv_at hl 1 rfl) ?_
      refine lv_aload_n hx hb dL_law_533 rfl (lv_at hl 0 rfl) ?_
      refine lv_iload hx hb dL_law_534 (lv_at hl 4 rfl) ?_
      refine lv_iconst (v := 1) hx hb dL_law_536 (by decide) ?_
      refine lv_iadd hx hb dL_law_537 ?_
      refine W.eq (g2 := F0 m 538 ls [.int (nI (5 * i + 1)), .ref b, .ref h]) (by rw [show nI (5 * i) + 1 = nI (5 * i + 1) from nI_add (5 * i) 1]) ?_
      refine va_sld hx hb hX hbl hbA hS (i := nI (5 * i + 1)) (vp_in_nI (by omega) (by omega)) dL_law_538 ?_
      refine W.eq (g2 := F0 m 539 ls [.int (nI bj), .ref h]) (by rw [nI_clamp (show 5 * i + 1 < 2 ^ 31 by omega), ← ea1]) ?_
      refine lv_aload_n hx hb dL_law_539 rfl (lv_at hl 3 rfl) ?_
      refine xcL (As := [.ref h, .int (nI bj), .ref o]) (rest := []) ⟨hx, hb, hml, hown, hts⟩ (c_L_weigh_2 l hst D cy sa h ad nS nB st bk gate nu (av 0) (tw cy av tS tB ts tb tg tn) bj hbj (fun z => hpi.mp z h2) hnS hnB o g) (vx_cwSW 3 hts gL_law_L_weigh rfl rfl rfl (by decide +kernel) ⟨Nat.le_of_ble_eq_true rfl, Nat.le_of_ble_eq_true rfl⟩) hK hV hZ hNc hP hD hS hA (xE_l) rfl hl.1 rfl (Nat.le_of_ble_eq_true rfl) dL_law_540 ⟨by show 15 + 120 * i + 0 + 1 ≤ 601024; omega, by show 187 + 700 * i + 0 + 6 ≤ 7293034; omega⟩ (fun u H locs _ hP hD hS => ?_)
      have hP : va_P D vwCl (((xw cy h ad nS nB st bk gate nu (av 0) (tw cy av tS tB ts tb tg tn)) ++ [(o, .inl (cy 4, 1, .inr (.inl g)))]) ++ (mw cy mb am thr nS nB st bk gate nu)) H := hP
      have hD : va_D (fun q : Nat => s.heap.size ≤ q) (((xw cy h ad nS nB st bk gate nu (av 0) (tw cy av tS tB ts tb tg tn)) ++ [(o, .inl (cy 4, 1, .inr (.inl g)))]) ++ (mw cy mb am thr nS nB st bk gate nu)) := hD
      refine W.eq (g2 := F0 m 543 ls [.int 2]) rfl ?_
      refine W.cs (cells' := 15 + 120 * i + 1) (slots' := 187 + 700 * i + 6) rfl rfl ?_
      refine lv_istore (lv' := [(5, .int 2), (0, .ref b), (1, .ref h), (2, .ref mb), (3, .ref o), (4, .int (nI (5 * i)))]) hx hb dL_law_543 hl (by decide) rfl (fun ls hl => ?_)
      refine lv_aload_n hx hb dL_law_545 rfl (lv_at hl 3 rfl) ?_
      refine lv_aload_n hx hb dL_law_546 rfl (lv_at hl 1 rfl) ?_
      refine lv_iload hx hb dL_law_547 (lv_at hl 5 rfl) ?_
      refine lv_iconst (v := 1) hx hb dL_law_549 (by decide) ?_
      refine lv_iadd hx hb dL_law_550 ?_
      refine W.eq (g2 := F0 m 551 ls [.int (nI (5 * i + 1)), .ref b, .ref mb]) (by rw [show nI (5 * i) + 1 = nI (5 * i + 1) from nI_add (5 * i) 1]) ?_
      refine va_sld hx hb hX hbl hbA hS (i := nI (5 * i + 1)) (vp_in_nI (by omega) (by omega)) dL_law_551 ?_
      refine W.eq (g2 := F0 m 552 ls [.int (nI bj), .ref mb]) (by rw [nI_clamp (show 5 * i + 1 < 2 ^ 31 by omega), ← ea1]) ?_
      refine xcV (As := [.int (nI bj)]) (rest := []) ⟨hx, hb, hml, hown, hts⟩ (c_X4_weigh_2 l D cy mb am thr nS nB st bk gate nu bj hbj h2 hnB) (cwV 1 hts gL_law_X4_weigh rfl rfl rfl (by decide +kernel) ⟨Nat.le_of_ble_eq_true rfl, Nat.le_of_ble_eq_true rfl⟩) hK hP hD hS hA rfl rfl rfl (xE_r) rfl hl.1 rfl (Nat.le_of_ble_eq_true rfl) dL_law_552 ⟨by show 15 + 120 * i + 1 + 0 ≤ 601024; omega, by show 187 + 700 * i + 6 + 0 ≤ 7293034; omega⟩ (fun _ H locs _ hP hD hS => ?_)
      have hP : va_P D vwCl (((xw cy h ad nS nB st bk gate nu (av 0) (tw cy av tS tB ts tb tg tn)) ++ [(o, .inl (cy 4, 1, .inr (.inl g)))]) ++ (mw cy mb am 2 nS nB st bk gate nu)) H := hP
      have hD : va_D (fun q : Nat => s.heap.size ≤ q) (((xw cy h ad nS nB st bk gate nu (av 0) (tw cy av tS tB ts tb tg tn)) ++ [(o, .inl (cy 4, 1, .inr (.inl g)))]) ++ (mw cy mb am 2 nS nB st bk gate nu)) := hD
      refine W.eq (g2 := F0 m 555 ls [.int 0]) rfl ?_
      refine W.cs (cells' := 15 + 120 * i + 1) (slots' := 187 + 700 * i + 6) rfl rfl ?_
      refine lv_istore (lv' := [(6, .int 0), (5, .int 2), (0, .ref b), (1, .ref h), (2, .ref mb), (3, .ref o), (4, .int (nI (5 * i)))]) hx hb dL_law_555 hl (by decide) rfl (fun ls hl => ?_)
      refine lv_aload_n hx hb dL_law_557 rfl (lv_at hl 4 rfl) ?_
      refine xcV (As := []) (rest := []) ⟨hx, hb, hml, hown, hts⟩ (c_X4_thrown l D cy mb am 2 nS nB st bk gate nu) (cwV 0 hts gL_law_X4_thrown rfl rfl rfl (by decide +kernel) ⟨Nat.le_of_ble_eq_true rfl, Nat.le_of_ble_eq_true rfl⟩) hK hP hD hS hA rfl rfl rfl (xE_r) rfl hl.1 rfl (Nat.le_of_ble_eq_true rfl) dL_law_558 ⟨by show 15 + 120 * i + 1 + 0 ≤ 601024; omega, by show 187 + 700 * i + 6 + 0 ≤ 7293034; omega⟩ (fun _ H locs _ hP hD hS => ?_)
      have hP : va_P D vwCl (((xw cy h ad nS nB st bk gate nu (av 0) (tw cy av tS tB ts tb tg tn)) ++ [(o, .inl (cy 4, 1, .inr (.inl g)))]) ++ (mw cy mb am 2 nS nB st bk gate nu)) H := hP
      have hD : va_D (fun q : Nat => s.heap.size ≤ q) (((xw cy h ad nS nB st bk gate nu (av 0) (tw cy av tS tB ts tb tg tn)) ++ [(o, .inl (cy 4, 1, .inr (.inl g)))]) ++ (mw cy mb am 2 nS nB st bk gate nu)) := hD
      refine W.eq (g2 := F0 m 561 ls [.int 2]) rfl ?_
      refine W.cs (cells' := 15 + 120 * i + 1) (slots' := 187 + 700 * i + 6) rfl rfl ?_
      refine lv_iload hx hb dL_law_561 (lv_at hl 1 rfl) ?_
      refine lv_icmp_eq (tgt := 568) hx hb dL_law_563 (by decide) (fun _ => ?_) (fun z => absurd rfl z)
      refine lv_iload hx hb dL_law_568 (lv_at hl 1 rfl) ?_
      refine lv_if_ne (tgt := 585) hx hb dL_law_570 (by decide) (fun _ => ?_) (fun z => absurd z (by decide))
      refine lv_goto (tgt := 1159) hx hb dL_law_585 (by decide) ?_
      refine W.widen (k := 15 + 120 * (i + 1)) (n := 187 + 700 * (i + 1)) (by omega) (by omega) ?_
      exact KK ad av am 2 nS nB tS tB st bk ts tb gate nu tg tn g hq d0  _ _ _ hd0 hnS hnB htS htB (by omega) hI hP hD hS (lv_sub hl [2, 3, 4, 5, 6] rfl)
    · refine lv_aload_n hx hb dL_law_532 rfl (lv_at hl 1 rfl) ?_
      refine lv_aload_n hx hb dL_law_533 rfl (lv_at hl 0 rfl) ?_
      refine lv_iload hx hb dL_law_534 (lv_at hl 4 rfl) ?_
      refine lv_iconst (v := 1) hx hb dL_law_536 (by decide) ?_
      refine lv_iadd hx hb dL_law_537 ?_
      refine W.eq (g2 := F0 m 538 ls [.int (nI (5 * i + 1)), .ref b, .ref h]) (by rw [show nI (5 * i) + 1 = nI (5 * i + 1) from nI_add (5 * i) 1]) ?_
      refine va_sld hx hb hX hbl hbA hS (i := nI (5 * i + 1)) (vp_in_nI (by omega) (by omega)) dL_law_538 ?_
      refine W.eq (g2 := F0 m 539 ls [.int (nI bj), .ref h]) (by rw [nI_clamp (show 5 * i + 1 < 2 ^ 31 by omega), ← ea1]) ?_
      refine lv_aload_n hx hb dL_law_539 rfl (lv_at hl 3 rfl) ?_
      refine xcL (As := [.ref h, .int (nI bj), .ref o]) (rest := []) ⟨hx, hb, hml, hown, hts⟩ (c_L_weigh l D cy sa h ad nS nB st bk gate nu (av 0) (tw cy av tS tB ts tb tg tn) bj hbj (hpi.mpr h2) hnS hnB o g) (vx_cwSW 3 hts gL_law_L_weigh rfl rfl rfl (by decide +kernel) ⟨Nat.le_of_ble_eq_true rfl, Nat.le_of_ble_eq_true rfl⟩) hK hV hZ hNc hP hD hS hA (xE_l) rfl hl.1 rfl (Nat.le_of_ble_eq_true rfl) dL_law_540 ⟨by show 15 + 120 * i + 0 + 1 ≤ 601024; omega, by show 187 + 700 * i + 0 + 6 ≤ 7293034; omega⟩ (fun u H locs _ hP hD hS => ?_)
      have hP : va_P D vwCl (((xw cy h ad nS nB st (va_up bk bj (bInspect (bk bj))) gate nu (av 0) (tw cy av tS tB ts tb tg tn)) ++ [(o, .inl (cy 4, 1, .inr (.inl (vp_updL g 0 ((bk bj 4).toInt64)))))]) ++ (mw cy mb am thr nS nB st bk gate nu)) H := hP
      have hD : va_D (fun q : Nat => s.heap.size ≤ q) (((xw cy h ad nS nB st (va_up bk bj (bInspect (bk bj))) gate nu (av 0) (tw cy av tS tB ts tb tg tn)) ++ [(o, .inl (cy 4, 1, .inr (.inl (vp_updL g 0 ((bk bj 4).toInt64)))))]) ++ (mw cy mb am thr nS nB st bk gate nu)) := hD
      refine W.eq (g2 := F0 m 543 ls [.int 0]) rfl ?_
      refine W.cs (cells' := 15 + 120 * i + 1) (slots' := 187 + 700 * i + 6) rfl rfl ?_
      refine lv_istore (lv' := [(5, .int 0), (0, .ref b), (1, .ref h), (2, .ref mb), (3, .ref o), (4, .int (nI (5 * i)))]) hx hb dL_law_543 hl (by decide) rfl (fun ls hl => ?_)
      refine lv_aload_n hx hb dL_law_545 rfl (lv_at hl 3 rfl) ?_
      refine lv_aload_n hx hb dL_law_546 rfl (lv_at hl 1 rfl) ?_
      refine lv_iload hx hb dL_law_547 (lv_at hl 5 rfl) ?_
      refine lv_iconst (v := 1) hx hb dL_law_549 (by decide) ?_
      refine lv_iadd hx hb dL_law_550 ?_
      refine W.eq (g2 := F0 m 551 ls [.int (nI (5 * i + 1)), .ref b, .ref mb]) (by rw [show nI (5 * i) + 1 = nI (5 * i + 1) from nI_add (5 * i) 1]) ?_
      refine va_sld hx hb hX hbl hbA hS (i := nI (5 * i + 1)) (vp_in_nI (by omega) (by omega)) dL_law_551 ?_
      refine W.eq (g2 := F0 m 552 ls [.int (nI bj), .ref mb]) (by rw [nI_clamp (show 5 * i + 1 < 2 ^ 31 by omega), ← ea1]) ?_
      refine xcV (As := [.int (nI bj)]) (rest := []) ⟨hx, hb, hml, hown, hts⟩ (c_X4_weigh l D cy mb am thr nS nB st bk gate nu bj hbj h2 hnB) (cwV 1 hts gL_law_X4_weigh rfl rfl rfl (by decide +kernel) ⟨Nat.le_of_ble_eq_true rfl, Nat.le_of_ble_eq_true rfl⟩) hK hP hD hS hA rfl rfl rfl (xE_r) rfl hl.1 rfl (Nat.le_of_ble_eq_true rfl) dL_law_552 ⟨by show 15 + 120 * i + 1 + 0 ≤ 601024; omega, by show 187 + 700 * i + 6 + 0 ≤ 7293034; omega⟩ (fun _ H locs _ hP hD hS => ?_)
      have hP : va_P D vwCl (((xw cy h ad nS nB st (va_up bk bj (bInspect (bk bj))) gate nu (av 0) (tw cy av tS tB ts tb tg tn)) ++ [(o, .inl (cy 4, 1, .inr (.inl (vp_updL g 0 ((bk bj 4).toInt64)))))]) ++ (mw cy mb am 0 nS nB st (va_up bk bj (bInspect (bk bj))) gate nu)) H := hP
      have hD : va_D (fun q : Nat => s.heap.size ≤ q) (((xw cy h ad nS nB st (va_up bk bj (bInspect (bk bj))) gate nu (av 0) (tw cy av tS tB ts tb tg tn)) ++ [(o, .inl (cy 4, 1, .inr (.inl (vp_updL g 0 ((bk bj 4).toInt64)))))]) ++ (mw cy mb am 0 nS nB st (va_up bk bj (bInspect (bk bj))) gate nu)) := hD
      refine W.eq (g2 := F0 m 555 ls [.int (bk bj 4)]) rfl ?_
      refine W.cs (cells' := 15 + 120 * i + 1) (slots' := 187 + 700 * i + 6) rfl rfl ?_
      refine lv_istore (lv' := [(6, .int (bk bj 4)), (5, .int 0), (0, .ref b), (1, .ref h), (2, .ref mb), (3, .ref o), (4, .int (nI (5 * i)))]) hx hb dL_law_555 hl (by decide) rfl (fun ls hl => ?_)
      refine lv_aload_n hx hb dL_law_557 rfl (lv_at hl 4 rfl) ?_
      refine xcV (As := []) (rest := []) ⟨hx, hb, hml, hown, hts⟩ (c_X4_thrown l D cy mb am 0 nS nB st (va_up bk bj (bInspect (bk bj))) gate nu) (cwV 0 hts gL_law_X4_thrown rfl rfl rfl (by decide +kernel) ⟨Nat.le_of_ble_eq_true rfl, Nat.le_of_ble_eq_true rfl⟩) hK hP hD hS hA rfl rfl rfl (xE_r) rfl hl.1 rfl (Nat.le_of_ble_eq_true rfl) dL_law_558 ⟨by show 15 + 120 * i + 1 + 0 ≤ 601024; omega, by show 187 + 700 * i + 6 + 0 ≤ 7293034; omega⟩ (fun _ H locs _ hP hD hS => ?_)
      have hP : va_P D vwCl (((xw cy h ad nS nB st (va_up bk bj (bInspect (bk bj))) gate nu (av 0) (tw cy av tS tB ts tb tg tn)) ++ [(o, .inl (cy 4, 1, .inr (.inl (vp_updL g 0 ((bk bj 4).toInt64)))))]) ++ (mw cy mb am 0 nS nB st (va_up bk bj (bInspect (bk bj))) gate nu)) H := hP
      have hD : va_D (fun q : Nat => s.heap.size ≤ q) (((xw cy h ad nS nB st (va_up bk bj (bInspect (bk bj))) gate nu (av 0) (tw cy av tS tB ts tb tg tn)) ++ [(o, .inl (cy 4, 1, .inr (.inl (vp_updL g 0 ((bk bj 4).toInt64)))))]) ++ (mw cy mb am 0 nS nB st (va_up bk bj (bInspect (bk bj))) gate nu)) := hD
      refine W.eq (g2 := F0 m 561 ls [.int 0]) rfl ?_
      refine W.cs (cells' := 15 + 120 * i + 1) (slots' := 187 + 700 * i + 6) rfl rfl ?_
      refine lv_iload hx hb dL_law_561 (lv_at hl 1 rfl) ?_
      refine lv_icmp_eq (tgt := 568) hx hb dL_law_563 (by decide) (fun _ => ?_) (fun z => absurd rfl z)
      refine lv_iload hx hb dL_law_568 (lv_at hl 1 rfl) ?_
      refine lv_if_ne (tgt := 585) hx hb dL_law_570 (by decide) (fun z => absurd rfl z) (fun _ => ?_)
      refine lv_aload_n hx hb dL_law_573 rfl (lv_at hl 5 rfl) ?_
      refine lv_iconst (v := 0) hx hb dL_law_574 (by decide) ?_
      refine va_lald hx hb hK.1 hP _ 4 (at_l last_at) rfl (i := 0) (vp_in_nI (n := 0) (by decide) (by decide)) dL_law_575 ?_
      refine W.eq (g2 := F0 m 576 ls [.long ((bk bj 4).toInt64)]) rfl ?_
      refine lv_iload hx hb dL_law_576 (lv_at hl 0 rfl) ?_
      refine lv_i2l (v := (bk bj 4).toInt64) hx hb dL_law_578 rfl ?_
      refine W.lcmp hx hb dL_law_579 ?_
      refine W.eq (g2 := F0 m 580 ls [.int 0]) (by rw [lg_same]) ?_
      refine lv_if_eq (tgt := 585) hx hb dL_law_580 (by decide) (fun _ => ?_) (fun z => absurd rfl z)
      refine lv_goto (tgt := 1159) hx hb dL_law_585 (by decide) ?_
      refine W.widen (k := 15 + 120 * (i + 1)) (n := 187 + 700 * (i + 1)) (by omega) (by omega) ?_
      exact KK ad av am 0 nS nB tS tB st (va_up bk bj (bInspect (bk bj))) ts tb gate nu tg tn (vp_updL g 0 ((bk bj 4).toInt64)) hq d0  _ _ _ hd0 hnS hnB htS htB (by omega) (inv_bk hI (bOK_inspect (hI.2.1 bj hbj) (Int32.lt_iff_toInt_lt.mp (hpi.mpr h2)))) hP hD hS (lv_sub hl [2, 3, 4, 5, 6] rfl)
  · refine lv_aload_n hx hb dL_law_532 rfl (lv_at hl 1 rfl) ?_
    refine lv_aload_n hx hb dL_law_533 rfl (lv_at hl 0 rfl) ?_
    refine lv_iload hx hb dL_law_534 (lv_at hl 4 rfl) ?_
    refine lv_iconst (v := 1) hx hb dL_law_536 (by decide) ?_
    refine lv_iadd hx hb dL_law_537 ?_
    refine W.eq (g2 := F0 m 538 ls [.int (nI (5 * i + 1)), .ref b, .ref h]) (by rw [show nI (5 * i) + 1 = nI (5 * i + 1) from nI_add (5 * i) 1]) ?_
    refine va_sld hx hb hX hbl hbA hS (i := nI (5 * i + 1)) (vp_in_nI (by omega) (by omega)) dL_law_538 ?_
    refine W.eq (g2 := F0 m 539 ls [.int a1, .ref h]) (by rw [nI_clamp (show 5 * i + 1 < 2 ^ 31 by omega), ← ea1]) ?_
    refine lv_aload_n hx hb dL_law_539 rfl (lv_at hl 3 rfl) ?_
    refine xcL (As := [.ref h, .int a1, .ref o]) (rest := []) ⟨hx, hb, hml, hown, hts⟩ (c_L_weigh_1 l hst D cy sa h ad nS nB st bk gate nu (av 0) (tw cy av tS tB ts tb tg tn) a1 hv hnS hnB o g) (vx_cwSW 3 hts gL_law_L_weigh rfl rfl rfl (by decide +kernel) ⟨Nat.le_of_ble_eq_true rfl, Nat.le_of_ble_eq_true rfl⟩) hK hV hZ hNc hP hD hS hA (xE_l) rfl hl.1 rfl (Nat.le_of_ble_eq_true rfl) dL_law_540 ⟨by show 15 + 120 * i + 0 + 1 ≤ 601024; omega, by show 187 + 700 * i + 0 + 6 ≤ 7293034; omega⟩ (fun u H locs _ hP hD hS => ?_)
    have hP : va_P D vwCl (((xw cy h ad nS nB st bk gate nu (av 0) (tw cy av tS tB ts tb tg tn)) ++ [(o, .inl (cy 4, 1, .inr (.inl g)))]) ++ (mw cy mb am thr nS nB st bk gate nu)) H := hP
    have hD : va_D (fun q : Nat => s.heap.size ≤ q) (((xw cy h ad nS nB st bk gate nu (av 0) (tw cy av tS tB ts tb tg tn)) ++ [(o, .inl (cy 4, 1, .inr (.inl g)))]) ++ (mw cy mb am thr nS nB st bk gate nu)) := hD
    refine W.eq (g2 := F0 m 543 ls [.int 1]) rfl ?_
    refine W.cs (cells' := 15 + 120 * i + 1) (slots' := 187 + 700 * i + 6) rfl rfl ?_
    refine lv_istore (lv' := [(5, .int 1), (0, .ref b), (1, .ref h), (2, .ref mb), (3, .ref o), (4, .int (nI (5 * i)))]) hx hb dL_law_543 hl (by decide) rfl (fun ls hl => ?_)
    refine lv_aload_n hx hb dL_law_545 rfl (lv_at hl 3 rfl) ?_
    refine lv_aload_n hx hb dL_law_546 rfl (lv_at hl 1 rfl) ?_
    refine lv_iload hx hb dL_law_547 (lv_at hl 5 rfl) ?_
    refine lv_iconst (v := 1) hx hb dL_law_549 (by decide) ?_
    refine lv_iadd hx hb dL_law_550 ?_
    refine W.eq (g2 := F0 m 551 ls [.int (nI (5 * i + 1)), .ref b, .ref mb]) (by rw [show nI (5 * i) + 1 = nI (5 * i + 1) from nI_add (5 * i) 1]) ?_
    refine va_sld hx hb hX hbl hbA hS (i := nI (5 * i + 1)) (vp_in_nI (by omega) (by omega)) dL_law_551 ?_
    refine W.eq (g2 := F0 m 552 ls [.int a1, .ref mb]) (by rw [nI_clamp (show 5 * i + 1 < 2 ^ 31 by omega), ← ea1]) ?_
    refine xcV (As := [.int a1]) (rest := []) ⟨hx, hb, hml, hown, hts⟩ (c_X4_weigh_1 l D cy mb am thr nS nB st bk gate nu a1 hv hnB) (cwV 1 hts gL_law_X4_weigh rfl rfl rfl (by decide +kernel) ⟨Nat.le_of_ble_eq_true rfl, Nat.le_of_ble_eq_true rfl⟩) hK hP hD hS hA rfl rfl rfl (xE_r) rfl hl.1 rfl (Nat.le_of_ble_eq_true rfl) dL_law_552 ⟨by show 15 + 120 * i + 1 + 0 ≤ 601024; omega, by show 187 + 700 * i + 6 + 0 ≤ 7293034; omega⟩ (fun _ H locs _ hP hD hS => ?_)
    have hP : va_P D vwCl (((xw cy h ad nS nB st bk gate nu (av 0) (tw cy av tS tB ts tb tg tn)) ++ [(o, .inl (cy 4, 1, .inr (.inl g)))]) ++ (mw cy mb am 1 nS nB st bk gate nu)) H := hP
    have hD : va_D (fun q : Nat => s.heap.size ≤ q) (((xw cy h ad nS nB st bk gate nu (av 0) (tw cy av tS tB ts tb tg tn)) ++ [(o, .inl (cy 4, 1, .inr (.inl g)))]) ++ (mw cy mb am 1 nS nB st bk gate nu)) := hD
    refine W.eq (g2 := F0 m 555 ls [.int 0]) rfl ?_
    refine W.cs (cells' := 15 + 120 * i + 1) (slots' := 187 + 700 * i + 6) rfl rfl ?_
    refine lv_istore (lv' := [(6, .int 0), (5, .int 1), (0, .ref b), (1, .ref h), (2, .ref mb), (3, .ref o), (4, .int (nI (5 * i)))]) hx hb dL_law_555 hl (by decide) rfl (fun ls hl => ?_)
    refine lv_aload_n hx hb dL_law_557 rfl (lv_at hl 4 rfl) ?_
    refine xcV (As := []) (rest := []) ⟨hx, hb, hml, hown, hts⟩ (c_X4_thrown l D cy mb am 1 nS nB st bk gate nu) (cwV 0 hts gL_law_X4_thrown rfl rfl rfl (by decide +kernel) ⟨Nat.le_of_ble_eq_true rfl, Nat.le_of_ble_eq_true rfl⟩) hK hP hD hS hA rfl rfl rfl (xE_r) rfl hl.1 rfl (Nat.le_of_ble_eq_true rfl) dL_law_558 ⟨by show 15 + 120 * i + 1 + 0 ≤ 601024; omega, by show 187 + 700 * i + 6 + 0 ≤ 7293034; omega⟩ (fun _ H locs _ hP hD hS => ?_)
    have hP : va_P D vwCl (((xw cy h ad nS nB st bk gate nu (av 0) (tw cy av tS tB ts tb tg tn)) ++ [(o, .inl (cy 4, 1, .inr (.inl g)))]) ++ (mw cy mb am 1 nS nB st bk gate nu)) H := hP
    have hD : va_D (fun q : Nat => s.heap.size ≤ q) (((xw cy h ad nS nB st bk gate nu (av 0) (tw cy av tS tB ts tb tg tn)) ++ [(o, .inl (cy 4, 1, .inr (.inl g)))]) ++ (mw cy mb am 1 nS nB st bk gate nu)) := hD
    refine W.eq (g2 := F0 m 561 ls [.int 1]) rfl ?_
    refine W.cs (cells' := 15 + 120 * i + 1) (slots' := 187 + 700 * i + 6) rfl rfl ?_
    refine lv_iload hx hb dL_law_561 (lv_at hl 1 rfl) ?_
    refine lv_icmp_eq (tgt := 568) hx hb dL_law_563 (by decide) (fun _ => ?_) (fun z => absurd rfl z)
    refine lv_iload hx hb dL_law_568 (lv_at hl 1 rfl) ?_
    refine lv_if_ne (tgt := 585) hx hb dL_law_570 (by decide) (fun _ => ?_) (fun z => absurd z (by decide))
    refine lv_goto (tgt := 1159) hx hb dL_law_585 (by decide) ?_
    refine W.widen (k := 15 + 120 * (i + 1)) (n := 187 + 700 * (i + 1)) (by omega) (by omega) ?_
    exact KK ad av am 1 nS nB tS tB st bk ts tb gate nu tg tn g hq d0  _ _ _ hd0 hnS hnB htS htB (by omega) hI hP hD hS (lv_sub hl [2, 3, 4, 5, 6] rfl)

set_option maxHeartbeats 4000000 in
set_option maxRecDepth 100000 in
theorem l_case_pardon {p : Program} {l : Launch} {e : Env} {s : State} {m : MethodId} {below : List Frame} {meth : Method} {c : Code} {b L : Nat} {xs : Nat → Int32} {D : va_G} {cy : Nat → ClassId} {sa : Nat → Nat} {h o mb i : Nat} (C1 : lwC p l s m meth c b L xs D cy sa) (hi : 5 * i + 5 ≤ L) (KK : lwS p l e s m below meth c b D cy h o mb 1159 i (i + 1)) : lwS p l e s m below meth c b D cy h o mb 588 i i := by
  obtain ⟨hst, C0, hK0, hV0, hZ0, hN0, hL⟩ := C1
  obtain ⟨hx, hb, hr, hml, hown, hts0, hX0, hbl, hlocks, hgv⟩ := id C0
  intro ad av am thr nS nB tS tB st bk ts tb gate nu tg tn g hq d0 H locs ls hd0 hnS hnB htS htB hhq hI hP hD hS hl
  unfold WW at hP hD
  have hbA : ¬ (fun q : Nat => s.heap.size ≤ q) b := Nat.not_le.mpr hbl
  have hA : ∀ q : Nat, s.heap.size ≤ q → (fun q : Nat => s.heap.size ≤ q) q := fun _ z => z
  have hts : ∀ w ∈ wsL_law, w.before #[Value.ref b] (s.setDrawn d0) = true := fun w z => dr_words hts0 d0 w (wsL_law_in w z)
  have hK := XK.same (s := s) (U := s.setDrawn d0) rfl hK0
  have hV := XV.same (s := s) (U := s.setDrawn d0) rfl hV0
  have hZ : xZ (fun q : Nat => s.heap.size ≤ q) (s.setDrawn d0) (s.setDrawn d0).heap := xZ.moved (Vm.Alike.refl _) hZ0
  have hNc : xNcs (s.setDrawn d0) := hN0.moved (Vm.Alike.refl _)
  have hX : va_X b L xs (s.setDrawn d0) s.heap := va_X.moved (Vm.Alike.refl _) hX0
  obtain ⟨a1, ea1⟩ : ∃ a, a = xs (5 * i + 1) := ⟨_, rfl⟩
  rcases Classical.em (vp_in a1 nB) with hv | hv
  · obtain ⟨bj, hbj, rfl⟩ := vp_in_of hv (by omega)
    have h7 := (hI.2.1 bj hbj).2.1
    refine lv_aload_n hx hb dL_law_588 rfl (lv_at hl 1 rfl) ?_
    refine lv_aload_n hx hb dL_law_589 rfl (lv_at hl 0 rfl) ?_
    refine lv_iload hx hb dL_law_590 (lv_at hl 4 rfl) ?_
    refine lv_iconst (v := 1) hx hb dL_law_592 (by decide) ?_
    refine lv_iadd hx hb dL_law_593 ?_
    refine W.eq (g2 := F0 m 594 ls [.int (nI (5 * i + 1)), .ref b, .ref h]) (by rw [show nI (5 * i) + 1 = nI (5 * i + 1) from nI_add (5 * i) 1]) ?_
    refine va_sld hx hb hX hbl hbA hS (i := nI (5 * i + 1)) (vp_in_nI (by omega) (by omega)) dL_law_594 ?_
    refine W.eq (g2 := F0 m 595 ls [.int (nI bj), .ref h]) (by rw [nI_clamp (show 5 * i + 1 < 2 ^ 31 by omega), ← ea1]) ?_
    refine lv_aload_n hx hb dL_law_595 rfl (lv_at hl 3 rfl) ?_
    refine xcL (As := [.ref h, .int (nI bj), .ref o]) (rest := []) ⟨hx, hb, hml, hown, hts⟩ (c_L_pardon l D cy sa h ad nS nB st bk gate nu (av 0) (tw cy av tS tB ts tb tg tn) bj hbj ((hI.2.1 bj hbj).2.1) hnS hnB o g) (vx_cwSW 3 hts gL_law_L_pardon rfl rfl rfl (by decide +kernel) ⟨Nat.le_of_ble_eq_true rfl, Nat.le_of_ble_eq_true rfl⟩) hK hV hZ hNc hP hD hS hA (xE_l) rfl hl.1 rfl (Nat.le_of_ble_eq_true rfl) dL_law_596 ⟨by show 15 + 120 * i + 0 + 1 ≤ 601024; omega, by show 187 + 700 * i + 0 + 6 ≤ 7293034; omega⟩ (fun u H locs _ hP hD hS => ?_)
    have hP : va_P D vwCl (((xw cy h ad nS nB st (va_up bk bj (bForgive (bk bj))) gate nu (av 0) (tw cy av tS tB ts tb tg tn)) ++ [(o, .inl (cy 4, 1, .inr (.inl (vp_updL g 0 (if bk bj 7 = 0 then 0 else 1)))))]) ++ (mw cy mb am thr nS nB st bk gate nu)) H := hP
    have hD : va_D (fun q : Nat => s.heap.size ≤ q) (((xw cy h ad nS nB st (va_up bk bj (bForgive (bk bj))) gate nu (av 0) (tw cy av tS tB ts tb tg tn)) ++ [(o, .inl (cy 4, 1, .inr (.inl (vp_updL g 0 (if bk bj 7 = 0 then 0 else 1)))))]) ++ (mw cy mb am thr nS nB st bk gate nu)) := hD
    refine W.eq (g2 := F0 m 599 ls [.int 0]) rfl ?_
    refine W.cs (cells' := 15 + 120 * i + 1) (slots' := 187 + 700 * i + 6) rfl rfl ?_
    refine lv_istore (lv' := [(5, .int 0), (0, .ref b), (1, .ref h), (2, .ref mb), (3, .ref o), (4, .int (nI (5 * i)))]) hx hb dL_law_599 hl (by decide) rfl (fun ls hl => ?_)
    refine lv_aload_n hx hb dL_law_601 rfl (lv_at hl 3 rfl) ?_
    refine lv_aload_n hx hb dL_law_602 rfl (lv_at hl 1 rfl) ?_
    refine lv_iload hx hb dL_law_603 (lv_at hl 5 rfl) ?_
    refine lv_iconst (v := 1) hx hb dL_law_605 (by decide) ?_
    refine lv_iadd hx hb dL_law_606 ?_
    refine W.eq (g2 := F0 m 607 ls [.int (nI (5 * i + 1)), .ref b, .ref mb]) (by rw [show nI (5 * i) + 1 = nI (5 * i + 1) from nI_add (5 * i) 1]) ?_
    refine va_sld hx hb hX hbl hbA hS (i := nI (5 * i + 1)) (vp_in_nI (by omega) (by omega)) dL_law_607 ?_
    refine W.eq (g2 := F0 m 608 ls [.int (nI bj), .ref mb]) (by rw [nI_clamp (show 5 * i + 1 < 2 ^ 31 by omega), ← ea1]) ?_
    refine xcV (As := [.int (nI bj)]) (rest := []) ⟨hx, hb, hml, hown, hts⟩ (c_X4_pardon l D cy mb am thr nS nB st bk gate nu bj hbj ((hI.2.1 bj hbj).2.1) hnB) (cwV 1 hts gL_law_X4_pardon rfl rfl rfl (by decide +kernel) ⟨Nat.le_of_ble_eq_true rfl, Nat.le_of_ble_eq_true rfl⟩) hK hP hD hS hA rfl rfl rfl (xE_r) rfl hl.1 rfl (Nat.le_of_ble_eq_true rfl) dL_law_608 ⟨by show 15 + 120 * i + 1 + 0 ≤ 601024; omega, by show 187 + 700 * i + 6 + 0 ≤ 7293034; omega⟩ (fun _ H locs _ hP hD hS => ?_)
    have hP : va_P D vwCl (((xw cy h ad nS nB st (va_up bk bj (bForgive (bk bj))) gate nu (av 0) (tw cy av tS tB ts tb tg tn)) ++ [(o, .inl (cy 4, 1, .inr (.inl (vp_updL g 0 (if bk bj 7 = 0 then 0 else 1)))))]) ++ (mw cy mb am 0 nS nB st (va_up bk bj (bForgive (bk bj))) gate nu)) H := hP
    have hD : va_D (fun q : Nat => s.heap.size ≤ q) (((xw cy h ad nS nB st (va_up bk bj (bForgive (bk bj))) gate nu (av 0) (tw cy av tS tB ts tb tg tn)) ++ [(o, .inl (cy 4, 1, .inr (.inl (vp_updL g 0 (if bk bj 7 = 0 then 0 else 1)))))]) ++ (mw cy mb am 0 nS nB st (va_up bk bj (bForgive (bk bj))) gate nu)) := hD
    refine W.eq (g2 := F0 m 611 ls [.int (bk bj 7)]) rfl ?_
    refine W.cs (cells' := 15 + 120 * i + 1) (slots' := 187 + 700 * i + 6) rfl rfl ?_
    refine lv_istore (lv' := [(6, .int (bk bj 7)), (5, .int 0), (0, .ref b), (1, .ref h), (2, .ref mb), (3, .ref o), (4, .int (nI (5 * i)))]) hx hb dL_law_611 hl (by decide) rfl (fun ls hl => ?_)
    refine lv_aload_n hx hb dL_law_613 rfl (lv_at hl 4 rfl) ?_
    refine xcV (As := []) (rest := []) ⟨hx, hb, hml, hown, hts⟩ (c_X4_thrown l D cy mb am 0 nS nB st (va_up bk bj (bForgive (bk bj))) gate nu) (cwV 0 hts gL_law_X4_thrown rfl rfl rfl (by decide +kernel) ⟨Nat.le_of_ble_eq_true rfl, Nat.le_of_ble_eq_true rfl⟩) hK hP hD hS hA rfl rfl rfl (xE_r) rfl hl.1 rfl (Nat.le_of_ble_eq_true rfl) dL_law_614 ⟨by show 15 + 120 * i + 1 + 0 ≤ 601024; omega, by show 187 + 700 * i + 6 + 0 ≤ 7293034; omega⟩ (fun _ H locs _ hP hD hS => ?_)
    have hP : va_P D vwCl (((xw cy h ad nS nB st (va_up bk bj (bForgive (bk bj))) gate nu (av 0) (tw cy av tS tB ts tb tg tn)) ++ [(o, .inl (cy 4, 1, .inr (.inl (vp_updL g 0 (if bk bj 7 = 0 then 0 else 1)))))]) ++ (mw cy mb am 0 nS nB st (va_up bk bj (bForgive (bk bj))) gate nu)) H := hP
    have hD : va_D (fun q : Nat => s.heap.size ≤ q) (((xw cy h ad nS nB st (va_up bk bj (bForgive (bk bj))) gate nu (av 0) (tw cy av tS tB ts tb tg tn)) ++ [(o, .inl (cy 4, 1, .inr (.inl (vp_updL g 0 (if bk bj 7 = 0 then 0 else 1)))))]) ++ (mw cy mb am 0 nS nB st (va_up bk bj (bForgive (bk bj))) gate nu)) := hD
    refine W.eq (g2 := F0 m 617 ls [.int 0]) rfl ?_
    refine W.cs (cells' := 15 + 120 * i + 1) (slots' := 187 + 700 * i + 6) rfl rfl ?_
    refine lv_iload hx hb dL_law_617 (lv_at hl 1 rfl) ?_
    refine lv_icmp_eq (tgt := 624) hx hb dL_law_619 (by decide) (fun _ => ?_) (fun z => absurd rfl z)
    refine lv_iload hx hb dL_law_624 (lv_at hl 1 rfl) ?_
    refine lv_if_ne (tgt := 648) hx hb dL_law_626 (by decide) (fun z => absurd rfl z) (fun _ => ?_)
    refine lv_aload_n hx hb dL_law_629 rfl (lv_at hl 5 rfl) ?_
    refine lv_iconst (v := 0) hx hb dL_law_630 (by decide) ?_
    refine va_lald hx hb hK.1 hP _ 4 (at_l last_at) rfl (i := 0) (vp_in_nI (n := 0) (by decide) (by decide)) dL_law_631 ?_
    refine W.eq (g2 := F0 m 632 ls [.long (if bk bj 7 = 0 then 0 else 1)]) rfl ?_
    refine lv_iload hx hb dL_law_632 (lv_at hl 0 rfl) ?_
    refine lv_if_eq (tgt := 641) hx hb dL_law_634 (by decide) (fun c634 => ?_) (fun c634 => ?_)
    · refine lv_lconst (v := 0) hx hb dL_law_641 (by decide) ?_
      refine W.lcmp hx hb dL_law_642 ?_
      refine W.eq (g2 := F0 m 643 ls [.int 0]) (by rw [if_pos c634, lg_same]) ?_
      refine lv_if_eq (tgt := 648) hx hb dL_law_643 (by decide) (fun _ => ?_) (fun z => absurd rfl z)
      refine lv_goto (tgt := 1159) hx hb dL_law_648 (by decide) ?_
      refine W.widen (k := 15 + 120 * (i + 1)) (n := 187 + 700 * (i + 1)) (by omega) (by omega) ?_
      exact KK ad av am 0 nS nB tS tB st (va_up bk bj (bForgive (bk bj))) ts tb gate nu tg tn (vp_updL g 0 (if bk bj 7 = 0 then 0 else 1)) hq d0  _ _ _ hd0 hnS hnB htS htB (by omega) (inv_bk hI (bOK_forgive (hI.2.1 bj hbj))) hP hD hS (lv_sub hl [2, 3, 4, 5, 6] rfl)
    · refine lv_lconst (v := 1) hx hb dL_law_637 (by decide) ?_
      refine lv_goto (tgt := 642) hx hb dL_law_638 (by decide) ?_
      refine W.lcmp hx hb dL_law_642 ?_
      refine W.eq (g2 := F0 m 643 ls [.int 0]) (by rw [if_neg c634, lg_same]) ?_
      refine lv_if_eq (tgt := 648) hx hb dL_law_643 (by decide) (fun _ => ?_) (fun z => absurd rfl z)
      refine lv_goto (tgt := 1159) hx hb dL_law_648 (by decide) ?_
      refine W.widen (k := 15 + 120 * (i + 1)) (n := 187 + 700 * (i + 1)) (by omega) (by omega) ?_
      exact KK ad av am 0 nS nB tS tB st (va_up bk bj (bForgive (bk bj))) ts tb gate nu tg tn (vp_updL g 0 (if bk bj 7 = 0 then 0 else 1)) hq d0  _ _ _ hd0 hnS hnB htS htB (by omega) (inv_bk hI (bOK_forgive (hI.2.1 bj hbj))) hP hD hS (lv_sub hl [2, 3, 4, 5, 6] rfl)
  · refine lv_aload_n hx hb dL_law_588 rfl (lv_at hl 1 rfl) ?_
    refine lv_aload_n hx hb dL_law_589 rfl (lv_at hl 0 rfl) ?_
    refine lv_iload hx hb dL_law_590 (lv_at hl 4 rfl) ?_
    refine lv_iconst (v := 1) hx hb dL_law_592 (by decide) ?_
    refine lv_iadd hx hb dL_law_593 ?_
    refine W.eq (g2 := F0 m 594 ls [.int (nI (5 * i + 1)), .ref b, .ref h]) (by rw [show nI (5 * i) + 1 = nI (5 * i + 1) from nI_add (5 * i) 1]) ?_
    refine va_sld hx hb hX hbl hbA hS (i := nI (5 * i + 1)) (vp_in_nI (by omega) (by omega)) dL_law_594 ?_
    refine W.eq (g2 := F0 m 595 ls [.int a1, .ref h]) (by rw [nI_clamp (show 5 * i + 1 < 2 ^ 31 by omega), ← ea1]) ?_
    refine lv_aload_n hx hb dL_law_595 rfl (lv_at hl 3 rfl) ?_
    refine xcL (As := [.ref h, .int a1, .ref o]) (rest := []) ⟨hx, hb, hml, hown, hts⟩ (c_L_pardon_1 l hst D cy sa h ad nS nB st bk gate nu (av 0) (tw cy av tS tB ts tb tg tn) a1 hv hnS hnB o g) (vx_cwSW 3 hts gL_law_L_pardon rfl rfl rfl (by decide +kernel) ⟨Nat.le_of_ble_eq_true rfl, Nat.le_of_ble_eq_true rfl⟩) hK hV hZ hNc hP hD hS hA (xE_l) rfl hl.1 rfl (Nat.le_of_ble_eq_true rfl) dL_law_596 ⟨by show 15 + 120 * i + 0 + 1 ≤ 601024; omega, by show 187 + 700 * i + 0 + 6 ≤ 7293034; omega⟩ (fun u H locs _ hP hD hS => ?_)
    have hP : va_P D vwCl (((xw cy h ad nS nB st bk gate nu (av 0) (tw cy av tS tB ts tb tg tn)) ++ [(o, .inl (cy 4, 1, .inr (.inl g)))]) ++ (mw cy mb am thr nS nB st bk gate nu)) H := hP
    have hD : va_D (fun q : Nat => s.heap.size ≤ q) (((xw cy h ad nS nB st bk gate nu (av 0) (tw cy av tS tB ts tb tg tn)) ++ [(o, .inl (cy 4, 1, .inr (.inl g)))]) ++ (mw cy mb am thr nS nB st bk gate nu)) := hD
    refine W.eq (g2 := F0 m 599 ls [.int 1]) rfl ?_
    refine W.cs (cells' := 15 + 120 * i + 1) (slots' := 187 + 700 * i + 6) rfl rfl ?_
    refine lv_istore (lv' := [(5, .int 1), (0, .ref b), (1, .ref h), (2, .ref mb), (3, .ref o), (4, .int (nI (5 * i)))]) hx hb dL_law_599 hl (by decide) rfl (fun ls hl => ?_)
    refine lv_aload_n hx hb dL_law_601 rfl (lv_at hl 3 rfl) ?_
    refine lv_aload_n hx hb dL_law_602 rfl (lv_at hl 1 rfl) ?_
    refine lv_iload hx hb dL_law_603 (lv_at hl 5 rfl) ?_
    refine lv_iconst (v := 1) hx hb dL_law_605 (by decide) ?_
    refine lv_iadd hx hb dL_law_606 ?_
    refine W.eq (g2 := F0 m 607 ls [.int (nI (5 * i + 1)), .ref b, .ref mb]) (by rw [show nI (5 * i) + 1 = nI (5 * i + 1) from nI_add (5 * i) 1]) ?_
    refine va_sld hx hb hX hbl hbA hS (i := nI (5 * i + 1)) (vp_in_nI (by omega) (by omega)) dL_law_607 ?_
    refine W.eq (g2 := F0 m 608 ls [.int a1, .ref mb]) (by rw [nI_clamp (show 5 * i + 1 < 2 ^ 31 by omega), ← ea1]) ?_
    refine xcV (As := [.int a1]) (rest := []) ⟨hx, hb, hml, hown, hts⟩ (c_X4_pardon_1 l D cy mb am thr nS nB st bk gate nu a1 hv hnB) (cwV 1 hts gL_law_X4_pardon rfl rfl rfl (by decide +kernel) ⟨Nat.le_of_ble_eq_true rfl, Nat.le_of_ble_eq_true rfl⟩) hK hP hD hS hA rfl rfl rfl (xE_r) rfl hl.1 rfl (Nat.le_of_ble_eq_true rfl) dL_law_608 ⟨by show 15 + 120 * i + 1 + 0 ≤ 601024; omega, by show 187 + 700 * i + 6 + 0 ≤ 7293034; omega⟩ (fun _ H locs _ hP hD hS => ?_)
    have hP : va_P D vwCl (((xw cy h ad nS nB st bk gate nu (av 0) (tw cy av tS tB ts tb tg tn)) ++ [(o, .inl (cy 4, 1, .inr (.inl g)))]) ++ (mw cy mb am 1 nS nB st bk gate nu)) H := hP
    have hD : va_D (fun q : Nat => s.heap.size ≤ q) (((xw cy h ad nS nB st bk gate nu (av 0) (tw cy av tS tB ts tb tg tn)) ++ [(o, .inl (cy 4, 1, .inr (.inl g)))]) ++ (mw cy mb am 1 nS nB st bk gate nu)) := hD
    refine W.eq (g2 := F0 m 611 ls [.int 0]) rfl ?_
    refine W.cs (cells' := 15 + 120 * i + 1) (slots' := 187 + 700 * i + 6) rfl rfl ?_
    refine lv_istore (lv' := [(6, .int 0), (5, .int 1), (0, .ref b), (1, .ref h), (2, .ref mb), (3, .ref o), (4, .int (nI (5 * i)))]) hx hb dL_law_611 hl (by decide) rfl (fun ls hl => ?_)
    refine lv_aload_n hx hb dL_law_613 rfl (lv_at hl 4 rfl) ?_
    refine xcV (As := []) (rest := []) ⟨hx, hb, hml, hown, hts⟩ (c_X4_thrown l D cy mb am 1 nS nB st bk gate nu) (cwV 0 hts gL_law_X4_thrown rfl rfl rfl (by decide +kernel) ⟨Nat.le_of_ble_eq_true rfl, Nat.le_of_ble_eq_true rfl⟩) hK hP hD hS hA rfl rfl rfl (xE_r) rfl hl.1 rfl (Nat.le_of_ble_eq_true rfl) dL_law_614 ⟨by show 15 + 120 * i + 1 + 0 ≤ 601024; omega, by show 187 + 700 * i + 6 + 0 ≤ 7293034; omega⟩ (fun _ H locs _ hP hD hS => ?_)
    have hP : va_P D vwCl (((xw cy h ad nS nB st bk gate nu (av 0) (tw cy av tS tB ts tb tg tn)) ++ [(o, .inl (cy 4, 1, .inr (.inl g)))]) ++ (mw cy mb am 1 nS nB st bk gate nu)) H := hP
    have hD : va_D (fun q : Nat => s.heap.size ≤ q) (((xw cy h ad nS nB st bk gate nu (av 0) (tw cy av tS tB ts tb tg tn)) ++ [(o, .inl (cy 4, 1, .inr (.inl g)))]) ++ (mw cy mb am 1 nS nB st bk gate nu)) := hD
    refine W.eq (g2 := F0 m 617 ls [.int 1]) rfl ?_
    refine W.cs (cells' := 15 + 120 * i + 1) (slots' := 187 + 700 * i + 6) rfl rfl ?_
    refine lv_iload hx hb dL_law_617 (lv_at hl 1 rfl) ?_
    refine lv_icmp_eq (tgt := 624) hx hb dL_law_619 (by decide) (fun _ => ?_) (fun z => absurd rfl z)
    refine lv_iload hx hb dL_law_624 (lv_at hl 1 rfl) ?_
    refine lv_if_ne (tgt := 648) hx hb dL_law_626 (by decide) (fun _ => ?_) (fun z => absurd z (by decide))
    refine lv_goto (tgt := 1159) hx hb dL_law_648 (by decide) ?_
    refine W.widen (k := 15 + 120 * (i + 1)) (n := 187 + 700 * (i + 1)) (by omega) (by omega) ?_
    exact KK ad av am 1 nS nB tS tB st bk ts tb gate nu tg tn g hq d0  _ _ _ hd0 hnS hnB htS htB (by omega) hI hP hD hS (lv_sub hl [2, 3, 4, 5, 6] rfl)

set_option maxHeartbeats 4000000 in
set_option maxRecDepth 100000 in
theorem l_case_store {p : Program} {l : Launch} {e : Env} {s : State} {m : MethodId} {below : List Frame} {meth : Method} {c : Code} {b L : Nat} {xs : Nat → Int32} {D : va_G} {cy : Nat → ClassId} {sa : Nat → Nat} {h o mb i : Nat} (C1 : lwC p l s m meth c b L xs D cy sa) (hi : 5 * i + 5 ≤ L) (KK : lwS p l e s m below meth c b D cy h o mb 1159 i (i + 1)) : lwS p l e s m below meth c b D cy h o mb 651 i i := by
  obtain ⟨hst, C0, hK0, hV0, hZ0, hN0, hL⟩ := C1
  obtain ⟨hx, hb, hr, hml, hown, hts0, hX0, hbl, hlocks, hgv⟩ := id C0
  intro ad av am thr nS nB tS tB st bk ts tb gate nu tg tn g hq d0 H locs ls hd0 hnS hnB htS htB hhq hI hP hD hS hl
  unfold WW at hP hD
  have hbA : ¬ (fun q : Nat => s.heap.size ≤ q) b := Nat.not_le.mpr hbl
  have hA : ∀ q : Nat, s.heap.size ≤ q → (fun q : Nat => s.heap.size ≤ q) q := fun _ z => z
  have hts : ∀ w ∈ wsL_law, w.before #[Value.ref b] (s.setDrawn d0) = true := fun w z => dr_words hts0 d0 w (wsL_law_in w z)
  have hK := XK.same (s := s) (U := s.setDrawn d0) rfl hK0
  have hV := XV.same (s := s) (U := s.setDrawn d0) rfl hV0
  have hZ : xZ (fun q : Nat => s.heap.size ≤ q) (s.setDrawn d0) (s.setDrawn d0).heap := xZ.moved (Vm.Alike.refl _) hZ0
  have hNc : xNcs (s.setDrawn d0) := hN0.moved (Vm.Alike.refl _)
  have hX : va_X b L xs (s.setDrawn d0) s.heap := va_X.moved (Vm.Alike.refl _) hX0
  obtain ⟨a1, ea1⟩ : ∃ a, a = xs (5 * i + 1) := ⟨_, rfl⟩
  obtain ⟨a2, ea2⟩ : ∃ a, a = xs (5 * i + 2) := ⟨_, rfl⟩
  rcases Classical.em (vp_in a1 nS) with hv | hv
  · obtain ⟨si, hsi, rfl⟩ := vp_in_of hv (by omega)
    rcases Decidable.em ((0 : Int32) ≤ a2 ∧ a2 ≤ 3) with h2 | h2
    · obtain ⟨k, hka, hkb, rfl⟩ := nat_of (a := 0) (b := 3) (by decide) h2 (by decide)
      refine lv_aload_n hx hb dL_law_651 rfl (lv_at hl 1 rfl) ?_
      refine lv_aload_n hx hb dL_law_652 rfl (lv_at hl 0 rfl) ?_
      refine lv_iload hx hb dL_law_653 (lv_at hl 4 rfl) ?_
      refine lv_iconst (v := 1) hx hb dL_law_655 (by decide) ?_
      refine lv_iadd hx hb dL_law_656 ?_
      refine W.eq (g2 := F0 m 657 ls [.int (nI (5 * i + 1)), .ref b, .ref h]) (by rw [show nI (5 * i) + 1 = nI (5 * i + 1) from nI_add (5 * i) 1]) ?_
      refine va_sld hx hb hX hbl hbA hS (i := nI (5 * i + 1)) (vp_in_nI (by omega) (by omega)) dL_law_657 ?_
      refine W.eq (g2 := F0 m 658 ls [.int (nI si), .ref h]) (by rw [nI_clamp (show 5 * i + 1 < 2 ^ 31 by omega), ← ea1]) ?_
      refine lv_aload_n hx hb dL_law_658 rfl (lv_at hl 0 rfl) ?_
      refine lv_iload hx hb dL_law_659 (lv_at hl 4 rfl) ?_
      refine lv_iconst (v := 2) hx hb dL_law_661 (by decide) ?_
      refine lv_iadd hx hb dL_law_662 ?_
      refine W.eq (g2 := F0 m 663 ls [.int (nI (5 * i + 2)), .ref b, .int (nI si), .ref h]) (by rw [show nI (5 * i) + 2 = nI (5 * i + 2) from nI_add (5 * i) 2]) ?_
      refine va_sld hx hb hX hbl hbA hS (i := nI (5 * i + 2)) (vp_in_nI (by omega) (by omega)) dL_law_663 ?_
      refine W.eq (g2 := F0 m 664 ls [.int (nI k), .int (nI si), .ref h]) (by rw [nI_clamp (show 5 * i + 2 < 2 ^ 31 by omega), ← ea2]) ?_
      refine lv_aload_n hx hb dL_law_664 rfl (lv_at hl 3 rfl) ?_
      refine xcL (As := [.ref h, .int (nI si), .int (nI k), .ref o]) (rest := []) ⟨hx, hb, hml, hown, hts⟩ (c_L_store l D cy sa h ad nS nB st bk gate nu (av 0) (tw cy av tS tB ts tb tg tn) si hsi k (by omega) hnS hnB o g) (vx_cwSW 4 hts gL_law_L_store rfl rfl rfl (by decide +kernel) ⟨Nat.le_of_ble_eq_true rfl, Nat.le_of_ble_eq_true rfl⟩) hK hV hZ hNc hP hD hS hA (xE_l) rfl hl.1 rfl (Nat.le_of_ble_eq_true rfl) dL_law_665 ⟨by show 15 + 120 * i + 0 + 1 ≤ 601024; omega, by show 187 + 700 * i + 0 + 6 ≤ 7293034; omega⟩ (fun u H locs _ hP hD hS => ?_)
      have hP : va_P D vwCl (((xw cy h ad nS nB st bk gate nu (av 0) (tw cy av tS tB ts tb tg tn)) ++ [(o, .inl (cy 4, 1, .inr (.inl (vp_updL g 0 ((stFact st bk nB si k).toInt64)))))]) ++ (mw cy mb am thr nS nB st bk gate nu)) H := hP
      have hD : va_D (fun q : Nat => s.heap.size ≤ q) (((xw cy h ad nS nB st bk gate nu (av 0) (tw cy av tS tB ts tb tg tn)) ++ [(o, .inl (cy 4, 1, .inr (.inl (vp_updL g 0 ((stFact st bk nB si k).toInt64)))))]) ++ (mw cy mb am thr nS nB st bk gate nu)) := hD
      refine W.eq (g2 := F0 m 668 ls [.int 0]) rfl ?_
      refine W.cs (cells' := 15 + 120 * i + 1) (slots' := 187 + 700 * i + 6) rfl rfl ?_
      refine lv_istore (lv' := [(5, .int 0), (0, .ref b), (1, .ref h), (2, .ref mb), (3, .ref o), (4, .int (nI (5 * i)))]) hx hb dL_law_668 hl (by decide) rfl (fun ls hl => ?_)
      refine lv_aload_n hx hb dL_law_670 rfl (lv_at hl 3 rfl) ?_
      refine lv_aload_n hx hb dL_law_671 rfl (lv_at hl 1 rfl) ?_
      refine lv_iload hx hb dL_law_672 (lv_at hl 5 rfl) ?_
      refine lv_iconst (v := 1) hx hb dL_law_674 (by decide) ?_
      refine lv_iadd hx hb dL_law_675 ?_
      refine W.eq (g2 := F0 m 676 ls [.int (nI (5 * i + 1)), .ref b, .ref mb]) (by rw [show nI (5 * i) + 1 = nI (5 * i + 1) from nI_add (5 * i) 1]) ?_
      refine va_sld hx hb hX hbl hbA hS (i := nI (5 * i + 1)) (vp_in_nI (by omega) (by omega)) dL_law_676 ?_
      refine W.eq (g2 := F0 m 677 ls [.int (nI si), .ref mb]) (by rw [nI_clamp (show 5 * i + 1 < 2 ^ 31 by omega), ← ea1]) ?_
      refine lv_aload_n hx hb dL_law_677 rfl (lv_at hl 1 rfl) ?_
      refine lv_iload hx hb dL_law_678 (lv_at hl 5 rfl) ?_
      refine lv_iconst (v := 2) hx hb dL_law_680 (by decide) ?_
      refine lv_iadd hx hb dL_law_681 ?_
      refine W.eq (g2 := F0 m 682 ls [.int (nI (5 * i + 2)), .ref b, .int (nI si), .ref mb]) (by rw [show nI (5 * i) + 2 = nI (5 * i + 2) from nI_add (5 * i) 2]) ?_
      refine va_sld hx hb hX hbl hbA hS (i := nI (5 * i + 2)) (vp_in_nI (by omega) (by omega)) dL_law_682 ?_
      refine W.eq (g2 := F0 m 683 ls [.int (nI k), .int (nI si), .ref mb]) (by rw [nI_clamp (show 5 * i + 2 < 2 ^ 31 by omega), ← ea2]) ?_
      refine xcV (As := [.int (nI si), .int (nI k)]) (rest := []) ⟨hx, hb, hml, hown, hts⟩ (c_X4_store l D cy mb am thr nS nB st bk gate nu si hsi k (by omega) hnS hnB) (cwV 2 hts gL_law_X4_store rfl rfl rfl (by decide +kernel) ⟨Nat.le_of_ble_eq_true rfl, Nat.le_of_ble_eq_true rfl⟩) hK hP hD hS hA rfl rfl rfl (xE_r) rfl hl.1 rfl (Nat.le_of_ble_eq_true rfl) dL_law_683 ⟨by show 15 + 120 * i + 1 + 0 ≤ 601024; omega, by show 187 + 700 * i + 6 + 0 ≤ 7293034; omega⟩ (fun _ H locs _ hP hD hS => ?_)
      have hP : va_P D vwCl (((xw cy h ad nS nB st bk gate nu (av 0) (tw cy av tS tB ts tb tg tn)) ++ [(o, .inl (cy 4, 1, .inr (.inl (vp_updL g 0 ((stFact st bk nB si k).toInt64)))))]) ++ (mw cy mb am 0 nS nB st bk gate nu)) H := hP
      have hD : va_D (fun q : Nat => s.heap.size ≤ q) (((xw cy h ad nS nB st bk gate nu (av 0) (tw cy av tS tB ts tb tg tn)) ++ [(o, .inl (cy 4, 1, .inr (.inl (vp_updL g 0 ((stFact st bk nB si k).toInt64)))))]) ++ (mw cy mb am 0 nS nB st bk gate nu)) := hD
      refine W.eq (g2 := F0 m 686 ls [.int (stFact st bk nB si k)]) rfl ?_
      refine W.cs (cells' := 15 + 120 * i + 1) (slots' := 187 + 700 * i + 6) rfl rfl ?_
      refine lv_istore (lv' := [(6, .int (stFact st bk nB si k)), (5, .int 0), (0, .ref b), (1, .ref h), (2, .ref mb), (3, .ref o), (4, .int (nI (5 * i)))]) hx hb dL_law_686 hl (by decide) rfl (fun ls hl => ?_)
      refine lv_aload_n hx hb dL_law_688 rfl (lv_at hl 4 rfl) ?_
      refine xcV (As := []) (rest := []) ⟨hx, hb, hml, hown, hts⟩ (c_X4_thrown l D cy mb am 0 nS nB st bk gate nu) (cwV 0 hts gL_law_X4_thrown rfl rfl rfl (by decide +kernel) ⟨Nat.le_of_ble_eq_true rfl, Nat.le_of_ble_eq_true rfl⟩) hK hP hD hS hA rfl rfl rfl (xE_r) rfl hl.1 rfl (Nat.le_of_ble_eq_true rfl) dL_law_689 ⟨by show 15 + 120 * i + 1 + 0 ≤ 601024; omega, by show 187 + 700 * i + 6 + 0 ≤ 7293034; omega⟩ (fun _ H locs _ hP hD hS => ?_)
      have hP : va_P D vwCl (((xw cy h ad nS nB st bk gate nu (av 0) (tw cy av tS tB ts tb tg tn)) ++ [(o, .inl (cy 4, 1, .inr (.inl (vp_updL g 0 ((stFact st bk nB si k).toInt64)))))]) ++ (mw cy mb am 0 nS nB st bk gate nu)) H := hP
      have hD : va_D (fun q : Nat => s.heap.size ≤ q) (((xw cy h ad nS nB st bk gate nu (av 0) (tw cy av tS tB ts tb tg tn)) ++ [(o, .inl (cy 4, 1, .inr (.inl (vp_updL g 0 ((stFact st bk nB si k).toInt64)))))]) ++ (mw cy mb am 0 nS nB st bk gate nu)) := hD
      refine W.eq (g2 := F0 m 692 ls [.int 0]) rfl ?_
      refine W.cs (cells' := 15 + 120 * i + 1) (slots' := 187 + 700 * i + 6) rfl rfl ?_
      refine lv_iload hx hb dL_law_692 (lv_at hl 1 rfl) ?_
      refine lv_icmp_eq (tgt := 699) hx hb dL_law_694 (by decide) (fun _ => ?_) (fun z => absurd rfl z)
      refine lv_iload hx hb dL_law_699 (lv_at hl 1 rfl) ?_
      refine lv_if_ne (tgt := 716) hx hb dL_law_701 (by decide) (fun z => absurd rfl z) (fun _ => ?_)
      refine lv_aload_n hx hb dL_law_704 rfl (lv_at hl 5 rfl) ?_
      refine lv_iconst (v := 0) hx hb dL_law_705 (by decide) ?_
      refine va_lald hx hb hK.1 hP _ 4 (at_l last_at) rfl (i := 0) (vp_in_nI (n := 0) (by decide) (by decide)) dL_law_706 ?_
      refine W.eq (g2 := F0 m 707 ls [.long ((stFact st bk nB si k).toInt64)]) rfl ?_
      refine lv_iload hx hb dL_law_707 (lv_at hl 0 rfl) ?_
      refine lv_i2l (v := (stFact st bk nB si k).toInt64) hx hb dL_law_709 rfl ?_
      refine W.lcmp hx hb dL_law_710 ?_
      refine W.eq (g2 := F0 m 711 ls [.int 0]) (by rw [lg_same]) ?_
      refine lv_if_eq (tgt := 716) hx hb dL_law_711 (by decide) (fun _ => ?_) (fun z => absurd rfl z)
      refine lv_goto (tgt := 1159) hx hb dL_law_716 (by decide) ?_
      refine W.widen (k := 15 + 120 * (i + 1)) (n := 187 + 700 * (i + 1)) (by omega) (by omega) ?_
      exact KK ad av am 0 nS nB tS tB st bk ts tb gate nu tg tn (vp_updL g 0 ((stFact st bk nB si k).toInt64)) hq d0  _ _ _ hd0 hnS hnB htS htB (by omega) hI hP hD hS (lv_sub hl [2, 3, 4, 5, 6] rfl)
    · refine lv_aload_n hx hb dL_law_651 rfl (lv_at hl 1 rfl) ?_
      refine lv_aload_n hx hb dL_law_652 rfl (lv_at hl 0 rfl) ?_
      refine lv_iload hx hb dL_law_653 (lv_at hl 4 rfl) ?_
      refine lv_iconst (v := 1) hx hb dL_law_655 (by decide) ?_
      refine lv_iadd hx hb dL_law_656 ?_
      refine W.eq (g2 := F0 m 657 ls [.int (nI (5 * i + 1)), .ref b, .ref h]) (by rw [show nI (5 * i) + 1 = nI (5 * i + 1) from nI_add (5 * i) 1]) ?_
      refine va_sld hx hb hX hbl hbA hS (i := nI (5 * i + 1)) (vp_in_nI (by omega) (by omega)) dL_law_657 ?_
      refine W.eq (g2 := F0 m 658 ls [.int (nI si), .ref h]) (by rw [nI_clamp (show 5 * i + 1 < 2 ^ 31 by omega), ← ea1]) ?_
      refine lv_aload_n hx hb dL_law_658 rfl (lv_at hl 0 rfl) ?_
      refine lv_iload hx hb dL_law_659 (lv_at hl 4 rfl) ?_
      refine lv_iconst (v := 2) hx hb dL_law_661 (by decide) ?_
      refine lv_iadd hx hb dL_law_662 ?_
      refine W.eq (g2 := F0 m 663 ls [.int (nI (5 * i + 2)), .ref b, .int (nI si), .ref h]) (by rw [show nI (5 * i) + 2 = nI (5 * i + 2) from nI_add (5 * i) 2]) ?_
      refine va_sld hx hb hX hbl hbA hS (i := nI (5 * i + 2)) (vp_in_nI (by omega) (by omega)) dL_law_663 ?_
      refine W.eq (g2 := F0 m 664 ls [.int a2, .int (nI si), .ref h]) (by rw [nI_clamp (show 5 * i + 2 < 2 ^ 31 by omega), ← ea2]) ?_
      refine lv_aload_n hx hb dL_law_664 rfl (lv_at hl 3 rfl) ?_
      refine xcL (As := [.ref h, .int (nI si), .int a2, .ref o]) (rest := []) ⟨hx, hb, hml, hown, hts⟩ (c_L_store_1b l hst D cy sa h ad nS nB st bk gate nu (av 0) (tw cy av tS tB ts tb tg tn) si hsi a2 h2 hnS hnB o g) (vx_cwSW 4 hts gL_law_L_store rfl rfl rfl (by decide +kernel) ⟨Nat.le_of_ble_eq_true rfl, Nat.le_of_ble_eq_true rfl⟩) hK hV hZ hNc hP hD hS hA (xE_l) rfl hl.1 rfl (Nat.le_of_ble_eq_true rfl) dL_law_665 ⟨by show 15 + 120 * i + 0 + 1 ≤ 601024; omega, by show 187 + 700 * i + 0 + 6 ≤ 7293034; omega⟩ (fun u H locs _ hP hD hS => ?_)
      have hP : va_P D vwCl (((xw cy h ad nS nB st bk gate nu (av 0) (tw cy av tS tB ts tb tg tn)) ++ [(o, .inl (cy 4, 1, .inr (.inl g)))]) ++ (mw cy mb am thr nS nB st bk gate nu)) H := hP
      have hD : va_D (fun q : Nat => s.heap.size ≤ q) (((xw cy h ad nS nB st bk gate nu (av 0) (tw cy av tS tB ts tb tg tn)) ++ [(o, .inl (cy 4, 1, .inr (.inl g)))]) ++ (mw cy mb am thr nS nB st bk gate nu)) := hD
      refine W.eq (g2 := F0 m 668 ls [.int 1]) rfl ?_
      refine W.cs (cells' := 15 + 120 * i + 1) (slots' := 187 + 700 * i + 6) rfl rfl ?_
      refine lv_istore (lv' := [(5, .int 1), (0, .ref b), (1, .ref h), (2, .ref mb), (3, .ref o), (4, .int (nI (5 * i)))]) hx hb dL_law_668 hl (by decide) rfl (fun ls hl => ?_)
      refine lv_aload_n hx hb dL_law_670 rfl (lv_at hl 3 rfl) ?_
      refine lv_aload_n hx hb dL_law_671 rfl (lv_at hl 1 rfl) ?_
      refine lv_iload hx hb dL_law_672 (lv_at hl 5 rfl) ?_
      refine lv_iconst (v := 1) hx hb dL_law_674 (by decide) ?_
      refine lv_iadd hx hb dL_law_675 ?_
      refine W.eq (g2 := F0 m 676 ls [.int (nI (5 * i + 1)), .ref b, .ref mb]) (by rw [show nI (5 * i) + 1 = nI (5 * i + 1) from nI_add (5 * i) 1]) ?_
      refine va_sld hx hb hX hbl hbA hS (i := nI (5 * i + 1)) (vp_in_nI (by omega) (by omega)) dL_law_676 ?_
      refine W.eq (g2 := F0 m 677 ls [.int (nI si), .ref mb]) (by rw [nI_clamp (show 5 * i + 1 < 2 ^ 31 by omega), ← ea1]) ?_
      refine lv_aload_n hx hb dL_law_677 rfl (lv_at hl 1 rfl) ?_
      refine lv_iload hx hb dL_law_678 (lv_at hl 5 rfl) ?_
      refine lv_iconst (v := 2) hx hb dL_law_680 (by decide) ?_
      refine lv_iadd hx hb dL_law_681 ?_
      refine W.eq (g2 := F0 m 682 ls [.int (nI (5 * i + 2)), .ref b, .int (nI si), .ref mb]) (by rw [show nI (5 * i) + 2 = nI (5 * i + 2) from nI_add (5 * i) 2]) ?_
      refine va_sld hx hb hX hbl hbA hS (i := nI (5 * i + 2)) (vp_in_nI (by omega) (by omega)) dL_law_682 ?_
      refine W.eq (g2 := F0 m 683 ls [.int a2, .int (nI si), .ref mb]) (by rw [nI_clamp (show 5 * i + 2 < 2 ^ 31 by omega), ← ea2]) ?_
      refine xcV (As := [.int (nI si), .int a2]) (rest := []) ⟨hx, hb, hml, hown, hts⟩ (c_X4_store_1b l D cy mb am thr nS nB st bk gate nu si hsi a2 h2 hnS) (cwV 2 hts gL_law_X4_store rfl rfl rfl (by decide +kernel) ⟨Nat.le_of_ble_eq_true rfl, Nat.le_of_ble_eq_true rfl⟩) hK hP hD hS hA rfl rfl rfl (xE_r) rfl hl.1 rfl (Nat.le_of_ble_eq_true rfl) dL_law_683 ⟨by show 15 + 120 * i + 1 + 0 ≤ 601024; omega, by show 187 + 700 * i + 6 + 0 ≤ 7293034; omega⟩ (fun _ H locs _ hP hD hS => ?_)
      have hP : va_P D vwCl (((xw cy h ad nS nB st bk gate nu (av 0) (tw cy av tS tB ts tb tg tn)) ++ [(o, .inl (cy 4, 1, .inr (.inl g)))]) ++ (mw cy mb am 1 nS nB st bk gate nu)) H := hP
      have hD : va_D (fun q : Nat => s.heap.size ≤ q) (((xw cy h ad nS nB st bk gate nu (av 0) (tw cy av tS tB ts tb tg tn)) ++ [(o, .inl (cy 4, 1, .inr (.inl g)))]) ++ (mw cy mb am 1 nS nB st bk gate nu)) := hD
      refine W.eq (g2 := F0 m 686 ls [.int 0]) rfl ?_
      refine W.cs (cells' := 15 + 120 * i + 1) (slots' := 187 + 700 * i + 6) rfl rfl ?_
      refine lv_istore (lv' := [(6, .int 0), (5, .int 1), (0, .ref b), (1, .ref h), (2, .ref mb), (3, .ref o), (4, .int (nI (5 * i)))]) hx hb dL_law_686 hl (by decide) rfl (fun ls hl => ?_)
      refine lv_aload_n hx hb dL_law_688 rfl (lv_at hl 4 rfl) ?_
      refine xcV (As := []) (rest := []) ⟨hx, hb, hml, hown, hts⟩ (c_X4_thrown l D cy mb am 1 nS nB st bk gate nu) (cwV 0 hts gL_law_X4_thrown rfl rfl rfl (by decide +kernel) ⟨Nat.le_of_ble_eq_true rfl, Nat.le_of_ble_eq_true rfl⟩) hK hP hD hS hA rfl rfl rfl (xE_r) rfl hl.1 rfl (Nat.le_of_ble_eq_true rfl) dL_law_689 ⟨by show 15 + 120 * i + 1 + 0 ≤ 601024; omega, by show 187 + 700 * i + 6 + 0 ≤ 7293034; omega⟩ (fun _ H locs _ hP hD hS => ?_)
      have hP : va_P D vwCl (((xw cy h ad nS nB st bk gate nu (av 0) (tw cy av tS tB ts tb tg tn)) ++ [(o, .inl (cy 4, 1, .inr (.inl g)))]) ++ (mw cy mb am 1 nS nB st bk gate nu)) H := hP
      have hD : va_D (fun q : Nat => s.heap.size ≤ q) (((xw cy h ad nS nB st bk gate nu (av 0) (tw cy av tS tB ts tb tg tn)) ++ [(o, .inl (cy 4, 1, .inr (.inl g)))]) ++ (mw cy mb am 1 nS nB st bk gate nu)) := hD
      refine W.eq (g2 := F0 m 692 ls [.int 1]) rfl ?_
      refine W.cs (cells' := 15 + 120 * i + 1) (slots' := 187 + 700 * i + 6) rfl rfl ?_
      refine lv_iload hx hb dL_law_692 (lv_at hl 1 rfl) ?_
      refine lv_icmp_eq (tgt := 699) hx hb dL_law_694 (by decide) (fun _ => ?_) (fun z => absurd rfl z)
      refine lv_iload hx hb dL_law_699 (lv_at hl 1 rfl) ?_
      refine lv_if_ne (tgt := 716) hx hb dL_law_701 (by decide) (fun _ => ?_) (fun z => absurd z (by decide))
      refine lv_goto (tgt := 1159) hx hb dL_law_716 (by decide) ?_
      refine W.widen (k := 15 + 120 * (i + 1)) (n := 187 + 700 * (i + 1)) (by omega) (by omega) ?_
      exact KK ad av am 1 nS nB tS tB st bk ts tb gate nu tg tn g hq d0  _ _ _ hd0 hnS hnB htS htB (by omega) hI hP hD hS (lv_sub hl [2, 3, 4, 5, 6] rfl)
  · refine lv_aload_n hx hb dL_law_651 rfl (lv_at hl 1 rfl) ?_
    refine lv_aload_n hx hb dL_law_652 rfl (lv_at hl 0 rfl) ?_
    refine lv_iload hx hb dL_law_653 (lv_at hl 4 rfl) ?_
    refine lv_iconst (v := 1) hx hb dL_law_655 (by decide) ?_
    refine lv_iadd hx hb dL_law_656 ?_
    refine W.eq (g2 := F0 m 657 ls [.int (nI (5 * i + 1)), .ref b, .ref h]) (by rw [show nI (5 * i) + 1 = nI (5 * i + 1) from nI_add (5 * i) 1]) ?_
    refine va_sld hx hb hX hbl hbA hS (i := nI (5 * i + 1)) (vp_in_nI (by omega) (by omega)) dL_law_657 ?_
    refine W.eq (g2 := F0 m 658 ls [.int a1, .ref h]) (by rw [nI_clamp (show 5 * i + 1 < 2 ^ 31 by omega), ← ea1]) ?_
    refine lv_aload_n hx hb dL_law_658 rfl (lv_at hl 0 rfl) ?_
    refine lv_iload hx hb dL_law_659 (lv_at hl 4 rfl) ?_
    refine lv_iconst (v := 2) hx hb dL_law_661 (by decide) ?_
    refine lv_iadd hx hb dL_law_662 ?_
    refine W.eq (g2 := F0 m 663 ls [.int (nI (5 * i + 2)), .ref b, .int a1, .ref h]) (by rw [show nI (5 * i) + 2 = nI (5 * i + 2) from nI_add (5 * i) 2]) ?_
    refine va_sld hx hb hX hbl hbA hS (i := nI (5 * i + 2)) (vp_in_nI (by omega) (by omega)) dL_law_663 ?_
    refine W.eq (g2 := F0 m 664 ls [.int a2, .int a1, .ref h]) (by rw [nI_clamp (show 5 * i + 2 < 2 ^ 31 by omega), ← ea2]) ?_
    refine lv_aload_n hx hb dL_law_664 rfl (lv_at hl 3 rfl) ?_
    refine xcL (As := [.ref h, .int a1, .int a2, .ref o]) (rest := []) ⟨hx, hb, hml, hown, hts⟩ (c_L_store_1a l hst D cy sa h ad nS nB st bk gate nu (av 0) (tw cy av tS tB ts tb tg tn) a1 a2 hv hnS hnB o g) (vx_cwSW 4 hts gL_law_L_store rfl rfl rfl (by decide +kernel) ⟨Nat.le_of_ble_eq_true rfl, Nat.le_of_ble_eq_true rfl⟩) hK hV hZ hNc hP hD hS hA (xE_l) rfl hl.1 rfl (Nat.le_of_ble_eq_true rfl) dL_law_665 ⟨by show 15 + 120 * i + 0 + 1 ≤ 601024; omega, by show 187 + 700 * i + 0 + 6 ≤ 7293034; omega⟩ (fun u H locs _ hP hD hS => ?_)
    have hP : va_P D vwCl (((xw cy h ad nS nB st bk gate nu (av 0) (tw cy av tS tB ts tb tg tn)) ++ [(o, .inl (cy 4, 1, .inr (.inl g)))]) ++ (mw cy mb am thr nS nB st bk gate nu)) H := hP
    have hD : va_D (fun q : Nat => s.heap.size ≤ q) (((xw cy h ad nS nB st bk gate nu (av 0) (tw cy av tS tB ts tb tg tn)) ++ [(o, .inl (cy 4, 1, .inr (.inl g)))]) ++ (mw cy mb am thr nS nB st bk gate nu)) := hD
    refine W.eq (g2 := F0 m 668 ls [.int 1]) rfl ?_
    refine W.cs (cells' := 15 + 120 * i + 1) (slots' := 187 + 700 * i + 6) rfl rfl ?_
    refine lv_istore (lv' := [(5, .int 1), (0, .ref b), (1, .ref h), (2, .ref mb), (3, .ref o), (4, .int (nI (5 * i)))]) hx hb dL_law_668 hl (by decide) rfl (fun ls hl => ?_)
    refine lv_aload_n hx hb dL_law_670 rfl (lv_at hl 3 rfl) ?_
    refine lv_aload_n hx hb dL_law_671 rfl (lv_at hl 1 rfl) ?_
    refine lv_iload hx hb dL_law_672 (lv_at hl 5 rfl) ?_
    refine lv_iconst (v := 1) hx hb dL_law_674 (by decide) ?_
    refine lv_iadd hx hb dL_law_675 ?_
    refine W.eq (g2 := F0 m 676 ls [.int (nI (5 * i + 1)), .ref b, .ref mb]) (by rw [show nI (5 * i) + 1 = nI (5 * i + 1) from nI_add (5 * i) 1]) ?_
    refine va_sld hx hb hX hbl hbA hS (i := nI (5 * i + 1)) (vp_in_nI (by omega) (by omega)) dL_law_676 ?_
    refine W.eq (g2 := F0 m 677 ls [.int a1, .ref mb]) (by rw [nI_clamp (show 5 * i + 1 < 2 ^ 31 by omega), ← ea1]) ?_
    refine lv_aload_n hx hb dL_law_677 rfl (lv_at hl 1 rfl) ?_
    refine lv_iload hx hb dL_law_678 (lv_at hl 5 rfl) ?_
    refine lv_iconst (v := 2) hx hb dL_law_680 (by decide) ?_
    refine lv_iadd hx hb dL_law_681 ?_
    refine W.eq (g2 := F0 m 682 ls [.int (nI (5 * i + 2)), .ref b, .int a1, .ref mb]) (by rw [show nI (5 * i) + 2 = nI (5 * i + 2) from nI_add (5 * i) 2]) ?_
    refine va_sld hx hb hX hbl hbA hS (i := nI (5 * i + 2)) (vp_in_nI (by omega) (by omega)) dL_law_682 ?_
    refine W.eq (g2 := F0 m 683 ls [.int a2, .int a1, .ref mb]) (by rw [nI_clamp (show 5 * i + 2 < 2 ^ 31 by omega), ← ea2]) ?_
    refine xcV (As := [.int a1, .int a2]) (rest := []) ⟨hx, hb, hml, hown, hts⟩ (c_X4_store_1a l D cy mb am thr nS nB st bk gate nu a1 a2 hv hnS) (cwV 2 hts gL_law_X4_store rfl rfl rfl (by decide +kernel) ⟨Nat.le_of_ble_eq_true rfl, Nat.le_of_ble_eq_true rfl⟩) hK hP hD hS hA rfl rfl rfl (xE_r) rfl hl.1 rfl (Nat.le_of_ble_eq_true rfl) dL_law_683 ⟨by show 15 + 120 * i + 1 + 0 ≤ 601024; omega, by show 187 + 700 * i + 6 + 0 ≤ 7293034; omega⟩ (fun _ H locs _ hP hD hS => ?_)
    have hP : va_P D vwCl (((xw cy h ad nS nB st bk gate nu (av 0) (tw cy av tS tB ts tb tg tn)) ++ [(o, .inl (cy 4, 1, .inr (.inl g)))]) ++ (mw cy mb am 1 nS nB st bk gate nu)) H := hP
    have hD : va_D (fun q : Nat => s.heap.size ≤ q) (((xw cy h ad nS nB st bk gate nu (av 0) (tw cy av tS tB ts tb tg tn)) ++ [(o, .inl (cy 4, 1, .inr (.inl g)))]) ++ (mw cy mb am 1 nS nB st bk gate nu)) := hD
    refine W.eq (g2 := F0 m 686 ls [.int 0]) rfl ?_
    refine W.cs (cells' := 15 + 120 * i + 1) (slots' := 187 + 700 * i + 6) rfl rfl ?_
    refine lv_istore (lv' := [(6, .int 0), (5, .int 1), (0, .ref b), (1, .ref h), (2, .ref mb), (3, .ref o), (4, .int (nI (5 * i)))]) hx hb dL_law_686 hl (by decide) rfl (fun ls hl => ?_)
    refine lv_aload_n hx hb dL_law_688 rfl (lv_at hl 4 rfl) ?_
    refine xcV (As := []) (rest := []) ⟨hx, hb, hml, hown, hts⟩ (c_X4_thrown l D cy mb am 1 nS nB st bk gate nu) (cwV 0 hts gL_law_X4_thrown rfl rfl rfl (by decide +kernel) ⟨Nat.le_of_ble_eq_true rfl, Nat.le_of_ble_eq_true rfl⟩) hK hP hD hS hA rfl rfl rfl (xE_r) rfl hl.1 rfl (Nat.le_of_ble_eq_true rfl) dL_law_689 ⟨by show 15 + 120 * i + 1 + 0 ≤ 601024; omega, by show 187 + 700 * i + 6 + 0 ≤ 7293034; omega⟩ (fun _ H locs _ hP hD hS => ?_)
    have hP : va_P D vwCl (((xw cy h ad nS nB st bk gate nu (av 0) (tw cy av tS tB ts tb tg tn)) ++ [(o, .inl (cy 4, 1, .inr (.inl g)))]) ++ (mw cy mb am 1 nS nB st bk gate nu)) H := hP
    have hD : va_D (fun q : Nat => s.heap.size ≤ q) (((xw cy h ad nS nB st bk gate nu (av 0) (tw cy av tS tB ts tb tg tn)) ++ [(o, .inl (cy 4, 1, .inr (.inl g)))]) ++ (mw cy mb am 1 nS nB st bk gate nu)) := hD
    refine W.eq (g2 := F0 m 692 ls [.int 1]) rfl ?_
    refine W.cs (cells' := 15 + 120 * i + 1) (slots' := 187 + 700 * i + 6) rfl rfl ?_
    refine lv_iload hx hb dL_law_692 (lv_at hl 1 rfl) ?_
    refine lv_icmp_eq (tgt := 699) hx hb dL_law_694 (by decide) (fun _ => ?_) (fun z => absurd rfl z)
    refine lv_iload hx hb dL_law_699 (lv_at hl 1 rfl) ?_
    refine lv_if_ne (tgt := 716) hx hb dL_law_701 (by decide) (fun _ => ?_) (fun z => absurd z (by decide))
    refine lv_goto (tgt := 1159) hx hb dL_law_716 (by decide) ?_
    refine W.widen (k := 15 + 120 * (i + 1)) (n := 187 + 700 * (i + 1)) (by omega) (by omega) ?_
    exact KK ad av am 1 nS nB tS tB st bk ts tb gate nu tg tn g hq d0  _ _ _ hd0 hnS hnB htS htB (by omega) hI hP hD hS (lv_sub hl [2, 3, 4, 5, 6] rfl)

set_option maxHeartbeats 4000000 in
set_option maxRecDepth 100000 in
theorem l_case_baker {p : Program} {l : Launch} {e : Env} {s : State} {m : MethodId} {below : List Frame} {meth : Method} {c : Code} {b L : Nat} {xs : Nat → Int32} {D : va_G} {cy : Nat → ClassId} {sa : Nat → Nat} {h o mb i : Nat} (C1 : lwC p l s m meth c b L xs D cy sa) (hi : 5 * i + 5 ≤ L) (KK : lwS p l e s m below meth c b D cy h o mb 1159 i (i + 1)) : lwS p l e s m below meth c b D cy h o mb 719 i i := by
  obtain ⟨hst, C0, hK0, hV0, hZ0, hN0, hL⟩ := C1
  obtain ⟨hx, hb, hr, hml, hown, hts0, hX0, hbl, hlocks, hgv⟩ := id C0
  intro ad av am thr nS nB tS tB st bk ts tb gate nu tg tn g hq d0 H locs ls hd0 hnS hnB htS htB hhq hI hP hD hS hl
  unfold WW at hP hD
  have hbA : ¬ (fun q : Nat => s.heap.size ≤ q) b := Nat.not_le.mpr hbl
  have hA : ∀ q : Nat, s.heap.size ≤ q → (fun q : Nat => s.heap.size ≤ q) q := fun _ z => z
  have hts : ∀ w ∈ wsL_law, w.before #[Value.ref b] (s.setDrawn d0) = true := fun w z => dr_words hts0 d0 w (wsL_law_in w z)
  have hK := XK.same (s := s) (U := s.setDrawn d0) rfl hK0
  have hV := XV.same (s := s) (U := s.setDrawn d0) rfl hV0
  have hZ : xZ (fun q : Nat => s.heap.size ≤ q) (s.setDrawn d0) (s.setDrawn d0).heap := xZ.moved (Vm.Alike.refl _) hZ0
  have hNc : xNcs (s.setDrawn d0) := hN0.moved (Vm.Alike.refl _)
  have hX : va_X b L xs (s.setDrawn d0) s.heap := va_X.moved (Vm.Alike.refl _) hX0
  obtain ⟨a1, ea1⟩ : ∃ a, a = xs (5 * i + 1) := ⟨_, rfl⟩
  obtain ⟨a2, ea2⟩ : ∃ a, a = xs (5 * i + 2) := ⟨_, rfl⟩
  rcases Classical.em (vp_in a1 nB) with hv | hv
  · obtain ⟨bj, hbj, rfl⟩ := vp_in_of hv (by omega)
    rcases Decidable.em ((0 : Int32) ≤ a2 ∧ a2 ≤ 7) with h2 | h2
    · obtain ⟨k, hka, hkb, rfl⟩ := nat_of (a := 0) (b := 7) (by decide) h2 (by decide)
      refine lv_aload_n hx hb dL_law_719 rfl (lv_at hl 1 rfl) ?_
      refine lv_aload_n hx hb dL_law_720 rfl (lv_at hl 0 rfl) ?_
      refine lv_iload hx hb dL_law_721 (lv_at hl 4 rfl) ?_
      refine lv_iconst (v := 1) hx hb dL_law_723 (by decide) ?_
      refine lv_iadd hx hb dL_law_724 ?_
      refine W.eq (g2 := F0 m 725 ls [.int (nI (5 * i + 1)), .ref b, .ref h]) (by rw [show nI (5 * i) + 1 = nI (5 * i + 1) from nI_add (5 * i) 1]) ?_
      refine va_sld hx hb hX hbl hbA hS (i := nI (5 * i + 1)) (vp_in_nI (by omega) (by omega)) dL_law_725 ?_
      refine W.eq (g2 := F0 m 726 ls [.int (nI bj), .ref h]) (by rw [nI_clamp (show 5 * i + 1 < 2 ^ 31 by omega), ← ea1]) ?_
      refine lv_aload_n hx hb dL_law_726 rfl (lv_at hl 0 rfl) ?_
      refine lv_iload hx hb dL_law_727 (lv_at hl 4 rfl) ?_
      refine lv_iconst (v := 2) hx hb dL_law_729 (by decide) ?_
      refine lv_iadd hx hb dL_law_730 ?_
      refine W.eq (g2 := F0 m 731 ls [.int (nI (5 * i + 2)), .ref b, .int (nI bj), .ref h]) (by rw [show nI (5 * i) + 2 = nI (5 * i + 2) from nI_add (5 * i) 2]) ?_
      refine va_sld hx hb hX hbl hbA hS (i := nI (5 * i + 2)) (vp_in_nI (by omega) (by omega)) dL_law_731 ?_
      refine W.eq (g2 := F0 m 732 ls [.int (nI k), .int (nI bj), .ref h]) (by rw [nI_clamp (show 5 * i + 2 < 2 ^ 31 by omega), ← ea2]) ?_
      refine lv_aload_n hx hb dL_law_732 rfl (lv_at hl 3 rfl) ?_
      refine xcL (As := [.ref h, .int (nI bj), .int (nI k), .ref o]) (rest := []) ⟨hx, hb, hml, hown, hts⟩ (c_L_baker l D cy sa h ad nS nB st bk gate nu (av 0) (tw cy av tS tB ts tb tg tn) bj hbj k (by omega) hnS hnB o g) (vx_cwSW 4 hts gL_law_L_baker rfl rfl rfl (by decide +kernel) ⟨Nat.le_of_ble_eq_true rfl, Nat.le_of_ble_eq_true rfl⟩) hK hV hZ hNc hP hD hS hA (xE_l) rfl hl.1 rfl (Nat.le_of_ble_eq_true rfl) dL_law_733 ⟨by show 15 + 120 * i + 0 + 1 ≤ 601024; omega, by show 187 + 700 * i + 0 + 6 ≤ 7293034; omega⟩ (fun u H locs _ hP hD hS => ?_)
      have hP : va_P D vwCl (((xw cy h ad nS nB st bk gate nu (av 0) (tw cy av tS tB ts tb tg tn)) ++ [(o, .inl (cy 4, 1, .inr (.inl (vp_updL g 0 ((bFact (bk bj) k).toInt64)))))]) ++ (mw cy mb am thr nS nB st bk gate nu)) H := hP
      have hD : va_D (fun q : Nat => s.heap.size ≤ q) (((xw cy h ad nS nB st bk gate nu (av 0) (tw cy av tS tB ts tb tg tn)) ++ [(o, .inl (cy 4, 1, .inr (.inl (vp_updL g 0 ((bFact (bk bj) k).toInt64)))))]) ++ (mw cy mb am thr nS nB st bk gate nu)) := hD
      refine W.eq (g2 := F0 m 736 ls [.int 0]) rfl ?_
      refine W.cs (cells' := 15 + 120 * i + 1) (slots' := 187 + 700 * i + 6) rfl rfl ?_
      refine lv_istore (lv' := [(5, .int 0), (0, .ref b), (1, .ref h), (2, .ref mb), (3, .ref o), (4, .int (nI (5 * i)))]) hx hb dL_law_736 hl (by decide) rfl (fun ls hl => ?_)
      refine lv_aload_n hx hb dL_law_738 rfl (lv_at hl 3 rfl) ?_
      refine lv_aload_n hx hb dL_law_739 rfl (lv_at hl 1 rfl) ?_
      refine lv_iload hx hb dL_law_740 (lv_at hl 5 rfl) ?_
      refine lv_iconst (v := 1) hx hb dL_law_742 (by decide) ?_
      refine lv_iadd hx hb dL_law_743 ?_
      refine W.eq (g2 := F0 m 744 ls [.int (nI (5 * i + 1)), .ref b, .ref mb]) (by rw [show nI (5 * i) + 1 = nI (5 * i + 1) from nI_add (5 * i) 1]) ?_
      refine va_sld hx hb hX hbl hbA hS (i := nI (5 * i + 1)) (vp_in_nI (by omega) (by omega)) dL_law_744 ?_
      refine W.eq (g2 := F0 m 745 ls [.int (nI bj), .ref mb]) (by rw [nI_clamp (show 5 * i + 1 < 2 ^ 31 by omega), ← ea1]) ?_
      refine lv_aload_n hx hb dL_law_745 rfl (lv_at hl 1 rfl) ?_
      refine lv_iload hx hb dL_law_746 (lv_at hl 5 rfl) ?_
      refine lv_iconst (v := 2) hx hb dL_law_748 (by decide) ?_
      refine lv_iadd hx hb dL_law_749 ?_
      refine W.eq (g2 := F0 m 750 ls [.int (nI (5 * i + 2)), .ref b, .int (nI bj), .ref mb]) (by rw [show nI (5 * i) + 2 = nI (5 * i + 2) from nI_add (5 * i) 2]) ?_
      refine va_sld hx hb hX hbl hbA hS (i := nI (5 * i + 2)) (vp_in_nI (by omega) (by omega)) dL_law_750 ?_
      refine W.eq (g2 := F0 m 751 ls [.int (nI k), .int (nI bj), .ref mb]) (by rw [nI_clamp (show 5 * i + 2 < 2 ^ 31 by omega), ← ea2]) ?_
      refine xcV (As := [.int (nI bj), .int (nI k)]) (rest := []) ⟨hx, hb, hml, hown, hts⟩ (c_X4_baker l D cy mb am thr nS nB st bk gate nu bj hbj k (by omega) ((hI.2.1 bj hbj).2.1) hnB) (cwV 2 hts gL_law_X4_baker rfl rfl rfl (by decide +kernel) ⟨Nat.le_of_ble_eq_true rfl, Nat.le_of_ble_eq_true rfl⟩) hK hP hD hS hA rfl rfl rfl (xE_r) rfl hl.1 rfl (Nat.le_of_ble_eq_true rfl) dL_law_751 ⟨by show 15 + 120 * i + 1 + 0 ≤ 601024; omega, by show 187 + 700 * i + 6 + 0 ≤ 7293034; omega⟩ (fun _ H locs _ hP hD hS => ?_)
      have hP : va_P D vwCl (((xw cy h ad nS nB st bk gate nu (av 0) (tw cy av tS tB ts tb tg tn)) ++ [(o, .inl (cy 4, 1, .inr (.inl (vp_updL g 0 ((bFact (bk bj) k).toInt64)))))]) ++ (mw cy mb am 0 nS nB st bk gate nu)) H := hP
      have hD : va_D (fun q : Nat => s.heap.size ≤ q) (((xw cy h ad nS nB st bk gate nu (av 0) (tw cy av tS tB ts tb tg tn)) ++ [(o, .inl (cy 4, 1, .inr (.inl (vp_updL g 0 ((bFact (bk bj) k).toInt64)))))]) ++ (mw cy mb am 0 nS nB st bk gate nu)) := hD
      refine W.eq (g2 := F0 m 754 ls [.int (bFact (bk bj) k)]) rfl ?_
      refine W.cs (cells' := 15 + 120 * i + 1) (slots' := 187 + 700 * i + 6) rfl rfl ?_
      refine lv_istore (lv' := [(6, .int (bFact (bk bj) k)), (5, .int 0), (0, .ref b), (1, .ref h), (2, .ref mb), (3, .ref o), (4, .int (nI (5 * i)))]) hx hb dL_law_754 hl (by decide) rfl (fun ls hl => ?_)
      refine lv_aload_n hx hb dL_law_756 rfl (lv_at hl 4 rfl) ?_
      refine xcV (As := []) (rest := []) ⟨hx, hb, hml, hown, hts⟩ (c_X4_thrown l D cy mb am 0 nS nB st bk gate nu) (cwV 0 hts gL_law_X4_thrown rfl rfl rfl (by decide +kernel) ⟨Nat.le_of_ble_eq_true rfl, Nat.le_of_ble_eq_true rfl⟩) hK hP hD hS hA rfl rfl rfl (xE_r) rfl hl.1 rfl (Nat.le_of_ble_eq_true rfl) dL_law_757 ⟨by show 15 + 120 * i + 1 + 0 ≤ 601024; omega, by show 187 + 700 * i + 6 + 0 ≤ 7293034; omega⟩ (fun _ H locs _ hP hD hS => ?_)
      have hP : va_P D vwCl (((xw cy h ad nS nB st bk gate nu (av 0) (tw cy av tS tB ts tb tg tn)) ++ [(o, .inl (cy 4, 1, .inr (.inl (vp_updL g 0 ((bFact (bk bj) k).toInt64)))))]) ++ (mw cy mb am 0 nS nB st bk gate nu)) H := hP
      have hD : va_D (fun q : Nat => s.heap.size ≤ q) (((xw cy h ad nS nB st bk gate nu (av 0) (tw cy av tS tB ts tb tg tn)) ++ [(o, .inl (cy 4, 1, .inr (.inl (vp_updL g 0 ((bFact (bk bj) k).toInt64)))))]) ++ (mw cy mb am 0 nS nB st bk gate nu)) := hD
      refine W.eq (g2 := F0 m 760 ls [.int 0]) rfl ?_
      refine W.cs (cells' := 15 + 120 * i + 1) (slots' := 187 + 700 * i + 6) rfl rfl ?_
      refine lv_iload hx hb dL_law_760 (lv_at hl 1 rfl) ?_
      refine lv_icmp_eq (tgt := 767) hx hb dL_law_762 (by decide) (fun _ => ?_) (fun z => absurd rfl z)
      refine lv_iload hx hb dL_law_767 (lv_at hl 1 rfl) ?_
      refine lv_if_ne (tgt := 784) hx hb dL_law_769 (by decide) (fun z => absurd rfl z) (fun _ => ?_)
      refine lv_aload_n hx hb dL_law_772 rfl (lv_at hl 5 rfl) ?_
      refine lv_iconst (v := 0) hx hb dL_law_773 (by decide) ?_
      refine va_lald hx hb hK.1 hP _ 4 (at_l last_at) rfl (i := 0) (vp_in_nI (n := 0) (by decide) (by decide)) dL_law_774 ?_
      refine W.eq (g2 := F0 m 775 ls [.long ((bFact (bk bj) k).toInt64)]) rfl ?_
      refine lv_iload hx hb dL_law_775 (lv_at hl 0 rfl) ?_
      refine lv_i2l (v := (bFact (bk bj) k).toInt64) hx hb dL_law_777 rfl ?_
      refine W.lcmp hx hb dL_law_778 ?_
      refine W.eq (g2 := F0 m 779 ls [.int 0]) (by rw [lg_same]) ?_
      refine lv_if_eq (tgt := 784) hx hb dL_law_779 (by decide) (fun _ => ?_) (fun z => absurd rfl z)
      refine lv_goto (tgt := 1159) hx hb dL_law_784 (by decide) ?_
      refine W.widen (k := 15 + 120 * (i + 1)) (n := 187 + 700 * (i + 1)) (by omega) (by omega) ?_
      exact KK ad av am 0 nS nB tS tB st bk ts tb gate nu tg tn (vp_updL g 0 ((bFact (bk bj) k).toInt64)) hq d0  _ _ _ hd0 hnS hnB htS htB (by omega) hI hP hD hS (lv_sub hl [2, 3, 4, 5, 6] rfl)
    · refine lv_aload_n hx hb dL_law_719 rfl (lv_at hl 1 rfl) ?_
      refine lv_aload_n hx hb dL_law_720 rfl (lv_at hl 0 rfl) ?_
      refine lv_iload hx hb dL_law_721 (lv_at hl 4 rfl) ?_
      refine lv_iconst (v := 1) hx hb dL_law_723 (by decide) ?_
      refine lv_iadd hx hb dL_law_724 ?_
      refine W.eq (g2 := F0 m 725 ls [.int (nI (5 * i + 1)), .ref b, .ref h]) (by rw [show nI (5 * i) + 1 = nI (5 * i + 1) from nI_add (5 * i) 1]) ?_
      refine va_sld hx hb hX hbl hbA hS (i := nI (5 * i + 1)) (vp_in_nI (by omega) (by omega)) dL_law_725 ?_
      refine W.eq (g2 := F0 m 726 ls [.int (nI bj), .ref h]) (by rw [nI_clamp (show 5 * i + 1 < 2 ^ 31 by omega), ← ea1]) ?_
      refine lv_aload_n hx hb dL_law_726 rfl (lv_at hl 0 rfl) ?_
      refine lv_iload hx hb dL_law_727 (lv_at hl 4 rfl) ?_
      refine lv_iconst (v := 2) hx hb dL_law_729 (by decide) ?_
      refine lv_iadd hx hb dL_law_730 ?_
      refine W.eq (g2 := F0 m 731 ls [.int (nI (5 * i + 2)), .ref b, .int (nI bj), .ref h]) (by rw [show nI (5 * i) + 2 = nI (5 * i + 2) from nI_add (5 * i) 2]) ?_
      refine va_sld hx hb hX hbl hbA hS (i := nI (5 * i + 2)) (vp_in_nI (by omega) (by omega)) dL_law_731 ?_
      refine W.eq (g2 := F0 m 732 ls [.int a2, .int (nI bj), .ref h]) (by rw [nI_clamp (show 5 * i + 2 < 2 ^ 31 by omega), ← ea2]) ?_
      refine lv_aload_n hx hb dL_law_732 rfl (lv_at hl 3 rfl) ?_
      refine xcL (As := [.ref h, .int (nI bj), .int a2, .ref o]) (rest := []) ⟨hx, hb, hml, hown, hts⟩ (c_L_baker_1b l hst D cy sa h ad nS nB st bk gate nu (av 0) (tw cy av tS tB ts tb tg tn) bj hbj a2 h2 hnS hnB o g) (vx_cwSW 4 hts gL_law_L_baker rfl rfl rfl (by decide +kernel) ⟨Nat.le_of_ble_eq_true rfl, Nat.le_of_ble_eq_true rfl⟩) hK hV hZ hNc hP hD hS hA (xE_l) rfl hl.1 rfl (Nat.le_of_ble_eq_true rfl) dL_law_733 ⟨by show 15 + 120 * i + 0 + 1 ≤ 601024; omega, by show 187 + 700 * i + 0 + 6 ≤ 7293034; omega⟩ (fun u H locs _ hP hD hS => ?_)
      have hP : va_P D vwCl (((xw cy h ad nS nB st bk gate nu (av 0) (tw cy av tS tB ts tb tg tn)) ++ [(o, .inl (cy 4, 1, .inr (.inl g)))]) ++ (mw cy mb am thr nS nB st bk gate nu)) H := hP
      have hD : va_D (fun q : Nat => s.heap.size ≤ q) (((xw cy h ad nS nB st bk gate nu (av 0) (tw cy av tS tB ts tb tg tn)) ++ [(o, .inl (cy 4, 1, .inr (.inl g)))]) ++ (mw cy mb am thr nS nB st bk gate nu)) := hD
      refine W.eq (g2 := F0 m 736 ls [.int 1]) rfl ?_
      refine W.cs (cells' := 15 + 120 * i + 1) (slots' := 187 + 700 * i + 6) rfl rfl ?_
      refine lv_istore (lv' := [(5, .int 1), (0, .ref b), (1, .ref h), (2, .ref mb), (3, .ref o), (4, .int (nI (5 * i)))]) hx hb dL_law_736 hl (by decide) rfl (fun ls hl => ?_)
      refine lv_aload_n hx hb dL_law_738 rfl (lv_at hl 3 rfl) ?_
      refine lv_aload_n hx hb dL_law_739 rfl (lv_at hl 1 rfl) ?_
      refine lv_iload hx hb dL_law_740 (lv_at hl 5 rfl) ?_
      refine lv_iconst (v := 1) hx hb dL_law_742 (by decide) ?_
      refine lv_iadd hx hb dL_law_743 ?_
      refine W.eq (g2 := F0 m 744 ls [.int (nI (5 * i + 1)), .ref b, .ref mb]) (by rw [show nI (5 * i) + 1 = nI (5 * i + 1) from nI_add (5 * i) 1]) ?_
      refine va_sld hx hb hX hbl hbA hS (i := nI (5 * i + 1)) (vp_in_nI (by omega) (by omega)) dL_law_744 ?_
      refine W.eq (g2 := F0 m 745 ls [.int (nI bj), .ref mb]) (by rw [nI_clamp (show 5 * i + 1 < 2 ^ 31 by omega), ← ea1]) ?_
      refine lv_aload_n hx hb dL_law_745 rfl (lv_at hl 1 rfl) ?_
      refine lv_iload hx hb dL_law_746 (lv_at hl 5 rfl) ?_
      refine lv_iconst (v := 2) hx hb dL_law_748 (by decide) ?_
      refine lv_iadd hx hb dL_law_749 ?_
      refine W.eq (g2 := F0 m 750 ls [.int (nI (5 * i + 2)), .ref b, .int (nI bj), .ref mb]) (by rw [show nI (5 * i) + 2 = nI (5 * i + 2) from nI_add (5 * i) 2]) ?_
      refine va_sld hx hb hX hbl hbA hS (i := nI (5 * i + 2)) (vp_in_nI (by omega) (by omega)) dL_law_750 ?_
      refine W.eq (g2 := F0 m 751 ls [.int a2, .int (nI bj), .ref mb]) (by rw [nI_clamp (show 5 * i + 2 < 2 ^ 31 by omega), ← ea2]) ?_
      refine xcV (As := [.int (nI bj), .int a2]) (rest := []) ⟨hx, hb, hml, hown, hts⟩ (c_X4_baker_1b l D cy mb am thr nS nB st bk gate nu bj hbj a2 h2 hnB) (cwV 2 hts gL_law_X4_baker rfl rfl rfl (by decide +kernel) ⟨Nat.le_of_ble_eq_true rfl, Nat.le_of_ble_eq_true rfl⟩) hK hP hD hS hA rfl rfl rfl (xE_r) rfl hl.1 rfl (Nat.le_of_ble_eq_true rfl) dL_law_751 ⟨by show 15 + 120 * i + 1 + 0 ≤ 601024; omega, by show 187 + 700 * i + 6 + 0 ≤ 7293034; omega⟩ (fun _ H locs _ hP hD hS => ?_)
      have hP : va_P D vwCl (((xw cy h ad nS nB st bk gate nu (av 0) (tw cy av tS tB ts tb tg tn)) ++ [(o, .inl (cy 4, 1, .inr (.inl g)))]) ++ (mw cy mb am 1 nS nB st bk gate nu)) H := hP
      have hD : va_D (fun q : Nat => s.heap.size ≤ q) (((xw cy h ad nS nB st bk gate nu (av 0) (tw cy av tS tB ts tb tg tn)) ++ [(o, .inl (cy 4, 1, .inr (.inl g)))]) ++ (mw cy mb am 1 nS nB st bk gate nu)) := hD
      refine W.eq (g2 := F0 m 754 ls [.int 0]) rfl ?_
      refine W.cs (cells' := 15 + 120 * i + 1) (slots' := 187 + 700 * i + 6) rfl rfl ?_
      refine lv_istore (lv' := [(6, .int 0), (5, .int 1), (0, .ref b), (1, .ref h), (2, .ref mb), (3, .ref o), (4, .int (nI (5 * i)))]) hx hb dL_law_754 hl (by decide) rfl (fun ls hl => ?_)
      refine lv_aload_n hx hb dL_law_756 rfl (lv_at hl 4 rfl) ?_
      refine xcV (As := []) (rest := []) ⟨hx, hb, hml, hown, hts⟩ (c_X4_thrown l D cy mb am 1 nS nB st bk gate nu) (cwV 0 hts gL_law_X4_thrown rfl rfl rfl (by decide +kernel) ⟨Nat.le_of_ble_eq_true rfl, Nat.le_of_ble_eq_true rfl⟩) hK hP hD hS hA rfl rfl rfl (xE_r) rfl hl.1 rfl (Nat.le_of_ble_eq_true rfl) dL_law_757 ⟨by show 15 + 120 * i + 1 + 0 ≤ 601024; omega, by show 187 + 700 * i + 6 + 0 ≤ 7293034; omega⟩ (fun _ H locs _ hP hD hS => ?_)
      have hP : va_P D vwCl (((xw cy h ad nS nB st bk gate nu (av 0) (tw cy av tS tB ts tb tg tn)) ++ [(o, .inl (cy 4, 1, .inr (.inl g)))]) ++ (mw cy mb am 1 nS nB st bk gate nu)) H := hP
      have hD : va_D (fun q : Nat => s.heap.size ≤ q) (((xw cy h ad nS nB st bk gate nu (av 0) (tw cy av tS tB ts tb tg tn)) ++ [(o, .inl (cy 4, 1, .inr (.inl g)))]) ++ (mw cy mb am 1 nS nB st bk gate nu)) := hD
      refine W.eq (g2 := F0 m 760 ls [.int 1]) rfl ?_
      refine W.cs (cells' := 15 + 120 * i + 1) (slots' := 187 + 700 * i + 6) rfl rfl ?_
      refine lv_iload hx hb dL_law_760 (lv_at hl 1 rfl) ?_
      refine lv_icmp_eq (tgt := 767) hx hb dL_law_762 (by decide) (fun _ => ?_) (fun z => absurd rfl z)
      refine lv_iload hx hb dL_law_767 (lv_at hl 1 rfl) ?_
      refine lv_if_ne (tgt := 784) hx hb dL_law_769 (by decide) (fun _ => ?_) (fun z => absurd z (by decide))
      refine lv_goto (tgt := 1159) hx hb dL_law_784 (by decide) ?_
      refine W.widen (k := 15 + 120 * (i + 1)) (n := 187 + 700 * (i + 1)) (by omega) (by omega) ?_
      exact KK ad av am 1 nS nB tS tB st bk ts tb gate nu tg tn g hq d0  _ _ _ hd0 hnS hnB htS htB (by omega) hI hP hD hS (lv_sub hl [2, 3, 4, 5, 6] rfl)
  · refine lv_aload_n hx hb dL_law_719 rfl (lv_at hl 1 rfl) ?_
    refine lv_aload_n hx hb dL_law_720 rfl (lv_at hl 0 rfl) ?_
    refine lv_iload hx hb dL_law_721 (lv_at hl 4 rfl) ?_
    refine lv_iconst (v := 1) hx hb dL_law_723 (by decide) ?_
    refine lv_iadd hx hb dL_law_724 ?_
    refine W.eq (g2 := F0 m 725 ls [.int (nI (5 * i + 1)), .ref b, .ref h]) (by rw [show nI (5 * i) + 1 = nI (5 * i + 1) from nI_add (5 * i) 1]) ?_
    refine va_sld hx hb hX hbl hbA hS (i := nI (5 * i + 1)) (vp_in_nI (by omega) (by omega)) dL_law_725 ?_
    refine W.eq (g2 := F0 m 726 ls [.int a1, .ref h]) (by rw [nI_clamp (show 5 * i + 1 < 2 ^ 31 by omega), ← ea1]) ?_
    refine lv_aload_n hx hb dL_law_726 rfl (lv_at hl 0 rfl) ?_
    refine lv_iload hx hb dL_law_727 (lv_at hl 4 rfl) ?_
    refine lv_iconst (v := 2) hx hb dL_law_729 (by decide) ?_
    refine lv_iadd hx hb dL_law_730 ?_
    refine W.eq (g2 := F0 m 731 ls [.int (nI (5 * i + 2)), .ref b, .int a1, .ref h]) (by rw [show nI (5 * i) + 2 = nI (5 * i + 2) from nI_add (5 * i) 2]) ?_
    refine va_sld hx hb hX hbl hbA hS (i := nI (5 * i + 2)) (vp_in_nI (by omega) (by omega)) dL_law_731 ?_
    refine W.eq (g2 := F0 m 732 ls [.int a2, .int a1, .ref h]) (by rw [nI_clamp (show 5 * i + 2 < 2 ^ 31 by omega), ← ea2]) ?_
    refine lv_aload_n hx hb dL_law_732 rfl (lv_at hl 3 rfl) ?_
    refine xcL (As := [.ref h, .int a1, .int a2, .ref o]) (rest := []) ⟨hx, hb, hml, hown, hts⟩ (c_L_baker_1a l hst D cy sa h ad nS nB st bk gate nu (av 0) (tw cy av tS tB ts tb tg tn) a1 a2 hv hnS hnB o g) (vx_cwSW 4 hts gL_law_L_baker rfl rfl rfl (by decide +kernel) ⟨Nat.le_of_ble_eq_true rfl, Nat.le_of_ble_eq_true rfl⟩) hK hV hZ hNc hP hD hS hA (xE_l) rfl hl.1 rfl (Nat.le_of_ble_eq_true rfl) dL_law_733 ⟨by show 15 + 120 * i + 0 + 1 ≤ 601024; omega, by show 187 + 700 * i + 0 + 6 ≤ 7293034; omega⟩ (fun u H locs _ hP hD hS => ?_)
    have hP : va_P D vwCl (((xw cy h ad nS nB st bk gate nu (av 0) (tw cy av tS tB ts tb tg tn)) ++ [(o, .inl (cy 4, 1, .inr (.inl g)))]) ++ (mw cy mb am thr nS nB st bk gate nu)) H := hP
    have hD : va_D (fun q : Nat => s.heap.size ≤ q) (((xw cy h ad nS nB st bk gate nu (av 0) (tw cy av tS tB ts tb tg tn)) ++ [(o, .inl (cy 4, 1, .inr (.inl g)))]) ++ (mw cy mb am thr nS nB st bk gate nu)) := hD
    refine W.eq (g2 := F0 m 736 ls [.int 1]) rfl ?_
    refine W.cs (cells' := 15 + 120 * i + 1) (slots' := 187 + 700 * i + 6) rfl rfl ?_
    refine lv_istore (lv' := [(5, .int 1), (0, .ref b), (1, .ref h), (2, .ref mb), (3, .ref o), (4, .int (nI (5 * i)))]) hx hb dL_law_736 hl (by decide) rfl (fun ls hl => ?_)
    refine lv_aload_n hx hb dL_law_738 rfl (lv_at hl 3 rfl) ?_
    refine lv_aload_n hx hb dL_law_739 rfl (lv_at hl 1 rfl) ?_
    refine lv_iload hx hb dL_law_740 (lv_at hl 5 rfl) ?_
    refine lv_iconst (v := 1) hx hb dL_law_742 (by decide) ?_
    refine lv_iadd hx hb dL_law_743 ?_
    refine W.eq (g2 := F0 m 744 ls [.int (nI (5 * i + 1)), .ref b, .ref mb]) (by rw [show nI (5 * i) + 1 = nI (5 * i + 1) from nI_add (5 * i) 1]) ?_
    refine va_sld hx hb hX hbl hbA hS (i := nI (5 * i + 1)) (vp_in_nI (by omega) (by omega)) dL_law_744 ?_
    refine W.eq (g2 := F0 m 745 ls [.int a1, .ref mb]) (by rw [nI_clamp (show 5 * i + 1 < 2 ^ 31 by omega), ← ea1]) ?_
    refine lv_aload_n hx hb dL_law_745 rfl (lv_at hl 1 rfl) ?_
    refine lv_iload hx hb dL_law_746 (lv_at hl 5 rfl) ?_
    refine lv_iconst (v := 2) hx hb dL_law_748 (by decide) ?_
    refine lv_iadd hx hb dL_law_749 ?_
    refine W.eq (g2 := F0 m 750 ls [.int (nI (5 * i + 2)), .ref b, .int a1, .ref mb]) (by rw [show nI (5 * i) + 2 = nI (5 * i + 2) from nI_add (5 * i) 2]) ?_
    refine va_sld hx hb hX hbl hbA hS (i := nI (5 * i + 2)) (vp_in_nI (by omega) (by omega)) dL_law_750 ?_
    refine W.eq (g2 := F0 m 751 ls [.int a2, .int a1, .ref mb]) (by rw [nI_clamp (show 5 * i + 2 < 2 ^ 31 by omega), ← ea2]) ?_
    refine xcV (As := [.int a1, .int a2]) (rest := []) ⟨hx, hb, hml, hown, hts⟩ (c_X4_baker_1a l D cy mb am thr nS nB st bk gate nu a1 a2 hv hnB) (cwV 2 hts gL_law_X4_baker rfl rfl rfl (by decide +kernel) ⟨Nat.le_of_ble_eq_true rfl, Nat.le_of_ble_eq_true rfl⟩) hK hP hD hS hA rfl rfl rfl (xE_r) rfl hl.1 rfl (Nat.le_of_ble_eq_true rfl) dL_law_751 ⟨by show 15 + 120 * i + 1 + 0 ≤ 601024; omega, by show 187 + 700 * i + 6 + 0 ≤ 7293034; omega⟩ (fun _ H locs _ hP hD hS => ?_)
    have hP : va_P D vwCl (((xw cy h ad nS nB st bk gate nu (av 0) (tw cy av tS tB ts tb tg tn)) ++ [(o, .inl (cy 4, 1, .inr (.inl g)))]) ++ (mw cy mb am 1 nS nB st bk gate nu)) H := hP
    have hD : va_D (fun q : Nat => s.heap.size ≤ q) (((xw cy h ad nS nB st bk gate nu (av 0) (tw cy av tS tB ts tb tg tn)) ++ [(o, .inl (cy 4, 1, .inr (.inl g)))]) ++ (mw cy mb am 1 nS nB st bk gate nu)) := hD
    refine W.eq (g2 := F0 m 754 ls [.int 0]) rfl ?_
    refine W.cs (cells' := 15 + 120 * i + 1) (slots' := 187 + 700 * i + 6) rfl rfl ?_
    refine lv_istore (lv' := [(6, .int 0), (5, .int 1), (0, .ref b), (1, .ref h), (2, .ref mb), (3, .ref o), (4, .int (nI (5 * i)))]) hx hb dL_law_754 hl (by decide) rfl (fun ls hl => ?_)
    refine lv_aload_n hx hb dL_law_756 rfl (lv_at hl 4 rfl) ?_
    refine xcV (As := []) (rest := []) ⟨hx, hb, hml, hown, hts⟩ (c_X4_thrown l D cy mb am 1 nS nB st bk gate nu) (cwV 0 hts gL_law_X4_thrown rfl rfl rfl (by decide +kernel) ⟨Nat.le_of_ble_eq_true rfl, Nat.le_of_ble_eq_true rfl⟩) hK hP hD hS hA rfl rfl rfl (xE_r) rfl hl.1 rfl (Nat.le_of_ble_eq_true rfl) dL_law_757 ⟨by show 15 + 120 * i + 1 + 0 ≤ 601024; omega, by show 187 + 700 * i + 6 + 0 ≤ 7293034; omega⟩ (fun _ H locs _ hP hD hS => ?_)
    have hP : va_P D vwCl (((xw cy h ad nS nB st bk gate nu (av 0) (tw cy av tS tB ts tb tg tn)) ++ [(o, .inl (cy 4, 1, .inr (.inl g)))]) ++ (mw cy mb am 1 nS nB st bk gate nu)) H := hP
    have hD : va_D (fun q : Nat => s.heap.size ≤ q) (((xw cy h ad nS nB st bk gate nu (av 0) (tw cy av tS tB ts tb tg tn)) ++ [(o, .inl (cy 4, 1, .inr (.inl g)))]) ++ (mw cy mb am 1 nS nB st bk gate nu)) := hD
    refine W.eq (g2 := F0 m 760 ls [.int 1]) rfl ?_
    refine W.cs (cells' := 15 + 120 * i + 1) (slots' := 187 + 700 * i + 6) rfl rfl ?_
    refine lv_iload hx hb dL_law_760 (lv_at hl 1 rfl) ?_
    refine lv_icmp_eq (tgt := 767) hx hb dL_law_762 (by decide) (fun _ => ?_) (fun z => absurd rfl z)
    refine lv_iload hx hb dL_law_767 (lv_at hl 1 rfl) ?_
    refine lv_if_ne (tgt := 784) hx hb dL_law_769 (by decide) (fun _ => ?_) (fun z => absurd z (by decide))
    refine lv_goto (tgt := 1159) hx hb dL_law_784 (by decide) ?_
    refine W.widen (k := 15 + 120 * (i + 1)) (n := 187 + 700 * (i + 1)) (by omega) (by omega) ?_
    exact KK ad av am 1 nS nB tS tB st bk ts tb gate nu tg tn g hq d0  _ _ _ hd0 hnS hnB htS htB (by omega) hI hP hD hS (lv_sub hl [2, 3, 4, 5, 6] rfl)

set_option maxHeartbeats 4000000 in
set_option maxRecDepth 100000 in
theorem l_case_whose {p : Program} {l : Launch} {e : Env} {s : State} {m : MethodId} {below : List Frame} {meth : Method} {c : Code} {b L : Nat} {xs : Nat → Int32} {D : va_G} {cy : Nat → ClassId} {sa : Nat → Nat} {h o mb i : Nat} (C1 : lwC p l s m meth c b L xs D cy sa) (hi : 5 * i + 5 ≤ L) (KK : lwS p l e s m below meth c b D cy h o mb 1159 i (i + 1)) : lwS p l e s m below meth c b D cy h o mb 787 i i := by
  obtain ⟨hst, C0, hK0, hV0, hZ0, hN0, hL⟩ := C1
  obtain ⟨hx, hb, hr, hml, hown, hts0, hX0, hbl, hlocks, hgv⟩ := id C0
  intro ad av am thr nS nB tS tB st bk ts tb gate nu tg tn g hq d0 H locs ls hd0 hnS hnB htS htB hhq hI hP hD hS hl
  unfold WW at hP hD
  have hbA : ¬ (fun q : Nat => s.heap.size ≤ q) b := Nat.not_le.mpr hbl
  have hA : ∀ q : Nat, s.heap.size ≤ q → (fun q : Nat => s.heap.size ≤ q) q := fun _ z => z
  have hts : ∀ w ∈ wsL_law, w.before #[Value.ref b] (s.setDrawn d0) = true := fun w z => dr_words hts0 d0 w (wsL_law_in w z)
  have hK := XK.same (s := s) (U := s.setDrawn d0) rfl hK0
  have hV := XV.same (s := s) (U := s.setDrawn d0) rfl hV0
  have hZ : xZ (fun q : Nat => s.heap.size ≤ q) (s.setDrawn d0) (s.setDrawn d0).heap := xZ.moved (Vm.Alike.refl _) hZ0
  have hNc : xNcs (s.setDrawn d0) := hN0.moved (Vm.Alike.refl _)
  have hX : va_X b L xs (s.setDrawn d0) s.heap := va_X.moved (Vm.Alike.refl _) hX0
  obtain ⟨a1, ea1⟩ : ∃ a, a = xs (5 * i + 1) := ⟨_, rfl⟩
  rcases Decidable.em ((0 : Int32) ≤ a1 ∧ a1 ≤ 25) with h1 | h1
  · refine lv_aload_n hx hb dL_law_787 rfl (lv_at hl 1 rfl) ?_
    refine lv_aload_n hx hb dL_law_788 rfl (lv_at hl 0 rfl) ?_
    refine lv_iload hx hb dL_law_789 (lv_at hl 4 rfl) ?_
    refine lv_iconst (v := 1) hx hb dL_law_791 (by decide) ?_
    refine lv_iadd hx hb dL_law_792 ?_
    refine W.eq (g2 := F0 m 793 ls [.int (nI (5 * i + 1)), .ref b, .ref h]) (by rw [show nI (5 * i) + 1 = nI (5 * i + 1) from nI_add (5 * i) 1]) ?_
    refine va_sld hx hb hX hbl hbA hS (i := nI (5 * i + 1)) (vp_in_nI (by omega) (by omega)) dL_law_793 ?_
    refine W.eq (g2 := F0 m 794 ls [.int a1, .ref h]) (by rw [nI_clamp (show 5 * i + 1 < 2 ^ 31 by omega), ← ea1]) ?_
    refine lv_aload_n hx hb dL_law_794 rfl (lv_at hl 3 rfl) ?_
    refine xcL (As := [.ref h, .int a1, .ref o]) (rest := []) ⟨hx, hb, hml, hown, hts⟩ (c_L_whose l D cy sa h ad nS nB st bk gate nu (av 0) (tw cy av tS tB ts tb tg tn) a1 h1 hnS hnB o g) (vx_cwSW 3 hts gL_law_L_whose rfl rfl rfl (by decide +kernel) ⟨Nat.le_of_ble_eq_true rfl, Nat.le_of_ble_eq_true rfl⟩) hK hV hZ hNc hP hD hS hA (xE_l) rfl hl.1 rfl (Nat.le_of_ble_eq_true rfl) dL_law_795 ⟨by show 15 + 120 * i + 0 + 1 ≤ 601024; omega, by show 187 + 700 * i + 0 + 6 ≤ 7293034; omega⟩ (fun u H locs _ hP hD hS => ?_)
    have hP : va_P D vwCl (((xw cy h ad nS nB st bk gate nu (av 0) (tw cy av tS tB ts tb tg tn)) ++ [(o, .inl (cy 4, 1, .inr (.inl (vp_updL g 0 ((ownF bk a1 nB 0).toInt64)))))]) ++ (mw cy mb am thr nS nB st bk gate nu)) H := hP
    have hD : va_D (fun q : Nat => s.heap.size ≤ q) (((xw cy h ad nS nB st bk gate nu (av 0) (tw cy av tS tB ts tb tg tn)) ++ [(o, .inl (cy 4, 1, .inr (.inl (vp_updL g 0 ((ownF bk a1 nB 0).toInt64)))))]) ++ (mw cy mb am thr nS nB st bk gate nu)) := hD
    refine W.eq (g2 := F0 m 798 ls [.int 0]) rfl ?_
    refine W.cs (cells' := 15 + 120 * i + 1) (slots' := 187 + 700 * i + 6) rfl rfl ?_
    refine lv_istore (lv' := [(5, .int 0), (0, .ref b), (1, .ref h), (2, .ref mb), (3, .ref o), (4, .int (nI (5 * i)))]) hx hb dL_law_798 hl (by decide) rfl (fun ls hl => ?_)
    refine lv_aload_n hx hb dL_law_800 rfl (lv_at hl 3 rfl) ?_
    refine lv_aload_n hx hb dL_law_801 rfl (lv_at hl 1 rfl) ?_
    refine lv_iload hx hb dL_law_802 (lv_at hl 5 rfl) ?_
    refine lv_iconst (v := 1) hx hb dL_law_804 (by decide) ?_
    refine lv_iadd hx hb dL_law_805 ?_
    refine W.eq (g2 := F0 m 806 ls [.int (nI (5 * i + 1)), .ref b, .ref mb]) (by rw [show nI (5 * i) + 1 = nI (5 * i + 1) from nI_add (5 * i) 1]) ?_
    refine va_sld hx hb hX hbl hbA hS (i := nI (5 * i + 1)) (vp_in_nI (by omega) (by omega)) dL_law_806 ?_
    refine W.eq (g2 := F0 m 807 ls [.int a1, .ref mb]) (by rw [nI_clamp (show 5 * i + 1 < 2 ^ 31 by omega), ← ea1]) ?_
    refine xcV (As := [.int a1]) (rest := []) ⟨hx, hb, hml, hown, hts⟩ (c_X4_whose l D cy mb am thr nS nB st bk gate nu a1 h1 hnB) (cwV 1 hts gL_law_X4_whose rfl rfl rfl (by decide +kernel) ⟨Nat.le_of_ble_eq_true rfl, Nat.le_of_ble_eq_true rfl⟩) hK hP hD hS hA rfl rfl rfl (xE_r) rfl hl.1 rfl (Nat.le_of_ble_eq_true rfl) dL_law_807 ⟨by show 15 + 120 * i + 1 + 0 ≤ 601024; omega, by show 187 + 700 * i + 6 + 0 ≤ 7293034; omega⟩ (fun _ H locs _ hP hD hS => ?_)
    have hP : va_P D vwCl (((xw cy h ad nS nB st bk gate nu (av 0) (tw cy av tS tB ts tb tg tn)) ++ [(o, .inl (cy 4, 1, .inr (.inl (vp_updL g 0 ((ownF bk a1 nB 0).toInt64)))))]) ++ (mw cy mb am 0 nS nB st bk gate nu)) H := hP
    have hD : va_D (fun q : Nat => s.heap.size ≤ q) (((xw cy h ad nS nB st bk gate nu (av 0) (tw cy av tS tB ts tb tg tn)) ++ [(o, .inl (cy 4, 1, .inr (.inl (vp_updL g 0 ((ownF bk a1 nB 0).toInt64)))))]) ++ (mw cy mb am 0 nS nB st bk gate nu)) := hD
    refine W.eq (g2 := F0 m 810 ls [.int (ownF bk a1 nB 0)]) rfl ?_
    refine W.cs (cells' := 15 + 120 * i + 1) (slots' := 187 + 700 * i + 6) rfl rfl ?_
    refine lv_istore (lv' := [(6, .int (ownF bk a1 nB 0)), (5, .int 0), (0, .ref b), (1, .ref h), (2, .ref mb), (3, .ref o), (4, .int (nI (5 * i)))]) hx hb dL_law_810 hl (by decide) rfl (fun ls hl => ?_)
    refine lv_aload_n hx hb dL_law_812 rfl (lv_at hl 4 rfl) ?_
    refine xcV (As := []) (rest := []) ⟨hx, hb, hml, hown, hts⟩ (c_X4_thrown l D cy mb am 0 nS nB st bk gate nu) (cwV 0 hts gL_law_X4_thrown rfl rfl rfl (by decide +kernel) ⟨Nat.le_of_ble_eq_true rfl, Nat.le_of_ble_eq_true rfl⟩) hK hP hD hS hA rfl rfl rfl (xE_r) rfl hl.1 rfl (Nat.le_of_ble_eq_true rfl) dL_law_813 ⟨by show 15 + 120 * i + 1 + 0 ≤ 601024; omega, by show 187 + 700 * i + 6 + 0 ≤ 7293034; omega⟩ (fun _ H locs _ hP hD hS => ?_)
    have hP : va_P D vwCl (((xw cy h ad nS nB st bk gate nu (av 0) (tw cy av tS tB ts tb tg tn)) ++ [(o, .inl (cy 4, 1, .inr (.inl (vp_updL g 0 ((ownF bk a1 nB 0).toInt64)))))]) ++ (mw cy mb am 0 nS nB st bk gate nu)) H := hP
    have hD : va_D (fun q : Nat => s.heap.size ≤ q) (((xw cy h ad nS nB st bk gate nu (av 0) (tw cy av tS tB ts tb tg tn)) ++ [(o, .inl (cy 4, 1, .inr (.inl (vp_updL g 0 ((ownF bk a1 nB 0).toInt64)))))]) ++ (mw cy mb am 0 nS nB st bk gate nu)) := hD
    refine W.eq (g2 := F0 m 816 ls [.int 0]) rfl ?_
    refine W.cs (cells' := 15 + 120 * i + 1) (slots' := 187 + 700 * i + 6) rfl rfl ?_
    refine lv_iload hx hb dL_law_816 (lv_at hl 1 rfl) ?_
    refine lv_icmp_eq (tgt := 823) hx hb dL_law_818 (by decide) (fun _ => ?_) (fun z => absurd rfl z)
    refine lv_iload hx hb dL_law_823 (lv_at hl 1 rfl) ?_
    refine lv_if_ne (tgt := 840) hx hb dL_law_825 (by decide) (fun z => absurd rfl z) (fun _ => ?_)
    refine lv_aload_n hx hb dL_law_828 rfl (lv_at hl 5 rfl) ?_
    refine lv_iconst (v := 0) hx hb dL_law_829 (by decide) ?_
    refine va_lald hx hb hK.1 hP _ 4 (at_l last_at) rfl (i := 0) (vp_in_nI (n := 0) (by decide) (by decide)) dL_law_830 ?_
    refine W.eq (g2 := F0 m 831 ls [.long ((ownF bk a1 nB 0).toInt64)]) rfl ?_
    refine lv_iload hx hb dL_law_831 (lv_at hl 0 rfl) ?_
    refine lv_i2l (v := (ownF bk a1 nB 0).toInt64) hx hb dL_law_833 rfl ?_
    refine W.lcmp hx hb dL_law_834 ?_
    refine W.eq (g2 := F0 m 835 ls [.int 0]) (by rw [lg_same]) ?_
    refine lv_if_eq (tgt := 840) hx hb dL_law_835 (by decide) (fun _ => ?_) (fun z => absurd rfl z)
    refine lv_goto (tgt := 1159) hx hb dL_law_840 (by decide) ?_
    refine W.widen (k := 15 + 120 * (i + 1)) (n := 187 + 700 * (i + 1)) (by omega) (by omega) ?_
    exact KK ad av am 0 nS nB tS tB st bk ts tb gate nu tg tn (vp_updL g 0 ((ownF bk a1 nB 0).toInt64)) hq d0  _ _ _ hd0 hnS hnB htS htB (by omega) hI hP hD hS (lv_sub hl [2, 3, 4, 5, 6] rfl)
  · refine lv_aload_n hx hb dL_law_787 rfl (lv_at hl 1 rfl) ?_
    refine lv_aload_n hx hb dL_law_788 rfl (lv_at hl 0 rfl) ?_
    refine lv_iload hx hb dL_law_789 (lv_at hl 4 rfl) ?_
    refine lv_iconst (v := 1) hx hb dL_law_791 (by decide) ?_
    refine lv_iadd hx hb dL_law_792 ?_
    refine W.eq (g2 := F0 m 793 ls [.int (nI (5 * i + 1)), .ref b, .ref h]) (by rw [show nI (5 * i) + 1 = nI (5 * i + 1) from nI_add (5 * i) 1]) ?_
    refine va_sld hx hb hX hbl hbA hS (i := nI (5 * i + 1)) (vp_in_nI (by omega) (by omega)) dL_law_793 ?_
    refine W.eq (g2 := F0 m 794 ls [.int a1, .ref h]) (by rw [nI_clamp (show 5 * i + 1 < 2 ^ 31 by omega), ← ea1]) ?_
    refine lv_aload_n hx hb dL_law_794 rfl (lv_at hl 3 rfl) ?_
    refine xcL (As := [.ref h, .int a1, .ref o]) (rest := []) ⟨hx, hb, hml, hown, hts⟩ (c_L_whose_1 l hst D cy sa h ad nS nB st bk gate nu (av 0) (tw cy av tS tB ts tb tg tn) a1 h1 o g) (vx_cwSW 3 hts gL_law_L_whose rfl rfl rfl (by decide +kernel) ⟨Nat.le_of_ble_eq_true rfl, Nat.le_of_ble_eq_true rfl⟩) hK hV hZ hNc hP hD hS hA (xE_l) rfl hl.1 rfl (Nat.le_of_ble_eq_true rfl) dL_law_795 ⟨by show 15 + 120 * i + 0 + 1 ≤ 601024; omega, by show 187 + 700 * i + 0 + 6 ≤ 7293034; omega⟩ (fun u H locs _ hP hD hS => ?_)
    have hP : va_P D vwCl (((xw cy h ad nS nB st bk gate nu (av 0) (tw cy av tS tB ts tb tg tn)) ++ [(o, .inl (cy 4, 1, .inr (.inl g)))]) ++ (mw cy mb am thr nS nB st bk gate nu)) H := hP
    have hD : va_D (fun q : Nat => s.heap.size ≤ q) (((xw cy h ad nS nB st bk gate nu (av 0) (tw cy av tS tB ts tb tg tn)) ++ [(o, .inl (cy 4, 1, .inr (.inl g)))]) ++ (mw cy mb am thr nS nB st bk gate nu)) := hD
    refine W.eq (g2 := F0 m 798 ls [.int 1]) rfl ?_
    refine W.cs (cells' := 15 + 120 * i + 1) (slots' := 187 + 700 * i + 6) rfl rfl ?_
    refine lv_istore (lv' := [(5, .int 1), (0, .ref b), (1, .ref h), (2, .ref mb), (3, .ref o), (4, .int (nI (5 * i)))]) hx hb dL_law_798 hl (by decide) rfl (fun ls hl => ?_)
    refine lv_aload_n hx hb dL_law_800 rfl (lv_at hl 3 rfl) ?_
    refine lv_aload_n hx hb dL_law_801 rfl (lv_at hl 1 rfl) ?_
    refine lv_iload hx hb dL_law_802 (lv_at hl 5 rfl) ?_
    refine lv_iconst (v := 1) hx hb dL_law_804 (by decide) ?_
    refine lv_iadd hx hb dL_law_805 ?_
    refine W.eq (g2 := F0 m 806 ls [.int (nI (5 * i + 1)), .ref b, .ref mb]) (by rw [show nI (5 * i) + 1 = nI (5 * i + 1) from nI_add (5 * i) 1]) ?_
    refine va_sld hx hb hX hbl hbA hS (i := nI (5 * i + 1)) (vp_in_nI (by omega) (by omega)) dL_law_806 ?_
    refine W.eq (g2 := F0 m 807 ls [.int a1, .ref mb]) (by rw [nI_clamp (show 5 * i + 1 < 2 ^ 31 by omega), ← ea1]) ?_
    refine xcV (As := [.int a1]) (rest := []) ⟨hx, hb, hml, hown, hts⟩ (c_X4_whose_1 l D cy mb am thr nS nB st bk gate nu a1 h1) (cwV 1 hts gL_law_X4_whose rfl rfl rfl (by decide +kernel) ⟨Nat.le_of_ble_eq_true rfl, Nat.le_of_ble_eq_true rfl⟩) hK hP hD hS hA rfl rfl rfl (xE_r) rfl hl.1 rfl (Nat.le_of_ble_eq_true rfl) dL_law_807 ⟨by show 15 + 120 * i + 1 + 0 ≤ 601024; omega, by show 187 + 700 * i + 6 + 0 ≤ 7293034; omega⟩ (fun _ H locs _ hP hD hS => ?_)
    have hP : va_P D vwCl (((xw cy h ad nS nB st bk gate nu (av 0) (tw cy av tS tB ts tb tg tn)) ++ [(o, .inl (cy 4, 1, .inr (.inl g)))]) ++ (mw cy mb am 1 nS nB st bk gate nu)) H := hP
    have hD : va_D (fun q : Nat => s.heap.size ≤ q) (((xw cy h ad nS nB st bk gate nu (av 0) (tw cy av tS tB ts tb tg tn)) ++ [(o, .inl (cy 4, 1, .inr (.inl g)))]) ++ (mw cy mb am 1 nS nB st bk gate nu)) := hD
    refine W.eq (g2 := F0 m 810 ls [.int 0]) rfl ?_
    refine W.cs (cells' := 15 + 120 * i + 1) (slots' := 187 + 700 * i + 6) rfl rfl ?_
    refine lv_istore (lv' := [(6, .int 0), (5, .int 1), (0, .ref b), (1, .ref h), (2, .ref mb), (3, .ref o), (4, .int (nI (5 * i)))]) hx hb dL_law_810 hl (by decide) rfl (fun ls hl => ?_)
    refine lv_aload_n hx hb dL_law_812 rfl (lv_at hl 4 rfl) ?_
    refine xcV (As := []) (rest := []) ⟨hx, hb, hml, hown, hts⟩ (c_X4_thrown l D cy mb am 1 nS nB st bk gate nu) (cwV 0 hts gL_law_X4_thrown rfl rfl rfl (by decide +kernel) ⟨Nat.le_of_ble_eq_true rfl, Nat.le_of_ble_eq_true rfl⟩) hK hP hD hS hA rfl rfl rfl (xE_r) rfl hl.1 rfl (Nat.le_of_ble_eq_true rfl) dL_law_813 ⟨by show 15 + 120 * i + 1 + 0 ≤ 601024; omega, by show 187 + 700 * i + 6 + 0 ≤ 7293034; omega⟩ (fun _ H locs _ hP hD hS => ?_)
    have hP : va_P D vwCl (((xw cy h ad nS nB st bk gate nu (av 0) (tw cy av tS tB ts tb tg tn)) ++ [(o, .inl (cy 4, 1, .inr (.inl g)))]) ++ (mw cy mb am 1 nS nB st bk gate nu)) H := hP
    have hD : va_D (fun q : Nat => s.heap.size ≤ q) (((xw cy h ad nS nB st bk gate nu (av 0) (tw cy av tS tB ts tb tg tn)) ++ [(o, .inl (cy 4, 1, .inr (.inl g)))]) ++ (mw cy mb am 1 nS nB st bk gate nu)) := hD
    refine W.eq (g2 := F0 m 816 ls [.int 1]) rfl ?_
    refine W.cs (cells' := 15 + 120 * i + 1) (slots' := 187 + 700 * i + 6) rfl rfl ?_
    refine lv_iload hx hb dL_law_816 (lv_at hl 1 rfl) ?_
    refine lv_icmp_eq (tgt := 823) hx hb dL_law_818 (by decide) (fun _ => ?_) (fun z => absurd rfl z)
    refine lv_iload hx hb dL_law_823 (lv_at hl 1 rfl) ?_
    refine lv_if_ne (tgt := 840) hx hb dL_law_825 (by decide) (fun _ => ?_) (fun z => absurd z (by decide))
    refine lv_goto (tgt := 1159) hx hb dL_law_840 (by decide) ?_
    refine W.widen (k := 15 + 120 * (i + 1)) (n := 187 + 700 * (i + 1)) (by omega) (by omega) ?_
    exact KK ad av am 1 nS nB tS tB st bk ts tb gate nu tg tn g hq d0  _ _ _ hd0 hnS hnB htS htB (by omega) hI hP hD hS (lv_sub hl [2, 3, 4, 5, 6] rfl)

set_option maxHeartbeats 4000000 in
set_option maxRecDepth 100000 in
theorem l_case_count {p : Program} {l : Launch} {e : Env} {s : State} {m : MethodId} {below : List Frame} {meth : Method} {c : Code} {b L : Nat} {xs : Nat → Int32} {D : va_G} {cy : Nat → ClassId} {sa : Nat → Nat} {h o mb i : Nat} (C1 : lwC p l s m meth c b L xs D cy sa) (hi : 5 * i + 5 ≤ L) (KK : lwS p l e s m below meth c b D cy h o mb 1159 i (i + 1)) : lwS p l e s m below meth c b D cy h o mb 843 i i := by
  obtain ⟨hst, C0, hK0, hV0, hZ0, hN0, hL⟩ := C1
  obtain ⟨hx, hb, hr, hml, hown, hts0, hX0, hbl, hlocks, hgv⟩ := id C0
  intro ad av am thr nS nB tS tB st bk ts tb gate nu tg tn g hq d0 H locs ls hd0 hnS hnB htS htB hhq hI hP hD hS hl
  unfold WW at hP hD
  have hbA : ¬ (fun q : Nat => s.heap.size ≤ q) b := Nat.not_le.mpr hbl
  have hA : ∀ q : Nat, s.heap.size ≤ q → (fun q : Nat => s.heap.size ≤ q) q := fun _ z => z
  have hts : ∀ w ∈ wsL_law, w.before #[Value.ref b] (s.setDrawn d0) = true := fun w z => dr_words hts0 d0 w (wsL_law_in w z)
  have hK := XK.same (s := s) (U := s.setDrawn d0) rfl hK0
  have hV := XV.same (s := s) (U := s.setDrawn d0) rfl hV0
  have hZ : xZ (fun q : Nat => s.heap.size ≤ q) (s.setDrawn d0) (s.setDrawn d0).heap := xZ.moved (Vm.Alike.refl _) hZ0
  have hNc : xNcs (s.setDrawn d0) := hN0.moved (Vm.Alike.refl _)
  have hX : va_X b L xs (s.setDrawn d0) s.heap := va_X.moved (Vm.Alike.refl _) hX0
  obtain ⟨a1, ea1⟩ : ∃ a, a = xs (5 * i + 1) := ⟨_, rfl⟩
  rcases Decidable.em ((0 : Int32) ≤ a1 ∧ a1 ≤ 9) with h1 | h1
  · obtain ⟨k, hka, hkb, rfl⟩ := nat_of (a := 0) (b := 9) (by decide) h1 (by decide)
    refine lv_aload_n hx hb dL_law_843 rfl (lv_at hl 1 rfl) ?_
    refine lv_aload_n hx hb dL_law_844 rfl (lv_at hl 0 rfl) ?_
    refine lv_iload hx hb dL_law_845 (lv_at hl 4 rfl) ?_
    refine lv_iconst (v := 1) hx hb dL_law_847 (by decide) ?_
    refine lv_iadd hx hb dL_law_848 ?_
    refine W.eq (g2 := F0 m 849 ls [.int (nI (5 * i + 1)), .ref b, .ref h]) (by rw [show nI (5 * i) + 1 = nI (5 * i + 1) from nI_add (5 * i) 1]) ?_
    refine va_sld hx hb hX hbl hbA hS (i := nI (5 * i + 1)) (vp_in_nI (by omega) (by omega)) dL_law_849 ?_
    refine W.eq (g2 := F0 m 850 ls [.int (nI k), .ref h]) (by rw [nI_clamp (show 5 * i + 1 < 2 ^ 31 by omega), ← ea1]) ?_
    refine lv_aload_n hx hb dL_law_850 rfl (lv_at hl 3 rfl) ?_
    refine xcL (As := [.ref h, .int (nI k), .ref o]) (rest := []) ⟨hx, hb, hml, hown, hts⟩ (c_L_count l D cy sa h ad nS nB st bk gate nu (av 0) (tw cy av tS tB ts tb tg tn) hq k hI.2.2.2.2.1 (by omega) (by omega) hnS hnB o g) (vx_cwSW 3 hts gL_law_L_count rfl rfl rfl (by decide +kernel) ⟨Nat.le_of_ble_eq_true rfl, Nat.le_of_ble_eq_true rfl⟩) hK hV hZ hNc hP hD hS hA (xE_l) rfl hl.1 rfl (Nat.le_of_ble_eq_true rfl) dL_law_851 ⟨by show 15 + 120 * i + 0 + 1 ≤ 601024; omega, by show 187 + 700 * i + 0 + 6 ≤ 7293034; omega⟩ (fun u H locs _ hP hD hS => ?_)
    have hP : va_P D vwCl (((xw cy h ad nS nB st bk gate nu (av 0) (tw cy av tS tB ts tb tg tn)) ++ [(o, .inl (cy 4, 1, .inr (.inl (vp_updL g 0 ((tFact nS nB st bk nu hq k).toInt64)))))]) ++ (mw cy mb am thr nS nB st bk gate nu)) H := hP
    have hD : va_D (fun q : Nat => s.heap.size ≤ q) (((xw cy h ad nS nB st bk gate nu (av 0) (tw cy av tS tB ts tb tg tn)) ++ [(o, .inl (cy 4, 1, .inr (.inl (vp_updL g 0 ((tFact nS nB st bk nu hq k).toInt64)))))]) ++ (mw cy mb am thr nS nB st bk gate nu)) := hD
    refine W.eq (g2 := F0 m 854 ls [.int 0]) rfl ?_
    refine W.cs (cells' := 15 + 120 * i + 1) (slots' := 187 + 700 * i + 6) rfl rfl ?_
    refine lv_istore (lv' := [(5, .int 0), (0, .ref b), (1, .ref h), (2, .ref mb), (3, .ref o), (4, .int (nI (5 * i)))]) hx hb dL_law_854 hl (by decide) rfl (fun ls hl => ?_)
    refine lv_aload_n hx hb dL_law_856 rfl (lv_at hl 3 rfl) ?_
    refine lv_aload_n hx hb dL_law_857 rfl (lv_at hl 1 rfl) ?_
    refine lv_iload hx hb dL_law_858 (lv_at hl 5 rfl) ?_
    refine lv_iconst (v := 1) hx hb dL_law_860 (by decide) ?_
    refine lv_iadd hx hb dL_law_861 ?_
    refine W.eq (g2 := F0 m 862 ls [.int (nI (5 * i + 1)), .ref b, .ref mb]) (by rw [show nI (5 * i) + 1 = nI (5 * i + 1) from nI_add (5 * i) 1]) ?_
    refine va_sld hx hb hX hbl hbA hS (i := nI (5 * i + 1)) (vp_in_nI (by omega) (by omega)) dL_law_862 ?_
    refine W.eq (g2 := F0 m 863 ls [.int (nI k), .ref mb]) (by rw [nI_clamp (show 5 * i + 1 < 2 ^ 31 by omega), ← ea1]) ?_
    refine xcV (As := [.int (nI k)]) (rest := []) ⟨hx, hb, hml, hown, hts⟩ (c_X4_count l D cy mb am thr nS nB st bk gate nu hq k hI.2.2.2.2.1 (by omega) (by omega) hnS hnB (fun j hj => (hI.2.1 j hj).2.1)) (cwV 1 hts gL_law_X4_count rfl rfl rfl (by decide +kernel) ⟨Nat.le_of_ble_eq_true rfl, Nat.le_of_ble_eq_true rfl⟩) hK hP hD hS hA rfl rfl rfl (xE_r) rfl hl.1 rfl (Nat.le_of_ble_eq_true rfl) dL_law_863 ⟨by show 15 + 120 * i + 1 + 1 ≤ 601024; omega, by show 187 + 700 * i + 6 + 10 ≤ 7293034; omega⟩ (fun _ H locs _ hP hD hS => ?_)
    have hP : va_P D vwCl (((xw cy h ad nS nB st bk gate nu (av 0) (tw cy av tS tB ts tb tg tn)) ++ [(o, .inl (cy 4, 1, .inr (.inl (vp_updL g 0 ((tFact nS nB st bk nu hq k).toInt64)))))]) ++ (mw cy mb am 0 nS nB st bk gate nu)) H := hP
    have hD : va_D (fun q : Nat => s.heap.size ≤ q) (((xw cy h ad nS nB st bk gate nu (av 0) (tw cy av tS tB ts tb tg tn)) ++ [(o, .inl (cy 4, 1, .inr (.inl (vp_updL g 0 ((tFact nS nB st bk nu hq k).toInt64)))))]) ++ (mw cy mb am 0 nS nB st bk gate nu)) := hD
    refine W.eq (g2 := F0 m 866 ls [.int (tFact nS nB st bk nu hq k)]) rfl ?_
    refine W.cs (cells' := 15 + 120 * i + 2) (slots' := 187 + 700 * i + 16) rfl rfl ?_
    refine lv_istore (lv' := [(6, .int (tFact nS nB st bk nu hq k)), (5, .int 0), (0, .ref b), (1, .ref h), (2, .ref mb), (3, .ref o), (4, .int (nI (5 * i)))]) hx hb dL_law_866 hl (by decide) rfl (fun ls hl => ?_)
    refine lv_aload_n hx hb dL_law_868 rfl (lv_at hl 4 rfl) ?_
    refine xcV (As := []) (rest := []) ⟨hx, hb, hml, hown, hts⟩ (c_X4_thrown l D cy mb am 0 nS nB st bk gate nu) (cwV 0 hts gL_law_X4_thrown rfl rfl rfl (by decide +kernel) ⟨Nat.le_of_ble_eq_true rfl, Nat.le_of_ble_eq_true rfl⟩) hK hP hD hS hA rfl rfl rfl (xE_r) rfl hl.1 rfl (Nat.le_of_ble_eq_true rfl) dL_law_869 ⟨by show 15 + 120 * i + 2 + 0 ≤ 601024; omega, by show 187 + 700 * i + 16 + 0 ≤ 7293034; omega⟩ (fun _ H locs _ hP hD hS => ?_)
    have hP : va_P D vwCl (((xw cy h ad nS nB st bk gate nu (av 0) (tw cy av tS tB ts tb tg tn)) ++ [(o, .inl (cy 4, 1, .inr (.inl (vp_updL g 0 ((tFact nS nB st bk nu hq k).toInt64)))))]) ++ (mw cy mb am 0 nS nB st bk gate nu)) H := hP
    have hD : va_D (fun q : Nat => s.heap.size ≤ q) (((xw cy h ad nS nB st bk gate nu (av 0) (tw cy av tS tB ts tb tg tn)) ++ [(o, .inl (cy 4, 1, .inr (.inl (vp_updL g 0 ((tFact nS nB st bk nu hq k).toInt64)))))]) ++ (mw cy mb am 0 nS nB st bk gate nu)) := hD
    refine W.eq (g2 := F0 m 872 ls [.int 0]) rfl ?_
    refine W.cs (cells' := 15 + 120 * i + 2) (slots' := 187 + 700 * i + 16) rfl rfl ?_
    refine lv_iload hx hb dL_law_872 (lv_at hl 1 rfl) ?_
    refine lv_icmp_eq (tgt := 879) hx hb dL_law_874 (by decide) (fun _ => ?_) (fun z => absurd rfl z)
    refine lv_iload hx hb dL_law_879 (lv_at hl 1 rfl) ?_
    refine lv_if_ne (tgt := 896) hx hb dL_law_881 (by decide) (fun z => absurd rfl z) (fun _ => ?_)
    refine lv_aload_n hx hb dL_law_884 rfl (lv_at hl 5 rfl) ?_
    refine lv_iconst (v := 0) hx hb dL_law_885 (by decide) ?_
    refine va_lald hx hb hK.1 hP _ 4 (at_l last_at) rfl (i := 0) (vp_in_nI (n := 0) (by decide) (by decide)) dL_law_886 ?_
    refine W.eq (g2 := F0 m 887 ls [.long ((tFact nS nB st bk nu hq k).toInt64)]) rfl ?_
    refine lv_iload hx hb dL_law_887 (lv_at hl 0 rfl) ?_
    refine lv_i2l (v := (tFact nS nB st bk nu hq k).toInt64) hx hb dL_law_889 rfl ?_
    refine W.lcmp hx hb dL_law_890 ?_
    refine W.eq (g2 := F0 m 891 ls [.int 0]) (by rw [lg_same]) ?_
    refine lv_if_eq (tgt := 896) hx hb dL_law_891 (by decide) (fun _ => ?_) (fun z => absurd rfl z)
    refine lv_goto (tgt := 1159) hx hb dL_law_896 (by decide) ?_
    refine W.widen (k := 15 + 120 * (i + 1)) (n := 187 + 700 * (i + 1)) (by omega) (by omega) ?_
    exact KK ad av am 0 nS nB tS tB st bk ts tb gate nu tg tn (vp_updL g 0 ((tFact nS nB st bk nu hq k).toInt64)) hq d0  _ _ _ hd0 hnS hnB htS htB (by omega) hI hP hD hS (lv_sub hl [2, 3, 4, 5, 6] rfl)
  · refine lv_aload_n hx hb dL_law_843 rfl (lv_at hl 1 rfl) ?_
    refine lv_aload_n hx hb dL_law_844 rfl (lv_at hl 0 rfl) ?_
    refine lv_iload hx hb dL_law_845 (lv_at hl 4 rfl) ?_
    refine lv_iconst (v := 1) hx hb dL_law_847 (by decide) ?_
    refine lv_iadd hx hb dL_law_848 ?_
    refine W.eq (g2 := F0 m 849 ls [.int (nI (5 * i + 1)), .ref b, .ref h]) (by rw [show nI (5 * i) + 1 = nI (5 * i + 1) from nI_add (5 * i) 1]) ?_
    refine va_sld hx hb hX hbl hbA hS (i := nI (5 * i + 1)) (vp_in_nI (by omega) (by omega)) dL_law_849 ?_
    refine W.eq (g2 := F0 m 850 ls [.int a1, .ref h]) (by rw [nI_clamp (show 5 * i + 1 < 2 ^ 31 by omega), ← ea1]) ?_
    refine lv_aload_n hx hb dL_law_850 rfl (lv_at hl 3 rfl) ?_
    refine xcL (As := [.ref h, .int a1, .ref o]) (rest := []) ⟨hx, hb, hml, hown, hts⟩ (c_L_count_1 l hst D cy sa h ad nS nB st bk gate nu (av 0) (tw cy av tS tB ts tb tg tn) a1 h1 o g) (vx_cwSW 3 hts gL_law_L_count rfl rfl rfl (by decide +kernel) ⟨Nat.le_of_ble_eq_true rfl, Nat.le_of_ble_eq_true rfl⟩) hK hV hZ hNc hP hD hS hA (xE_l) rfl hl.1 rfl (Nat.le_of_ble_eq_true rfl) dL_law_851 ⟨by show 15 + 120 * i + 0 + 1 ≤ 601024; omega, by show 187 + 700 * i + 0 + 6 ≤ 7293034; omega⟩ (fun u H locs _ hP hD hS => ?_)
    have hP : va_P D vwCl (((xw cy h ad nS nB st bk gate nu (av 0) (tw cy av tS tB ts tb tg tn)) ++ [(o, .inl (cy 4, 1, .inr (.inl g)))]) ++ (mw cy mb am thr nS nB st bk gate nu)) H := hP
    have hD : va_D (fun q : Nat => s.heap.size ≤ q) (((xw cy h ad nS nB st bk gate nu (av 0) (tw cy av tS tB ts tb tg tn)) ++ [(o, .inl (cy 4, 1, .inr (.inl g)))]) ++ (mw cy mb am thr nS nB st bk gate nu)) := hD
    refine W.eq (g2 := F0 m 854 ls [.int 1]) rfl ?_
    refine W.cs (cells' := 15 + 120 * i + 1) (slots' := 187 + 700 * i + 6) rfl rfl ?_
    refine lv_istore (lv' := [(5, .int 1), (0, .ref b), (1, .ref h), (2, .ref mb), (3, .ref o), (4, .int (nI (5 * i)))]) hx hb dL_law_854 hl (by decide) rfl (fun ls hl => ?_)
    refine lv_aload_n hx hb dL_law_856 rfl (lv_at hl 3 rfl) ?_
    refine lv_aload_n hx hb dL_law_857 rfl (lv_at hl 1 rfl) ?_
    refine lv_iload hx hb dL_law_858 (lv_at hl 5 rfl) ?_
    refine lv_iconst (v := 1) hx hb dL_law_860 (by decide) ?_
    refine lv_iadd hx hb dL_law_861 ?_
    refine W.eq (g2 := F0 m 862 ls [.int (nI (5 * i + 1)), .ref b, .ref mb]) (by rw [show nI (5 * i) + 1 = nI (5 * i + 1) from nI_add (5 * i) 1]) ?_
    refine va_sld hx hb hX hbl hbA hS (i := nI (5 * i + 1)) (vp_in_nI (by omega) (by omega)) dL_law_862 ?_
    refine W.eq (g2 := F0 m 863 ls [.int a1, .ref mb]) (by rw [nI_clamp (show 5 * i + 1 < 2 ^ 31 by omega), ← ea1]) ?_
    refine xcV (As := [.int a1]) (rest := []) ⟨hx, hb, hml, hown, hts⟩ (c_X4_count_1 l D cy mb am thr nS nB st bk gate nu a1 h1) (cwV 1 hts gL_law_X4_count rfl rfl rfl (by decide +kernel) ⟨Nat.le_of_ble_eq_true rfl, Nat.le_of_ble_eq_true rfl⟩) hK hP hD hS hA rfl rfl rfl (xE_r) rfl hl.1 rfl (Nat.le_of_ble_eq_true rfl) dL_law_863 ⟨by show 15 + 120 * i + 1 + 1 ≤ 601024; omega, by show 187 + 700 * i + 6 + 10 ≤ 7293034; omega⟩ (fun _ H locs _ hP hD hS => ?_)
    have hP : va_P D vwCl (((xw cy h ad nS nB st bk gate nu (av 0) (tw cy av tS tB ts tb tg tn)) ++ [(o, .inl (cy 4, 1, .inr (.inl g)))]) ++ (mw cy mb am 1 nS nB st bk gate nu)) H := hP
    have hD : va_D (fun q : Nat => s.heap.size ≤ q) (((xw cy h ad nS nB st bk gate nu (av 0) (tw cy av tS tB ts tb tg tn)) ++ [(o, .inl (cy 4, 1, .inr (.inl g)))]) ++ (mw cy mb am 1 nS nB st bk gate nu)) := hD
    refine W.eq (g2 := F0 m 866 ls [.int 0]) rfl ?_
    refine W.cs (cells' := 15 + 120 * i + 2) (slots' := 187 + 700 * i + 16) rfl rfl ?_
    refine lv_istore (lv' := [(6, .int 0), (5, .int 1), (0, .ref b), (1, .ref h), (2, .ref mb), (3, .ref o), (4, .int (nI (5 * i)))]) hx hb dL_law_866 hl (by decide) rfl (fun ls hl => ?_)
    refine lv_aload_n hx hb dL_law_868 rfl (lv_at hl 4 rfl) ?_
    refine xcV (As := []) (rest := []) ⟨hx, hb, hml, hown, hts⟩ (c_X4_thrown l D cy mb am 1 nS nB st bk gate nu) (cwV 0 hts gL_law_X4_thrown rfl rfl rfl (by decide +kernel) ⟨Nat.le_of_ble_eq_true rfl, Nat.le_of_ble_eq_true rfl⟩) hK hP hD hS hA rfl rfl rfl (xE_r) rfl hl.1 rfl (Nat.le_of_ble_eq_true rfl) dL_law_869 ⟨by show 15 + 120 * i + 2 + 0 ≤ 601024; omega, by show 187 + 700 * i + 16 + 0 ≤ 7293034; omega⟩ (fun _ H locs _ hP hD hS => ?_)
    have hP : va_P D vwCl (((xw cy h ad nS nB st bk gate nu (av 0) (tw cy av tS tB ts tb tg tn)) ++ [(o, .inl (cy 4, 1, .inr (.inl g)))]) ++ (mw cy mb am 1 nS nB st bk gate nu)) H := hP
    have hD : va_D (fun q : Nat => s.heap.size ≤ q) (((xw cy h ad nS nB st bk gate nu (av 0) (tw cy av tS tB ts tb tg tn)) ++ [(o, .inl (cy 4, 1, .inr (.inl g)))]) ++ (mw cy mb am 1 nS nB st bk gate nu)) := hD
    refine W.eq (g2 := F0 m 872 ls [.int 1]) rfl ?_
    refine W.cs (cells' := 15 + 120 * i + 2) (slots' := 187 + 700 * i + 16) rfl rfl ?_
    refine lv_iload hx hb dL_law_872 (lv_at hl 1 rfl) ?_
    refine lv_icmp_eq (tgt := 879) hx hb dL_law_874 (by decide) (fun _ => ?_) (fun z => absurd rfl z)
    refine lv_iload hx hb dL_law_879 (lv_at hl 1 rfl) ?_
    refine lv_if_ne (tgt := 896) hx hb dL_law_881 (by decide) (fun _ => ?_) (fun z => absurd z (by decide))
    refine lv_goto (tgt := 1159) hx hb dL_law_896 (by decide) ?_
    refine W.widen (k := 15 + 120 * (i + 1)) (n := 187 + 700 * (i + 1)) (by omega) (by omega) ?_
    exact KK ad av am 1 nS nB tS tB st bk ts tb gate nu tg tn g hq d0  _ _ _ hd0 hnS hnB htS htB (by omega) hI hP hD hS (lv_sub hl [2, 3, 4, 5, 6] rfl)

set_option maxHeartbeats 4000000 in
set_option maxRecDepth 100000 in
theorem l_case_pass {p : Program} {l : Launch} {e : Env} {s : State} {m : MethodId} {below : List Frame} {meth : Method} {c : Code} {b L : Nat} {xs : Nat → Int32} {D : va_G} {cy : Nat → ClassId} {sa : Nat → Nat} {h o mb i : Nat} (C1 : lwC p l s m meth c b L xs D cy sa) (hi : 5 * i + 5 ≤ L) (KK : lwS p l e s m below meth c b D cy h o mb 1159 i (i + 1)) : lwS p l e s m below meth c b D cy h o mb 899 i i := by
  obtain ⟨hst, C0, hK0, hV0, hZ0, hN0, hL⟩ := C1
  obtain ⟨hx, hb, hr, hml, hown, hts0, hX0, hbl, hlocks, hgv⟩ := id C0
  intro ad av am thr nS nB tS tB st bk ts tb gate nu tg tn g hq d0 H locs ls hd0 hnS hnB htS htB hhq hI hP hD hS hl
  unfold WW at hP hD
  have hbA : ¬ (fun q : Nat => s.heap.size ≤ q) b := Nat.not_le.mpr hbl
  have hA : ∀ q : Nat, s.heap.size ≤ q → (fun q : Nat => s.heap.size ≤ q) q := fun _ z => z
  have hts : ∀ w ∈ wsL_law, w.before #[Value.ref b] (s.setDrawn d0) = true := fun w z => dr_words hts0 d0 w (wsL_law_in w z)
  have hK := XK.same (s := s) (U := s.setDrawn d0) rfl hK0
  have hV := XV.same (s := s) (U := s.setDrawn d0) rfl hV0
  have hZ : xZ (fun q : Nat => s.heap.size ≤ q) (s.setDrawn d0) (s.setDrawn d0).heap := xZ.moved (Vm.Alike.refl _) hZ0
  have hNc : xNcs (s.setDrawn d0) := hN0.moved (Vm.Alike.refl _)
  have hX : va_X b L xs (s.setDrawn d0) s.heap := va_X.moved (Vm.Alike.refl _) hX0
  obtain ⟨a1, ea1⟩ : ∃ a, a = xs (5 * i + 1) := ⟨_, rfl⟩
  rcases Decidable.em ((1 : Int32) ≤ a1 ∧ a1 ≤ 240) with h1 | h1
  · obtain ⟨n, hna, hnb, rfl⟩ := nat_of (a := 1) (b := 240) (by decide) h1 (by decide)
    refine lv_aload_n hx hb dL_law_899 rfl (lv_at hl 1 rfl) ?_
    refine lv_aload_n hx hb dL_law_900 rfl (lv_at hl 0 rfl) ?_
    refine lv_iload hx hb dL_law_901 (lv_at hl 4 rfl) ?_
    refine lv_iconst (v := 1) hx hb dL_law_903 (by decide) ?_
    refine lv_iadd hx hb dL_law_904 ?_
    refine W.eq (g2 := F0 m 905 ls [.int (nI (5 * i + 1)), .ref b, .ref h]) (by rw [show nI (5 * i) + 1 = nI (5 * i + 1) from nI_add (5 * i) 1]) ?_
    refine va_sld hx hb hX hbl hbA hS (i := nI (5 * i + 1)) (vp_in_nI (by omega) (by omega)) dL_law_905 ?_
    refine W.eq (g2 := F0 m 906 ls [.int (nI n), .ref h]) (by rw [nI_clamp (show 5 * i + 1 < 2 ^ 31 by omega), ← ea1]) ?_
    refine lv_aload_n hx hb dL_law_906 rfl (lv_at hl 3 rfl) ?_
    refine xcL (As := [.ref h, .int (nI n), .ref o]) (rest := []) ⟨hx, hb, hml, hown, hts⟩ (c_L_pass l D cy sa h ad nS nB st bk gate nu (av 0) (tw cy av tS tB ts tb tg tn) hq n hI.2.2.2.2.1 hna hnb (by omega) hnS hnB (fun j hj => (hI.2.1 j hj).1) o g) (vx_cwSW 3 hts gL_law_L_pass rfl rfl rfl (by decide +kernel) ⟨Nat.le_of_ble_eq_true rfl, Nat.le_of_ble_eq_true rfl⟩) hK hV hZ hNc hP hD hS hA (xE_l) rfl hl.1 rfl (Nat.le_of_ble_eq_true rfl) dL_law_907 ⟨by show 15 + 120 * i + 0 + 1 ≤ 601024; omega, by show 187 + 700 * i + 0 + 6 ≤ 7293034; omega⟩ (fun u H locs _ hP hD hS => ?_)
    have hP : va_P D vwCl (((xw cy h ad nS nB ((hrs nS nB hq gate (st, bk, nu) n).1) ((hrs nS nB hq gate (st, bk, nu) n).2.1) gate ((hrs nS nB hq gate (st, bk, nu) n).2.2) (av 0) (tw cy av tS tB ts tb tg tn)) ++ [(o, .inl (cy 4, 1, .inr (.inl (vp_updL g 0 ((unf nS nB hq gate (st, bk, nu) n).toInt64)))))]) ++ (mw cy mb am thr nS nB st bk gate nu)) H := hP
    have hD : va_D (fun q : Nat => s.heap.size ≤ q) (((xw cy h ad nS nB ((hrs nS nB hq gate (st, bk, nu) n).1) ((hrs nS nB hq gate (st, bk, nu) n).2.1) gate ((hrs nS nB hq gate (st, bk, nu) n).2.2) (av 0) (tw cy av tS tB ts tb tg tn)) ++ [(o, .inl (cy 4, 1, .inr (.inl (vp_updL g 0 ((unf nS nB hq gate (st, bk, nu) n).toInt64)))))]) ++ (mw cy mb am thr nS nB st bk gate nu)) := hD
    refine W.eq (g2 := F0 m 910 ls [.int 0]) rfl ?_
    refine W.cs (cells' := 15 + 120 * i + 1) (slots' := 187 + 700 * i + 6) rfl rfl ?_
    refine lv_istore (lv' := [(5, .int 0), (0, .ref b), (1, .ref h), (2, .ref mb), (3, .ref o), (4, .int (nI (5 * i)))]) hx hb dL_law_910 hl (by decide) rfl (fun ls hl => ?_)
    refine lv_aload_n hx hb dL_law_912 rfl (lv_at hl 3 rfl) ?_
    refine lv_aload_n hx hb dL_law_913 rfl (lv_at hl 1 rfl) ?_
    refine lv_iload hx hb dL_law_914 (lv_at hl 5 rfl) ?_
    refine lv_iconst (v := 1) hx hb dL_law_916 (by decide) ?_
    refine lv_iadd hx hb dL_law_917 ?_
    refine W.eq (g2 := F0 m 918 ls [.int (nI (5 * i + 1)), .ref b, .ref mb]) (by rw [show nI (5 * i) + 1 = nI (5 * i + 1) from nI_add (5 * i) 1]) ?_
    refine va_sld hx hb hX hbl hbA hS (i := nI (5 * i + 1)) (vp_in_nI (by omega) (by omega)) dL_law_918 ?_
    refine W.eq (g2 := F0 m 919 ls [.int (nI n), .ref mb]) (by rw [nI_clamp (show 5 * i + 1 < 2 ^ 31 by omega), ← ea1]) ?_
    refine xcV (As := [.int (nI n)]) (rest := []) ⟨hx, hb, hml, hown, hts⟩ (c_X4_pass l D cy mb am thr nS nB st bk gate nu hq n hI.2.2.2.2.1 hna hnb (by omega) hnS hnB (fun i hi => inv_ok (inv_hrs hnS hI i (by omega)))) (cwV 1 hts gL_law_X4_pass rfl rfl rfl (by decide +kernel) ⟨Nat.le_of_ble_eq_true rfl, Nat.le_of_ble_eq_true rfl⟩) hK hP hD hS hA rfl rfl rfl (xE_r) rfl hl.1 rfl (Nat.le_of_ble_eq_true rfl) dL_law_919 ⟨by show 15 + 120 * i + 1 + 0 ≤ 601024; omega, by show 187 + 700 * i + 6 + 0 ≤ 7293034; omega⟩ (fun _ H locs _ hP hD hS => ?_)
    have hP : va_P D vwCl (((xw cy h ad nS nB ((hrs nS nB hq gate (st, bk, nu) n).1) ((hrs nS nB hq gate (st, bk, nu) n).2.1) gate ((hrs nS nB hq gate (st, bk, nu) n).2.2) (av 0) (tw cy av tS tB ts tb tg tn)) ++ [(o, .inl (cy 4, 1, .inr (.inl (vp_updL g 0 ((unf nS nB hq gate (st, bk, nu) n).toInt64)))))]) ++ (mw cy mb am 0 nS nB ((hrs nS nB hq gate (st, bk, nu) n).1) ((hrs nS nB hq gate (st, bk, nu) n).2.1) gate ((hrs nS nB hq gate (st, bk, nu) n).2.2))) H := hP
    have hD : va_D (fun q : Nat => s.heap.size ≤ q) (((xw cy h ad nS nB ((hrs nS nB hq gate (st, bk, nu) n).1) ((hrs nS nB hq gate (st, bk, nu) n).2.1) gate ((hrs nS nB hq gate (st, bk, nu) n).2.2) (av 0) (tw cy av tS tB ts tb tg tn)) ++ [(o, .inl (cy 4, 1, .inr (.inl (vp_updL g 0 ((unf nS nB hq gate (st, bk, nu) n).toInt64)))))]) ++ (mw cy mb am 0 nS nB ((hrs nS nB hq gate (st, bk, nu) n).1) ((hrs nS nB hq gate (st, bk, nu) n).2.1) gate ((hrs nS nB hq gate (st, bk, nu) n).2.2))) := hD
    refine W.eq (g2 := F0 m 922 ls [.int (unf nS nB hq gate (st, bk, nu) n)]) rfl ?_
    refine W.cs (cells' := 15 + 120 * i + 1) (slots' := 187 + 700 * i + 6) rfl rfl ?_
    refine lv_istore (lv' := [(6, .int (unf nS nB hq gate (st, bk, nu) n)), (5, .int 0), (0, .ref b), (1, .ref h), (2, .ref mb), (3, .ref o), (4, .int (nI (5 * i)))]) hx hb dL_law_922 hl (by decide) rfl (fun ls hl => ?_)
    refine lv_aload_n hx hb dL_law_924 rfl (lv_at hl 4 rfl) ?_
    refine xcV (As := []) (rest := []) ⟨hx, hb, hml, hown, hts⟩ (c_X4_thrown l D cy mb am 0 nS nB ((hrs nS nB hq gate (st, bk, nu) n).1) ((hrs nS nB hq gate (st, bk, nu) n).2.1) gate ((hrs nS nB hq gate (st, bk, nu) n).2.2)) (cwV 0 hts gL_law_X4_thrown rfl rfl rfl (by decide +kernel) ⟨Nat.le_of_ble_eq_true rfl, Nat.le_of_ble_eq_true rfl⟩) hK hP hD hS hA rfl rfl rfl (xE_r) rfl hl.1 rfl (Nat.le_of_ble_eq_true rfl) dL_law_925 ⟨by show 15 + 120 * i + 1 + 0 ≤ 601024; omega, by show 187 + 700 * i + 6 + 0 ≤ 7293034; omega⟩ (fun _ H locs _ hP hD hS => ?_)
    have hP : va_P D vwCl (((xw cy h ad nS nB ((hrs nS nB hq gate (st, bk, nu) n).1) ((hrs nS nB hq gate (st, bk, nu) n).2.1) gate ((hrs nS nB hq gate (st, bk, nu) n).2.2) (av 0) (tw cy av tS tB ts tb tg tn)) ++ [(o, .inl (cy 4, 1, .inr (.inl (vp_updL g 0 ((unf nS nB hq gate (st, bk, nu) n).toInt64)))))]) ++ (mw cy mb am 0 nS nB ((hrs nS nB hq gate (st, bk, nu) n).1) ((hrs nS nB hq gate (st, bk, nu) n).2.1) gate ((hrs nS nB hq gate (st, bk, nu) n).2.2))) H := hP
    have hD : va_D (fun q : Nat => s.heap.size ≤ q) (((xw cy h ad nS nB ((hrs nS nB hq gate (st, bk, nu) n).1) ((hrs nS nB hq gate (st, bk, nu) n).2.1) gate ((hrs nS nB hq gate (st, bk, nu) n).2.2) (av 0) (tw cy av tS tB ts tb tg tn)) ++ [(o, .inl (cy 4, 1, .inr (.inl (vp_updL g 0 ((unf nS nB hq gate (st, bk, nu) n).toInt64)))))]) ++ (mw cy mb am 0 nS nB ((hrs nS nB hq gate (st, bk, nu) n).1) ((hrs nS nB hq gate (st, bk, nu) n).2.1) gate ((hrs nS nB hq gate (st, bk, nu) n).2.2))) := hD
    refine W.eq (g2 := F0 m 928 ls [.int 0]) rfl ?_
    refine W.cs (cells' := 15 + 120 * i + 1) (slots' := 187 + 700 * i + 6) rfl rfl ?_
    refine lv_iload hx hb dL_law_928 (lv_at hl 1 rfl) ?_
    refine lv_icmp_eq (tgt := 935) hx hb dL_law_930 (by decide) (fun _ => ?_) (fun z => absurd rfl z)
    refine lv_iload hx hb dL_law_935 (lv_at hl 1 rfl) ?_
    refine lv_if_ne (tgt := 952) hx hb dL_law_937 (by decide) (fun z => absurd rfl z) (fun _ => ?_)
    refine lv_aload_n hx hb dL_law_940 rfl (lv_at hl 5 rfl) ?_
    refine lv_iconst (v := 0) hx hb dL_law_941 (by decide) ?_
    refine va_lald hx hb hK.1 hP _ 4 (at_l last_at) rfl (i := 0) (vp_in_nI (n := 0) (by decide) (by decide)) dL_law_942 ?_
    refine W.eq (g2 := F0 m 943 ls [.long ((unf nS nB hq gate (st, bk, nu) n).toInt64)]) rfl ?_
    refine lv_iload hx hb dL_law_943 (lv_at hl 0 rfl) ?_
    refine lv_i2l (v := (unf nS nB hq gate (st, bk, nu) n).toInt64) hx hb dL_law_945 rfl ?_
    refine W.lcmp hx hb dL_law_946 ?_
    refine W.eq (g2 := F0 m 947 ls [.int 0]) (by rw [lg_same]) ?_
    refine lv_if_eq (tgt := 952) hx hb dL_law_947 (by decide) (fun _ => ?_) (fun z => absurd rfl z)
    refine lv_goto (tgt := 1159) hx hb dL_law_952 (by decide) ?_
    refine W.widen (k := 15 + 120 * (i + 1)) (n := 187 + 700 * (i + 1)) (by omega) (by omega) ?_
    exact KK ad av am 0 nS nB tS tB ((hrs nS nB hq gate (st, bk, nu) n).1) ((hrs nS nB hq gate (st, bk, nu) n).2.1) ts tb gate ((hrs nS nB hq gate (st, bk, nu) n).2.2) tg tn (vp_updL g 0 ((unf nS nB hq gate (st, bk, nu) n).toInt64)) (hq + n) d0  _ _ _ hd0 hnS hnB htS htB (by omega) (inv_hrs hnS hI n (by omega)) hP hD hS (lv_sub hl [2, 3, 4, 5, 6] rfl)
  · refine lv_aload_n hx hb dL_law_899 rfl (lv_at hl 1 rfl) ?_
    refine lv_aload_n hx hb dL_law_900 rfl (lv_at hl 0 rfl) ?_
    refine lv_iload hx hb dL_law_901 (lv_at hl 4 rfl) ?_
    refine lv_iconst (v := 1) hx hb dL_law_903 (by decide) ?_
    refine lv_iadd hx hb dL_law_904 ?_
    refine W.eq (g2 := F0 m 905 ls [.int (nI (5 * i + 1)), .ref b, .ref h]) (by rw [show nI (5 * i) + 1 = nI (5 * i + 1) from nI_add (5 * i) 1]) ?_
    refine va_sld hx hb hX hbl hbA hS (i := nI (5 * i + 1)) (vp_in_nI (by omega) (by omega)) dL_law_905 ?_
    refine W.eq (g2 := F0 m 906 ls [.int a1, .ref h]) (by rw [nI_clamp (show 5 * i + 1 < 2 ^ 31 by omega), ← ea1]) ?_
    refine lv_aload_n hx hb dL_law_906 rfl (lv_at hl 3 rfl) ?_
    refine xcL (As := [.ref h, .int a1, .ref o]) (rest := []) ⟨hx, hb, hml, hown, hts⟩ (c_L_pass_1 l hst D cy sa h ad nS nB st bk gate nu (av 0) (tw cy av tS tB ts tb tg tn) a1 h1 o g) (vx_cwSW 3 hts gL_law_L_pass rfl rfl rfl (by decide +kernel) ⟨Nat.le_of_ble_eq_true rfl, Nat.le_of_ble_eq_true rfl⟩) hK hV hZ hNc hP hD hS hA (xE_l) rfl hl.1 rfl (Nat.le_of_ble_eq_true rfl) dL_law_907 ⟨by show 15 + 120 * i + 0 + 1 ≤ 601024; omega, by show 187 + 700 * i + 0 + 6 ≤ 7293034; omega⟩ (fun u H locs _ hP hD hS => ?_)
    have hP : va_P D vwCl (((xw cy h ad nS nB st bk gate nu (av 0) (tw cy av tS tB ts tb tg tn)) ++ [(o, .inl (cy 4, 1, .inr (.inl g)))]) ++ (mw cy mb am thr nS nB st bk gate nu)) H := hP
    have hD : va_D (fun q : Nat => s.heap.size ≤ q) (((xw cy h ad nS nB st bk gate nu (av 0) (tw cy av tS tB ts tb tg tn)) ++ [(o, .inl (cy 4, 1, .inr (.inl g)))]) ++ (mw cy mb am thr nS nB st bk gate nu)) := hD
    refine W.eq (g2 := F0 m 910 ls [.int 1]) rfl ?_
    refine W.cs (cells' := 15 + 120 * i + 1) (slots' := 187 + 700 * i + 6) rfl rfl ?_
    refine lv_istore (lv' := [(5, .int 1), (0, .ref b), (1, .ref h), (2, .ref mb), (3, .ref o), (4, .int (nI (5 * i)))]) hx hb dL_law_910 hl (by decide) rfl (fun ls hl => ?_)
    refine lv_aload_n hx hb dL_law_912 rfl (lv_at hl 3 rfl) ?_
    refine lv_aload_n hx hb dL_law_913 rfl (lv_at hl 1 rfl) ?_
    refine lv_iload hx hb dL_law_914 (lv_at hl 5 rfl) ?_
    refine lv_iconst (v := 1) hx hb dL_law_916 (by decide) ?_
    refine lv_iadd hx hb dL_law_917 ?_
    refine W.eq (g2 := F0 m 918 ls [.int (nI (5 * i + 1)), .ref b, .ref mb]) (by rw [show nI (5 * i) + 1 = nI (5 * i + 1) from nI_add (5 * i) 1]) ?_
    refine va_sld hx hb hX hbl hbA hS (i := nI (5 * i + 1)) (vp_in_nI (by omega) (by omega)) dL_law_918 ?_
    refine W.eq (g2 := F0 m 919 ls [.int a1, .ref mb]) (by rw [nI_clamp (show 5 * i + 1 < 2 ^ 31 by omega), ← ea1]) ?_
    refine xcV (As := [.int a1]) (rest := []) ⟨hx, hb, hml, hown, hts⟩ (c_X4_pass_1 l D cy mb am thr nS nB st bk gate nu a1 h1) (cwV 1 hts gL_law_X4_pass rfl rfl rfl (by decide +kernel) ⟨Nat.le_of_ble_eq_true rfl, Nat.le_of_ble_eq_true rfl⟩) hK hP hD hS hA rfl rfl rfl (xE_r) rfl hl.1 rfl (Nat.le_of_ble_eq_true rfl) dL_law_919 ⟨by show 15 + 120 * i + 1 + 0 ≤ 601024; omega, by show 187 + 700 * i + 6 + 0 ≤ 7293034; omega⟩ (fun _ H locs _ hP hD hS => ?_)
    have hP : va_P D vwCl (((xw cy h ad nS nB st bk gate nu (av 0) (tw cy av tS tB ts tb tg tn)) ++ [(o, .inl (cy 4, 1, .inr (.inl g)))]) ++ (mw cy mb am 1 nS nB st bk gate nu)) H := hP
    have hD : va_D (fun q : Nat => s.heap.size ≤ q) (((xw cy h ad nS nB st bk gate nu (av 0) (tw cy av tS tB ts tb tg tn)) ++ [(o, .inl (cy 4, 1, .inr (.inl g)))]) ++ (mw cy mb am 1 nS nB st bk gate nu)) := hD
    refine W.eq (g2 := F0 m 922 ls [.int 0]) rfl ?_
    refine W.cs (cells' := 15 + 120 * i + 1) (slots' := 187 + 700 * i + 6) rfl rfl ?_
    refine lv_istore (lv' := [(6, .int 0), (5, .int 1), (0, .ref b), (1, .ref h), (2, .ref mb), (3, .ref o), (4, .int (nI (5 * i)))]) hx hb dL_law_922 hl (by decide) rfl (fun ls hl => ?_)
    refine lv_aload_n hx hb dL_law_924 rfl (lv_at hl 4 rfl) ?_
    refine xcV (As := []) (rest := []) ⟨hx, hb, hml, hown, hts⟩ (c_X4_thrown l D cy mb am 1 nS nB st bk gate nu) (cwV 0 hts gL_law_X4_thrown rfl rfl rfl (by decide +kernel) ⟨Nat.le_of_ble_eq_true rfl, Nat.le_of_ble_eq_true rfl⟩) hK hP hD hS hA rfl rfl rfl (xE_r) rfl hl.1 rfl (Nat.le_of_ble_eq_true rfl) dL_law_925 ⟨by show 15 + 120 * i + 1 + 0 ≤ 601024; omega, by show 187 + 700 * i + 6 + 0 ≤ 7293034; omega⟩ (fun _ H locs _ hP hD hS => ?_)
    have hP : va_P D vwCl (((xw cy h ad nS nB st bk gate nu (av 0) (tw cy av tS tB ts tb tg tn)) ++ [(o, .inl (cy 4, 1, .inr (.inl g)))]) ++ (mw cy mb am 1 nS nB st bk gate nu)) H := hP
    have hD : va_D (fun q : Nat => s.heap.size ≤ q) (((xw cy h ad nS nB st bk gate nu (av 0) (tw cy av tS tB ts tb tg tn)) ++ [(o, .inl (cy 4, 1, .inr (.inl g)))]) ++ (mw cy mb am 1 nS nB st bk gate nu)) := hD
    refine W.eq (g2 := F0 m 928 ls [.int 1]) rfl ?_
    refine W.cs (cells' := 15 + 120 * i + 1) (slots' := 187 + 700 * i + 6) rfl rfl ?_
    refine lv_iload hx hb dL_law_928 (lv_at hl 1 rfl) ?_
    refine lv_icmp_eq (tgt := 935) hx hb dL_law_930 (by decide) (fun _ => ?_) (fun z => absurd rfl z)
    refine lv_iload hx hb dL_law_935 (lv_at hl 1 rfl) ?_
    refine lv_if_ne (tgt := 952) hx hb dL_law_937 (by decide) (fun _ => ?_) (fun z => absurd z (by decide))
    refine lv_goto (tgt := 1159) hx hb dL_law_952 (by decide) ?_
    refine W.widen (k := 15 + 120 * (i + 1)) (n := 187 + 700 * (i + 1)) (by omega) (by omega) ?_
    exact KK ad av am 1 nS nB tS tB st bk ts tb gate nu tg tn g hq d0  _ _ _ hd0 hnS hnB htS htB (by omega) hI hP hD hS (lv_sub hl [2, 3, 4, 5, 6] rfl)

set_option maxHeartbeats 4000000 in
set_option maxRecDepth 100000 in
theorem l_case_foresee {p : Program} {l : Launch} {e : Env} {s : State} {m : MethodId} {below : List Frame} {meth : Method} {c : Code} {b L : Nat} {xs : Nat → Int32} {D : va_G} {cy : Nat → ClassId} {sa : Nat → Nat} {h o mb i : Nat} (C1 : lwC p l s m meth c b L xs D cy sa) (hi : 5 * i + 5 ≤ L) (KK : lwS p l e s m below meth c b D cy h o mb 1159 i (i + 1)) : lwS p l e s m below meth c b D cy h o mb 968 i i := by
  obtain ⟨hst, C0, hK0, hV0, hZ0, hN0, hL⟩ := C1
  obtain ⟨hx, hb, hr, hml, hown, hts0, hX0, hbl, hlocks, hgv⟩ := id C0
  intro ad av am thr nS nB tS tB st bk ts tb gate nu tg tn g hq d0 H locs ls hd0 hnS hnB htS htB hhq hI hP hD hS hl
  unfold WW at hP hD
  have hbA : ¬ (fun q : Nat => s.heap.size ≤ q) b := Nat.not_le.mpr hbl
  have hA : ∀ q : Nat, s.heap.size ≤ q → (fun q : Nat => s.heap.size ≤ q) q := fun _ z => z
  have hts : ∀ w ∈ wsL_law, w.before #[Value.ref b] (s.setDrawn d0) = true := fun w z => dr_words hts0 d0 w (wsL_law_in w z)
  have hK := XK.same (s := s) (U := s.setDrawn d0) rfl hK0
  have hV := XV.same (s := s) (U := s.setDrawn d0) rfl hV0
  have hZ : xZ (fun q : Nat => s.heap.size ≤ q) (s.setDrawn d0) (s.setDrawn d0).heap := xZ.moved (Vm.Alike.refl _) hZ0
  have hNc : xNcs (s.setDrawn d0) := hN0.moved (Vm.Alike.refl _)
  have hX : va_X b L xs (s.setDrawn d0) s.heap := va_X.moved (Vm.Alike.refl _) hX0
  obtain ⟨a1, ea1⟩ : ∃ a, a = xs (5 * i + 1) := ⟨_, rfl⟩
  obtain ⟨a2, ea2⟩ : ∃ a, a = xs (5 * i + 2) := ⟨_, rfl⟩
  rcases Decidable.em ((1 : Int32) ≤ a1 ∧ a1 ≤ 240) with h1 | h1
  · obtain ⟨n, hna, hnb, rfl⟩ := nat_of (a := 1) (b := 240) (by decide) h1 (by decide)
    rcases Decidable.em ((0 : Int32) ≤ a2 ∧ a2 ≤ 3) with h2 | h2
    · obtain ⟨k, hka, hkb, rfl⟩ := nat_of (a := 0) (b := 3) (by decide) h2 (by decide)
      refine lv_aload_n hx hb dL_law_968 rfl (lv_at hl 1 rfl) ?_
      refine lv_aload_n hx hb dL_law_969 rfl (lv_at hl 0 rfl) ?_
      refine lv_iload hx hb dL_law_970 (lv_at hl 4 rfl) ?_
      refine lv_iconst (v := 1) hx hb dL_law_972 (by decide) ?_
      refine lv_iadd hx hb dL_law_973 ?_
      refine W.eq (g2 := F0 m 974 ls [.int (nI (5 * i + 1)), .ref b, .ref h]) (by rw [show nI (5 * i) + 1 = nI (5 * i + 1) from nI_add (5 * i) 1]) ?_
      refine va_sld hx hb hX hbl hbA hS (i := nI (5 * i + 1)) (vp_in_nI (by omega) (by omega)) dL_law_974 ?_
      refine W.eq (g2 := F0 m 975 ls [.int (nI n), .ref h]) (by rw [nI_clamp (show 5 * i + 1 < 2 ^ 31 by omega), ← ea1]) ?_
      refine lv_aload_n hx hb dL_law_975 rfl (lv_at hl 0 rfl) ?_
      refine lv_iload hx hb dL_law_976 (lv_at hl 4 rfl) ?_
      refine lv_iconst (v := 2) hx hb dL_law_978 (by decide) ?_
      refine lv_iadd hx hb dL_law_979 ?_
      refine W.eq (g2 := F0 m 980 ls [.int (nI (5 * i + 2)), .ref b, .int (nI n), .ref h]) (by rw [show nI (5 * i) + 2 = nI (5 * i + 2) from nI_add (5 * i) 2]) ?_
      refine va_sld hx hb hX hbl hbA hS (i := nI (5 * i + 2)) (vp_in_nI (by omega) (by omega)) dL_law_980 ?_
      refine W.eq (g2 := F0 m 981 ls [.int (nI k), .int (nI n), .ref h]) (by rw [nI_clamp (show 5 * i + 2 < 2 ^ 31 by omega), ← ea2]) ?_
      refine lv_aload_n hx hb dL_law_981 rfl (lv_at hl 3 rfl) ?_
      refine xcL (As := [.ref h, .int (nI n), .int (nI k), .ref o]) (rest := []) ⟨hx, hb, hml, hown, hts⟩ (c_L_foresee l D cy sa h ad av nS nB tS tB st bk ts tb gate nu tg tn htS htB hnS hnB (fun j hj => (hI.2.1 j hj).2.1) hq n k hI.2.2.2.2.1 hna hnb (by omega) (by omega) (fun j hj => (hI.2.1 j hj).1) o g) (vx_cwSW 4 hts gL_law_L_foresee rfl rfl rfl (by decide +kernel) ⟨Nat.le_of_ble_eq_true rfl, Nat.le_of_ble_eq_true rfl⟩) hK hV hZ hNc hP hD hS hA (xE_l) rfl hl.1 rfl (Nat.le_of_ble_eq_true rfl) dL_law_982 ⟨by show 15 + 120 * i + 0 + 10 ≤ 601024; omega, by show 187 + 700 * i + 0 + 60 ≤ 7293034; omega⟩ (fun u H locs _ hP hD hS => ?_)
      have hP : va_P D vwCl (((xw cy h ad nS nB st bk gate nu (u.1 0) (tw cy u.1 nS nB u.2.1 u.2.2.1 gate u.2.2.2)) ++ [(o, .inl (cy 4, 1, .inr (.inl (vp_updL g 0 ((fsF nS nB (unf nS nB hq gate (st, bk, nu) n) (hrs nS nB hq gate (st, bk, nu) n) k).toInt64)))))]) ++ (mw cy mb am thr nS nB st bk gate nu)) H := hP
      have hD : va_D (fun q : Nat => s.heap.size ≤ q) (((xw cy h ad nS nB st bk gate nu (u.1 0) (tw cy u.1 nS nB u.2.1 u.2.2.1 gate u.2.2.2)) ++ [(o, .inl (cy 4, 1, .inr (.inl (vp_updL g 0 ((fsF nS nB (unf nS nB hq gate (st, bk, nu) n) (hrs nS nB hq gate (st, bk, nu) n) k).toInt64)))))]) ++ (mw cy mb am thr nS nB st bk gate nu)) := hD
      refine W.eq (g2 := F0 m 985 ls [.int 0]) rfl ?_
      refine W.cs (cells' := 15 + 120 * i + 10) (slots' := 187 + 700 * i + 60) rfl rfl ?_
      refine lv_istore (lv' := [(5, .int 0), (0, .ref b), (1, .ref h), (2, .ref mb), (3, .ref o), (4, .int (nI (5 * i)))]) hx hb dL_law_985 hl (by decide) rfl (fun ls hl => ?_)
      refine lv_aload_n hx hb dL_law_987 rfl (lv_at hl 3 rfl) ?_
      refine lv_aload_n hx hb dL_law_988 rfl (lv_at hl 1 rfl) ?_
      refine lv_iload hx hb dL_law_989 (lv_at hl 5 rfl) ?_
      refine lv_iconst (v := 1) hx hb dL_law_991 (by decide) ?_
      refine lv_iadd hx hb dL_law_992 ?_
      refine W.eq (g2 := F0 m 993 ls [.int (nI (5 * i + 1)), .ref b, .ref mb]) (by rw [show nI (5 * i) + 1 = nI (5 * i + 1) from nI_add (5 * i) 1]) ?_
      refine va_sld hx hb hX hbl hbA hS (i := nI (5 * i + 1)) (vp_in_nI (by omega) (by omega)) dL_law_993 ?_
      refine W.eq (g2 := F0 m 994 ls [.int (nI n), .ref mb]) (by rw [nI_clamp (show 5 * i + 1 < 2 ^ 31 by omega), ← ea1]) ?_
      refine lv_aload_n hx hb dL_law_994 rfl (lv_at hl 1 rfl) ?_
      refine lv_iload hx hb dL_law_995 (lv_at hl 5 rfl) ?_
      refine lv_iconst (v := 2) hx hb dL_law_997 (by decide) ?_
      refine lv_iadd hx hb dL_law_998 ?_
      refine W.eq (g2 := F0 m 999 ls [.int (nI (5 * i + 2)), .ref b, .int (nI n), .ref mb]) (by rw [show nI (5 * i) + 2 = nI (5 * i + 2) from nI_add (5 * i) 2]) ?_
      refine va_sld hx hb hX hbl hbA hS (i := nI (5 * i + 2)) (vp_in_nI (by omega) (by omega)) dL_law_999 ?_
      refine W.eq (g2 := F0 m 1000 ls [.int (nI k), .int (nI n), .ref mb]) (by rw [nI_clamp (show 5 * i + 2 < 2 ^ 31 by omega), ← ea2]) ?_
      refine xcV (As := [.int (nI n), .int (nI k)]) (rest := []) ⟨hx, hb, hml, hown, hts⟩ (c_X4_foresee l D cy mb am thr nS nB st bk gate nu hq n k hI.2.2.2.2.1 hna hnb (by omega) (by omega) hnS hnB (fun i hi => inv_ok (inv_hrs hnS hI i (by omega)))) (cwV 2 hts gL_law_X4_foresee rfl rfl rfl (by decide +kernel) ⟨Nat.le_of_ble_eq_true rfl, Nat.le_of_ble_eq_true rfl⟩) hK hP hD hS hA rfl rfl rfl (xE_r) rfl hl.1 rfl (Nat.le_of_ble_eq_true rfl) dL_law_1000 ⟨by show 15 + 120 * i + 10 + 4 ≤ 601024; omega, by show 187 + 700 * i + 60 + 68 ≤ 7293034; omega⟩ (fun _ H locs _ hP hD hS => ?_)
      have hP : va_P D vwCl (((xw cy h ad nS nB st bk gate nu (u.1 0) (tw cy u.1 nS nB u.2.1 u.2.2.1 gate u.2.2.2)) ++ [(o, .inl (cy 4, 1, .inr (.inl (vp_updL g 0 ((fsF nS nB (unf nS nB hq gate (st, bk, nu) n) (hrs nS nB hq gate (st, bk, nu) n) k).toInt64)))))]) ++ (mw cy mb am 0 nS nB st bk gate nu)) H := hP
      have hD : va_D (fun q : Nat => s.heap.size ≤ q) (((xw cy h ad nS nB st bk gate nu (u.1 0) (tw cy u.1 nS nB u.2.1 u.2.2.1 gate u.2.2.2)) ++ [(o, .inl (cy 4, 1, .inr (.inl (vp_updL g 0 ((fsF nS nB (unf nS nB hq gate (st, bk, nu) n) (hrs nS nB hq gate (st, bk, nu) n) k).toInt64)))))]) ++ (mw cy mb am 0 nS nB st bk gate nu)) := hD
      refine W.eq (g2 := F0 m 1003 ls [.int (fsF nS nB (unf nS nB hq gate (st, bk, nu) n) (hrs nS nB hq gate (st, bk, nu) n) k)]) rfl ?_
      refine W.cs (cells' := 15 + 120 * i + 14) (slots' := 187 + 700 * i + 128) rfl rfl ?_
      refine lv_istore (lv' := [(6, .int (fsF nS nB (unf nS nB hq gate (st, bk, nu) n) (hrs nS nB hq gate (st, bk, nu) n) k)), (5, .int 0), (0, .ref b), (1, .ref h), (2, .ref mb), (3, .ref o), (4, .int (nI (5 * i)))]) hx hb dL_law_1003 hl (by decide) rfl (fun ls hl => ?_)
      refine lv_aload_n hx hb dL_law_1005 rfl (lv_at hl 4 rfl) ?_
      refine xcV (As := []) (rest := []) ⟨hx, hb, hml, hown, hts⟩ (c_X4_thrown l D cy mb am 0 nS nB st bk gate nu) (cwV 0 hts gL_law_X4_thrown rfl rfl rfl (by decide +kernel) ⟨Nat.le_of_ble_eq_true rfl, Nat.le_of_ble_eq_true rfl⟩) hK hP hD hS hA rfl rfl rfl (xE_r) rfl hl.1 rfl (Nat.le_of_ble_eq_true rfl) dL_law_1006 ⟨by show 15 + 120 * i + 14 + 0 ≤ 601024; omega, by show 187 + 700 * i + 128 + 0 ≤ 7293034; omega⟩ (fun _ H locs _ hP hD hS => ?_)
      have hP : va_P D vwCl (((xw cy h ad nS nB st bk gate nu (u.1 0) (tw cy u.1 nS nB u.2.1 u.2.2.1 gate u.2.2.2)) ++ [(o, .inl (cy 4, 1, .inr (.inl (vp_updL g 0 ((fsF nS nB (unf nS nB hq gate (st, bk, nu) n) (hrs nS nB hq gate (st, bk, nu) n) k).toInt64)))))]) ++ (mw cy mb am 0 nS nB st bk gate nu)) H := hP
      have hD : va_D (fun q : Nat => s.heap.size ≤ q) (((xw cy h ad nS nB st bk gate nu (u.1 0) (tw cy u.1 nS nB u.2.1 u.2.2.1 gate u.2.2.2)) ++ [(o, .inl (cy 4, 1, .inr (.inl (vp_updL g 0 ((fsF nS nB (unf nS nB hq gate (st, bk, nu) n) (hrs nS nB hq gate (st, bk, nu) n) k).toInt64)))))]) ++ (mw cy mb am 0 nS nB st bk gate nu)) := hD
      refine W.eq (g2 := F0 m 1009 ls [.int 0]) rfl ?_
      refine W.cs (cells' := 15 + 120 * i + 14) (slots' := 187 + 700 * i + 128) rfl rfl ?_
      refine lv_iload hx hb dL_law_1009 (lv_at hl 1 rfl) ?_
      refine lv_icmp_eq (tgt := 1016) hx hb dL_law_1011 (by decide) (fun _ => ?_) (fun z => absurd rfl z)
      refine lv_iload hx hb dL_law_1016 (lv_at hl 1 rfl) ?_
      refine lv_if_ne (tgt := 1033) hx hb dL_law_1018 (by decide) (fun z => absurd rfl z) (fun _ => ?_)
      refine lv_aload_n hx hb dL_law_1021 rfl (lv_at hl 5 rfl) ?_
      refine lv_iconst (v := 0) hx hb dL_law_1022 (by decide) ?_
      refine va_lald hx hb hK.1 hP _ 4 (at_l last_at) rfl (i := 0) (vp_in_nI (n := 0) (by decide) (by decide)) dL_law_1023 ?_
      refine W.eq (g2 := F0 m 1024 ls [.long ((fsF nS nB (unf nS nB hq gate (st, bk, nu) n) (hrs nS nB hq gate (st, bk, nu) n) k).toInt64)]) rfl ?_
      refine lv_iload hx hb dL_law_1024 (lv_at hl 0 rfl) ?_
      refine lv_i2l (v := (fsF nS nB (unf nS nB hq gate (st, bk, nu) n) (hrs nS nB hq gate (st, bk, nu) n) k).toInt64) hx hb dL_law_1026 rfl ?_
      refine W.lcmp hx hb dL_law_1027 ?_
      refine W.eq (g2 := F0 m 1028 ls [.int 0]) (by rw [lg_same]) ?_
      refine lv_if_eq (tgt := 1033) hx hb dL_law_1028 (by decide) (fun _ => ?_) (fun z => absurd rfl z)
      refine lv_goto (tgt := 1159) hx hb dL_law_1033 (by decide) ?_
      refine W.widen (k := 15 + 120 * (i + 1)) (n := 187 + 700 * (i + 1)) (by omega) (by omega) ?_
      exact KK ad u.1 am 0 nS nB nS nB st bk u.2.1 u.2.2.1 gate nu gate u.2.2.2 (vp_updL g 0 ((fsF nS nB (unf nS nB hq gate (st, bk, nu) n) (hrs nS nB hq gate (st, bk, nu) n) k).toInt64)) hq d0  _ _ _ hd0 hnS hnB (Nat.le_refl _) (Nat.le_refl _) (by omega) hI hP hD hS (lv_sub hl [2, 3, 4, 5, 6] rfl)
    · refine lv_aload_n hx hb dL_law_968 rfl (lv_at hl 1 rfl) ?_
      refine lv_aload_n hx hb dL_law_969 rfl (lv_at hl 0 rfl) ?_
      refine lv_iload hx hb dL_law_970 (lv_at hl 4 rfl) ?_
      refine lv_iconst (v := 1) hx hb dL_law_972 (by decide) ?_
      refine lv_iadd hx hb dL_law_973 ?_
      refine W.eq (g2 := F0 m 974 ls [.int (nI (5 * i + 1)), .ref b, .ref h]) (by rw [show nI (5 * i) + 1 = nI (5 * i + 1) from nI_add (5 * i) 1]) ?_
      refine va_sld hx hb hX hbl hbA hS (i := nI (5 * i + 1)) (vp_in_nI (by omega) (by omega)) dL_law_974 ?_
      refine W.eq (g2 := F0 m 975 ls [.int (nI n), .ref h]) (by rw [nI_clamp (show 5 * i + 1 < 2 ^ 31 by omega), ← ea1]) ?_
      refine lv_aload_n hx hb dL_law_975 rfl (lv_at hl 0 rfl) ?_
      refine lv_iload hx hb dL_law_976 (lv_at hl 4 rfl) ?_
      refine lv_iconst (v := 2) hx hb dL_law_978 (by decide) ?_
      refine lv_iadd hx hb dL_law_979 ?_
      refine W.eq (g2 := F0 m 980 ls [.int (nI (5 * i + 2)), .ref b, .int (nI n), .ref h]) (by rw [show nI (5 * i) + 2 = nI (5 * i + 2) from nI_add (5 * i) 2]) ?_
      refine va_sld hx hb hX hbl hbA hS (i := nI (5 * i + 2)) (vp_in_nI (by omega) (by omega)) dL_law_980 ?_
      refine W.eq (g2 := F0 m 981 ls [.int a2, .int (nI n), .ref h]) (by rw [nI_clamp (show 5 * i + 2 < 2 ^ 31 by omega), ← ea2]) ?_
      refine lv_aload_n hx hb dL_law_981 rfl (lv_at hl 3 rfl) ?_
      refine xcL (As := [.ref h, .int (nI n), .int a2, .ref o]) (rest := []) ⟨hx, hb, hml, hown, hts⟩ (c_L_foresee_2 l hst D cy sa h ad nS nB st bk gate nu (av 0) (tw cy av tS tB ts tb tg tn) (nI n) a2 h1 h2 o g) (vx_cwSW 4 hts gL_law_L_foresee rfl rfl rfl (by decide +kernel) ⟨Nat.le_of_ble_eq_true rfl, Nat.le_of_ble_eq_true rfl⟩) hK hV hZ hNc hP hD hS hA (xE_l) rfl hl.1 rfl (Nat.le_of_ble_eq_true rfl) dL_law_982 ⟨by show 15 + 120 * i + 0 + 10 ≤ 601024; omega, by show 187 + 700 * i + 0 + 60 ≤ 7293034; omega⟩ (fun u H locs _ hP hD hS => ?_)
      have hP : va_P D vwCl (((xw cy h ad nS nB st bk gate nu (av 0) (tw cy av tS tB ts tb tg tn)) ++ [(o, .inl (cy 4, 1, .inr (.inl g)))]) ++ (mw cy mb am thr nS nB st bk gate nu)) H := hP
      have hD : va_D (fun q : Nat => s.heap.size ≤ q) (((xw cy h ad nS nB st bk gate nu (av 0) (tw cy av tS tB ts tb tg tn)) ++ [(o, .inl (cy 4, 1, .inr (.inl g)))]) ++ (mw cy mb am thr nS nB st bk gate nu)) := hD
      refine W.eq (g2 := F0 m 985 ls [.int 2]) rfl ?_
      refine W.cs (cells' := 15 + 120 * i + 10) (slots' := 187 + 700 * i + 60) rfl rfl ?_
      refine lv_istore (lv' := [(5, .int 2), (0, .ref b), (1, .ref h), (2, .ref mb), (3, .ref o), (4, .int (nI (5 * i)))]) hx hb dL_law_985 hl (by decide) rfl (fun ls hl => ?_)
      refine lv_aload_n hx hb dL_law_987 rfl (lv_at hl 3 rfl) ?_
      refine lv_aload_n hx hb dL_law_988 rfl (lv_at hl 1 rfl) ?_
      refine lv_iload hx hb dL_law_989 (lv_at hl 5 rfl) ?_
      refine lv_iconst (v := 1) hx hb dL_law_991 (by decide) ?_
      refine lv_iadd hx hb dL_law_992 ?_
      refine W.eq (g2 := F0 m 993 ls [.int (nI (5 * i + 1)), .ref b, .ref mb]) (by rw [show nI (5 * i) + 1 = nI (5 * i + 1) from nI_add (5 * i) 1]) ?_
      refine va_sld hx hb hX hbl hbA hS (i := nI (5 * i + 1)) (vp_in_nI (by omega) (by omega)) dL_law_993 ?_
      refine W.eq (g2 := F0 m 994 ls [.int (nI n), .ref mb]) (by rw [nI_clamp (show 5 * i + 1 < 2 ^ 31 by omega), ← ea1]) ?_
      refine lv_aload_n hx hb dL_law_994 rfl (lv_at hl 1 rfl) ?_
      refine lv_iload hx hb dL_law_995 (lv_at hl 5 rfl) ?_
      refine lv_iconst (v := 2) hx hb dL_law_997 (by decide) ?_
      refine lv_iadd hx hb dL_law_998 ?_
      refine W.eq (g2 := F0 m 999 ls [.int (nI (5 * i + 2)), .ref b, .int (nI n), .ref mb]) (by rw [show nI (5 * i) + 2 = nI (5 * i + 2) from nI_add (5 * i) 2]) ?_
      refine va_sld hx hb hX hbl hbA hS (i := nI (5 * i + 2)) (vp_in_nI (by omega) (by omega)) dL_law_999 ?_
      refine W.eq (g2 := F0 m 1000 ls [.int a2, .int (nI n), .ref mb]) (by rw [nI_clamp (show 5 * i + 2 < 2 ^ 31 by omega), ← ea2]) ?_
      refine xcV (As := [.int (nI n), .int a2]) (rest := []) ⟨hx, hb, hml, hown, hts⟩ (c_X4_foresee_2 l D cy mb am thr nS nB st bk gate nu (nI n) a2 h1 h2) (cwV 2 hts gL_law_X4_foresee rfl rfl rfl (by decide +kernel) ⟨Nat.le_of_ble_eq_true rfl, Nat.le_of_ble_eq_true rfl⟩) hK hP hD hS hA rfl rfl rfl (xE_r) rfl hl.1 rfl (Nat.le_of_ble_eq_true rfl) dL_law_1000 ⟨by show 15 + 120 * i + 10 + 4 ≤ 601024; omega, by show 187 + 700 * i + 60 + 68 ≤ 7293034; omega⟩ (fun _ H locs _ hP hD hS => ?_)
      have hP : va_P D vwCl (((xw cy h ad nS nB st bk gate nu (av 0) (tw cy av tS tB ts tb tg tn)) ++ [(o, .inl (cy 4, 1, .inr (.inl g)))]) ++ (mw cy mb am 2 nS nB st bk gate nu)) H := hP
      have hD : va_D (fun q : Nat => s.heap.size ≤ q) (((xw cy h ad nS nB st bk gate nu (av 0) (tw cy av tS tB ts tb tg tn)) ++ [(o, .inl (cy 4, 1, .inr (.inl g)))]) ++ (mw cy mb am 2 nS nB st bk gate nu)) := hD
      refine W.eq (g2 := F0 m 1003 ls [.int 0]) rfl ?_
      refine W.cs (cells' := 15 + 120 * i + 14) (slots' := 187 + 700 * i + 128) rfl rfl ?_
      refine lv_istore (lv' := [(6, .int 0), (5, .int 2), (0, .ref b), (1, .ref h), (2, .ref mb), (3, .ref o), (4, .int (nI (5 * i)))]) hx hb dL_law_1003 hl (by decide) rfl (fun ls hl => ?_)
      refine lv_aload_n hx hb dL_law_1005 rfl (lv_at hl 4 rfl) ?_
      refine xcV (As := []) (rest := []) ⟨hx, hb, hml, hown, hts⟩ (c_X4_thrown l D cy mb am 2 nS nB st bk gate nu) (cwV 0 hts gL_law_X4_thrown rfl rfl rfl (by decide +kernel) ⟨Nat.le_of_ble_eq_true rfl, Nat.le_of_ble_eq_true rfl⟩) hK hP hD hS hA rfl rfl rfl (xE_r) rfl hl.1 rfl (Nat.le_of_ble_eq_true rfl) dL_law_1006 ⟨by show 15 + 120 * i + 14 + 0 ≤ 601024; omega, by show 187 + 700 * i + 128 + 0 ≤ 7293034; omega⟩ (fun _ H locs _ hP hD hS => ?_)
      have hP : va_P D vwCl (((xw cy h ad nS nB st bk gate nu (av 0) (tw cy av tS tB ts tb tg tn)) ++ [(o, .inl (cy 4, 1, .inr (.inl g)))]) ++ (mw cy mb am 2 nS nB st bk gate nu)) H := hP
      have hD : va_D (fun q : Nat => s.heap.size ≤ q) (((xw cy h ad nS nB st bk gate nu (av 0) (tw cy av tS tB ts tb tg tn)) ++ [(o, .inl (cy 4, 1, .inr (.inl g)))]) ++ (mw cy mb am 2 nS nB st bk gate nu)) := hD
      refine W.eq (g2 := F0 m 1009 ls [.int 2]) rfl ?_
      refine W.cs (cells' := 15 + 120 * i + 14) (slots' := 187 + 700 * i + 128) rfl rfl ?_
      refine lv_iload hx hb dL_law_1009 (lv_at hl 1 rfl) ?_
      refine lv_icmp_eq (tgt := 1016) hx hb dL_law_1011 (by decide) (fun _ => ?_) (fun z => absurd rfl z)
      refine lv_iload hx hb dL_law_1016 (lv_at hl 1 rfl) ?_
      refine lv_if_ne (tgt := 1033) hx hb dL_law_1018 (by decide) (fun _ => ?_) (fun z => absurd z (by decide))
      refine lv_goto (tgt := 1159) hx hb dL_law_1033 (by decide) ?_
      refine W.widen (k := 15 + 120 * (i + 1)) (n := 187 + 700 * (i + 1)) (by omega) (by omega) ?_
      exact KK ad av am 2 nS nB tS tB st bk ts tb gate nu tg tn g hq d0  _ _ _ hd0 hnS hnB htS htB (by omega) hI hP hD hS (lv_sub hl [2, 3, 4, 5, 6] rfl)
  · refine lv_aload_n hx hb dL_law_968 rfl (lv_at hl 1 rfl) ?_
    refine lv_aload_n hx hb dL_law_969 rfl (lv_at hl 0 rfl) ?_
    refine lv_iload hx hb dL_law_970 (lv_at hl 4 rfl) ?_
    refine lv_iconst (v := 1) hx hb dL_law_972 (by decide) ?_
    refine lv_iadd hx hb dL_law_973 ?_
    refine W.eq (g2 := F0 m 974 ls [.int (nI (5 * i + 1)), .ref b, .ref h]) (by rw [show nI (5 * i) + 1 = nI (5 * i + 1) from nI_add (5 * i) 1]) ?_
    refine va_sld hx hb hX hbl hbA hS (i := nI (5 * i + 1)) (vp_in_nI (by omega) (by omega)) dL_law_974 ?_
    refine W.eq (g2 := F0 m 975 ls [.int a1, .ref h]) (by rw [nI_clamp (show 5 * i + 1 < 2 ^ 31 by omega), ← ea1]) ?_
    refine lv_aload_n hx hb dL_law_975 rfl (lv_at hl 0 rfl) ?_
    refine lv_iload hx hb dL_law_976 (lv_at hl 4 rfl) ?_
    refine lv_iconst (v := 2) hx hb dL_law_978 (by decide) ?_
    refine lv_iadd hx hb dL_law_979 ?_
    refine W.eq (g2 := F0 m 980 ls [.int (nI (5 * i + 2)), .ref b, .int a1, .ref h]) (by rw [show nI (5 * i) + 2 = nI (5 * i + 2) from nI_add (5 * i) 2]) ?_
    refine va_sld hx hb hX hbl hbA hS (i := nI (5 * i + 2)) (vp_in_nI (by omega) (by omega)) dL_law_980 ?_
    refine W.eq (g2 := F0 m 981 ls [.int a2, .int a1, .ref h]) (by rw [nI_clamp (show 5 * i + 2 < 2 ^ 31 by omega), ← ea2]) ?_
    refine lv_aload_n hx hb dL_law_981 rfl (lv_at hl 3 rfl) ?_
    refine xcL (As := [.ref h, .int a1, .int a2, .ref o]) (rest := []) ⟨hx, hb, hml, hown, hts⟩ (c_L_foresee_1 l hst D cy sa h ad nS nB st bk gate nu (av 0) (tw cy av tS tB ts tb tg tn) a1 a2 h1 o g) (vx_cwSW 4 hts gL_law_L_foresee rfl rfl rfl (by decide +kernel) ⟨Nat.le_of_ble_eq_true rfl, Nat.le_of_ble_eq_true rfl⟩) hK hV hZ hNc hP hD hS hA (xE_l) rfl hl.1 rfl (Nat.le_of_ble_eq_true rfl) dL_law_982 ⟨by show 15 + 120 * i + 0 + 10 ≤ 601024; omega, by show 187 + 700 * i + 0 + 60 ≤ 7293034; omega⟩ (fun u H locs _ hP hD hS => ?_)
    have hP : va_P D vwCl (((xw cy h ad nS nB st bk gate nu (av 0) (tw cy av tS tB ts tb tg tn)) ++ [(o, .inl (cy 4, 1, .inr (.inl g)))]) ++ (mw cy mb am thr nS nB st bk gate nu)) H := hP
    have hD : va_D (fun q : Nat => s.heap.size ≤ q) (((xw cy h ad nS nB st bk gate nu (av 0) (tw cy av tS tB ts tb tg tn)) ++ [(o, .inl (cy 4, 1, .inr (.inl g)))]) ++ (mw cy mb am thr nS nB st bk gate nu)) := hD
    refine W.eq (g2 := F0 m 985 ls [.int 1]) rfl ?_
    refine W.cs (cells' := 15 + 120 * i + 10) (slots' := 187 + 700 * i + 60) rfl rfl ?_
    refine lv_istore (lv' := [(5, .int 1), (0, .ref b), (1, .ref h), (2, .ref mb), (3, .ref o), (4, .int (nI (5 * i)))]) hx hb dL_law_985 hl (by decide) rfl (fun ls hl => ?_)
    refine lv_aload_n hx hb dL_law_987 rfl (lv_at hl 3 rfl) ?_
    refine lv_aload_n hx hb dL_law_988 rfl (lv_at hl 1 rfl) ?_
    refine lv_iload hx hb dL_law_989 (lv_at hl 5 rfl) ?_
    refine lv_iconst (v := 1) hx hb dL_law_991 (by decide) ?_
    refine lv_iadd hx hb dL_law_992 ?_
    refine W.eq (g2 := F0 m 993 ls [.int (nI (5 * i + 1)), .ref b, .ref mb]) (by rw [show nI (5 * i) + 1 = nI (5 * i + 1) from nI_add (5 * i) 1]) ?_
    refine va_sld hx hb hX hbl hbA hS (i := nI (5 * i + 1)) (vp_in_nI (by omega) (by omega)) dL_law_993 ?_
    refine W.eq (g2 := F0 m 994 ls [.int a1, .ref mb]) (by rw [nI_clamp (show 5 * i + 1 < 2 ^ 31 by omega), ← ea1]) ?_
    refine lv_aload_n hx hb dL_law_994 rfl (lv_at hl 1 rfl) ?_
    refine lv_iload hx hb dL_law_995 (lv_at hl 5 rfl) ?_
    refine lv_iconst (v := 2) hx hb dL_law_997 (by decide) ?_
    refine lv_iadd hx hb dL_law_998 ?_
    refine W.eq (g2 := F0 m 999 ls [.int (nI (5 * i + 2)), .ref b, .int a1, .ref mb]) (by rw [show nI (5 * i) + 2 = nI (5 * i + 2) from nI_add (5 * i) 2]) ?_
    refine va_sld hx hb hX hbl hbA hS (i := nI (5 * i + 2)) (vp_in_nI (by omega) (by omega)) dL_law_999 ?_
    refine W.eq (g2 := F0 m 1000 ls [.int a2, .int a1, .ref mb]) (by rw [nI_clamp (show 5 * i + 2 < 2 ^ 31 by omega), ← ea2]) ?_
    refine xcV (As := [.int a1, .int a2]) (rest := []) ⟨hx, hb, hml, hown, hts⟩ (c_X4_foresee_1 l D cy mb am thr nS nB st bk gate nu a1 a2 h1) (cwV 2 hts gL_law_X4_foresee rfl rfl rfl (by decide +kernel) ⟨Nat.le_of_ble_eq_true rfl, Nat.le_of_ble_eq_true rfl⟩) hK hP hD hS hA rfl rfl rfl (xE_r) rfl hl.1 rfl (Nat.le_of_ble_eq_true rfl) dL_law_1000 ⟨by show 15 + 120 * i + 10 + 4 ≤ 601024; omega, by show 187 + 700 * i + 60 + 68 ≤ 7293034; omega⟩ (fun _ H locs _ hP hD hS => ?_)
    have hP : va_P D vwCl (((xw cy h ad nS nB st bk gate nu (av 0) (tw cy av tS tB ts tb tg tn)) ++ [(o, .inl (cy 4, 1, .inr (.inl g)))]) ++ (mw cy mb am 1 nS nB st bk gate nu)) H := hP
    have hD : va_D (fun q : Nat => s.heap.size ≤ q) (((xw cy h ad nS nB st bk gate nu (av 0) (tw cy av tS tB ts tb tg tn)) ++ [(o, .inl (cy 4, 1, .inr (.inl g)))]) ++ (mw cy mb am 1 nS nB st bk gate nu)) := hD
    refine W.eq (g2 := F0 m 1003 ls [.int 0]) rfl ?_
    refine W.cs (cells' := 15 + 120 * i + 14) (slots' := 187 + 700 * i + 128) rfl rfl ?_
    refine lv_istore (lv' := [(6, .int 0), (5, .int 1), (0, .ref b), (1, .ref h), (2, .ref mb), (3, .ref o), (4, .int (nI (5 * i)))]) hx hb dL_law_1003 hl (by decide) rfl (fun ls hl => ?_)
    refine lv_aload_n hx hb dL_law_1005 rfl (lv_at hl 4 rfl) ?_
    refine xcV (As := []) (rest := []) ⟨hx, hb, hml, hown, hts⟩ (c_X4_thrown l D cy mb am 1 nS nB st bk gate nu) (cwV 0 hts gL_law_X4_thrown rfl rfl rfl (by decide +kernel) ⟨Nat.le_of_ble_eq_true rfl, Nat.le_of_ble_eq_true rfl⟩) hK hP hD hS hA rfl rfl rfl (xE_r) rfl hl.1 rfl (Nat.le_of_ble_eq_true rfl) dL_law_1006 ⟨by show 15 + 120 * i + 14 + 0 ≤ 601024; omega, by show 187 + 700 * i + 128 + 0 ≤ 7293034; omega⟩ (fun _ H locs _ hP hD hS => ?_)
    have hP : va_P D vwCl (((xw cy h ad nS nB st bk gate nu (av 0) (tw cy av tS tB ts tb tg tn)) ++ [(o, .inl (cy 4, 1, .inr (.inl g)))]) ++ (mw cy mb am 1 nS nB st bk gate nu)) H := hP
    have hD : va_D (fun q : Nat => s.heap.size ≤ q) (((xw cy h ad nS nB st bk gate nu (av 0) (tw cy av tS tB ts tb tg tn)) ++ [(o, .inl (cy 4, 1, .inr (.inl g)))]) ++ (mw cy mb am 1 nS nB st bk gate nu)) := hD
    refine W.eq (g2 := F0 m 1009 ls [.int 1]) rfl ?_
    refine W.cs (cells' := 15 + 120 * i + 14) (slots' := 187 + 700 * i + 128) rfl rfl ?_
    refine lv_iload hx hb dL_law_1009 (lv_at hl 1 rfl) ?_
    refine lv_icmp_eq (tgt := 1016) hx hb dL_law_1011 (by decide) (fun _ => ?_) (fun z => absurd rfl z)
    refine lv_iload hx hb dL_law_1016 (lv_at hl 1 rfl) ?_
    refine lv_if_ne (tgt := 1033) hx hb dL_law_1018 (by decide) (fun _ => ?_) (fun z => absurd z (by decide))
    refine lv_goto (tgt := 1159) hx hb dL_law_1033 (by decide) ?_
    refine W.widen (k := 15 + 120 * (i + 1)) (n := 187 + 700 * (i + 1)) (by omega) (by omega) ?_
    exact KK ad av am 1 nS nB tS tB st bk ts tb gate nu tg tn g hq d0  _ _ _ hd0 hnS hnB htS htB (by omega) hI hP hD hS (lv_sub hl [2, 3, 4, 5, 6] rfl)

set_option maxHeartbeats 4000000 in
set_option maxRecDepth 100000 in
theorem l_case_advise {p : Program} {l : Launch} {e : Env} {s : State} {m : MethodId} {below : List Frame} {meth : Method} {c : Code} {b L : Nat} {xs : Nat → Int32} {D : va_G} {cy : Nat → ClassId} {sa : Nat → Nat} {h o mb i : Nat} (C1 : lwC p l s m meth c b L xs D cy sa) (hi : 5 * i + 5 ≤ L) (KK : lwS p l e s m below meth c b D cy h o mb 1159 i (i + 1)) : lwS p l e s m below meth c b D cy h o mb 1036 i i := by
  obtain ⟨hst, C0, hK0, hV0, hZ0, hN0, hL⟩ := C1
  obtain ⟨hx, hb, hr, hml, hown, hts0, hX0, hbl, hlocks, hgv⟩ := id C0
  intro ad av am thr nS nB tS tB st bk ts tb gate nu tg tn g hq d0 H locs ls hd0 hnS hnB htS htB hhq hI hP hD hS hl
  unfold WW at hP hD
  have hbA : ¬ (fun q : Nat => s.heap.size ≤ q) b := Nat.not_le.mpr hbl
  have hA : ∀ q : Nat, s.heap.size ≤ q → (fun q : Nat => s.heap.size ≤ q) q := fun _ z => z
  have hts : ∀ w ∈ wsL_law, w.before #[Value.ref b] (s.setDrawn d0) = true := fun w z => dr_words hts0 d0 w (wsL_law_in w z)
  have hK := XK.same (s := s) (U := s.setDrawn d0) rfl hK0
  have hV := XV.same (s := s) (U := s.setDrawn d0) rfl hV0
  have hZ : xZ (fun q : Nat => s.heap.size ≤ q) (s.setDrawn d0) (s.setDrawn d0).heap := xZ.moved (Vm.Alike.refl _) hZ0
  have hNc : xNcs (s.setDrawn d0) := hN0.moved (Vm.Alike.refl _)
  have hX : va_X b L xs (s.setDrawn d0) s.heap := va_X.moved (Vm.Alike.refl _) hX0
  obtain ⟨a1, ea1⟩ : ∃ a, a = xs (5 * i + 1) := ⟨_, rfl⟩
  obtain ⟨a2, ea2⟩ : ∃ a, a = xs (5 * i + 2) := ⟨_, rfl⟩
  rcases Classical.em (vp_in a1 nB) with hv | hv
  · obtain ⟨bj, hbj, rfl⟩ := vp_in_of hv (by omega)
    rcases Decidable.em ((1 : Int32) ≤ a2 ∧ a2 ≤ 96) with h2 | h2
    · obtain ⟨n, hna, hnb, rfl⟩ := nat_of (a := 1) (b := 96) (by decide) h2 (by decide)
      have hR : ∀ k, k ≤ 9 → tInv nS nB gate hq (st, rat bk bj k, nu) := fun k hk => inv_rat hI (rg_of (a := 0) (b := 90) (x := nI (10 * k)) (by decide) (by decide) ⟨nI_pos' (n := 10 * k) (by omega), nI_le (a := 10 * k) (b := 90) (by omega) (by decide)⟩)
      have hF : ∀ k, k ≤ 9 → rgI 0 1000000000 (unf nS nB hq gate (st, rat bk bj k, nu) n) := fun k hk => rgI_mono (unf_OK hnS (hR k hk) n (by omega)) (by omega)
      refine lv_aload_n hx hb dL_law_1036 rfl (lv_at hl 1 rfl) ?_
      refine lv_aload_n hx hb dL_law_1037 rfl (lv_at hl 0 rfl) ?_
      refine lv_iload hx hb dL_law_1038 (lv_at hl 4 rfl) ?_
      refine lv_iconst (v := 1) hx hb dL_law_1040 (by decide) ?_
      refine lv_iadd hx hb dL_law_1041 ?_
      refine W.eq (g2 := F0 m 1042 ls [.int (nI (5 * i + 1)), .ref b, .ref h]) (by rw [show nI (5 * i) + 1 = nI (5 * i + 1) from nI_add (5 * i) 1]) ?_
      refine va_sld hx hb hX hbl hbA hS (i := nI (5 * i + 1)) (vp_in_nI (by omega) (by omega)) dL_law_1042 ?_
      refine W.eq (g2 := F0 m 1043 ls [.int (nI bj), .ref h]) (by rw [nI_clamp (show 5 * i + 1 < 2 ^ 31 by omega), ← ea1]) ?_
      refine lv_aload_n hx hb dL_law_1043 rfl (lv_at hl 0 rfl) ?_
      refine lv_iload hx hb dL_law_1044 (lv_at hl 4 rfl) ?_
      refine lv_iconst (v := 2) hx hb dL_law_1046 (by decide) ?_
      refine lv_iadd hx hb dL_law_1047 ?_
      refine W.eq (g2 := F0 m 1048 ls [.int (nI (5 * i + 2)), .ref b, .int (nI bj), .ref h]) (by rw [show nI (5 * i) + 2 = nI (5 * i + 2) from nI_add (5 * i) 2]) ?_
      refine va_sld hx hb hX hbl hbA hS (i := nI (5 * i + 2)) (vp_in_nI (by omega) (by omega)) dL_law_1048 ?_
      refine W.eq (g2 := F0 m 1049 ls [.int (nI n), .int (nI bj), .ref h]) (by rw [nI_clamp (show 5 * i + 2 < 2 ^ 31 by omega), ← ea2]) ?_
      refine lv_aload_n hx hb dL_law_1049 rfl (lv_at hl 3 rfl) ?_
      refine xcL (As := [.ref h, .int (nI bj), .int (nI n), .ref o]) (rest := []) ⟨hx, hb, hml, hown, hts⟩ (c_L_advise l D cy sa h ad av nS nB tS tB st bk ts tb gate nu tg tn htS htB hnS hnB (fun j hj => (hI.2.1 j hj).2.1) hq n bj hI.2.2.2.2.1 hna hnb (by omega) hbj (fun j hj => (hI.2.1 j hj).1) o g) (vx_cwSW 4 hts gL_law_L_advise rfl rfl rfl (by decide +kernel) ⟨Nat.le_of_ble_eq_true rfl, Nat.le_of_ble_eq_true rfl⟩) hK hV hZ hNc hP hD hS hA (xE_l) rfl hl.1 rfl (Nat.le_of_ble_eq_true rfl) dL_law_1050 ⟨by show 15 + 120 * i + 0 + 100 ≤ 601024; omega, by show 187 + 700 * i + 0 + 600 ≤ 7293034; omega⟩ (fun u H locs _ hP hD hS => ?_)
      have hP : va_P D vwCl (((xw cy h ad nS nB st bk gate nu (u.1 0) (tw cy u.1 nS nB u.2.1 u.2.2.1 gate u.2.2.2)) ++ [(o, .inl (cy 4, 1, .inr (.inl (vp_updL g 0 ((nI (10 * (advN (fun k => unf nS nB hq gate (st, rat bk bj k, nu) n) 9).1)).toInt64)))))]) ++ (mw cy mb am thr nS nB st bk gate nu)) H := hP
      have hD : va_D (fun q : Nat => s.heap.size ≤ q) (((xw cy h ad nS nB st bk gate nu (u.1 0) (tw cy u.1 nS nB u.2.1 u.2.2.1 gate u.2.2.2)) ++ [(o, .inl (cy 4, 1, .inr (.inl (vp_updL g 0 ((nI (10 * (advN (fun k => unf nS nB hq gate (st, rat bk bj k, nu) n) 9).1)).toInt64)))))]) ++ (mw cy mb am thr nS nB st bk gate nu)) := hD
      refine W.eq (g2 := F0 m 1053 ls [.int 0]) rfl ?_
      refine W.cs (cells' := 15 + 120 * i + 100) (slots' := 187 + 700 * i + 600) rfl rfl ?_
      refine lv_istore (lv' := [(5, .int 0), (0, .ref b), (1, .ref h), (2, .ref mb), (3, .ref o), (4, .int (nI (5 * i)))]) hx hb dL_law_1053 hl (by decide) rfl (fun ls hl => ?_)
      refine lv_aload_n hx hb dL_law_1055 rfl (lv_at hl 3 rfl) ?_
      refine lv_aload_n hx hb dL_law_1056 rfl (lv_at hl 1 rfl) ?_
      refine lv_iload hx hb dL_law_1057 (lv_at hl 5 rfl) ?_
      refine lv_iconst (v := 1) hx hb dL_law_1059 (by decide) ?_
      refine lv_iadd hx hb dL_law_1060 ?_
      refine W.eq (g2 := F0 m 1061 ls [.int (nI (5 * i + 1)), .ref b, .ref mb]) (by rw [show nI (5 * i) + 1 = nI (5 * i + 1) from nI_add (5 * i) 1]) ?_
      refine va_sld hx hb hX hbl hbA hS (i := nI (5 * i + 1)) (vp_in_nI (by omega) (by omega)) dL_law_1061 ?_
      refine W.eq (g2 := F0 m 1062 ls [.int (nI bj), .ref mb]) (by rw [nI_clamp (show 5 * i + 1 < 2 ^ 31 by omega), ← ea1]) ?_
      refine lv_aload_n hx hb dL_law_1062 rfl (lv_at hl 1 rfl) ?_
      refine lv_iload hx hb dL_law_1063 (lv_at hl 5 rfl) ?_
      refine lv_iconst (v := 2) hx hb dL_law_1065 (by decide) ?_
      refine lv_iadd hx hb dL_law_1066 ?_
      refine W.eq (g2 := F0 m 1067 ls [.int (nI (5 * i + 2)), .ref b, .int (nI bj), .ref mb]) (by rw [show nI (5 * i) + 2 = nI (5 * i + 2) from nI_add (5 * i) 2]) ?_
      refine va_sld hx hb hX hbl hbA hS (i := nI (5 * i + 2)) (vp_in_nI (by omega) (by omega)) dL_law_1067 ?_
      refine W.eq (g2 := F0 m 1068 ls [.int (nI n), .int (nI bj), .ref mb]) (by rw [nI_clamp (show 5 * i + 2 < 2 ^ 31 by omega), ← ea2]) ?_
      refine xcV (As := [.int (nI bj), .int (nI n)]) (rest := []) ⟨hx, hb, hml, hown, hts⟩ (c_X4_advise l D cy mb am thr nS nB st bk gate nu hq n bj hI.2.2.2.2.1 hna hnb (by omega) hbj hnS hnB (fun k i hk hi => inv_ok (inv_hrs hnS (hR k hk) i (by omega))) (fun x y hx hy => lt_add hI.2.2.2.1 (by omega) (hF x hx) (hF y hy))) (cwV 2 hts gL_law_X4_advise rfl rfl rfl (by decide +kernel) ⟨Nat.le_of_ble_eq_true rfl, Nat.le_of_ble_eq_true rfl⟩) hK hP hD hS hA rfl rfl rfl (xE_r) rfl hl.1 rfl (Nat.le_of_ble_eq_true rfl) dL_law_1068 ⟨by show 15 + 120 * i + 100 + 4 ≤ 601024; omega, by show 187 + 700 * i + 600 + 68 ≤ 7293034; omega⟩ (fun _ H locs _ hP hD hS => ?_)
      have hP : va_P D vwCl (((xw cy h ad nS nB st bk gate nu (u.1 0) (tw cy u.1 nS nB u.2.1 u.2.2.1 gate u.2.2.2)) ++ [(o, .inl (cy 4, 1, .inr (.inl (vp_updL g 0 ((nI (10 * (advN (fun k => unf nS nB hq gate (st, rat bk bj k, nu) n) 9).1)).toInt64)))))]) ++ (mw cy mb am 0 nS nB st bk gate nu)) H := hP
      have hD : va_D (fun q : Nat => s.heap.size ≤ q) (((xw cy h ad nS nB st bk gate nu (u.1 0) (tw cy u.1 nS nB u.2.1 u.2.2.1 gate u.2.2.2)) ++ [(o, .inl (cy 4, 1, .inr (.inl (vp_updL g 0 ((nI (10 * (advN (fun k => unf nS nB hq gate (st, rat bk bj k, nu) n) 9).1)).toInt64)))))]) ++ (mw cy mb am 0 nS nB st bk gate nu)) := hD
      refine W.eq (g2 := F0 m 1071 ls [.int (nI (10 * (advN (fun k => unf nS nB hq gate (st, rat bk bj k, nu) n) 9).1))]) rfl ?_
      refine W.cs (cells' := 15 + 120 * i + 104) (slots' := 187 + 700 * i + 668) rfl rfl ?_
      refine lv_istore (lv' := [(6, .int (nI (10 * (advN (fun k => unf nS nB hq gate (st, rat bk bj k, nu) n) 9).1))), (5, .int 0), (0, .ref b), (1, .ref h), (2, .ref mb), (3, .ref o), (4, .int (nI (5 * i)))]) hx hb dL_law_1071 hl (by decide) rfl (fun ls hl => ?_)
      refine lv_aload_n hx hb dL_law_1073 rfl (lv_at hl 4 rfl) ?_
      refine xcV (As := []) (rest := []) ⟨hx, hb, hml, hown, hts⟩ (c_X4_thrown l D cy mb am 0 nS nB st bk gate nu) (cwV 0 hts gL_law_X4_thrown rfl rfl rfl (by decide +kernel) ⟨Nat.le_of_ble_eq_true rfl, Nat.le_of_ble_eq_true rfl⟩) hK hP hD hS hA rfl rfl rfl (xE_r) rfl hl.1 rfl (Nat.le_of_ble_eq_true rfl) dL_law_1074 ⟨by show 15 + 120 * i + 104 + 0 ≤ 601024; omega, by show 187 + 700 * i + 668 + 0 ≤ 7293034; omega⟩ (fun _ H locs _ hP hD hS => ?_)
      have hP : va_P D vwCl (((xw cy h ad nS nB st bk gate nu (u.1 0) (tw cy u.1 nS nB u.2.1 u.2.2.1 gate u.2.2.2)) ++ [(o, .inl (cy 4, 1, .inr (.inl (vp_updL g 0 ((nI (10 * (advN (fun k => unf nS nB hq gate (st, rat bk bj k, nu) n) 9).1)).toInt64)))))]) ++ (mw cy mb am 0 nS nB st bk gate nu)) H := hP
      have hD : va_D (fun q : Nat => s.heap.size ≤ q) (((xw cy h ad nS nB st bk gate nu (u.1 0) (tw cy u.1 nS nB u.2.1 u.2.2.1 gate u.2.2.2)) ++ [(o, .inl (cy 4, 1, .inr (.inl (vp_updL g 0 ((nI (10 * (advN (fun k => unf nS nB hq gate (st, rat bk bj k, nu) n) 9).1)).toInt64)))))]) ++ (mw cy mb am 0 nS nB st bk gate nu)) := hD
      refine W.eq (g2 := F0 m 1077 ls [.int 0]) rfl ?_
      refine W.cs (cells' := 15 + 120 * i + 104) (slots' := 187 + 700 * i + 668) rfl rfl ?_
      refine lv_iload hx hb dL_law_1077 (lv_at hl 1 rfl) ?_
      refine lv_icmp_eq (tgt := 1084) hx hb dL_law_1079 (by decide) (fun _ => ?_) (fun z => absurd rfl z)
      refine lv_iload hx hb dL_law_1084 (lv_at hl 1 rfl) ?_
      refine lv_if_ne (tgt := 1101) hx hb dL_law_1086 (by decide) (fun z => absurd rfl z) (fun _ => ?_)
      refine lv_aload_n hx hb dL_law_1089 rfl (lv_at hl 5 rfl) ?_
      refine lv_iconst (v := 0) hx hb dL_law_1090 (by decide) ?_
      refine va_lald hx hb hK.1 hP _ 4 (at_l last_at) rfl (i := 0) (vp_in_nI (n := 0) (by decide) (by decide)) dL_law_1091 ?_
      refine W.eq (g2 := F0 m 1092 ls [.long ((nI (10 * (advN (fun k => unf nS nB hq gate (st, rat bk bj k, nu) n) 9).1)).toInt64)]) rfl ?_
      refine lv_iload hx hb dL_law_1092 (lv_at hl 0 rfl) ?_
      refine lv_i2l (v := (nI (10 * (advN (fun k => unf nS nB hq gate (st, rat bk bj k, nu) n) 9).1)).toInt64) hx hb dL_law_1094 rfl ?_
      refine W.lcmp hx hb dL_law_1095 ?_
      refine W.eq (g2 := F0 m 1096 ls [.int 0]) (by rw [lg_same]) ?_
      refine lv_if_eq (tgt := 1101) hx hb dL_law_1096 (by decide) (fun _ => ?_) (fun z => absurd rfl z)
      refine lv_goto (tgt := 1159) hx hb dL_law_1101 (by decide) ?_
      refine W.widen (k := 15 + 120 * (i + 1)) (n := 187 + 700 * (i + 1)) (by omega) (by omega) ?_
      exact KK ad u.1 am 0 nS nB nS nB st bk u.2.1 u.2.2.1 gate nu gate u.2.2.2 (vp_updL g 0 ((nI (10 * (advN (fun k => unf nS nB hq gate (st, rat bk bj k, nu) n) 9).1)).toInt64)) hq d0  _ _ _ hd0 hnS hnB (Nat.le_refl _) (Nat.le_refl _) (by omega) hI hP hD hS (lv_sub hl [2, 3, 4, 5, 6] rfl)
    · refine lv_aload_n hx hb dL_law_1036 rfl (lv_at hl 1 rfl) ?_
      refine lv_aload_n hx hb dL_law_1037 rfl (lv_at hl 0 rfl) ?_
      refine lv_iload hx hb dL_law_1038 (lv_at hl 4 rfl) ?_
      refine lv_iconst (v := 1) hx hb dL_law_1040 (by decide) ?_
      refine lv_iadd hx hb dL_law_1041 ?_
      refine W.eq (g2 := F0 m 1042 ls [.int (nI (5 * i + 1)), .ref b, .ref h]) (by rw [show nI (5 * i) + 1 = nI (5 * i + 1) from nI_add (5 * i) 1]) ?_
      refine va_sld hx hb hX hbl hbA hS (i := nI (5 * i + 1)) (vp_in_nI (by omega) (by omega)) dL_law_1042 ?_
      refine W.eq (g2 := F0 m 1043 ls [.int (nI bj), .ref h]) (by rw [nI_clamp (show 5 * i + 1 < 2 ^ 31 by omega), ← ea1]) ?_
      refine lv_aload_n hx hb dL_law_1043 rfl (lv_at hl 0 rfl) ?_
      refine lv_iload hx hb dL_law_1044 (lv_at hl 4 rfl) ?_
      refine lv_iconst (v := 2) hx hb dL_law_1046 (by decide) ?_
      refine lv_iadd hx hb dL_law_1047 ?_
      refine W.eq (g2 := F0 m 1048 ls [.int (nI (5 * i + 2)), .ref b, .int (nI bj), .ref h]) (by rw [show nI (5 * i) + 2 = nI (5 * i + 2) from nI_add (5 * i) 2]) ?_
      refine va_sld hx hb hX hbl hbA hS (i := nI (5 * i + 2)) (vp_in_nI (by omega) (by omega)) dL_law_1048 ?_
      refine W.eq (g2 := F0 m 1049 ls [.int a2, .int (nI bj), .ref h]) (by rw [nI_clamp (show 5 * i + 2 < 2 ^ 31 by omega), ← ea2]) ?_
      refine lv_aload_n hx hb dL_law_1049 rfl (lv_at hl 3 rfl) ?_
      refine xcL (As := [.ref h, .int (nI bj), .int a2, .ref o]) (rest := []) ⟨hx, hb, hml, hown, hts⟩ (c_L_advise_2 l hst D cy sa h ad nS nB st bk gate nu (av 0) (tw cy av tS tB ts tb tg tn) bj hbj a2 h2 hnS hnB o g) (vx_cwSW 4 hts gL_law_L_advise rfl rfl rfl (by decide +kernel) ⟨Nat.le_of_ble_eq_true rfl, Nat.le_of_ble_eq_true rfl⟩) hK hV hZ hNc hP hD hS hA (xE_l) rfl hl.1 rfl (Nat.le_of_ble_eq_true rfl) dL_law_1050 ⟨by show 15 + 120 * i + 0 + 100 ≤ 601024; omega, by show 187 + 700 * i + 0 + 600 ≤ 7293034; omega⟩ (fun u H locs _ hP hD hS => ?_)
      have hP : va_P D vwCl (((xw cy h ad nS nB st bk gate nu (av 0) (tw cy av tS tB ts tb tg tn)) ++ [(o, .inl (cy 4, 1, .inr (.inl g)))]) ++ (mw cy mb am thr nS nB st bk gate nu)) H := hP
      have hD : va_D (fun q : Nat => s.heap.size ≤ q) (((xw cy h ad nS nB st bk gate nu (av 0) (tw cy av tS tB ts tb tg tn)) ++ [(o, .inl (cy 4, 1, .inr (.inl g)))]) ++ (mw cy mb am thr nS nB st bk gate nu)) := hD
      refine W.eq (g2 := F0 m 1053 ls [.int 2]) rfl ?_
      refine W.cs (cells' := 15 + 120 * i + 100) (slots' := 187 + 700 * i + 600) rfl rfl ?_
      refine lv_istore (lv' := [(5, .int 2), (0, .ref b), (1, .ref h), (2, .ref mb), (3, .ref o), (4, .int (nI (5 * i)))]) hx hb dL_law_1053 hl (by decide) rfl (fun ls hl => ?_)
      refine lv_aload_n hx hb dL_law_1055 rfl (lv_at hl 3 rfl) ?_
      refine lv_aload_n hx hb dL_law_1056 rfl (lv_at hl 1 rfl) ?_
      refine lv_iload hx hb dL_law_1057 (lv_at hl 5 rfl) ?_
      refine lv_iconst (v := 1) hx hb dL_law_1059 (by decide) ?_
      refine lv_iadd hx hb dL_law_1060 ?_
      refine W.eq (g2 := F0 m 1061 ls [.int (nI (5 * i + 1)), .ref b, .ref mb]) (by rw [show nI (5 * i) + 1 = nI (5 * i + 1) from nI_add (5 * i) 1]) ?_
      refine va_sld hx hb hX hbl hbA hS (i := nI (5 * i + 1)) (vp_in_nI (by omega) (by omega)) dL_law_1061 ?_
      refine W.eq (g2 := F0 m 1062 ls [.int (nI bj), .ref mb]) (by rw [nI_clamp (show 5 * i + 1 < 2 ^ 31 by omega), ← ea1]) ?_
      refine lv_aload_n hx hb dL_law_1062 rfl (lv_at hl 1 rfl) ?_
      refine lv_iload hx hb dL_law_1063 (lv_at hl 5 rfl) ?_
      refine lv_iconst (v := 2) hx hb dL_law_1065 (by decide) ?_
      refine lv_iadd hx hb dL_law_1066 ?_
      refine W.eq (g2 := F0 m 1067 ls [.int (nI (5 * i + 2)), .ref b, .int (nI bj), .ref mb]) (by rw [show nI (5 * i) + 2 = nI (5 * i + 2) from nI_add (5 * i) 2]) ?_
      refine va_sld hx hb hX hbl hbA hS (i := nI (5 * i + 2)) (vp_in_nI (by omega) (by omega)) dL_law_1067 ?_
      refine W.eq (g2 := F0 m 1068 ls [.int a2, .int (nI bj), .ref mb]) (by rw [nI_clamp (show 5 * i + 2 < 2 ^ 31 by omega), ← ea2]) ?_
      refine xcV (As := [.int (nI bj), .int a2]) (rest := []) ⟨hx, hb, hml, hown, hts⟩ (c_X4_advise_2 l D cy mb am thr nS nB st bk gate nu bj hbj a2 h2 hnB) (cwV 2 hts gL_law_X4_advise rfl rfl rfl (by decide +kernel) ⟨Nat.le_of_ble_eq_true rfl, Nat.le_of_ble_eq_true rfl⟩) hK hP hD hS hA rfl rfl rfl (xE_r) rfl hl.1 rfl (Nat.le_of_ble_eq_true rfl) dL_law_1068 ⟨by show 15 + 120 * i + 100 + 4 ≤ 601024; omega, by show 187 + 700 * i + 600 + 68 ≤ 7293034; omega⟩ (fun _ H locs _ hP hD hS => ?_)
      have hP : va_P D vwCl (((xw cy h ad nS nB st bk gate nu (av 0) (tw cy av tS tB ts tb tg tn)) ++ [(o, .inl (cy 4, 1, .inr (.inl g)))]) ++ (mw cy mb am 2 nS nB st bk gate nu)) H := hP
      have hD : va_D (fun q : Nat => s.heap.size ≤ q) (((xw cy h ad nS nB st bk gate nu (av 0) (tw cy av tS tB ts tb tg tn)) ++ [(o, .inl (cy 4, 1, .inr (.inl g)))]) ++ (mw cy mb am 2 nS nB st bk gate nu)) := hD
      refine W.eq (g2 := F0 m 1071 ls [.int 0]) rfl ?_
      refine W.cs (cells' := 15 + 120 * i + 104) (slots' := 187 + 700 * i + 668) rfl rfl ?_
      refine lv_istore (lv' := [(6, .int 0), (5, .int 2), (0, .ref b), (1, .ref h), (2, .ref mb), (3, .ref o), (4, .int (nI (5 * i)))]) hx hb dL_law_1071 hl (by decide) rfl (fun ls hl => ?_)
      refine lv_aload_n hx hb dL_law_1073 rfl (lv_at hl 4 rfl) ?_
      refine xcV (As := []) (rest := []) ⟨hx, hb, hml, hown, hts⟩ (c_X4_thrown l D cy mb am 2 nS nB st bk gate nu) (cwV 0 hts gL_law_X4_thrown rfl rfl rfl (by decide +kernel) ⟨Nat.le_of_ble_eq_true rfl, Nat.le_of_ble_eq_true rfl⟩) hK hP hD hS hA rfl rfl rfl (xE_r) rfl hl.1 rfl (Nat.le_of_ble_eq_true rfl) dL_law_1074 ⟨by show 15 + 120 * i + 104 + 0 ≤ 601024; omega, by show 187 + 700 * i + 668 + 0 ≤ 7293034; omega⟩ (fun _ H locs _ hP hD hS => ?_)
      have hP : va_P D vwCl (((xw cy h ad nS nB st bk gate nu (av 0) (tw cy av tS tB ts tb tg tn)) ++ [(o, .inl (cy 4, 1, .inr (.inl g)))]) ++ (mw cy mb am 2 nS nB st bk gate nu)) H := hP
      have hD : va_D (fun q : Nat => s.heap.size ≤ q) (((xw cy h ad nS nB st bk gate nu (av 0) (tw cy av tS tB ts tb tg tn)) ++ [(o, .inl (cy 4, 1, .inr (.inl g)))]) ++ (mw cy mb am 2 nS nB st bk gate nu)) := hD
      refine W.eq (g2 := F0 m 1077 ls [.int 2]) rfl ?_
      refine W.cs (cells' := 15 + 120 * i + 104) (slots' := 187 + 700 * i + 668) rfl rfl ?_
      refine lv_iload hx hb dL_law_1077 (lv_at hl 1 rfl) ?_
      refine lv_icmp_eq (tgt := 1084) hx hb dL_law_1079 (by decide) (fun _ => ?_) (fun z => absurd rfl z)
      refine lv_iload hx hb dL_law_1084 (lv_at hl 1 rfl) ?_
      refine lv_if_ne (tgt := 1101) hx hb dL_law_1086 (by decide) (fun _ => ?_) (fun z => absurd z (by decide))
      refine lv_goto (tgt := 1159) hx hb dL_law_1101 (by decide) ?_
      refine W.widen (k := 15 + 120 * (i + 1)) (n := 187 + 700 * (i + 1)) (by omega) (by omega) ?_
      exact KK ad av am 2 nS nB tS tB st bk ts tb gate nu tg tn g hq d0  _ _ _ hd0 hnS hnB htS htB (by omega) hI hP hD hS (lv_sub hl [2, 3, 4, 5, 6] rfl)
  · refine lv_aload_n hx hb dL_law_1036 rfl (lv_at hl 1 rfl) ?_
    refine lv_aload_n hx hb dL_law_1037 rfl (lv_at hl 0 rfl) ?_
    refine lv_iload hx hb dL_law_1038 (lv_at hl 4 rfl) ?_
    refine lv_iconst (v := 1) hx hb dL_law_1040 (by decide) ?_
    refine lv_iadd hx hb dL_law_1041 ?_
    refine W.eq (g2 := F0 m 1042 ls [.int (nI (5 * i + 1)), .ref b, .ref h]) (by rw [show nI (5 * i) + 1 = nI (5 * i + 1) from nI_add (5 * i) 1]) ?_
    refine va_sld hx hb hX hbl hbA hS (i := nI (5 * i + 1)) (vp_in_nI (by omega) (by omega)) dL_law_1042 ?_
    refine W.eq (g2 := F0 m 1043 ls [.int a1, .ref h]) (by rw [nI_clamp (show 5 * i + 1 < 2 ^ 31 by omega), ← ea1]) ?_
    refine lv_aload_n hx hb dL_law_1043 rfl (lv_at hl 0 rfl) ?_
    refine lv_iload hx hb dL_law_1044 (lv_at hl 4 rfl) ?_
    refine lv_iconst (v := 2) hx hb dL_law_1046 (by decide) ?_
    refine lv_iadd hx hb dL_law_1047 ?_
    refine W.eq (g2 := F0 m 1048 ls [.int (nI (5 * i + 2)), .ref b, .int a1, .ref h]) (by rw [show nI (5 * i) + 2 = nI (5 * i + 2) from nI_add (5 * i) 2]) ?_
    refine va_sld hx hb hX hbl hbA hS (i := nI (5 * i + 2)) (vp_in_nI (by omega) (by omega)) dL_law_1048 ?_
    refine W.eq (g2 := F0 m 1049 ls [.int a2, .int a1, .ref h]) (by rw [nI_clamp (show 5 * i + 2 < 2 ^ 31 by omega), ← ea2]) ?_
    refine lv_aload_n hx hb dL_law_1049 rfl (lv_at hl 3 rfl) ?_
    refine xcL (As := [.ref h, .int a1, .int a2, .ref o]) (rest := []) ⟨hx, hb, hml, hown, hts⟩ (c_L_advise_1 l hst D cy sa h ad nS nB st bk gate nu (av 0) (tw cy av tS tB ts tb tg tn) a1 a2 hv hnS hnB o g) (vx_cwSW 4 hts gL_law_L_advise rfl rfl rfl (by decide +kernel) ⟨Nat.le_of_ble_eq_true rfl, Nat.le_of_ble_eq_true rfl⟩) hK hV hZ hNc hP hD hS hA (xE_l) rfl hl.1 rfl (Nat.le_of_ble_eq_true rfl) dL_law_1050 ⟨by show 15 + 120 * i + 0 + 100 ≤ 601024; omega, by show 187 + 700 * i + 0 + 600 ≤ 7293034; omega⟩ (fun u H locs _ hP hD hS => ?_)
    have hP : va_P D vwCl (((xw cy h ad nS nB st bk gate nu (av 0) (tw cy av tS tB ts tb tg tn)) ++ [(o, .inl (cy 4, 1, .inr (.inl g)))]) ++ (mw cy mb am thr nS nB st bk gate nu)) H := hP
    have hD : va_D (fun q : Nat => s.heap.size ≤ q) (((xw cy h ad nS nB st bk gate nu (av 0) (tw cy av tS tB ts tb tg tn)) ++ [(o, .inl (cy 4, 1, .inr (.inl g)))]) ++ (mw cy mb am thr nS nB st bk gate nu)) := hD
    refine W.eq (g2 := F0 m 1053 ls [.int 1]) rfl ?_
    refine W.cs (cells' := 15 + 120 * i + 100) (slots' := 187 + 700 * i + 600) rfl rfl ?_
    refine lv_istore (lv' := [(5, .int 1), (0, .ref b), (1, .ref h), (2, .ref mb), (3, .ref o), (4, .int (nI (5 * i)))]) hx hb dL_law_1053 hl (by decide) rfl (fun ls hl => ?_)
    refine lv_aload_n hx hb dL_law_1055 rfl (lv_at hl 3 rfl) ?_
    refine lv_aload_n hx hb dL_law_1056 rfl (lv_at hl 1 rfl) ?_
    refine lv_iload hx hb dL_law_1057 (lv_at hl 5 rfl) ?_
    refine lv_iconst (v := 1) hx hb dL_law_1059 (by decide) ?_
    refine lv_iadd hx hb dL_law_1060 ?_
    refine W.eq (g2 := F0 m 1061 ls [.int (nI (5 * i + 1)), .ref b, .ref mb]) (by rw [show nI (5 * i) + 1 = nI (5 * i + 1) from nI_add (5 * i) 1]) ?_
    refine va_sld hx hb hX hbl hbA hS (i := nI (5 * i + 1)) (vp_in_nI (by omega) (by omega)) dL_law_1061 ?_
    refine W.eq (g2 := F0 m 1062 ls [.int a1, .ref mb]) (by rw [nI_clamp (show 5 * i + 1 < 2 ^ 31 by omega), ← ea1]) ?_
    refine lv_aload_n hx hb dL_law_1062 rfl (lv_at hl 1 rfl) ?_
    refine lv_iload hx hb dL_law_1063 (lv_at hl 5 rfl) ?_
    refine lv_iconst (v := 2) hx hb dL_law_1065 (by decide) ?_
    refine lv_iadd hx hb dL_law_1066 ?_
    refine W.eq (g2 := F0 m 1067 ls [.int (nI (5 * i + 2)), .ref b, .int a1, .ref mb]) (by rw [show nI (5 * i) + 2 = nI (5 * i + 2) from nI_add (5 * i) 2]) ?_
    refine va_sld hx hb hX hbl hbA hS (i := nI (5 * i + 2)) (vp_in_nI (by omega) (by omega)) dL_law_1067 ?_
    refine W.eq (g2 := F0 m 1068 ls [.int a2, .int a1, .ref mb]) (by rw [nI_clamp (show 5 * i + 2 < 2 ^ 31 by omega), ← ea2]) ?_
    refine xcV (As := [.int a1, .int a2]) (rest := []) ⟨hx, hb, hml, hown, hts⟩ (c_X4_advise_1 l D cy mb am thr nS nB st bk gate nu a1 a2 hv hnB) (cwV 2 hts gL_law_X4_advise rfl rfl rfl (by decide +kernel) ⟨Nat.le_of_ble_eq_true rfl, Nat.le_of_ble_eq_true rfl⟩) hK hP hD hS hA rfl rfl rfl (xE_r) rfl hl.1 rfl (Nat.le_of_ble_eq_true rfl) dL_law_1068 ⟨by show 15 + 120 * i + 100 + 4 ≤ 601024; omega, by show 187 + 700 * i + 600 + 68 ≤ 7293034; omega⟩ (fun _ H locs _ hP hD hS => ?_)
    have hP : va_P D vwCl (((xw cy h ad nS nB st bk gate nu (av 0) (tw cy av tS tB ts tb tg tn)) ++ [(o, .inl (cy 4, 1, .inr (.inl g)))]) ++ (mw cy mb am 1 nS nB st bk gate nu)) H := hP
    have hD : va_D (fun q : Nat => s.heap.size ≤ q) (((xw cy h ad nS nB st bk gate nu (av 0) (tw cy av tS tB ts tb tg tn)) ++ [(o, .inl (cy 4, 1, .inr (.inl g)))]) ++ (mw cy mb am 1 nS nB st bk gate nu)) := hD
    refine W.eq (g2 := F0 m 1071 ls [.int 0]) rfl ?_
    refine W.cs (cells' := 15 + 120 * i + 104) (slots' := 187 + 700 * i + 668) rfl rfl ?_
    refine lv_istore (lv' := [(6, .int 0), (5, .int 1), (0, .ref b), (1, .ref h), (2, .ref mb), (3, .ref o), (4, .int (nI (5 * i)))]) hx hb dL_law_1071 hl (by decide) rfl (fun ls hl => ?_)
    refine lv_aload_n hx hb dL_law_1073 rfl (lv_at hl 4 rfl) ?_
    refine xcV (As := []) (rest := []) ⟨hx, hb, hml, hown, hts⟩ (c_X4_thrown l D cy mb am 1 nS nB st bk gate nu) (cwV 0 hts gL_law_X4_thrown rfl rfl rfl (by decide +kernel) ⟨Nat.le_of_ble_eq_true rfl, Nat.le_of_ble_eq_true rfl⟩) hK hP hD hS hA rfl rfl rfl (xE_r) rfl hl.1 rfl (Nat.le_of_ble_eq_true rfl) dL_law_1074 ⟨by show 15 + 120 * i + 104 + 0 ≤ 601024; omega, by show 187 + 700 * i + 668 + 0 ≤ 7293034; omega⟩ (fun _ H locs _ hP hD hS => ?_)
    have hP : va_P D vwCl (((xw cy h ad nS nB st bk gate nu (av 0) (tw cy av tS tB ts tb tg tn)) ++ [(o, .inl (cy 4, 1, .inr (.inl g)))]) ++ (mw cy mb am 1 nS nB st bk gate nu)) H := hP
    have hD : va_D (fun q : Nat => s.heap.size ≤ q) (((xw cy h ad nS nB st bk gate nu (av 0) (tw cy av tS tB ts tb tg tn)) ++ [(o, .inl (cy 4, 1, .inr (.inl g)))]) ++ (mw cy mb am 1 nS nB st bk gate nu)) := hD
    refine W.eq (g2 := F0 m 1077 ls [.int 1]) rfl ?_
    refine W.cs (cells' := 15 + 120 * i + 104) (slots' := 187 + 700 * i + 668) rfl rfl ?_
    refine lv_iload hx hb dL_law_1077 (lv_at hl 1 rfl) ?_
    refine lv_icmp_eq (tgt := 1084) hx hb dL_law_1079 (by decide) (fun _ => ?_) (fun z => absurd rfl z)
    refine lv_iload hx hb dL_law_1084 (lv_at hl 1 rfl) ?_
    refine lv_if_ne (tgt := 1101) hx hb dL_law_1086 (by decide) (fun _ => ?_) (fun z => absurd z (by decide))
    refine lv_goto (tgt := 1159) hx hb dL_law_1101 (by decide) ?_
    refine W.widen (k := 15 + 120 * (i + 1)) (n := 187 + 700 * (i + 1)) (by omega) (by omega) ?_
    exact KK ad av am 1 nS nB tS tB st bk ts tb gate nu tg tn g hq d0  _ _ _ hd0 hnS hnB htS htB (by omega) hI hP hD hS (lv_sub hl [2, 3, 4, 5, 6] rfl)
