/-! ===== the law: three calls more, its loop (laid by gen54.py) ===== -/
theorem nan_dcmp {a b : UInt64} (h : isNaN64 a = true) : FP.dcmp a b = none := by
  show Jvm.FP.Core.dcmp a b = none
  have h1 : 0x7ff0000000000000 < a.toNat &&& 0x7fffffffffffffff := by
    simp only [isNaN64, decide_eq_true_eq, gt_iff_lt, UInt64.lt_iff_toNat_lt, UInt64.toNat_and] at h
    exact h
  have e : a.toNat &&& 0x7fffffffffffffff = a.toNat % 2 ^ 63 := Nat.and_two_pow_sub_one_eq_mod a.toNat 63
  rw [e] at h1
  have hE : Jvm.FP.Core.fieldE Jvm.FP.Core.b64 a.toNat = Jvm.FP.Core.b64.exps - 1 := by
    show a.toNat / 4503599627370496 % 2048 = 2047
    omega
  have hT : ¬ Jvm.FP.Core.fieldT Jvm.FP.Core.b64 a.toNat = 0 := by
    show ¬ a.toNat % 4503599627370496 = 0
    omega
  have hd : Jvm.FP.Core.decode Jvm.FP.Core.b64 a.toNat = .nan := by
    unfold Jvm.FP.Core.decode
    rw [if_pos hE, if_neg hT]
  unfold Jvm.FP.Core.dcmp Jvm.FP.Core.cmp
  rw [hd]
  rfl
theorem l_al {x y v : UInt64} (h : alike64 x v = true) (g : alike64 y v = true) : x = y ∨ (isNaN64 x = true ∧ isNaN64 y = true) := by
  unfold alike64 at h g
  rw [Bool.or_eq_true, Bool.and_eq_true, decide_eq_true_eq] at h g
  rcases h with h | h
  · rcases g with g | g
    · exact Or.inl (h.trans g.symm)
    · subst h; exact Or.inr ⟨g.2, g.1⟩
  · rcases g with g | g
    · subst g; exact Or.inr ⟨h.1, h.2⟩
    · exact Or.inr ⟨h.1, g.1⟩
theorem l_sh {x y : UInt64} (h : ¬ Op.cmpValue (FP.dcmp x y) CmpOp.l = 0) (g : x = y ∨ (isNaN64 x = true ∧ isNaN64 y = true)) : ¬ Op.cmpValue (FP.dcmp x x) CmpOp.l = 0 ∧ ¬ Op.cmpValue (FP.dcmp y y) CmpOp.l = 0 := by
  rcases g with g | ⟨g1, g2⟩
  · subst g; exact ⟨h, h⟩
  · rw [nan_dcmp g1, nan_dcmp g2]; exact ⟨by decide, by decide⟩
set_option maxHeartbeats 4000000 in
set_option maxRecDepth 100000 in
theorem l_case_lasts {p : Program} {l : Launch} {e : Env} {s : State} {m : MethodId} {below : List Frame} {meth : Method} {c : Code} {b L : Nat} {xs : Nat → Int32} {D : va_G} {cy : Nat → ClassId} {sa : Nat → Nat} {h o mb i : Nat} (C1 : lwC p l s m meth c b L xs D cy sa) (hi : 5 * i + 5 ≤ L) (KK : lwS p l e s m below meth c b D cy h o mb 1159 i (i + 1)) : lwS p l e s m below meth c b D cy h o mb 955 i i := by
  obtain ⟨hst, C0, hK0, hV0, hZ0, hN0, hL⟩ := C1
  obtain ⟨hx, hb, hr, hml, hown, hts0, hX0, hbl, hlocks, hgv⟩ := id C0
  intro ad av am thr nS nB tS tB st bk ts tb gate nu tg tn g hq d0 H locs ls hd0 hnS hnB htS htB hhq hI hP hD hS hl
  unfold WW at hP hD
  have hbA : ¬ (fun q : Nat => s.heap.size ≤ q) b := Nat.not_le.mpr hbl
  have hA : ∀ q : Nat, s.heap.size ≤ q → (fun q : Nat => s.heap.size ≤ q) q := fun _ z => z
  have hts : ∀ w ∈ wsL_law, w.before #[Value.ref b] (s.setDrawn d0) = true := fun w z => dr_words hts0 d0 w (wsL_law_in w z)
  have hK := XK.same (s := s) (U := s.setDrawn d0) rfl hK0
  have hV := XV.same (s := s) (U := s.setDrawn d0) rfl hV0
  have hZ : xZ (fun q : Nat => s.heap.size ≤ q) (s.setDrawn d0) (s.setDrawn d0).heap := xZ.moved (Vm.Alike.refl _) hZ0
  have hNc : xNcs (s.setDrawn d0) := hN0.moved (Vm.Alike.refl _)
  have hX : va_X b L xs (s.setDrawn d0) s.heap := va_X.moved (Vm.Alike.refl _) hX0
  refine lv_aload_n hx hb dL_law_955 rfl (lv_at hl 1 rfl) ?_
  refine xcV (As := []) (rest := []) ⟨hx, hb, hml, hown, hts⟩ (c_X3_lasts l D cy h ad av nS nB tS tB st bk ts tb gate nu tg tn htS htB hnS hnB (fun j hj => (hI.2.1 j hj).2.1) hq hI.2.2.2.2.1 (by omega) (fun j hj => (hI.2.1 j hj).1)) (cwV 0 hts gL_law_X3_lasts rfl rfl rfl (by decide +kernel) ⟨Nat.le_of_ble_eq_true rfl, Nat.le_of_ble_eq_true rfl⟩) hK hP hD hS hA rfl rfl rfl (xE_ll) rfl hl.1 rfl (Nat.le_of_ble_eq_true rfl) dL_law_956 ⟨by show 15 + 120 * i + 0 + 10 ≤ 601024; omega, by show 187 + 700 * i + 0 + 60 ≤ 7293034; omega⟩ (fun u H locs _ hP hD hS => ?_)
  have hP : va_P D vwCl (((xw cy h ad nS nB st bk gate nu (u.1 0) (tw cy u.1 nS nB u.2.1 u.2.2.1 gate u.2.2.2)) ++ [(o, .inl (cy 4, 1, .inr (.inl g)))]) ++ (mw cy mb am thr nS nB st bk gate nu)) H := hP
  have hD : va_D (fun q : Nat => s.heap.size ≤ q) (((xw cy h ad nS nB st bk gate nu (u.1 0) (tw cy u.1 nS nB u.2.1 u.2.2.1 gate u.2.2.2)) ++ [(o, .inl (cy 4, 1, .inr (.inl g)))]) ++ (mw cy mb am thr nS nB st bk gate nu)) := hD
  refine W.eq (g2 := F0 m 959 ls [.int (lastN nS nB hq gate (st, bk, nu) 480 0)]) rfl ?_
  refine W.cs (cells' := 15 + 120 * i + 10) (slots' := 187 + 700 * i + 60) rfl rfl ?_
  refine lv_aload_n hx hb dL_law_959 rfl (lv_at hl 2 rfl) ?_
  refine xcV (As := []) (rest := [.int (lastN nS nB hq gate (st, bk, nu) 480 0)]) ⟨hx, hb, hml, hown, hts⟩ (c_X4_lasts l D cy mb am thr nS nB st bk gate nu hq hI.2.2.2.2.1 (by omega) hnS hnB (fun i hi => inv_ok (inv_hrs hnS hI i (by omega))) (fun i hi => Int32.le_iff_toInt_le.mpr (unfed_OK hnS (by omega) (inv_hrs hnS hI i (by omega))).1)) (cwV 0 hts gL_law_X4_lasts rfl rfl rfl (by decide +kernel) ⟨Nat.le_of_ble_eq_true rfl, Nat.le_of_ble_eq_true rfl⟩) hK hP hD hS hA rfl rfl rfl (xE_r) rfl hl.1 rfl (Nat.le_of_ble_eq_true rfl) dL_law_960 ⟨by show 15 + 120 * i + 10 + 4 ≤ 601024; omega, by show 187 + 700 * i + 60 + 68 ≤ 7293034; omega⟩ (fun _ H locs _ hP hD hS => ?_)
  have hP : va_P D vwCl (((xw cy h ad nS nB st bk gate nu (u.1 0) (tw cy u.1 nS nB u.2.1 u.2.2.1 gate u.2.2.2)) ++ [(o, .inl (cy 4, 1, .inr (.inl g)))]) ++ (mw cy mb am 0 nS nB st bk gate nu)) H := hP
  have hD : va_D (fun q : Nat => s.heap.size ≤ q) (((xw cy h ad nS nB st bk gate nu (u.1 0) (tw cy u.1 nS nB u.2.1 u.2.2.1 gate u.2.2.2)) ++ [(o, .inl (cy 4, 1, .inr (.inl g)))]) ++ (mw cy mb am 0 nS nB st bk gate nu)) := hD
  refine W.eq (g2 := F0 m 963 ls [.int (lastN nS nB hq gate (st, bk, nu) 480 0), .int (lastN nS nB hq gate (st, bk, nu) 480 0)]) rfl ?_
  refine W.cs (cells' := 15 + 120 * i + 14) (slots' := 187 + 700 * i + 128) rfl rfl ?_
  refine lv_icmp_eq (tgt := 1159) hx hb dL_law_963 (by decide) (fun _ => ?_) (fun z => absurd rfl z)
  refine W.widen (k := 15 + 120 * (i + 1)) (n := 187 + 700 * (i + 1)) (by omega) (by omega) ?_
  exact KK ad u.1 am 0 nS nB nS nB st bk u.2.1 u.2.2.1 gate nu gate u.2.2.2 g hq d0  _ _ _ hd0 hnS hnB (Nat.le_refl _) (Nat.le_refl _) (by omega) hI hP hD hS (lv_sub hl [0, 1, 2, 3, 4] rfl)

set_option maxHeartbeats 4000000 in
set_option maxRecDepth 100000 in
theorem l_case_share {p : Program} {l : Launch} {e : Env} {s : State} {m : MethodId} {below : List Frame} {meth : Method} {c : Code} {b L : Nat} {xs : Nat → Int32} {D : va_G} {cy : Nat → ClassId} {sa : Nat → Nat} {h o mb i : Nat} (C1 : lwC p l s m meth c b L xs D cy sa) (hi : 5 * i + 5 ≤ L) (KK : lwS p l e s m below meth c b D cy h o mb 1159 i (i + 1)) : lwS p l e s m below meth c b D cy h o mb 1104 i i := by
  obtain ⟨hst, C0, hK0, hV0, hZ0, hN0, hL⟩ := C1
  obtain ⟨hx, hb, hr, hml, hown, hts0, hX0, hbl, hlocks, hgv⟩ := id C0
  intro ad av am thr nS nB tS tB st bk ts tb gate nu tg tn g hq d0 H locs ls hd0 hnS hnB htS htB hhq hI hP hD hS hl
  unfold WW at hP hD
  have hbA : ¬ (fun q : Nat => s.heap.size ≤ q) b := Nat.not_le.mpr hbl
  have hA : ∀ q : Nat, s.heap.size ≤ q → (fun q : Nat => s.heap.size ≤ q) q := fun _ z => z
  have hts : ∀ w ∈ wsL_law, w.before #[Value.ref b] (s.setDrawn d0) = true := fun w z => dr_words hts0 d0 w (wsL_law_in w z)
  have hK := XK.same (s := s) (U := s.setDrawn d0) rfl hK0
  have hV := XV.same (s := s) (U := s.setDrawn d0) rfl hV0
  have hZ : xZ (fun q : Nat => s.heap.size ≤ q) (s.setDrawn d0) (s.setDrawn d0).heap := xZ.moved (Vm.Alike.refl _) hZ0
  have hNc : xNcs (s.setDrawn d0) := hN0.moved (Vm.Alike.refl _)
  have hX : va_X b L xs (s.setDrawn d0) s.heap := va_X.moved (Vm.Alike.refl _) hX0
  refine lv_aload_n hx hb dL_law_1104 rfl (lv_at hl 1 rfl) ?_
  refine xcVD (As := []) (rest := []) hd0 ⟨hx, hb, hml, hown, hts⟩ (c_X3_share l D cy h ad nS nB st bk gate nu (av 0) (tw cy av tS tB ts tb tg tn)) (cwV 0 hts gL_law_X3_share rfl rfl rfl (by decide +kernel) ⟨Nat.le_of_ble_eq_true rfl, Nat.le_of_ble_eq_true rfl⟩) hK hP hD hS hA rfl rfl rfl (xE_ll) rfl hl.1 rfl (Nat.le_of_ble_eq_true rfl) dL_law_1105 ⟨by show 15 + 120 * i + 0 + 0 ≤ 601024; omega, by show 187 + 700 * i + 0 + 0 ≤ 7293034; omega⟩ (fun r1 H locs d1 hd1 hr1 hP hD hS => ?_)
  have hts : ∀ w ∈ wsL_law, w.before #[Value.ref b] (s.setDrawn d1) = true := fun w z => dr_words hts0 d1 w (wsL_law_in w z)
  have hK := XK.same (s := s) (U := s.setDrawn d1) rfl hK0
  have hV := XV.same (s := s) (U := s.setDrawn d1) rfl hV0
  have hZ : xZ (fun q : Nat => s.heap.size ≤ q) (s.setDrawn d1) (s.setDrawn d1).heap := xZ.moved (Vm.Alike.refl _) hZ0
  have hNc : xNcs (s.setDrawn d1) := hN0.moved (Vm.Alike.refl _)
  have hX : va_X b L xs (s.setDrawn d1) s.heap := va_X.moved (Vm.Alike.refl _) hX0
  have hP : va_P D vwCl (((xw cy h ad nS nB st bk gate nu (av 0) (tw cy av tS tB ts tb tg tn)) ++ [(o, .inl (cy 4, 1, .inr (.inl g)))]) ++ (mw cy mb am thr nS nB st bk gate nu)) H := hP
  have hD : va_D (fun q : Nat => s.heap.size ≤ q) (((xw cy h ad nS nB st bk gate nu (av 0) (tw cy av tS tB ts tb tg tn)) ++ [(o, .inl (cy 4, 1, .inr (.inl g)))]) ++ (mw cy mb am thr nS nB st bk gate nu)) := hD
  refine W.eq (g2 := F0 m 1108 ls [.double r1]) rfl ?_
  refine W.cs (cells' := 15 + 120 * i + 0) (slots' := 187 + 700 * i + 0) rfl rfl ?_
  refine lv_dstore (lv' := [(5, .double r1), (0, .ref b), (1, .ref h), (2, .ref mb), (3, .ref o), (4, .int (nI (5 * i)))]) hx hb dL_law_1108 hl (by decide) rfl (fun ls hl => ?_)
  refine lv_aload_n hx hb dL_law_1110 rfl (lv_at hl 3 rfl) ?_
  refine xcVD (As := []) (rest := []) hd1 ⟨hx, hb, hml, hown, hts⟩ (c_X4_share l D cy mb am thr nS nB st bk gate nu) (cwV 0 hts gL_law_X4_share rfl rfl rfl (by decide +kernel) ⟨Nat.le_of_ble_eq_true rfl, Nat.le_of_ble_eq_true rfl⟩) hK hP hD hS hA rfl rfl rfl (xE_r) rfl hl.1 rfl (Nat.le_of_ble_eq_true rfl) dL_law_1111 ⟨by show 15 + 120 * i + 0 + 0 ≤ 601024; omega, by show 187 + 700 * i + 0 + 0 ≤ 7293034; omega⟩ (fun r2 H locs d2 hd2 hr2 hP hD hS => ?_)
  have hts : ∀ w ∈ wsL_law, w.before #[Value.ref b] (s.setDrawn d2) = true := fun w z => dr_words hts0 d2 w (wsL_law_in w z)
  have hK := XK.same (s := s) (U := s.setDrawn d2) rfl hK0
  have hV := XV.same (s := s) (U := s.setDrawn d2) rfl hV0
  have hZ : xZ (fun q : Nat => s.heap.size ≤ q) (s.setDrawn d2) (s.setDrawn d2).heap := xZ.moved (Vm.Alike.refl _) hZ0
  have hNc : xNcs (s.setDrawn d2) := hN0.moved (Vm.Alike.refl _)
  have hX : va_X b L xs (s.setDrawn d2) s.heap := va_X.moved (Vm.Alike.refl _) hX0
  have hP : va_P D vwCl (((xw cy h ad nS nB st bk gate nu (av 0) (tw cy av tS tB ts tb tg tn)) ++ [(o, .inl (cy 4, 1, .inr (.inl g)))]) ++ (mw cy mb am 0 nS nB st bk gate nu)) H := hP
  have hD : va_D (fun q : Nat => s.heap.size ≤ q) (((xw cy h ad nS nB st bk gate nu (av 0) (tw cy av tS tB ts tb tg tn)) ++ [(o, .inl (cy 4, 1, .inr (.inl g)))]) ++ (mw cy mb am 0 nS nB st bk gate nu)) := hD
  refine W.eq (g2 := F0 m 1114 ls [.double r2]) rfl ?_
  refine W.cs (cells' := 15 + 120 * i + 0) (slots' := 187 + 700 * i + 0) rfl rfl ?_
  refine lv_dstore (lv' := [(7, .double r2), (5, .double r1), (0, .ref b), (1, .ref h), (2, .ref mb), (3, .ref o), (4, .int (nI (5 * i)))]) hx hb dL_law_1114 hl (by decide) rfl (fun ls hl => ?_)
  refine lv_dload hx hb dL_law_1116 (lv_at hl 1 rfl) ?_
  refine lv_dload hx hb dL_law_1118 (lv_at hl 0 rfl) ?_
  refine lv_dcmp hx hb dL_law_1120 ?_
  refine lv_if_eq (tgt := 1142) hx hb dL_law_1121 (by decide) (fun c1121 => ?_) (fun c1121 => ?_)
  · refine lv_goto (tgt := 1159) hx hb dL_law_1142 (by decide) ?_
    refine W.widen (k := 15 + 120 * (i + 1)) (n := 187 + 700 * (i + 1)) (by omega) (by omega) ?_
    exact KK ad av am 0 nS nB tS tB st bk ts tb gate nu tg tn g hq d2  _ _ _ hd2 hnS hnB htS htB (by omega) hI hP hD hS (lv_sub hl [2, 3, 4, 5, 6] rfl)
  · have hsh := l_sh c1121 (l_al hr1 hr2)
    refine lv_dload hx hb dL_law_1124 (lv_at hl 1 rfl) ?_
    refine lv_dload hx hb dL_law_1126 (lv_at hl 1 rfl) ?_
    refine lv_dcmp hx hb dL_law_1128 ?_
    refine lv_if_eq (tgt := 1140) hx hb dL_law_1129 (by decide) (fun z => absurd z hsh.1) (fun _ => ?_)
    refine lv_dload hx hb dL_law_1132 (lv_at hl 0 rfl) ?_
    refine lv_dload hx hb dL_law_1134 (lv_at hl 0 rfl) ?_
    refine lv_dcmp hx hb dL_law_1136 ?_
    refine lv_if_ne (tgt := 1142) hx hb dL_law_1137 (by decide) (fun _ => ?_) (fun z => absurd z hsh.2)
    refine lv_goto (tgt := 1159) hx hb dL_law_1142 (by decide) ?_
    refine W.widen (k := 15 + 120 * (i + 1)) (n := 187 + 700 * (i + 1)) (by omega) (by omega) ?_
    exact KK ad av am 0 nS nB tS tB st bk ts tb gate nu tg tn g hq d2  _ _ _ hd2 hnS hnB htS htB (by omega) hI hP hD hS (lv_sub hl [2, 3, 4, 5, 6] rfl)

set_option maxHeartbeats 4000000 in
set_option maxRecDepth 100000 in
theorem l_case_digest {p : Program} {l : Launch} {e : Env} {s : State} {m : MethodId} {below : List Frame} {meth : Method} {c : Code} {b L : Nat} {xs : Nat → Int32} {D : va_G} {cy : Nat → ClassId} {sa : Nat → Nat} {h o mb i : Nat} (C1 : lwC p l s m meth c b L xs D cy sa) (hi : 5 * i + 5 ≤ L) (KK : lwS p l e s m below meth c b D cy h o mb 1159 i (i + 1)) : lwS p l e s m below meth c b D cy h o mb 1145 i i := by
  obtain ⟨hst, C0, hK0, hV0, hZ0, hN0, hL⟩ := C1
  obtain ⟨hx, hb, hr, hml, hown, hts0, hX0, hbl, hlocks, hgv⟩ := id C0
  intro ad av am thr nS nB tS tB st bk ts tb gate nu tg tn g hq d0 H locs ls hd0 hnS hnB htS htB hhq hI hP hD hS hl
  unfold WW at hP hD
  have hbA : ¬ (fun q : Nat => s.heap.size ≤ q) b := Nat.not_le.mpr hbl
  have hA : ∀ q : Nat, s.heap.size ≤ q → (fun q : Nat => s.heap.size ≤ q) q := fun _ z => z
  have hts : ∀ w ∈ wsL_law, w.before #[Value.ref b] (s.setDrawn d0) = true := fun w z => dr_words hts0 d0 w (wsL_law_in w z)
  have hK := XK.same (s := s) (U := s.setDrawn d0) rfl hK0
  have hV := XV.same (s := s) (U := s.setDrawn d0) rfl hV0
  have hZ : xZ (fun q : Nat => s.heap.size ≤ q) (s.setDrawn d0) (s.setDrawn d0).heap := xZ.moved (Vm.Alike.refl _) hZ0
  have hNc : xNcs (s.setDrawn d0) := hN0.moved (Vm.Alike.refl _)
  have hX : va_X b L xs (s.setDrawn d0) s.heap := va_X.moved (Vm.Alike.refl _) hX0
  refine lv_aload_n hx hb dL_law_1145 rfl (lv_at hl 1 rfl) ?_
  refine xcV (As := []) (rest := []) ⟨hx, hb, hml, hown, hts⟩ (c_X3_digest l D cy h ad nS nB st bk gate nu (av 0) (tw cy av tS tB ts tb tg tn) hq hI.2.2.2.2.1 (by omega) hnS hnB) (cwV 0 hts gL_law_X3_digest rfl rfl rfl (by decide +kernel) ⟨Nat.le_of_ble_eq_true rfl, Nat.le_of_ble_eq_true rfl⟩) hK hP hD hS hA rfl rfl rfl (xE_ll) rfl hl.1 rfl (Nat.le_of_ble_eq_true rfl) dL_law_1146 ⟨by show 15 + 120 * i + 0 + 0 ≤ 601024; omega, by show 187 + 700 * i + 0 + 0 ≤ 7293034; omega⟩ (fun u H locs _ hP hD hS => ?_)
  have hP : va_P D vwCl (((xw cy h ad nS nB st bk gate nu (av 0) (tw cy av tS tB ts tb tg tn)) ++ [(o, .inl (cy 4, 1, .inr (.inl g)))]) ++ (mw cy mb am thr nS nB st bk gate nu)) H := hP
  have hD : va_D (fun q : Nat => s.heap.size ≤ q) (((xw cy h ad nS nB st bk gate nu (av 0) (tw cy av tS tB ts tb tg tn)) ++ [(o, .inl (cy 4, 1, .inr (.inl g)))]) ++ (mw cy mb am thr nS nB st bk gate nu)) := hD
  refine W.eq (g2 := F0 m 1149 ls [.long (dgB bk nB (dgS st bk nB nS (dgN gate 24 (dgN (tFact nS nB st bk nu hq) 10 1051))))]) rfl ?_
  refine W.cs (cells' := 15 + 120 * i + 0) (slots' := 187 + 700 * i + 0) rfl rfl ?_
  refine lv_aload_n hx hb dL_law_1149 rfl (lv_at hl 2 rfl) ?_
  refine xcV (As := []) (rest := [.long (dgB bk nB (dgS st bk nB nS (dgN gate 24 (dgN (tFact nS nB st bk nu hq) 10 1051))))]) ⟨hx, hb, hml, hown, hts⟩ (c_X4_digest l D cy mb am thr nS nB st bk gate nu hq hI.2.2.2.2.1 (by omega) hnS hnB (fun j hj => (hI.2.1 j hj).2.1)) (cwV 0 hts gL_law_X4_digest rfl rfl rfl (by decide +kernel) ⟨Nat.le_of_ble_eq_true rfl, Nat.le_of_ble_eq_true rfl⟩) hK hP hD hS hA rfl rfl rfl (xE_r) rfl hl.1 rfl (Nat.le_of_ble_eq_true rfl) dL_law_1150 ⟨by show 15 + 120 * i + 0 + 10 ≤ 601024; omega, by show 187 + 700 * i + 0 + 100 ≤ 7293034; omega⟩ (fun _ H locs _ hP hD hS => ?_)
  have hP : va_P D vwCl (((xw cy h ad nS nB st bk gate nu (av 0) (tw cy av tS tB ts tb tg tn)) ++ [(o, .inl (cy 4, 1, .inr (.inl g)))]) ++ (mw cy mb am 0 nS nB st bk gate nu)) H := hP
  have hD : va_D (fun q : Nat => s.heap.size ≤ q) (((xw cy h ad nS nB st bk gate nu (av 0) (tw cy av tS tB ts tb tg tn)) ++ [(o, .inl (cy 4, 1, .inr (.inl g)))]) ++ (mw cy mb am 0 nS nB st bk gate nu)) := hD
  refine W.eq (g2 := F0 m 1153 ls [.long (dgB bk nB (dgS st bk nB nS (dgN gate 24 (dgN (tFact nS nB st bk nu hq) 10 1051)))), .long (dgB bk nB (dgS st bk nB nS (dgN gate 24 (dgN (tFact nS nB st bk nu hq) 10 1051))))]) rfl ?_
  refine W.cs (cells' := 15 + 120 * i + 10) (slots' := 187 + 700 * i + 100) rfl rfl ?_
  refine W.lcmp hx hb dL_law_1153 ?_
  refine W.eq (g2 := F0 m 1154 ls [.int 0]) (by rw [lg_same]) ?_
  refine lv_if_eq (tgt := 1159) hx hb dL_law_1154 (by decide) (fun _ => ?_) (fun z => absurd rfl z)
  refine W.widen (k := 15 + 120 * (i + 1)) (n := 187 + 700 * (i + 1)) (by omega) (by omega) ?_
  exact KK ad av am 0 nS nB tS tB st bk ts tb gate nu tg tn g hq d0  _ _ _ hd0 hnS hnB htS htB (by omega) hI hP hD hS (lv_sub hl [0, 1, 2, 3, 4] rfl)
set_option maxHeartbeats 4000000 in
set_option maxRecDepth 100000 in
theorem l_next {p : Program} {l : Launch} {e : Env} {s : State} {m : MethodId} {below : List Frame} {meth : Method} {c : Code} {b L : Nat} {xs : Nat → Int32} {D : va_G} {cy : Nat → ClassId} {sa : Nat → Nat} {h o mb i : Nat} (C1 : lwC p l s m meth c b L xs D cy sa) (hi : 5 * i + 5 ≤ L) (ih : lwS p l e s m below meth c b D cy h o mb 23 (i + 1) (i + 1)) : lwS p l e s m below meth c b D cy h o mb 1159 i (i + 1) := by
  obtain ⟨hst, C0, hK0, hV0, hZ0, hN0, hL⟩ := C1
  obtain ⟨hx, hb, hr, hml, hown, hts0, hX0, hbl, hlocks, hgv⟩ := id C0
  intro ad av am thr nS nB tS tB st bk ts tb gate nu tg tn g hq d0 H locs ls hd0 hnS hnB htS htB hhq hI hP hD hS hl
  refine lv_iinc (v := nI (5 * (i + 1))) (lv' := [(4, .int (nI (5 * (i + 1)))), (0, .ref b), (1, .ref h), (2, .ref mb), (3, .ref o)]) hx hb dL_law_1159 hl (k := 4) rfl (nI_add (5 * i) 5) (by decide) rfl (fun ls hl => ?_)
  refine lv_goto (tgt := 23) hx hb dL_law_1162 (by decide) ?_
  exact ih ad av am thr nS nB tS tB st bk ts tb gate nu tg tn g hq d0 H locs ls hd0 hnS hnB htS htB hhq hI hP hD hS (lv_sub hl [1, 2, 3, 4, 0] rfl)
set_option maxHeartbeats 4000000 in
set_option maxRecDepth 100000 in
theorem l_pick {p : Program} {l : Launch} {e : Env} {s : State} {m : MethodId} {below : List Frame} {meth : Method} {c : Code} {b L : Nat} {xs : Nat → Int32} {D : va_G} {cy : Nat → ClassId} {sa : Nat → Nat} {h o mb i : Nat} (C1 : lwC p l s m meth c b L xs D cy sa) (hi : 5 * i + 5 ≤ L) (KK : lwS p l e s m below meth c b D cy h o mb 1159 i (i + 1)) : lwS p l e s m below meth c b D cy h o mb 32 i i := by
  obtain ⟨hst, C0, hK0, hV0, hZ0, hN0, hL⟩ := id C1
  obtain ⟨hx, hb, hr, hml, hown, hts0, hX0, hbl, hlocks, hgv⟩ := id C0
  intro ad av am thr nS nB tS tB st bk ts tb gate nu tg tn g hq d0 H locs ls hd0 hnS hnB htS htB hhq hI hP hD hS hl
  have hbA : ¬ (fun q : Nat => s.heap.size ≤ q) b := Nat.not_le.mpr hbl
  have hX : va_X b L xs (s.setDrawn d0) s.heap := va_X.moved (Vm.Alike.refl _) hX0
  refine lv_aload_n hx hb dL_law_32 rfl (lv_at hl 0 rfl) ?_
  refine lv_iload hx hb dL_law_33 (lv_at hl 4 rfl) ?_
  refine va_sld hx hb hX hbl hbA hS (i := nI (5 * i)) (vp_in_nI (by omega) (by omega)) dL_law_35 ?_
  refine lv_bipush (v := 31) hx hb dL_law_36 (by decide) ?_
  refine lv_iand hx hb dL_law_38 ?_
  generalize (xs (nI (5 * i)).toNatClampNeg &&& 31) = v
  rcases Decidable.em (Int32.ofNat 0 ≤ v ∧ v ≤ Int32.ofNat 17) with hv | hv
  · obtain ⟨k, hka, hkb, rfl⟩ := nat_of (by decide) hv (by decide)
    have hcase : k = 0 ∨ k = 1 ∨ k = 2 ∨ k = 3 ∨ k = 4 ∨ k = 5 ∨ k = 6 ∨ k = 7 ∨ k = 8 ∨ k = 9 ∨ k = 10 ∨ k = 11 ∨ k = 12 ∨ k = 13 ∨ k = 14 ∨ k = 15 ∨ k = 16 ∨ k = 17 := by omega
    rcases hcase with rfl | rfl | rfl | rfl | rfl | rfl | rfl | rfl | rfl | rfl | rfl | rfl | rfl | rfl | rfl | rfl | rfl | rfl
    · refine lv_tableIn (off := 85) (tgt := 124) hx hb dL_law_39 (by decide) (by decide) (by rfl) (by decide) ?_
      exact l_case_setPeople C1 hi KK ad av am thr nS nB tS tB st bk ts tb gate nu tg tn g hq d0 H locs ls hd0 hnS hnB htS htB hhq hI hP hD hS hl
    · refine lv_tableIn (off := 141) (tgt := 180) hx hb dL_law_39 (by decide) (by decide) (by rfl) (by decide) ?_
      exact l_case_setGate C1 hi KK ad av am thr nS nB tS tB st bk ts tb gate nu tg tn g hq d0 H locs ls hd0 hnS hnB htS htB hhq hI hP hD hS hl
    · refine lv_tableIn (off := 209) (tgt := 248) hx hb dL_law_39 (by decide) (by decide) (by rfl) (by decide) ?_
      exact l_case_open C1 hi KK ad av am thr nS nB tS tB st bk ts tb gate nu tg tn g hq d0 H locs ls hd0 hnS hnB htS htB hhq hI hP hD hS hl
    · refine lv_tableIn (off := 277) (tgt := 316) hx hb dL_law_39 (by decide) (by decide) (by rfl) (by decide) ?_
      exact l_case_smoke C1 hi KK ad av am thr nS nB tS tB st bk ts tb gate nu tg tn g hq d0 H locs ls hd0 hnS hnB htS htB hhq hI hP hD hS hl
    · refine lv_tableIn (off := 333) (tgt := 372) hx hb dL_law_39 (by decide) (by decide) (by rfl) (by decide) ?_
      exact l_case_swear C1 hi KK ad av am thr nS nB tS tB st bk ts tb gate nu tg tn g hq d0 H locs ls hd0 hnS hnB htS htB hhq hI hP hD hS hl
    · refine lv_tableIn (off := 425) (tgt := 464) hx hb dL_law_39 (by decide) (by decide) (by rfl) (by decide) ?_
      exact l_case_deal C1 hi KK ad av am thr nS nB tS tB st bk ts tb gate nu tg tn g hq d0 H locs ls hd0 hnS hnB htS htB hhq hI hP hD hS hl
    · refine lv_tableIn (off := 493) (tgt := 532) hx hb dL_law_39 (by decide) (by decide) (by rfl) (by decide) ?_
      exact l_case_weigh C1 hi KK ad av am thr nS nB tS tB st bk ts tb gate nu tg tn g hq d0 H locs ls hd0 hnS hnB htS htB hhq hI hP hD hS hl
    · refine lv_tableIn (off := 549) (tgt := 588) hx hb dL_law_39 (by decide) (by decide) (by rfl) (by decide) ?_
      exact l_case_pardon C1 hi KK ad av am thr nS nB tS tB st bk ts tb gate nu tg tn g hq d0 H locs ls hd0 hnS hnB htS htB hhq hI hP hD hS hl
    · refine lv_tableIn (off := 612) (tgt := 651) hx hb dL_law_39 (by decide) (by decide) (by rfl) (by decide) ?_
      exact l_case_store C1 hi KK ad av am thr nS nB tS tB st bk ts tb gate nu tg tn g hq d0 H locs ls hd0 hnS hnB htS htB hhq hI hP hD hS hl
    · refine lv_tableIn (off := 680) (tgt := 719) hx hb dL_law_39 (by decide) (by decide) (by rfl) (by decide) ?_
      exact l_case_baker C1 hi KK ad av am thr nS nB tS tB st bk ts tb gate nu tg tn g hq d0 H locs ls hd0 hnS hnB htS htB hhq hI hP hD hS hl
    · refine lv_tableIn (off := 748) (tgt := 787) hx hb dL_law_39 (by decide) (by decide) (by rfl) (by decide) ?_
      exact l_case_whose C1 hi KK ad av am thr nS nB tS tB st bk ts tb gate nu tg tn g hq d0 H locs ls hd0 hnS hnB htS htB hhq hI hP hD hS hl
    · refine lv_tableIn (off := 804) (tgt := 843) hx hb dL_law_39 (by decide) (by decide) (by rfl) (by decide) ?_
      exact l_case_count C1 hi KK ad av am thr nS nB tS tB st bk ts tb gate nu tg tn g hq d0 H locs ls hd0 hnS hnB htS htB hhq hI hP hD hS hl
    · refine lv_tableIn (off := 860) (tgt := 899) hx hb dL_law_39 (by decide) (by decide) (by rfl) (by decide) ?_
      exact l_case_pass C1 hi KK ad av am thr nS nB tS tB st bk ts tb gate nu tg tn g hq d0 H locs ls hd0 hnS hnB htS htB hhq hI hP hD hS hl
    · refine lv_tableIn (off := 916) (tgt := 955) hx hb dL_law_39 (by decide) (by decide) (by rfl) (by decide) ?_
      exact l_case_lasts C1 hi KK ad av am thr nS nB tS tB st bk ts tb gate nu tg tn g hq d0 H locs ls hd0 hnS hnB htS htB hhq hI hP hD hS hl
    · refine lv_tableIn (off := 929) (tgt := 968) hx hb dL_law_39 (by decide) (by decide) (by rfl) (by decide) ?_
      exact l_case_foresee C1 hi KK ad av am thr nS nB tS tB st bk ts tb gate nu tg tn g hq d0 H locs ls hd0 hnS hnB htS htB hhq hI hP hD hS hl
    · refine lv_tableIn (off := 997) (tgt := 1036) hx hb dL_law_39 (by decide) (by decide) (by rfl) (by decide) ?_
      exact l_case_advise C1 hi KK ad av am thr nS nB tS tB st bk ts tb gate nu tg tn g hq d0 H locs ls hd0 hnS hnB htS htB hhq hI hP hD hS hl
    · refine lv_tableIn (off := 1065) (tgt := 1104) hx hb dL_law_39 (by decide) (by decide) (by rfl) (by decide) ?_
      exact l_case_share C1 hi KK ad av am thr nS nB tS tB st bk ts tb gate nu tg tn g hq d0 H locs ls hd0 hnS hnB htS htB hhq hI hP hD hS hl
    · refine lv_tableIn (off := 1106) (tgt := 1145) hx hb dL_law_39 (by decide) (by decide) (by rfl) (by decide) ?_
      exact l_case_digest C1 hi KK ad av am thr nS nB tS tB st bk ts tb gate nu tg tn g hq d0 H locs ls hd0 hnS hnB htS htB hhq hI hP hD hS hl
  · refine lv_tableOut (tgt := 1159) hx hb dL_law_39 ?_ (by decide) ?_
    · have o0 : (Int32.ofNat 0).toInt = 0 := rfl
      have o17 : (Int32.ofNat 17).toInt = 17 := by decide
      rcases Decidable.em (v.toInt < 0) with h1 | h1
      · exact Or.inl h1
      · refine Or.inr ?_
        rcases Decidable.em (17 < v.toInt) with h2 | h2
        · exact h2
        · exact absurd ⟨Int32.le_iff_toInt_le.mpr (by rw [o0]; omega), Int32.le_iff_toInt_le.mpr (by rw [o17]; omega)⟩ hv
    · refine W.widen (k := 15 + 120 * (i + 1)) (n := 187 + 700 * (i + 1)) (by omega) (by omega) ?_
      exact KK ad av am thr nS nB tS tB st bk ts tb gate nu tg tn g hq d0 H locs ls hd0 hnS hnB htS htB (by omega) hI hP hD hS hl
set_option maxHeartbeats 4000000 in
set_option maxRecDepth 100000 in
theorem l_head {p : Program} {l : Launch} {e : Env} {s : State} {m : MethodId} {below : List Frame} {meth : Method} {c : Code} {b L : Nat} {xs : Nat → Int32} {D : va_G} {cy : Nat → ClassId} {sa : Nat → Nat} {h o mb : Nat} (C1 : lwC p l s m meth c b L xs D cy sa) : ∀ n i, i + n = 513 → lwS p l e s m below meth c b D cy h o mb 23 i i := by
  obtain ⟨hst, C0, hK0, hV0, hZ0, hN0, hL⟩ := id C1
  obtain ⟨hx, hb, hr, hml, hown, hts0, hX0, hbl, hlocks, hgv⟩ := id C0
  intro n
  induction n with
  | zero =>
    intro i hin
    intro ad av am thr nS nB tS tB st bk ts tb gate nu tg tn g hq d0 H locs ls hd0 hnS hnB htS htB hhq hI hP hD hS hl
    have hbA : ¬ (fun q : Nat => s.heap.size ≤ q) b := Nat.not_le.mpr hbl
    have hX : va_X b L xs (s.setDrawn d0) s.heap := va_X.moved (Vm.Alike.refl _) hX0
    have hL5 : (nI L - 5).toInt = (L : Int) - 5 := by rw [i_sub (by rw [nI_toInt (by omega)]; show _ ≤ (L : Int) - 5; omega) (by rw [nI_toInt (by omega)]; show (L : Int) - 5 < _; omega), nI_toInt (by omega)]; rfl
    have h5 : (nI (5 * i)).toInt = ((5 * i : Nat) : Int) := nI_toInt (by omega)
    refine lv_iload hx hb dL_law_23 (lv_at hl 4 rfl) ?_
    refine lv_aload_n hx hb dL_law_25 rfl (lv_at hl 0 rfl) ?_
    refine va_slen hx hb hX hbl hbA hS dL_law_26 ?_
    refine lv_iconst (v := 5) hx hb dL_law_27 (by decide) ?_
    refine lv_isub hx hb dL_law_28 ?_
    refine lv_icmp_gt (tgt := 1165) hx hb dL_law_29 (by decide) (fun _ => ?_) (fun hc => ?_)
    · refine lv_iconst (v := 1) hx hb dL_law_1165 (by decide) ?_
      refine W.widen (k := 601024) (n := 7293034) (by omega) (by omega) ?_
      refine va_forget (fun q hq => hS.2.2 q hq) ?_
      exact lw_ret hd0 hx hb hr hlocks dL_law_1166
    · have hi : 5 * i + 5 ≤ L := by
        have h1 := Int32.le_iff_toInt_le.mp (Int32.not_lt.mp hc)
        have h2 : (nI (5 * i)).toInt ≤ (nI L - 5).toInt := h1
        rw [hL5, h5] at h2
        omega
      omega
  | succ n ih =>
    intro i hin
    intro ad av am thr nS nB tS tB st bk ts tb gate nu tg tn g hq d0 H locs ls hd0 hnS hnB htS htB hhq hI hP hD hS hl
    have hbA : ¬ (fun q : Nat => s.heap.size ≤ q) b := Nat.not_le.mpr hbl
    have hX : va_X b L xs (s.setDrawn d0) s.heap := va_X.moved (Vm.Alike.refl _) hX0
    have hL5 : (nI L - 5).toInt = (L : Int) - 5 := by rw [i_sub (by rw [nI_toInt (by omega)]; show _ ≤ (L : Int) - 5; omega) (by rw [nI_toInt (by omega)]; show (L : Int) - 5 < _; omega), nI_toInt (by omega)]; rfl
    have h5 : (nI (5 * i)).toInt = ((5 * i : Nat) : Int) := nI_toInt (by omega)
    refine lv_iload hx hb dL_law_23 (lv_at hl 4 rfl) ?_
    refine lv_aload_n hx hb dL_law_25 rfl (lv_at hl 0 rfl) ?_
    refine va_slen hx hb hX hbl hbA hS dL_law_26 ?_
    refine lv_iconst (v := 5) hx hb dL_law_27 (by decide) ?_
    refine lv_isub hx hb dL_law_28 ?_
    refine lv_icmp_gt (tgt := 1165) hx hb dL_law_29 (by decide) (fun _ => ?_) (fun hc => ?_)
    · refine lv_iconst (v := 1) hx hb dL_law_1165 (by decide) ?_
      refine W.widen (k := 601024) (n := 7293034) (by omega) (by omega) ?_
      refine va_forget (fun q hq => hS.2.2 q hq) ?_
      exact lw_ret hd0 hx hb hr hlocks dL_law_1166
    · have hi : 5 * i + 5 ≤ L := by
        have h1 := Int32.le_iff_toInt_le.mp (Int32.not_lt.mp hc)
        have h2 : (nI (5 * i)).toInt ≤ (nI L - 5).toInt := h1
        rw [hL5, h5] at h2
        omega
      exact l_pick C1 hi (l_next C1 hi (ih (i + 1) (by omega))) ad av am thr nS nB tS tB st bk ts tb gate nu tg tn g hq d0 H locs ls hd0 hnS hnB htS htB hhq hI hP hD hS hl
