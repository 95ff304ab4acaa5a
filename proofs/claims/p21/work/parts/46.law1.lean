/-! ===== the law: before the hour (laid by g46.py, g47.py) ===== -/
theorem zero_add1 (x : Int32) : 0 + x = x := Int32.zero_add x
/-- what stands throughout the law -/
def lF (p : Program) (s : State) (m : MethodId) (meth : Method) (c : Code) (sb L : Nat) (xs : Nat → Int32) (D : va_G) (cy : Nat → ClassId) (A : Nat → Prop) (d0 : Drawn) : Prop := p.tables.exec = Jvm.exec ∧ c.code = code ∧ (∀ w ∈ wsL_law, w.before #[Value.ref sb] (s.setDrawn d0) = true) ∧ (s.setDrawn d0).vm.findClass RL = some m.cls ∧ c.maxLocals = 32 ∧ XK D cy (s.setDrawn d0) ∧ va_X sb L xs (s.setDrawn d0) s.heap ∧ sb < s.heap.size ∧ L < 2 ^ 31 ∧ ¬ A sb ∧ (∀ q : Nat, s.heap.size ≤ q → A q)
/-- the law goes on from pc to its end -/
def lS (p : Program) (l : Launch) (e : Env) (s : State) (m : MethodId) (below : List Frame) (meth : Method) (c : Code) (sb : Nat) (D : va_G) (A : Nat → Prop) (d0 : Drawn) (pc : Nat) (lvs : List (Nat × Value)) (w : va_W) (C N : Nat) : Prop :=
  ∀ (H : Heap) (locs : List Loc) (ls : Array Slot), va_P D vwCl w H → va_D A w → va_S A s.heap H locs → lv_has ls 32 lvs → W p l e room_1 (s.setDrawn d0) m #[Value.ref sb] below meth c H locs C N (lw_Z below #[Value.ref sb] s) (F0 m pc ls [])
theorem ne12 {k : Nat} (hk : k < 24) (h : ¬ nI k = 12) : ¬ k = 12 := fun z => h (by rw [z]; rfl)
theorem eq12 {k : Nat} (hk : k < 24) (h : nI k = 12) : k = 12 := (nI_eq (a := k) (b := 12) (by omega) (by decide)).mp h
theorem ge0 {x : Int32} (h : 0 ≤ x.toInt) : ¬ x < 0 := fun z => by
  have := Int32.lt_iff_toInt_lt.mp z
  have o : (0 : Int32).toInt = 0 := rfl
  omega
theorem not_gt {x y : Int32} (h : x.toInt ≤ y.toInt) : ¬ y < x := fun z => by
  have := Int32.lt_iff_toInt_lt.mp z
  omega

theorem rows_put {f : Nat → Iu} {v : TS} {j k : Nat} (h : (∀ q, q < j → ∀ k, k < 8 → f q k = v.2.1 q k) ∧ (∀ x, x < k → f j x = v.2.1 j x)) : (∀ q, q < j → ∀ x, x < 8 → va_up f j (upd (f j) k (v.2.1 j k)) q x = v.2.1 q x) ∧ (∀ x, x < k + 1 → va_up f j (upd (f j) k (v.2.1 j k)) j x = v.2.1 j x) := by
  refine ⟨fun q hq x hx => by rw [up_ne (by omega)]; exact h.1 q hq x hx, fun x hx => ?_⟩
  rw [up_at]
  rcases Decidable.em (x = k) with z | z
  · subst z; rw [upd_at]
  · rw [upd_ne z]; exact h.2 x (by omega)
theorem rows_next {f : Nat → Iu} {v : TS} {j : Nat} (h : (∀ q, q < j → ∀ k, k < 8 → f q k = v.2.1 q k) ∧ (∀ x, x < 8 → f j x = v.2.1 j x)) : ∀ q, q < j + 1 → ∀ k, k < 8 → f q k = v.2.1 q k := by
  intro q hq k hk
  rcases Decidable.em (q = j) with z | z
  · subst z; exact h.2 k hk
  · exact h.1 q (by omega) k hk
set_option maxHeartbeats 4000000 in
set_option maxRecDepth 100000 in
/-- what is told before the hour -/
theorem s_2a {p : Program} {l : Launch} {e : Env} {s : State} {m : MethodId} {below : List Frame} {meth : Method} {c : Code} {sb L : Nat} {xs : Nat → Int32} {D : va_G} {cy : Nat → ClassId} {A : Nat → Prop} {d0 : Drawn} {h : Nat} {am ad : Nat → Nat} {nS nB : Nat} {v : TS} {gate : Iu} {hq t : Nat} {C N : Nat} {av : Nat → Nat} {tS tB : Nat} {ts tb : Nat → Iu} {tg tn : Iu} (F : lF p s m meth c sb L xs D cy A d0) (hI : jInv nS nB gate hq v) (hq1 : hq ≤ 2000) (hcS : nS ≤ 4) (hcB : nB ≤ 6) (hC : C ≤ 600000) (hN : N ≤ 7000000)  (KK : lS p l e s m below meth c sb D A d0 192 [(0, .ref sb), (1, .ref h), (2, .ref (am 0)), (3, .int (nI t)), (5, .int (nI nS)), (6, .int (nI nB)), (7, .int (nI (hq % 24))), (8, .int (sm (fun i => v.1 i 0) nS)), (9, .int (sm (fun i => v.2.1 i 5) nB)), (10, .int (v.2.2 2)), (11, .int (v.2.2 5)), (12, .int (sm (fun i => v.1 i 2) nS))] (sw cy am nS nB v.1 v.2.1 gate v.2.2 (xw cy h ad nS nB v.1 v.2.1 gate v.2.2 (av 0) (tw cy av tS tB ts tb tg tn))) (C + 12) (N + 60)) : lS p l e s m below meth c sb D A d0 111 [(0, .ref sb), (1, .ref h), (2, .ref (am 0)), (3, .int (nI t))] (sw cy am nS nB v.1 v.2.1 gate v.2.2 (xw cy h ad nS nB v.1 v.2.1 gate v.2.2 (av 0) (tw cy av tS tB ts tb tg tn))) (C) (N) := by
  obtain ⟨hx, hb, hts, hown, hml, hK, hX, hbl, hL, hbA, hA⟩ := id F
  intro H locs ls hP hD hS hl
  have hinX4 : ∀ w ∈ wsX40, w ∈ wsL_law := fun _ h => inlX4 _ h
  refine lv_aload_n hx hb dL_law_111 rfl (lv_at hl 2 rfl) ?_
  refine va_get (D := D) (ci := 4) (v := .ref (am 2)) (C := RX4) (T := TX4) (N := 9) hx hb hts hinX4 hown hK.1 hP 0 rfl rfl 2 (by decide) (hts (.fieldLink RL 9 "LoafMarksLaw$Sim" "stores" "[[I") (List.mem_append_left _ (List.mem_append_left _ (List.mem_append_left _ (List.mem_append_left _ (List.mem_append_left _ (List.mem_append_left _ (List.mem_append_left _ (List.mem_append_left _ (List.mem_append_left _ (List.mem_append_left _ (List.mem_of_getElem? (l := wsL_law0_r1) (i := 3) rfl)))))))))))) (fun _ h9 => h9) rfl dL_law_112 ?_
  refine va_alen hx hb hK.1 hP (2) 3 rfl rfl (v := nI nS) rfl dL_law_115 ?_
  refine lv_istore (lv' := [(5, .int (nI nS)), (0, .ref sb), (1, .ref h), (2, .ref (am 0)), (3, .int (nI t))]) hx hb dL_law_116 hl (by decide) rfl (fun ls hl => ?_)
  refine lv_aload_n hx hb dL_law_118 rfl (lv_at hl 3 rfl) ?_
  refine va_get (D := D) (ci := 4) (v := .ref (am 3)) (C := RX4) (T := TX4) (N := 9) hx hb hts hinX4 hown hK.1 hP 0 rfl rfl 3 (by decide) (hts (.fieldLink RL 15 "LoafMarksLaw$Sim" "bakers" "[[I") (List.mem_append_left _ (List.mem_append_left _ (List.mem_append_left _ (List.mem_append_left _ (List.mem_append_left _ (List.mem_append_left _ (List.mem_append_left _ (List.mem_append_left _ (List.mem_append_left _ (List.mem_append_left _ (List.mem_of_getElem? (l := wsL_law0_r1) (i := 4) rfl)))))))))))) (fun _ h9 => h9) rfl dL_law_119 ?_
  refine va_alen hx hb hK.1 hP (3) 3 rfl rfl (v := nI nB) rfl dL_law_122 ?_
  refine lv_istore (lv' := [(6, .int (nI nB)), (5, .int (nI nS)), (0, .ref sb), (1, .ref h), (2, .ref (am 0)), (3, .int (nI t))]) hx hb dL_law_123 hl (by decide) rfl (fun ls hl => ?_)
  refine lv_aload_n hx hb dL_law_125 rfl (lv_at hl 3 rfl) ?_
  refine lv_iconst (v := 1) hx hb dL_law_126 (by decide) ?_
  refine xcV (As := [.int 1]) (rest := []) ⟨hx, hb, hml, hown, hts⟩ (c_X3_count l D cy h ad nS nB v.1 v.2.1 gate v.2.2 (av 0) (tw cy av tS tB ts tb tg tn) hq 1 hI.1.2.2.2.2.1 (by omega) (by decide) hcS hcB) (cwV 1 hts gL_law_X3_count rfl rfl rfl (by decide +kernel) ⟨Nat.le_of_ble_eq_true rfl, Nat.le_of_ble_eq_true rfl⟩) hK hP hD hS hA rfl rfl rfl (xE_wr) rfl hl.1 rfl (Nat.le_of_ble_eq_true rfl) dL_law_127 ⟨by show C + 1 ≤ 606250; omega, by show N + 6 ≤ 7282873; omega⟩ (fun _ H locs _ hP hD hS => ?_)
  have hP : va_P D vwCl (sw cy am nS nB v.1 v.2.1 gate v.2.2 (xw cy h ad nS nB v.1 v.2.1 gate v.2.2 (av 0) (tw cy av tS tB ts tb tg tn))) H := hP
  have hD : va_D A (sw cy am nS nB v.1 v.2.1 gate v.2.2 (xw cy h ad nS nB v.1 v.2.1 gate v.2.2 (av 0) (tw cy av tS tB ts tb tg tn))) := hD
  refine W.eq (g2 := F0 m 130 ls [.int (nI (hq % 24))]) rfl ?_
  refine W.cs (cells' := C + 1) (slots' := N + 6) (by first | rfl | omega) (by first | rfl | omega) ?_
  refine lv_istore (lv' := [(7, .int (nI (hq % 24))), (6, .int (nI nB)), (5, .int (nI nS)), (0, .ref sb), (1, .ref h), (2, .ref (am 0)), (3, .int (nI t))]) hx hb dL_law_130 hl (by decide) rfl (fun ls hl => ?_)
  refine lv_aload_n hx hb dL_law_132 rfl (lv_at hl 4 rfl) ?_
  refine lv_iconst (v := 3) hx hb dL_law_133 (by decide) ?_
  refine xcV (As := [.int 3]) (rest := []) ⟨hx, hb, hml, hown, hts⟩ (c_X3_count l D cy h ad nS nB v.1 v.2.1 gate v.2.2 (av 0) (tw cy av tS tB ts tb tg tn) hq 3 hI.1.2.2.2.2.1 (by omega) (by decide) hcS hcB) (cwV 1 hts gL_law_X3_count rfl rfl rfl (by decide +kernel) ⟨Nat.le_of_ble_eq_true rfl, Nat.le_of_ble_eq_true rfl⟩) hK hP hD hS hA rfl rfl rfl (xE_wr) rfl hl.1 rfl (Nat.le_of_ble_eq_true rfl) dL_law_134 ⟨by show C + 1 + 1 ≤ 606250; omega, by show N + 6 + 6 ≤ 7282873; omega⟩ (fun _ H locs _ hP hD hS => ?_)
  have hP : va_P D vwCl (sw cy am nS nB v.1 v.2.1 gate v.2.2 (xw cy h ad nS nB v.1 v.2.1 gate v.2.2 (av 0) (tw cy av tS tB ts tb tg tn))) H := hP
  have hD : va_D A (sw cy am nS nB v.1 v.2.1 gate v.2.2 (xw cy h ad nS nB v.1 v.2.1 gate v.2.2 (av 0) (tw cy av tS tB ts tb tg tn))) := hD
  refine W.eq (g2 := F0 m 137 ls [.int (sm (fun i => v.1 i 0) nS)]) rfl ?_
  refine W.cs (cells' := C + 1 + 1) (slots' := N + 6 + 6) (by first | rfl | omega) (by first | rfl | omega) ?_
  refine lv_istore (lv' := [(8, .int (sm (fun i => v.1 i 0) nS)), (7, .int (nI (hq % 24))), (6, .int (nI nB)), (5, .int (nI nS)), (0, .ref sb), (1, .ref h), (2, .ref (am 0)), (3, .int (nI t))]) hx hb dL_law_137 hl (by decide) rfl (fun ls hl => ?_)
  refine lv_aload_n hx hb dL_law_139 rfl (lv_at hl 5 rfl) ?_
  refine lv_iconst (v := 4) hx hb dL_law_140 (by decide) ?_
  refine xcV (As := [.int 4]) (rest := []) ⟨hx, hb, hml, hown, hts⟩ (c_X3_count l D cy h ad nS nB v.1 v.2.1 gate v.2.2 (av 0) (tw cy av tS tB ts tb tg tn) hq 4 hI.1.2.2.2.2.1 (by omega) (by decide) hcS hcB) (cwV 1 hts gL_law_X3_count rfl rfl rfl (by decide +kernel) ⟨Nat.le_of_ble_eq_true rfl, Nat.le_of_ble_eq_true rfl⟩) hK hP hD hS hA rfl rfl rfl (xE_wr) rfl hl.1 rfl (Nat.le_of_ble_eq_true rfl) dL_law_141 ⟨by show C + 1 + 1 + 1 ≤ 606250; omega, by show N + 6 + 6 + 6 ≤ 7282873; omega⟩ (fun _ H locs _ hP hD hS => ?_)
  have hP : va_P D vwCl (sw cy am nS nB v.1 v.2.1 gate v.2.2 (xw cy h ad nS nB v.1 v.2.1 gate v.2.2 (av 0) (tw cy av tS tB ts tb tg tn))) H := hP
  have hD : va_D A (sw cy am nS nB v.1 v.2.1 gate v.2.2 (xw cy h ad nS nB v.1 v.2.1 gate v.2.2 (av 0) (tw cy av tS tB ts tb tg tn))) := hD
  refine W.eq (g2 := F0 m 144 ls [.int (sm (fun i => v.2.1 i 5) nB)]) rfl ?_
  refine W.cs (cells' := C + 1 + 1 + 1) (slots' := N + 6 + 6 + 6) (by first | rfl | omega) (by first | rfl | omega) ?_
  refine lv_istore (lv' := [(9, .int (sm (fun i => v.2.1 i 5) nB)), (8, .int (sm (fun i => v.1 i 0) nS)), (7, .int (nI (hq % 24))), (6, .int (nI nB)), (5, .int (nI nS)), (0, .ref sb), (1, .ref h), (2, .ref (am 0)), (3, .int (nI t))]) hx hb dL_law_144 hl (by decide) rfl (fun ls hl => ?_)
  refine lv_aload_n hx hb dL_law_146 rfl (lv_at hl 6 rfl) ?_
  refine lv_iconst (v := 5) hx hb dL_law_147 (by decide) ?_
  refine xcV (As := [.int 5]) (rest := []) ⟨hx, hb, hml, hown, hts⟩ (c_X3_count l D cy h ad nS nB v.1 v.2.1 gate v.2.2 (av 0) (tw cy av tS tB ts tb tg tn) hq 5 hI.1.2.2.2.2.1 (by omega) (by decide) hcS hcB) (cwV 1 hts gL_law_X3_count rfl rfl rfl (by decide +kernel) ⟨Nat.le_of_ble_eq_true rfl, Nat.le_of_ble_eq_true rfl⟩) hK hP hD hS hA rfl rfl rfl (xE_wr) rfl hl.1 rfl (Nat.le_of_ble_eq_true rfl) dL_law_148 ⟨by show C + 1 + 1 + 1 + 1 ≤ 606250; omega, by show N + 6 + 6 + 6 + 6 ≤ 7282873; omega⟩ (fun _ H locs _ hP hD hS => ?_)
  have hP : va_P D vwCl (sw cy am nS nB v.1 v.2.1 gate v.2.2 (xw cy h ad nS nB v.1 v.2.1 gate v.2.2 (av 0) (tw cy av tS tB ts tb tg tn))) H := hP
  have hD : va_D A (sw cy am nS nB v.1 v.2.1 gate v.2.2 (xw cy h ad nS nB v.1 v.2.1 gate v.2.2 (av 0) (tw cy av tS tB ts tb tg tn))) := hD
  refine W.eq (g2 := F0 m 151 ls [.int (v.2.2 2)]) rfl ?_
  refine W.cs (cells' := C + 1 + 1 + 1 + 1) (slots' := N + 6 + 6 + 6 + 6) (by first | rfl | omega) (by first | rfl | omega) ?_
  refine lv_istore (lv' := [(10, .int (v.2.2 2)), (9, .int (sm (fun i => v.2.1 i 5) nB)), (8, .int (sm (fun i => v.1 i 0) nS)), (7, .int (nI (hq % 24))), (6, .int (nI nB)), (5, .int (nI nS)), (0, .ref sb), (1, .ref h), (2, .ref (am 0)), (3, .int (nI t))]) hx hb dL_law_151 hl (by decide) rfl (fun ls hl => ?_)
  refine lv_aload_n hx hb dL_law_153 rfl (lv_at hl 7 rfl) ?_
  refine lv_bipush (v := 9) hx hb dL_law_154 (by decide) ?_
  refine xcV (As := [.int 9]) (rest := []) ⟨hx, hb, hml, hown, hts⟩ (c_X3_count l D cy h ad nS nB v.1 v.2.1 gate v.2.2 (av 0) (tw cy av tS tB ts tb tg tn) hq 9 hI.1.2.2.2.2.1 (by omega) (by decide) hcS hcB) (cwV 1 hts gL_law_X3_count rfl rfl rfl (by decide +kernel) ⟨Nat.le_of_ble_eq_true rfl, Nat.le_of_ble_eq_true rfl⟩) hK hP hD hS hA rfl rfl rfl (xE_wr) rfl hl.1 rfl (Nat.le_of_ble_eq_true rfl) dL_law_156 ⟨by show C + 1 + 1 + 1 + 1 + 1 ≤ 606250; omega, by show N + 6 + 6 + 6 + 6 + 6 ≤ 7282873; omega⟩ (fun _ H locs _ hP hD hS => ?_)
  have hP : va_P D vwCl (sw cy am nS nB v.1 v.2.1 gate v.2.2 (xw cy h ad nS nB v.1 v.2.1 gate v.2.2 (av 0) (tw cy av tS tB ts tb tg tn))) H := hP
  have hD : va_D A (sw cy am nS nB v.1 v.2.1 gate v.2.2 (xw cy h ad nS nB v.1 v.2.1 gate v.2.2 (av 0) (tw cy av tS tB ts tb tg tn))) := hD
  refine W.eq (g2 := F0 m 159 ls [.int (v.2.2 5)]) rfl ?_
  refine W.cs (cells' := C + 1 + 1 + 1 + 1 + 1) (slots' := N + 6 + 6 + 6 + 6 + 6) (by first | rfl | omega) (by first | rfl | omega) ?_
  refine lv_istore (lv' := [(11, .int (v.2.2 5)), (10, .int (v.2.2 2)), (9, .int (sm (fun i => v.2.1 i 5) nB)), (8, .int (sm (fun i => v.1 i 0) nS)), (7, .int (nI (hq % 24))), (6, .int (nI nB)), (5, .int (nI nS)), (0, .ref sb), (1, .ref h), (2, .ref (am 0)), (3, .int (nI t))]) hx hb dL_law_159 hl (by decide) rfl (fun ls hl => ?_)
  refine lv_iconst (v := 0) hx hb dL_law_161 (by decide) ?_
  refine lv_istore (lv' := [(12, .int 0), (11, .int (v.2.2 5)), (10, .int (v.2.2 2)), (9, .int (sm (fun i => v.2.1 i 5) nB)), (8, .int (sm (fun i => v.1 i 0) nS)), (7, .int (nI (hq % 24))), (6, .int (nI nB)), (5, .int (nI nS)), (0, .ref sb), (1, .ref h), (2, .ref (am 0)), (3, .int (nI t))]) hx hb dL_law_162 hl (by decide) rfl (fun ls hl => ?_)
  refine lv_iconst (v := 0) hx hb dL_law_164 (by decide) ?_
  refine lv_istore (lv' := [(13, .int 0), (12, .int 0), (11, .int (v.2.2 5)), (10, .int (v.2.2 2)), (9, .int (sm (fun i => v.2.1 i 5) nB)), (8, .int (sm (fun i => v.1 i 0) nS)), (7, .int (nI (hq % 24))), (6, .int (nI nB)), (5, .int (nI nS)), (0, .ref sb), (1, .ref h), (2, .ref (am 0)), (3, .int (nI t))]) hx hb dL_law_165 hl (by decide) rfl (fun ls hl => ?_)
  refine W.widen (k := C + 5 + 0) (n := N + 30 + 6 * 0) (by omega) (by omega) ?_
  have loop1 : ∀ (n i : Nat)  (H : Heap) (locs : List Loc) (ls : Array Slot), i + n = nS → va_P D vwCl (sw cy am nS nB v.1 v.2.1 gate v.2.2 (xw cy h ad nS nB v.1 v.2.1 gate v.2.2 (av 0) (tw cy av tS tB ts tb tg tn))) H → va_D A (sw cy am nS nB v.1 v.2.1 gate v.2.2 (xw cy h ad nS nB v.1 v.2.1 gate v.2.2 (av 0) (tw cy av tS tB ts tb tg tn))) → va_S A s.heap H locs → lv_has ls 32 [(0, .ref sb), (1, .ref h), (2, .ref (am 0)), (3, .int (nI t)), (5, .int (nI nS)), (6, .int (nI nB)), (7, .int (nI (hq % 24))), (8, .int (sm (fun i => v.1 i 0) nS)), (9, .int (sm (fun i => v.2.1 i 5) nB)), (10, .int (v.2.2 2)), (11, .int (v.2.2 5)), (12, .int (sm (fun i => v.1 i 2) i)), (13, .int (nI i))] → W p l e room_1 (s.setDrawn d0) m ([.ref sb] : List Value).toArray below meth c H locs (C + 5 + i) (N + 30 + 6 * i) (lw_Z below #[Value.ref sb] s) (F0 m 167 ls []) := by
    intro n
    induction n with
    | zero =>
      intro i  H locs ls hns hP hD hS hl
      have hii : i = nS := by omega
      refine lv_iload hx hb dL_law_167 (lv_at hl 12 rfl) ?_
      refine lv_iload hx hb dL_law_169 (lv_at hl 4 rfl) ?_
      refine lv_icmp_ge (tgt := 192) hx hb dL_law_171 (by decide) (fun _ => ?_) (fun h => absurd (by rw [hii]; exact Int32.le_refl _) h)
      rw [hii] at hl
      refine W.widen (k := C + 12) (n := N + 60) (by omega) (by omega) ?_
      exact KK _ _ _ hP hD hS (lv_sub hl [0, 1, 2, 3, 4, 5, 6, 7, 8, 9, 10, 11] rfl)
    | succ n ih1 =>
      intro i  H locs ls hns hP hD hS hl
      have hlt : i < nS := by omega
      refine lv_iload hx hb dL_law_167 (lv_at hl 12 rfl) ?_
      refine lv_iload hx hb dL_law_169 (lv_at hl 4 rfl) ?_
      refine lv_icmp_ge (tgt := 192) hx hb dL_law_171 (by decide) (fun h => absurd h (nI_ge (b := nS) hlt (by omega))) (fun _ => ?_)
      refine lv_iload hx hb dL_law_174 (lv_at hl 11 rfl) ?_
      refine lv_aload_n hx hb dL_law_176 rfl (lv_at hl 1 rfl) ?_
      refine lv_iload hx hb dL_law_177 (lv_at hl 12 rfl) ?_
      refine lv_iconst (v := 3) hx hb dL_law_179 (by decide) ?_
      refine xcV (As := [.int (nI i), .int 3]) (rest := [.int (sm (fun i => v.1 i 2) i)]) ⟨hx, hb, hml, hown, hts⟩ (c_X3_store l D cy h ad nS nB v.1 v.2.1 gate v.2.2 (av 0) (tw cy av tS tB ts tb tg tn) i hlt 3 (by decide) hcS hcB) (cwV 2 hts gL_law_X3_store rfl rfl rfl (by decide +kernel) ⟨Nat.le_of_ble_eq_true rfl, Nat.le_of_ble_eq_true rfl⟩) hK hP hD hS hA rfl rfl rfl (xE_wr) rfl hl.1 rfl (Nat.le_of_ble_eq_true rfl) dL_law_180 ⟨by show C + 5 + i + 1 ≤ 606250; omega, by show N + 30 + 6 * i + 6 ≤ 7282873; omega⟩ (fun _ H locs _ hP hD hS => ?_)
      have hP : va_P D vwCl (sw cy am nS nB v.1 v.2.1 gate v.2.2 (xw cy h ad nS nB v.1 v.2.1 gate v.2.2 (av 0) (tw cy av tS tB ts tb tg tn))) H := hP
      have hD : va_D A (sw cy am nS nB v.1 v.2.1 gate v.2.2 (xw cy h ad nS nB v.1 v.2.1 gate v.2.2 (av 0) (tw cy av tS tB ts tb tg tn))) := hD
      refine W.eq (g2 := F0 m 183 ls [.int (v.1 i 2), .int (sm (fun i => v.1 i 2) i)]) rfl ?_
      refine W.cs (cells' := C + 5 + (i + 1)) (slots' := N + 30 + 6 * (i + 1)) (by first | rfl | omega) (by first | rfl | omega) ?_
      refine lv_iadd hx hb dL_law_183 ?_
      refine lv_istore (lv' := [(12, .int ((sm (fun i => v.1 i 2) i) + (v.1 i 2))), (0, .ref sb), (1, .ref h), (2, .ref (am 0)), (3, .int (nI t)), (5, .int (nI nS)), (6, .int (nI nB)), (7, .int (nI (hq % 24))), (8, .int (sm (fun i => v.1 i 0) nS)), (9, .int (sm (fun i => v.2.1 i 5) nB)), (10, .int (v.2.2 2)), (11, .int (v.2.2 5)), (13, .int (nI i))]) hx hb dL_law_184 hl (by decide) rfl (fun ls hl => ?_)
      refine lv_iinc (v := (nI (i + 1))) (lv' := [(13, .int (nI (i + 1))), (12, .int ((sm (fun i => v.1 i 2) i) + (v.1 i 2))), (0, .ref sb), (1, .ref h), (2, .ref (am 0)), (3, .int (nI t)), (5, .int (nI nS)), (6, .int (nI nB)), (7, .int (nI (hq % 24))), (8, .int (sm (fun i => v.1 i 0) nS)), (9, .int (sm (fun i => v.2.1 i 5) nB)), (10, .int (v.2.2 2)), (11, .int (v.2.2 5))]) hx hb dL_law_186 hl (k := 12) rfl ((nI_1 i)) (by decide) rfl (fun ls hl => ?_)
      refine lv_goto (tgt := 167) hx hb dL_law_189 (by decide) ?_
      exact ih1 (i + 1)  _ _ _ (by omega) hP hD hS (lv_sub hl [2, 3, 4, 5, 6, 7, 8, 9, 10, 11, 12, 1, 0] rfl)
  exact loop1 nS 0  _ _ _ (by omega) hP hD hS (lv_sub hl [9, 10, 11, 12, 8, 7, 6, 5, 4, 3, 2, 1, 0] rfl)

set_option maxHeartbeats 4000000 in
set_option maxRecDepth 100000 in
/-- the table of what was -/
theorem s_2b {p : Program} {l : Launch} {e : Env} {s : State} {m : MethodId} {below : List Frame} {meth : Method} {c : Code} {sb L : Nat} {xs : Nat → Int32} {D : va_G} {cy : Nat → ClassId} {A : Nat → Prop} {d0 : Drawn} {h : Nat} {am ad : Nat → Nat} {nS nB : Nat} {v : TS} {gate : Iu} {hq t : Nat} {C N : Nat} {av : Nat → Nat} {tS tB : Nat} {ts tb : Nat → Iu} {tg tn : Iu} (F : lF p s m meth c sb L xs D cy A d0) (hI : jInv nS nB gate hq v) (hq1 : hq ≤ 2000) (hcS : nS ≤ 4) (hcB : nB ≤ 6) (hC : C ≤ 600000) (hN : N ≤ 7000000)  (KK : ∀ aw : Nat → Nat, lS p l e s m below meth c sb D A d0 250 [(0, .ref sb), (1, .ref h), (2, .ref (am 0)), (3, .int (nI t)), (5, .int (nI nS)), (6, .int (nI nB)), (7, .int (nI (hq % 24))), (8, .int (sm (fun i => v.1 i 0) nS)), (9, .int (sm (fun i => v.2.1 i 5) nB)), (10, .int (v.2.2 2)), (11, .int (v.2.2 5)), (12, .int (sm (fun i => v.1 i 2) nS)), (13, .ref (aw 0))] (sw cy am nS nB v.1 v.2.1 gate v.2.2 (xw cy h ad nS nB v.1 v.2.1 gate v.2.2 (av 0) (tw cy av tS tB ts tb tg tn) ++ wz cy aw nB v.2.1)) (C + 60) (N + 400)) : lS p l e s m below meth c sb D A d0 192 [(0, .ref sb), (1, .ref h), (2, .ref (am 0)), (3, .int (nI t)), (5, .int (nI nS)), (6, .int (nI nB)), (7, .int (nI (hq % 24))), (8, .int (sm (fun i => v.1 i 0) nS)), (9, .int (sm (fun i => v.2.1 i 5) nB)), (10, .int (v.2.2 2)), (11, .int (v.2.2 5)), (12, .int (sm (fun i => v.1 i 2) nS))] (sw cy am nS nB v.1 v.2.1 gate v.2.2 (xw cy h ad nS nB v.1 v.2.1 gate v.2.2 (av 0) (tw cy av tS tB ts tb tg tn))) (C) (N) := by
  obtain ⟨hx, hb, hts, hown, hml, hK, hX, hbl, hL, hbA, hA⟩ := id F
  intro H locs ls hP hD hS hl
  refine lv_iload hx hb dL_law_192 (lv_at hl 5 rfl) ?_
  refine lv_bipush (v := 8) hx hb dL_law_194 (by decide) ?_
  refine va_mna (X := sw cy am nS nB v.1 v.2.1 gate v.2.2 (xw cy h ad nS nB v.1 v.2.1 gate v.2.2 (av 0) (tw cy av tS tB ts tb tg tn))) (L := []) (f := fun _ => .inl (cy 0, 0, .inl (fun _ => 0))) (ty := .int) (cy := cy 0) (N' := nB) (K' := 8) (z := (8, .inl (fun _ => 0))) hx hb hown (hts (.classLink RL 94 "[[I") (List.mem_append_left _ (List.mem_append_left _ (List.mem_append_left _ (List.mem_append_left _ (List.mem_append_left _ (List.mem_append_left _ (List.mem_append_left _ (List.mem_append_left _ (List.mem_append_left _ (List.mem_append_left _ (List.mem_of_getElem? (l := wsL_law0_r1) (i := 5) rfl)))))))))))) hK.2.2.2.1 (hts (.arrayClass .int) (List.mem_append_left _ (List.mem_append_left _ (List.mem_append_left _ (List.mem_append_left _ (List.mem_append_left _ (List.mem_append_left _ (List.mem_append_left _ (List.mem_append_left _ (List.mem_append_left _ (List.mem_append_left _ (List.mem_of_getElem? (l := wsL_law0_r1) (i := 6) rfl)))))))))))) (hK.1.2 0 (cy 0, .int) rfl).2 hK.1 (was_made hP) (was_madeD hD) hS hA (nI_pos (by omega)) (by decide) (nI_clamp (by omega)) (by decide) (by omega) (by decide) (by decide) rfl rfl (by show C + (1 + nB) ≤ 606250; omega) (by show N + (nB + nB * 8) ≤ 7282873; omega) inner8 dL_law_196 (fun qa ra cA H _ _ hK1 hP hD hS => ?_)
  obtain rfl : cA = cy 3 := x_cA hK.1 hK1 (i := 3) rfl rfl
  rw [wz_made, sw_snoc] at hP hD
  generalize eaw : awF qa ra = aw at hP hD
  have hP : va_P D vwCl (sw cy am nS nB v.1 v.2.1 gate v.2.2 (xw cy h ad nS nB v.1 v.2.1 gate v.2.2 (av 0) (tw cy av tS tB ts tb tg tn) ++ wz cy aw nB (fun _ _ => 0))) H := hP
  have hD : va_D A (sw cy am nS nB v.1 v.2.1 gate v.2.2 (xw cy h ad nS nB v.1 v.2.1 gate v.2.2 (av 0) (tw cy av tS tB ts tb tg tn) ++ wz cy aw nB (fun _ _ => 0))) := hD
  refine W.eq (g2 := F0 m 200 ls [.ref (aw 0)]) (by rw [← eaw]; rfl) ?_
  refine W.widen (k := C + 7) (n := N + 54) (by omega) (by omega) ?_
  refine lv_astore (lv' := [(13, .ref (aw 0)), (0, .ref sb), (1, .ref h), (2, .ref (am 0)), (3, .int (nI t)), (5, .int (nI nS)), (6, .int (nI nB)), (7, .int (nI (hq % 24))), (8, .int (sm (fun i => v.1 i 0) nS)), (9, .int (sm (fun i => v.2.1 i 5) nB)), (10, .int (v.2.2 2)), (11, .int (v.2.2 5)), (12, .int (sm (fun i => v.1 i 2) nS))]) hx hb dL_law_200 hl (by decide) rfl (fun ls hl => ?_)
  refine lv_iconst (v := 0) hx hb dL_law_202 (by decide) ?_
  refine lv_istore (lv' := [(14, .int 0), (13, .ref (aw 0)), (0, .ref sb), (1, .ref h), (2, .ref (am 0)), (3, .int (nI t)), (5, .int (nI nS)), (6, .int (nI nB)), (7, .int (nI (hq % 24))), (8, .int (sm (fun i => v.1 i 0) nS)), (9, .int (sm (fun i => v.2.1 i 5) nB)), (10, .int (v.2.2 2)), (11, .int (v.2.2 5)), (12, .int (sm (fun i => v.1 i 2) nS))]) hx hb dL_law_203 hl (by decide) rfl (fun ls hl => ?_)
  refine W.widen (k := C + 7 + 8 * 0) (n := N + 54 + 48 * 0) (by omega) (by omega) ?_
  have loop1 : ∀ (n j : Nat) (f : Nat → Iu) (H : Heap) (locs : List Loc) (ls : Array Slot), j + n = nB → (∀ q, q < j → ∀ k, k < 8 → f q k = v.2.1 q k) → va_P D vwCl (sw cy am nS nB v.1 v.2.1 gate v.2.2 (xw cy h ad nS nB v.1 v.2.1 gate v.2.2 (av 0) (tw cy av tS tB ts tb tg tn) ++ wz cy aw nB f)) H → va_D A (sw cy am nS nB v.1 v.2.1 gate v.2.2 (xw cy h ad nS nB v.1 v.2.1 gate v.2.2 (av 0) (tw cy av tS tB ts tb tg tn) ++ wz cy aw nB f)) → va_S A s.heap H locs → lv_has ls 32 [(0, .ref sb), (1, .ref h), (2, .ref (am 0)), (3, .int (nI t)), (5, .int (nI nS)), (6, .int (nI nB)), (7, .int (nI (hq % 24))), (8, .int (sm (fun i => v.1 i 0) nS)), (9, .int (sm (fun i => v.2.1 i 5) nB)), (10, .int (v.2.2 2)), (11, .int (v.2.2 5)), (12, .int (sm (fun i => v.1 i 2) nS)), (13, .ref (aw 0)), (14, .int (nI j))] → W p l e room_1 (s.setDrawn d0) m ([.ref sb] : List Value).toArray below meth c H locs (C + 7 + 8 * j) (N + 54 + 48 * j) (lw_Z below #[Value.ref sb] s) (F0 m 205 ls []) := by
    intro n
    induction n with
    | zero =>
      intro j f H locs ls hns hinv hP hD hS hl
      have hij : j = nB := by omega
      refine lv_iload hx hb dL_law_205 (lv_at hl 13 rfl) ?_
      refine lv_iload hx hb dL_law_207 (lv_at hl 5 rfl) ?_
      refine lv_icmp_ge (tgt := 250) hx hb dL_law_209 (by decide) (fun _ => ?_) (fun h => absurd (by rw [hij]; exact Int32.le_refl _) h)
      rw [hij] at hinv
      refine W.widen (k := C + 60) (n := N + 400) (by omega) (by omega) ?_
      exact KK aw _ _ _ (wz_P hinv hP) (wz_D hD) hS (lv_sub hl [0, 1, 2, 3, 4, 5, 6, 7, 8, 9, 10, 11, 12] rfl)
    | succ n ih1 =>
      intro j f H locs ls hns hinv hP hD hS hl
      have hlt : j < nB := by omega
      have hltj := hlt
      refine lv_iload hx hb dL_law_205 (lv_at hl 13 rfl) ?_
      refine lv_iload hx hb dL_law_207 (lv_at hl 5 rfl) ?_
      refine lv_icmp_ge (tgt := 250) hx hb dL_law_209 (by decide) (fun h => absurd h (nI_ge (b := nB) hlt (by omega))) (fun _ => ?_)
      refine lv_iconst (v := 0) hx hb dL_law_212 (by decide) ?_
      refine lv_istore (lv' := [(15, .int 0), (0, .ref sb), (1, .ref h), (2, .ref (am 0)), (3, .int (nI t)), (5, .int (nI nS)), (6, .int (nI nB)), (7, .int (nI (hq % 24))), (8, .int (sm (fun i => v.1 i 0) nS)), (9, .int (sm (fun i => v.2.1 i 5) nB)), (10, .int (v.2.2 2)), (11, .int (v.2.2 5)), (12, .int (sm (fun i => v.1 i 2) nS)), (13, .ref (aw 0)), (14, .int (nI j))]) hx hb dL_law_213 hl (by decide) rfl (fun ls hl => ?_)
      refine W.widen (k := C + 7 + 8 * j + 0) (n := N + 54 + 48 * j + 6 * 0) (by omega) (by omega) ?_
      have loop2 : ∀ (n k : Nat) (f2 : Nat → Iu) (H : Heap) (locs : List Loc) (ls : Array Slot), k + n = 8 → ((∀ q, q < j → ∀ k, k < 8 → f2 q k = v.2.1 q k) ∧ (∀ x, x < k → f2 j x = v.2.1 j x)) → va_P D vwCl (sw cy am nS nB v.1 v.2.1 gate v.2.2 (xw cy h ad nS nB v.1 v.2.1 gate v.2.2 (av 0) (tw cy av tS tB ts tb tg tn) ++ wz cy aw nB f2)) H → va_D A (sw cy am nS nB v.1 v.2.1 gate v.2.2 (xw cy h ad nS nB v.1 v.2.1 gate v.2.2 (av 0) (tw cy av tS tB ts tb tg tn) ++ wz cy aw nB f2)) → va_S A s.heap H locs → lv_has ls 32 [(0, .ref sb), (1, .ref h), (2, .ref (am 0)), (3, .int (nI t)), (5, .int (nI nS)), (6, .int (nI nB)), (7, .int (nI (hq % 24))), (8, .int (sm (fun i => v.1 i 0) nS)), (9, .int (sm (fun i => v.2.1 i 5) nB)), (10, .int (v.2.2 2)), (11, .int (v.2.2 5)), (12, .int (sm (fun i => v.1 i 2) nS)), (13, .ref (aw 0)), (14, .int (nI j)), (15, .int (nI k))] → W p l e room_1 (s.setDrawn d0) m ([.ref sb] : List Value).toArray below meth c H locs (C + 7 + 8 * j + k) (N + 54 + 48 * j + 6 * k) (lw_Z below #[Value.ref sb] s) (F0 m 215 ls []) := by
        intro n
        induction n with
        | zero =>
          intro k f2 H locs ls hns hinv hP hD hS hl
          have hik : k = 8 := by omega
          refine lv_iload hx hb dL_law_215 (lv_at hl 14 rfl) ?_
          refine lv_bipush (v := 8) hx hb dL_law_217 (by decide) ?_
          refine lv_icmp_ge (tgt := 244) hx hb dL_law_219 (by decide) (fun _ => ?_) (fun h => absurd (by rw [hik]; exact Int32.le_refl _) h)
          have hinv2 : (∀ q, q < j → ∀ k, k < 8 → f2 q k = v.2.1 q k) ∧ (∀ x, x < 8 → f2 j x = v.2.1 j x) := by rw [hik] at hinv; exact hinv
          refine W.widen (k := C + 7 + 8 * (j + 1)) (n := N + 54 + 48 * (j + 1)) (by omega) (by omega) ?_
          refine lv_iinc (v := (nI (j + 1))) (lv' := [(14, .int (nI (j + 1))), (0, .ref sb), (1, .ref h), (2, .ref (am 0)), (3, .int (nI t)), (5, .int (nI nS)), (6, .int (nI nB)), (7, .int (nI (hq % 24))), (8, .int (sm (fun i => v.1 i 0) nS)), (9, .int (sm (fun i => v.2.1 i 5) nB)), (10, .int (v.2.2 2)), (11, .int (v.2.2 5)), (12, .int (sm (fun i => v.1 i 2) nS)), (13, .ref (aw 0)), (15, .int (nI k))]) hx hb dL_law_244 hl (k := 13) rfl ((nI_1 j)) (by decide) rfl (fun ls hl => ?_)
          refine lv_goto (tgt := 205) hx hb dL_law_247 (by decide) ?_
          exact ih1 (j + 1) f2 _ _ _ (by omega) (rows_next hinv2) hP hD hS (lv_sub hl [1, 2, 3, 4, 5, 6, 7, 8, 9, 10, 11, 12, 13, 0] rfl)
        | succ n ih2 =>
          intro k f2 H locs ls hns hinv hP hD hS hl
          have hlt : k < 8 := by omega
          refine lv_iload hx hb dL_law_215 (lv_at hl 14 rfl) ?_
          refine lv_bipush (v := 8) hx hb dL_law_217 (by decide) ?_
          refine lv_icmp_ge (tgt := 244) hx hb dL_law_219 (by decide) (fun h => absurd h (nI_ge (b := 8) hlt (by omega))) (fun _ => ?_)
          refine lv_aload hx hb dL_law_222 (lv_at hl 12 rfl) ?_
          refine lv_iload hx hb dL_law_224 (lv_at hl 13 rfl) ?_
          refine xaldB hx hb hK hP (4 + nS + nB + ((xw cy h ad nS nB v.1 v.2.1 gate v.2.2 (av 0) (tw cy av tS tB ts tb tg tn)).length + 0)) (am := aw) (ww_wr (at_r (k := 0) rfl)) j rfl hltj hcB dL_law_226 ?_
          refine lv_iload hx hb dL_law_227 (lv_at hl 14 rfl) ?_
          refine lv_aload_n hx hb dL_law_229 rfl (lv_at hl 1 rfl) ?_
          refine lv_iload hx hb dL_law_230 (lv_at hl 13 rfl) ?_
          refine lv_iload hx hb dL_law_232 (lv_at hl 14 rfl) ?_
          refine xcV (As := [.int (nI j), .int (nI k)]) (rest := [.int (nI k), .ref (aw (8 + j))]) ⟨hx, hb, hml, hown, hts⟩ (c_X3_baker l D cy h ad nS nB v.1 v.2.1 gate v.2.2 (av 0) (tw cy av tS tB ts tb tg tn) j hltj k (by omega) hcS hcB) (cwV 2 hts gL_law_X3_baker rfl rfl rfl (by decide +kernel) ⟨Nat.le_of_ble_eq_true rfl, Nat.le_of_ble_eq_true rfl⟩) hK hP hD hS hA rfl rfl rfl (xE_wrl) rfl hl.1 rfl (Nat.le_of_ble_eq_true rfl) dL_law_234 ⟨by show C + 7 + 8 * j + k + 1 ≤ 606250; omega, by show N + 54 + 48 * j + 6 * k + 6 ≤ 7282873; omega⟩ (fun _ H locs _ hP hD hS => ?_)
          have hP : va_P D vwCl (sw cy am nS nB v.1 v.2.1 gate v.2.2 (xw cy h ad nS nB v.1 v.2.1 gate v.2.2 (av 0) (tw cy av tS tB ts tb tg tn) ++ wz cy aw nB f2)) H := hP
          have hD : va_D A (sw cy am nS nB v.1 v.2.1 gate v.2.2 (xw cy h ad nS nB v.1 v.2.1 gate v.2.2 (av 0) (tw cy av tS tB ts tb tg tn) ++ wz cy aw nB f2)) := hD
          refine W.eq (g2 := F0 m 237 ls [.int (v.2.1 j k), .int (nI k), .ref (aw (8 + j))]) (by first | (rw [bFact_eq (hI.1.2.1 j hltj).2.1]; done) | (rw [bFact_eq (hI.1.2.1 j hltj).2.1]; rfl)) ?_
          refine W.cs (cells' := C + 7 + 8 * j + (k + 1)) (slots' := N + 54 + 48 * j + 6 * (k + 1)) (by first | rfl | omega) (by first | rfl | omega) ?_
          refine xiast hx hb hK hP hD hS (4 + nS + nB + ((xw cy h ad nS nB v.1 v.2.1 gate v.2.2 (av 0) (tw cy av tS tB ts tb tg tn)).length + (1 + j))) (ww_wr (at_r (k := 1 + j) (wz_at hltj))) k rfl (by omega) (by decide) dL_law_237 (fun H locs hP hD hS => ?_)
          have hP : va_P D vwCl (sw cy am nS nB v.1 v.2.1 gate v.2.2 (xw cy h ad nS nB v.1 v.2.1 gate v.2.2 (av 0) (tw cy av tS tB ts tb tg tn) ++ wz cy aw nB (va_up f2 j (upd (f2 j) k (v.2.1 j k))))) H := by rw [ww_set_wr, wz_set hltj] at hP; exact hP
          have hD : va_D A (sw cy am nS nB v.1 v.2.1 gate v.2.2 (xw cy h ad nS nB v.1 v.2.1 gate v.2.2 (av 0) (tw cy av tS tB ts tb tg tn) ++ wz cy aw nB (va_up f2 j (upd (f2 j) k (v.2.1 j k))))) := by rw [ww_set_wr, wz_set hltj] at hD; exact hD
          refine lv_iinc (v := (nI (k + 1))) (lv' := [(15, .int (nI (k + 1))), (0, .ref sb), (1, .ref h), (2, .ref (am 0)), (3, .int (nI t)), (5, .int (nI nS)), (6, .int (nI nB)), (7, .int (nI (hq % 24))), (8, .int (sm (fun i => v.1 i 0) nS)), (9, .int (sm (fun i => v.2.1 i 5) nB)), (10, .int (v.2.2 2)), (11, .int (v.2.2 5)), (12, .int (sm (fun i => v.1 i 2) nS)), (13, .ref (aw 0)), (14, .int (nI j))]) hx hb dL_law_238 hl (k := 14) rfl ((nI_1 k)) (by decide) rfl (fun ls hl => ?_)
          refine lv_goto (tgt := 215) hx hb dL_law_241 (by decide) ?_
          exact ih2 (k + 1) (va_up f2 j (upd (f2 j) k (v.2.1 j k))) _ _ _ (by omega) (rows_put hinv) hP hD hS (lv_sub hl [1, 2, 3, 4, 5, 6, 7, 8, 9, 10, 11, 12, 13, 14, 0] rfl)
      exact loop2 8 0 f _ _ _ (by omega) (⟨hinv, fun x hx => absurd hx (Nat.not_lt_zero x)⟩) hP hD hS (lv_sub hl [1, 2, 3, 4, 5, 6, 7, 8, 9, 10, 11, 12, 13, 14, 0] rfl)
  exact loop1 nB 0 (fun _ _ => 0) _ _ _ (by omega) (fun q hq _ _ => absurd hq (Nat.not_lt_zero q)) hP hD hS (lv_sub hl [2, 3, 4, 5, 6, 7, 8, 9, 10, 11, 12, 13, 1, 0] rfl)
