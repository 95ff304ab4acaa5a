/-! ===== the law from its entry ===== -/
theorem l_arr {args : Array Value} {s : State} {ty : FieldType} (h : (Cond.arrayClass ty).before args s = true) : ∃ cA : ClassId, ArrOfT s cA ty ∧ s.vm.findClass ("[" ++ ty.toString) = some cA := by
  obtain ⟨c, k, comp, h1, h2, h3⟩ := Cond.arrayClass_spec h
  exact ⟨c, fun n z => ⟨fun k h => (by cases h), k, h2, comp, h3⟩, h1⟩
theorem l_obj {args : Array Value} {s : State} {C : String} (h : (Cond.arrayOver (.object C)).before args s = true) : ∃ cA : ClassId, ArrOfT s cA (.object C) ∧ va_RA s cA (.object C) := by
  obtain ⟨comp, c, k, h1, -, h2, h3, h4⟩ := Cond.arrayOver_spec h
  exact ⟨c, fun n z => ⟨fun k h => (by cases h), k, h2, comp, h3⟩, k, comp, h2, h3, h1, h4⟩
theorem l_oa {args : Array Value} {s : State} (h : (Cond.arrayOver (.array .int)).before args s = true) : ∃ cA : ClassId, ArrOfT s cA (.array .int) ∧ s.vm.findClass ("[" ++ (FieldType.array .int).toString) = some cA := by
  obtain ⟨comp, c, k, h1, -, h2, h3, h4⟩ := arrayOverA_spec h
  exact ⟨c, fun n z => ⟨fun k h => (by cases h), k, h2, comp, h3⟩, h4⟩
theorem l_facts {p : Program} {s : State} {m : MethodId} {meth : Method} {c : Code} {b L : Nat} {xs : Nat → Int32} (C0 : lw_At p s m meth c b L xs) : ∃ (D : va_G) (cy : Nat → ClassId), XK D cy s ∧ va_Nw (.methodLinkNest RX3 9 yX2_init "LoafMarks") s ∧ va_Nw (.methodLinkNest RL 68 yX4_init "LoafMarksLaw") s := by
  obtain ⟨hx, hb, hr, hml, hown, hts, hX, hbl, hlocks, hgv⟩ := id C0
  obtain ⟨c0, i0, k0⟩ := u_known (C := RX0) (T := TX0) (N := 8) (n := 8) hts inX0 (hts _ (by decide +kernel))
  obtain ⟨c1, i1, k1⟩ := u_known (C := RX1) (T := TX1) (N := 3) (n := 3) hts inX1 (hts _ (by decide +kernel))
  obtain ⟨c2, i2, k2⟩ := u_known (C := RX2) (T := TX2) (N := 9) (n := 9) hts inX2 (hts _ (by decide +kernel))
  obtain ⟨c3, i3, k3⟩ := u_known (C := RX3) (T := TX3) (N := 2) (n := 2) hts inX3 (hts _ (by decide +kernel))
  obtain ⟨c4, i4, k4⟩ := u_known (C := RX4) (T := TX4) (N := 9) (n := 9) hts inX4 (hts _ (by decide +kernel))
  obtain ⟨y0, a0, f0⟩ := l_arr (hts (.arrayClass .int) (by decide +kernel))
  have o1 := hts (.arrayOver (.object RX1)) (by decide +kernel)
  have o2 := hts (.arrayOver (.object RX0)) (by decide +kernel)
  have o3 := hts (.arrayOver (.array .int)) (by decide +kernel)
  obtain ⟨y1, a1, f1⟩ := l_obj o1
  obtain ⟨y2, a2, f2⟩ := l_obj o2
  obtain ⟨y3, a3, f3⟩ := l_oa o3
  obtain ⟨y4, a4, f4⟩ := l_arr (hts (.arrayClass .byte) (by decide +kernel))
  refine ⟨(fun n => [c0, c1, c2, c3, c4].getD n c0, fun n => [i0, i1, i2, i3, i4].getD n i0), fun n => [y0, y1, y2, y3, y4].getD n y0, ⟨⟨?_, ?_⟩, o1, o2, o3, trivial⟩, va_Nw.of rfl (hts (.methodLinkNest RX3 9 yX2_init "LoafMarks") (by decide +kernel)), va_Nw.of rfl (hts (.methodLinkNest RL 68 yX4_init "LoafMarksLaw") (by decide +kernel))⟩
  · intro n q hq
    match n, hq with
    | 0, hq => cases hq; exact k0
    | 1, hq => cases hq; exact k1
    | 2, hq => cases hq; exact k2
    | 3, hq => cases hq; exact k3
    | 4, hq => cases hq; exact k4
    | n + 5, hq => cases hq
  · intro n q hq
    match n, hq with
    | 0, hq => cases hq; exact ⟨a0, f0⟩
    | 1, hq => cases hq; exact ⟨a1, f1⟩
    | 2, hq => cases hq; exact ⟨a2, f2⟩
    | 3, hq => cases hq; exact ⟨a3, f3⟩
    | 4, hq => cases hq; exact ⟨a4, f4⟩
    | n + 5, hq => cases hq
section XLX
variable {S : Type} {p : Program} {l : Launch} {e : Env} {R : Room} {s : State} {m : MethodId} {args : Array Value} {below : List Frame} {meth : Method} {c : Code} {H H0 : Heap} {locs : List Loc} {cells slots : Nat} {Q : State → Prop} {cc : ByteArray} {pc : Nat} {ls : Array Slot} {D : va_G} {cy : Nat → ClassId} {A : Nat → Prop} {rv : S → Option Value} {P : S → Prop} {w0 ws : va_W} {w1 out : S → va_W} {rm : Room} {Ts wd : List Cond} {own : String} {y : MethodName} {nL maxL index n : Nat} {bytes : ByteArray} {b : Addr} {As rest st : List Value}
theorem xcIx {X : State → Prop} (F : CallFix p m c cc nL s args Ts own) (hM : xMx X l D cy y wd rm (.ref b :: As) w0 rv P w1) (cw : CallB R s args own index y bytes maxL none wd rm rm.cells rm.slots n ∧ y.name = "<init>" ∧ (Cond.instanceMethod y).before args s = true)
    (hbl : ∀ U g mk a, X U → X (State.calling U g mk a)) (hX : ∀ U : State, s.WarmedH U.vm → X U) (hK : XK D cy s) (hP : va_P D vwCl ws H) (hD : va_D A ws) (hS : va_S A H0 H locs) (hA : ∀ q : Nat, H0.size ≤ q → A q) (hE : xE ws w0 w1 out)
    (hn : As.length = n) (hsize : ls.size = nL) (hst : st = As.reverse ++ .ref b :: rest) (hrest : (rest.map fun v => v.category).sum ≤ 8) (hdg : decode cc pc = .ok (.invokespecial index, 3)) (hf : cells + rm.cells ≤ R.cells ∧ slots + rm.slots ≤ R.slots)
    (kk : ∀ (u : S) (H1 : Heap) (locs1 : List Loc), P u → va_P D vwCl (out u) H1 → va_D A (out u) → va_S A H0 H1 locs1 → W p l e R s m args below meth c H1 locs1 (cells + rm.cells) (slots + rm.slots) Q (F0 m (pc + 3) ls ((rv u).toList ++ rest))) : W p l e R s m args below meth c H locs cells slots Q (F0 m pc ls st) := by
  subst hst
  obtain ⟨hPw, hDw⟩ := xE_fr hE hP hD
  have hblind : FrameBlind (va_Pc (.ref b :: As) (fun U => xPre D cy w0 H.size U ∧ X U)) := fun a U g mk q => by
    obtain ⟨q0, ⟨q1, qP, qK, qD⟩, qX⟩ := q
    exact ⟨q0, ⟨q1, qP, XK.same rfl qK, qD⟩, hbl _ _ _ _ qX⟩
  refine xgo (va_runI (As := As) (rest := rest) F (hM H.size) cw ⟨hblind, fun U hU hW => ⟨rfl, ⟨by rw [hU], by rw [hU]; exact hPw, hK.warmed hW, hDw⟩, hX U hW⟩⟩ rfl hn hsize rfl (lv_room hrest) hdg hf) hP hD hS hA hE kk
end XLX
/-- the law at the step t -/
def lH (p : Program) (l : Launch) (e : Env) (s : State) (m : MethodId) (below : List Frame) (meth : Method) (c : Code) (sb : Nat) (D : va_G) (cy : Nat → ClassId) (A : Nat → Prop) (d0 : Drawn) (h a0 t : Nat) : Prop :=
  ∀ (u : ST) (hq : Nat) (av : Nat → Nat) (tS tB : Nat) (ts tb : Nat → Iu) (tg tn : Iu), aP hq tS tB a0 u → hq ≤ 27 * t → lS p l e s m below meth c sb D A d0 22 [(0, .ref sb), (1, .ref h), (2, .ref a0), (3, .int (nI t))] (LW cy h (av 0) (tw cy av tS tB ts tb tg tn) u) (200 + 400 * t) (2000 + 2500 * t)
theorem l_iter {p : Program} {l : Launch} {e : Env} {s : State} {m : MethodId} {below : List Frame} {meth : Method} {c : Code} {sb L : Nat} {xs : Nat → Int32} {D : va_G} {cy : Nat → ClassId} {A : Nat → Prop} {d0 : Drawn} {h a0 t : Nat} (F : lF p s m meth c sb L xs D cy A d0) (ht : t < 44) (KK : lH p l e s m below meth c sb D cy A d0 h a0 (t + 1)) : lH p l e s m below meth c sb D cy A d0 h a0 t := by
  intro u hq av tS tB ts tb tg tn hu hhq
  refine s_1 (am := fun _ => 0) (ad := fun _ => 0) (nS := 0) (nB := 0) (v := (fun _ _ => 0, fun _ _ => 0, fun _ => 0)) (gate := fun _ => 0) (aw := fun _ => 0) F (by omega) (by omega) (by omega) hu ht (fun u2 hq2 hu2 hq3 => ?_)
  obtain ⟨am, ad, nS, nB, v, gate⟩ := u2
  obtain ⟨hI, htS, htB, hcS, hcB, ha⟩ := hu2
  have ha : am 0 = a0 := ha
  subst ha
  have h2 : hq2 ≤ 2000 := by omega
  refine s_2a F hI h2 hcS hcB (by omega) (by omega) (s_2b F hI h2 hcS hcB (by omega) (by omega) (fun aw => s_3 F hI h2 hcS hcB (by omega) (by omega) htS htB (fun av2 tS2 tB2 ts2 tb2 tg2 tn2 g1 g2 => s_4 F hI h2 hcS hcB (by omega) (by omega) (s_5 F hI h2 hcS hcB (by omega) (by omega) (s_6 F hI h2 hcS hcB (by omega) (by omega) ht ?_)))))
  intro H locs ls hP hD hS hl
  refine W.widen (k := 200 + 400 * (t + 1)) (n := 2000 + 2500 * (t + 1)) (by omega) (by omega) ?_
  exact KK (am, ad, nS, nB, hour1 nS nB (hq2 % 24) gate v, gate) (hq2 + 1) av2 tS2 tB2 ts2 tb2 tg2 tn2 ⟨jinv_hour hI hcS (by omega), g1, g2, hcS, hcB, rfl⟩ (by omega) _ _ _ hP hD hS hl
theorem l_last {p : Program} {l : Launch} {e : Env} {s : State} {m : MethodId} {below : List Frame} {meth : Method} {c : Code} {sb L : Nat} {xs : Nat → Int32} {D : va_G} {cy : Nat → ClassId} {A : Nat → Prop} {d0 : Drawn} {h a0 : Nat} (F : lF p s m meth c sb L xs D cy A d0) (hAe : ∀ q : Nat, A q → s.heap.size ≤ q) (hr : meth.sig.returnType = ret) (hlocks : meth.locks = false) (hd0 : s.drawn.sameBut d0 lw_cs) : lH p l e s m below meth c sb D cy A d0 h a0 44 := by
  intro u hq av tS tB ts tb tg tn hu hhq
  obtain ⟨am, ad, nS, nB, v, gate⟩ := u
  obtain ⟨hI, htS, htB, hcS, hcB, ha⟩ := hu
  have ha : am 0 = a0 := ha
  subst ha
  obtain ⟨hx, hb, hts, hown, hml, hK, hX, hbl, hL, hbA, hA⟩ := id F
  intro H locs ls hP hD hS hl
  refine lv_iload_n hx hb dL_law_22 rfl (lv_at hl 3 rfl) ?_
  refine lv_bipush (v := 44) hx hb dL_law_23 (by decide) ?_
  refine lv_icmp_ge (tgt := 997) hx hb dL_law_25 (by decide) (fun _ => ?_) (fun z => absurd (Int32.le_refl _) z)
  refine lv_aload_n hx hb dL_law_997 rfl (lv_at hl 2 rfl) ?_
  refine lv_aload_n hx hb dL_law_998 rfl (lv_at hl 1 rfl) ?_
  refine xcVD (As := [.ref h]) (rest := []) hd0 ⟨hx, hb, hml, hown, hts⟩ (c_X4_isSame l D cy h am ad nS nB v.1 v.2.1 gate v.2.2 (av 0) (tw cy av tS tB ts tb tg tn) hq hI (by omega) hcS hcB) (cwV 1 hts gL_law_X4_isSame rfl rfl rfl (by decide +kernel) ⟨Nat.le_of_ble_eq_true rfl, Nat.le_of_ble_eq_true rfl⟩) hK hP hD hS hA rfl rfl rfl xE_all rfl hl.1 rfl (Nat.le_of_ble_eq_true rfl) dL_law_999 ⟨Nat.le_of_ble_eq_true rfl, Nat.le_of_ble_eq_true rfl⟩ (fun _ H locs d1 hd1 _ hP hD hS => ?_)
  refine W.eq (g2 := F0 m 1002 ls [.int 1]) rfl ?_
  refine W.widen (k := 606250) (n := 7282873) (Nat.le_of_ble_eq_true rfl) (Nat.le_of_ble_eq_true rfl) ?_
  refine va_forget (fun q hq => hAe _ (hS.2.2 q hq)) ?_
  exact lw_ret hd1 hx hb hr hlocks dL_law_1002
theorem l_all {p : Program} {l : Launch} {e : Env} {s : State} {m : MethodId} {below : List Frame} {meth : Method} {c : Code} {sb L : Nat} {xs : Nat → Int32} {D : va_G} {cy : Nat → ClassId} {A : Nat → Prop} {d0 : Drawn} {h a0 : Nat} (F : lF p s m meth c sb L xs D cy A d0) (hAe : ∀ q : Nat, A q → s.heap.size ≤ q) (hr : meth.sig.returnType = ret) (hlocks : meth.locks = false) (hd0 : s.drawn.sameBut d0 lw_cs) : ∀ n t, t + n = 44 → lH p l e s m below meth c sb D cy A d0 h a0 t
  | 0, t, ht => by
    have e : t = 44 := by omega
    subst e
    exact l_last F hAe hr hlocks hd0
  | n + 1, t, ht => l_iter F (by omega) (l_all F hAe hr hlocks hd0 n (t + 1) (by omega))
set_option maxHeartbeats 4000000 in
set_option maxRecDepth 100000 in
theorem whole_start {p : Program} {e : Env} {s : State} {m : MethodId} {below : List Frame} {meth : Method} {c : Code} (l : Launch) (hflags : l.flags = flags0) {b L : Nat} {xs : Nat → Int32} (hL : L ≤ 260) (C0 : lw_At p s m meth c b L xs) : W p l e room_1 s m #[Value.ref b] below meth c s.heap [] 0 0 (lw_Z below #[Value.ref b] s) (entryFrame m ([Value.ref b] : List Value).toArray 32) := by
  obtain ⟨D, cy, hK0, hN1, hN2⟩ := l_facts C0
  obtain ⟨hx, hb, hr, hml, hown, hts0, hX0, hbl, hlocks, hgv⟩ := id C0
  have hd0 := Drawn.sameBut.refl s.drawn lw_cs
  refine W.base ?_
  have hA : ∀ q : Nat, s.heap.size ≤ q → (fun q : Nat => s.heap.size ≤ q) q := fun _ z => z
  have hbA : ¬ (fun q : Nat => s.heap.size ≤ q) b := Nat.not_le.mpr hbl
  have htsT : ∀ w ∈ lw_tbl, w.before #[Value.ref b] (s.setDrawn s.drawn) = true := dr_words hts0 s.drawn
  have hts : ∀ w ∈ wsL_law, w.before #[Value.ref b] (s.setDrawn s.drawn) = true := fun w z => htsT w (wsL_law_in w z)
  have hK := XK.same (s := s) (U := s.setDrawn s.drawn) rfl hK0
  have hX : va_X b L xs (s.setDrawn s.drawn) s.heap := va_X.moved (Vm.Alike.refl _) hX0
  have F : lF p s m meth c b L xs D cy (fun q : Nat => s.heap.size ≤ q) s.drawn := ⟨hx, hb, hts, hown, hml, hK, hX, hbl, by omega, hbA, hA⟩
  have hS : va_S (fun q : Nat => s.heap.size ≤ q) s.heap s.heap [] := va_S.rf
  have hP : va_P D vwCl [] s.heap := fun k q hq => by simp at hq
  have hD : va_D (fun q : Nat => s.heap.size ≤ q) [] := xD_iff.mpr ⟨by simp, fun q hq => absurd hq List.not_mem_nil⟩
  have hl := lv_entry ([.ref b]) (n := 32) (Nat.le_of_ble_eq_true rfl)
  rw [lg_entry_eq]
  generalize (lg_sl ([.ref b]) ++ List.replicate (32 - (lg_sl ([.ref b])).length) Slot.unset).toArray = ls at hl ⊢
  have hl : lv_has ls 32 [(0, .ref b)] := hl
  refine va_new (ci := 3) (fs := [.null, .null]) (C := RX3) (T := TX3) (N := 2) hx hb htsT inX3 tyX3 tyX3_ok hown (htsT (.classLink RL 29 RX3) (by decide +kernel)) (htsT (.instantiable RX3 2) (by decide +kernel)) (htsT (.initialized RX3) (by decide +kernel)) hK.1 hP hD hS hA rfl (fun j hj => by rcases (show j = 0 ∨ j = 1 by omega) with rfl | rfl <;> rfl) (Nat.le_of_ble_eq_true rfl) (Nat.le_of_ble_eq_true rfl) dL_law_0 (fun h H hP hD hS => ?_)
  have hP : va_P D vwCl [(h, .inr (3, [.null, .null]))] H := hP
  have hD : va_D (fun q : Nat => s.heap.size ≤ q) [(h, .inr (3, [.null, .null]))] := hD
  refine lv_dup hx hb dL_law_3 rfl ?_
  refine xcIx (As := []) (rest := [.ref h]) ⟨hx, hb, hml, hown, hts⟩ (c_X3_init l D cy h) (cwI 0 hts gL_law_X3_init rfl rfl rfl (htsT (.initialized RX3) (by decide +kernel)) (htsT (.methodLink RL 77 yX3_init) (by decide +kernel)) (htsT (.instanceMethod yX3_init) (by decide +kernel)) rfl (by decide +kernel) ⟨Nat.le_of_ble_eq_true rfl, Nat.le_of_ble_eq_true rfl⟩) (fun U g mk a z => va_Nw.same rfl (u := U) rfl z) (fun U hW => va_Nw.warmM hW (va_Nw.same rfl (u := s) rfl hN1)) hK hP hD hS hA xE_all rfl hl.1 rfl (Nat.le_of_ble_eq_true rfl) dL_law_4 ⟨Nat.le_of_ble_eq_true rfl, Nat.le_of_ble_eq_true rfl⟩ (fun u H locs _ hP hD hS => ?_)
  obtain ⟨ad, av⟩ := u
  have hP : va_P D vwCl (xw cy h ad 0 0 (fun _ _ => 0) (fun _ _ => 0) (fun _ => 0) nu0 (av 0) (tw cy av 0 0 (fun _ _ => 0) (fun _ _ => 0) (fun _ => 0) nu0)) H := hP
  have hD : va_D (fun q : Nat => s.heap.size ≤ q) (xw cy h ad 0 0 (fun _ _ => 0) (fun _ _ => 0) (fun _ => 0) nu0 (av 0) (tw cy av 0 0 (fun _ _ => 0) (fun _ _ => 0) (fun _ => 0) nu0)) := hD
  refine W.eq (g2 := F0 m 7 ls [.ref h]) rfl ?_
  refine lv_astore_n (lv' := [(1, .ref h), (0, .ref b)]) hx hb dL_law_7 rfl hl (by decide) rfl (fun ls hl => ?_)
  refine lv_aload_n hx hb dL_law_8 rfl (lv_at hl 0 rfl) ?_
  refine lv_aload_n hx hb dL_law_9 rfl (lv_at hl 1 rfl) ?_
  refine xcSs (As := [.ref h, .ref b]) (rest := []) ⟨hx, hb, hml, hown, hts⟩ (c_L_build l D cy b L xs (by omega) h ad (av 0) (tw cy av 0 0 (fun _ _ => 0) (fun _ _ => 0) (fun _ => 0) nu0)) (va_cwS 2 hts gL_law_L_build rfl rfl rfl (by decide +kernel) ⟨Nat.le_of_ble_eq_true rfl, Nat.le_of_ble_eq_true rfl⟩) (fun U hW => va_Nw.warmM hW (va_Nw.same rfl (u := s) rfl hN2)) (fun U g mk a z => va_Nw.same rfl (u := U) rfl z) hX hbl hbA hK hP hD hS hA xE_all rfl hl.1 rfl (Nat.le_of_ble_eq_true rfl) dL_law_10 ⟨Nat.le_of_ble_eq_true rfl, Nat.le_of_ble_eq_true rfl⟩ (fun u H locs hu hP hD hS => ?_)
  refine W.eq (g2 := F0 m 13 ls [.ref (u.1 0)]) rfl ?_
  refine lv_astore_n (lv' := [(2, .ref (u.1 0)), (1, .ref h), (0, .ref b)]) hx hb dL_law_13 rfl hl (by decide) rfl (fun ls hl => ?_)
  refine lv_aload_n hx hb dL_law_14 rfl (lv_at hl 0 rfl) ?_
  refine lv_ifnonnull (tgt := 20) hx hb dL_law_15 (by decide) ?_
  refine lv_iconst (v := 0) hx hb dL_law_20 (by decide) ?_
  refine lv_istore_n (lv' := [(3, .int 0), (2, .ref (u.1 0)), (1, .ref h), (0, .ref b)]) hx hb dL_law_21 rfl hl (by decide) rfl (fun ls hl => ?_)
  refine W.widen (k := 200 + 400 * 0) (n := 2000 + 2500 * 0) (Nat.le_of_ble_eq_true rfl) (Nat.le_of_ble_eq_true rfl) ?_
  exact l_all F (fun _ z => z) hr hlocks hd0 44 0 rfl u 0 av 0 0 (fun _ _ => 0) (fun _ _ => 0) (fun _ => 0) nu0 hu (Nat.le_refl 0) H _ ls hP hD hS (lv_sub hl [3, 2, 1, 0] rfl)
