/-! ===== the law from its entry ===== -/
section XLX
variable {S : Type} {p : Program} {l : Launch} {e : Env} {R : Room} {s : State} {m : MethodId} {args : Array Value} {below : List Frame} {meth : Method} {c : Code} {H H0 : Heap} {locs : List Loc} {cells slots : Nat} {Q : State → Prop} {cc : ByteArray} {pc : Nat} {ls : Array Slot} {D : va_G} {cy : Nat → ClassId} {A : Nat → Prop} {rv : S → Option Value} {P : S → Prop} {w0 ws : va_W} {w1 out : S → va_W} {rm : Room} {Ts wd : List Cond} {own : String} {y : MethodName} {nL maxL index n : Nat} {bytes : ByteArray} {b : Addr} {As rest st : List Value}
theorem xcIx {X : State → Prop} (F : CallFix p m c cc nL s args Ts own) (hM : xMx X l D cy y wd rm (.ref b :: As) w0 rv P w1) (cw : CallB R s args own index y bytes maxL none wd rm rm.cells rm.slots n ∧ y.name = "<init>" ∧ (Cond.instanceMethod y).before args s = true)
    (hbl : ∀ U g mk a, X U → X (State.calling U g mk a)) (hX : ∀ U : State, s.WarmedH U.vm → X U) (hK : XK D cy s) (hP : va_P D vwCl ws H) (hD : va_D A ws) (hS : va_S A H0 H locs) (hA : ∀ q : Nat, H0.size ≤ q → A q) (hE : xE ws w0 w1 out)
    (hn : As.length = n) (hsize : ls.size = nL) (hst : st = As.reverse ++ .ref b :: rest) (hrest : (rest.map fun v => v.category).sum ≤ 8) (hdg : decode cc pc = .ok (.invokespecial index, 3)) (hf : cells + rm.cells ≤ R.cells ∧ slots + rm.slots ≤ R.slots)
    (kk : ∀ (u : S) (H1 : Heap) (locs1 : List Loc), P u → va_P D vwCl (out u) H1 → va_D A (out u) → va_S A H0 H1 locs1 → W p l e R s m args below meth c H1 locs1 (cells + rm.cells) (slots + rm.slots) Q (F0 m (pc + 3) ls ((rv u).toList ++ rest))) : W p l e R s m args below meth c H locs cells slots Q (F0 m pc ls st) := by
  subst hst
  obtain ⟨hPw, hDw⟩ := xE_fr hE hP hD
  have hblind : FrameBlind (va_Pc (.ref b :: As) (fun U => xPre D cy w0 H.size U ∧ X U)) := fun a U g mk q => by
    obtain ⟨q0, ⟨q1, qP, qK, qD⟩, qX⟩ := q
    exact ⟨q0, ⟨q1, qP, XK.same rfl qK, qD⟩, hbl _ _ _ _ qX⟩
  refine xgo (va_runI (As := As) (rest := rest) F (hM H.size) cw ⟨hblind, fun U hU hW => ⟨rfl, ⟨by rw [hU], by rw [hU]; exact hPw, hK.warmed hW, hDw⟩, hX U hW⟩⟩ rfl hn hsize rfl (lv_room hrest) hdg hf) hP hD hS hA hE kk
end XLX
set_option maxHeartbeats 4000000 in
set_option maxRecDepth 100000 in
theorem whole_start {p : Program} {e : Env} {s : State} {m : MethodId} {below : List Frame} {meth : Method} {c : Code} (l : Launch) (hflags : l.flags = flags0) {b L : Nat} {xs : Nat → Int32} (hL : L ≤ 2560) (C0 : lw_At p s m meth c b L xs) : W p l e room_1 s m #[Value.ref b] below meth c s.heap [] 0 0 (lw_Z below #[Value.ref b] s) (entryFrame m ([Value.ref b] : List Value).toArray 9) := by
  obtain ⟨D, cy, sa, hK0, hV0, hZ0, hN0, hnest0⟩ := l_facts C0
  obtain ⟨hx, hb, hr, hml, hown, hts0, hX0, hbl, hlocks, hgv⟩ := id C0
  have hst : l.stackTraces = false := by
    unfold Launch.stackTraces
    rw [hflags]
    decide +kernel
  have C1 : lwC p l s m meth c b L xs D cy sa := ⟨hst, C0, hK0, hV0, hZ0, hN0, hL⟩
  have hd0 := Drawn.sameBut.refl s.drawn lw_cs
  refine W.base ?_
  have hA : ∀ q : Nat, s.heap.size ≤ q → (fun q : Nat => s.heap.size ≤ q) q := fun _ z => z
  have htsT : ∀ w ∈ lw_tbl, w.before #[Value.ref b] (s.setDrawn s.drawn) = true := dr_words hts0 s.drawn
  have hts : ∀ w ∈ wsL_law, w.before #[Value.ref b] (s.setDrawn s.drawn) = true := fun w z => htsT w (wsL_law_in w z)
  have hK := XK.same (s := s) (U := s.setDrawn s.drawn) rfl hK0
  have hS : va_S (fun q : Nat => s.heap.size ≤ q) s.heap s.heap [] := va_S.rf
  have hP : va_P D vwCl [] s.heap := fun k q hq => by simp at hq
  have hD : va_D (fun q : Nat => s.heap.size ≤ q) [] := xD_iff.mpr ⟨by simp, fun q hq => absurd hq List.not_mem_nil⟩
  have hl := lv_entry ([.ref b]) (n := 9) (Nat.le_of_ble_eq_true rfl)
  rw [lg_entry_eq]
  generalize (lg_sl ([.ref b]) ++ List.replicate (9 - (lg_sl ([.ref b])).length) Slot.unset).toArray = ls at hl ⊢
  have hl : lv_has ls 9 [(0, .ref b)] := hl
  refine va_new (ci := 3) (fs := [.null, .null]) (C := RX3) (T := TX3) (N := 2) hx hb htsT inX3 tyX3 tyX3_ok hown (htsT (.classLink RL 8 RX3) (by decide +kernel)) (htsT (.instantiable RX3 2) (by decide +kernel)) (htsT (.initialized RX3) (by decide +kernel)) hK.1 hP hD hS hA rfl (fun j hj => by rcases (show j = 0 ∨ j = 1 by omega) with rfl | rfl <;> rfl) (Nat.le_of_ble_eq_true rfl) (Nat.le_of_ble_eq_true rfl) dL_law_0 (fun h H hP hD hS => ?_)
  have hP : va_P D vwCl [(h, .inr (3, [.null, .null]))] H := hP
  have hD : va_D (fun q : Nat => s.heap.size ≤ q) [(h, .inr (3, [.null, .null]))] := hD
  refine lv_dup hx hb dL_law_3 rfl ?_
  refine xcIx (As := []) (rest := [.ref h]) ⟨hx, hb, hml, hown, hts⟩ (c_X3_init l D cy h) (cwI 0 hts gL_law_X3_init rfl rfl rfl (htsT (.initialized RX3) (by decide +kernel)) (htsT (.methodLink RL 64 yX3_init) (by decide +kernel)) (htsT (.instanceMethod yX3_init) (by decide +kernel)) rfl (by decide +kernel) ⟨Nat.le_of_ble_eq_true rfl, Nat.le_of_ble_eq_true rfl⟩) (fun U g mk a z => va_Nw.same rfl (u := U) rfl z) (fun U hW => va_Nw.warmM hW (va_Nw.same rfl (u := s) rfl hnest0)) hK hP hD hS hA xE_all rfl hl.1 rfl (Nat.le_of_ble_eq_true rfl) dL_law_4 ⟨Nat.le_of_ble_eq_true rfl, Nat.le_of_ble_eq_true rfl⟩ (fun u H locs _ hP hD hS => ?_)
  obtain ⟨ad, av⟩ := u
  have hP : va_P D vwCl (xw cy h ad 0 0 (fun _ _ => 0) (fun _ _ => 0) (fun _ => 0) nu0 (av 0) (tw cy av 0 0 (fun _ _ => 0) (fun _ _ => 0) (fun _ => 0) nu0)) H := hP
  have hD : va_D (fun q : Nat => s.heap.size ≤ q) (xw cy h ad 0 0 (fun _ _ => 0) (fun _ _ => 0) (fun _ => 0) nu0 (av 0) (tw cy av 0 0 (fun _ _ => 0) (fun _ _ => 0) (fun _ => 0) nu0)) := hD
  refine W.eq (g2 := F0 m 7 ls [.ref h]) rfl ?_
  refine lv_astore_n (lv' := [(1, .ref h), (0, .ref b)]) hx hb dL_law_7 rfl hl (by decide) rfl (fun ls hl => ?_)
  refine va_new (ci := 4) (fs := [.int 0, .int 0, .int 0, .int 0, .null, .null, .null, .null]) (C := RX4) (T := TX4) (N := 8) hx hb htsT inX4 tyX4 tyX4_ok hown (htsT (.classLink RL 65 RX4) (by decide +kernel)) (htsT (.instantiable RX4 8) (by decide +kernel)) (htsT (.initialized RX4) (by decide +kernel)) hK.1 hP hD hS hA rfl (fun j hj => by rcases (show j = 0 ∨ j = 1 ∨ j = 2 ∨ j = 3 ∨ j = 4 ∨ j = 5 ∨ j = 6 ∨ j = 7 by omega) with rfl | rfl | rfl | rfl | rfl | rfl | rfl | rfl <;> rfl) (Nat.le_of_ble_eq_true rfl) (Nat.le_of_ble_eq_true rfl) dL_law_8 (fun mb H hP hD hS => ?_)
  refine lv_dup hx hb dL_law_11 rfl ?_
  refine xcI (As := []) (rest := [.ref mb]) ⟨hx, hb, hml, hown, hts⟩ (c_X4_init l D cy mb) (cwI 0 hts gL_law_X4_init rfl rfl rfl (htsT (.initialized RX4) (by decide +kernel)) (htsT (.methodLink RL 67 yX4_init) (by decide +kernel)) (htsT (.instanceMethod yX4_init) (by decide +kernel)) rfl (by decide +kernel) ⟨Nat.le_of_ble_eq_true rfl, Nat.le_of_ble_eq_true rfl⟩) hK hP hD hS hA xE_r rfl hl.1 rfl (Nat.le_of_ble_eq_true rfl) dL_law_12 ⟨Nat.le_of_ble_eq_true rfl, Nat.le_of_ble_eq_true rfl⟩ (fun am H locs _ hP hD hS => ?_)
  refine W.eq (g2 := F0 m 15 ls [.ref mb]) rfl ?_
  refine lv_astore_n (lv' := [(2, .ref mb), (1, .ref h), (0, .ref b)]) hx hb dL_law_15 rfl hl (by decide) rfl (fun ls hl => ?_)
  refine lv_iconst (v := 1) hx hb dL_law_16 (by decide) ?_
  refine va_newa (atype := .long) (N' := 1) (a0 := (1, .inr (.inl (fun _ => 0)))) hx hb (htsT (.arrayClass .long) (by decide +kernel)) rfl hK.1 hP hD hS hA (fun _ => rfl) (by decide) (by decide) (by decide) (Nat.le_of_ble_eq_true rfl) (Nat.le_of_ble_eq_true rfl) dL_law_17 (fun o cA H hK1 hP hD hS => ?_)
  obtain rfl : cA = cy 4 := x_cA hK.1 hK1 (i := 4) rfl rfl
  refine lv_astore_n (lv' := [(3, .ref o), (2, .ref mb), (1, .ref h), (0, .ref b)]) hx hb dL_law_19 rfl hl (by decide) rfl (fun ls hl => ?_)
  refine lv_iconst (v := 0) hx hb dL_law_20 (by decide) ?_
  refine lv_istore (lv' := [(4, .int 0), (3, .ref o), (2, .ref mb), (1, .ref h), (0, .ref b)]) hx hb dL_law_21 hl (by decide) rfl (fun ls hl => ?_)
  refine W.widen (k := 15 + 120 * 0) (n := 187 + 700 * 0) (Nat.le_of_ble_eq_true rfl) (Nat.le_of_ble_eq_true rfl) ?_
  have hp : ∀ (x y z : va_W), List.Perm ((x ++ y) ++ z) ((x ++ z) ++ y) := fun x y z => by
    rw [List.append_assoc, List.append_assoc]
    exact List.perm_append_comm.append_left _
  exact l_head C1 513 0 rfl ad av am 0 0 0 0 0 (fun _ _ => 0) (fun _ _ => 0) (fun _ _ => 0) (fun _ _ => 0) (fun _ => 0) nu0 (fun _ => 0) nu0 (fun _ => 0) 0 s.drawn H _ ls hd0 (by decide) (by decide) (by decide) (by decide) (by decide) inv_zero (xP_perm (hp _ _ _) hP) (xD_perm (hp _ _ _) hD) hS (lv_sub hl [4, 3, 2, 1, 0] rfl)
