/-! ===== the law: its helpers (laid by gen41.py) ===== -/
/-- who is no kind of whom, among the exceptions -/
def xNcs (U : State) : Prop := va_Nc E_A E_I U ∧ va_Nc E_S E_A U ∧ va_Nc E_S E_I U ∧ va_Nc E_I E_A U
theorem xNcs.moved {u U : State} (hvm : u.vm.Alike U.vm) (h : xNcs u) : xNcs U := ⟨va_Nc.moved hvm h.1, va_Nc.moved hvm h.2.1, va_Nc.moved hvm h.2.2.1, va_Nc.moved hvm h.2.2.2⟩
def xPreL (D : va_G) (cy : Nat → ClassId) (sa : Nat → Nat) (w0 : va_W) (sz : Nat) : State → Prop := fun U => xPreT D cy sa w0 sz U ∧ xNcs U
/-- a contract of a method that catches what it calls throws -/
def xL {S : Type} (l : Launch) (D : va_G) (cy : Nat → ClassId) (sa : Nat → Nat) (y : MethodName) (wd : List Cond) (rm : Room) (av : List Value) (w0 : va_W) (rv : S → Option Value) (P : S → Prop) (w1 : S → va_W) : Prop :=
  ∀ sz : Nat, Met l y wd rm (va_Pc av (xPreL D cy sa w0 sz)) (xQ D (va_A w0 sz) rv P w1) rm.cells rm.slots (va_A w0 sz)
theorem xL.of {S : Type} {l : Launch} {D : va_G} {cy : Nat → ClassId} {sa : Nat → Nat} {y : MethodName} {wd wd' : List Cond} {rm : Room} {av : List Value} {w0 : va_W} {rv : S → Option Value} {P : S → Prop} {w1 : S → va_W} (cc : ByteArray) (maxL : Nat) (ret : Option FieldType) (hh : List (Nat × Nat × Nat × Nat)) (own : String)
    (hy : plainName y.cls = true) (ho : y.cls = own) (hw : wd = .codeWith y cc maxL ret hh :: wd') (hlen : (lg_sl av).length ≤ maxL)
    (body : ∀ (p : Program) (e : Env) (s : State) (m : MethodId) (below : List Frame) (meth : Method) (c : Code) (A : Nat → Prop) (ls : Array Slot), p.tables.exec = Jvm.exec → c.code = cc → meth.sig.returnType = ret → (∀ w ∈ wd, w.before av.toArray s = true) → s.vm.findClass own = some m.cls → meth.locks = false → c.maxLocals = maxL → XK D cy s →
      (∀ q : Nat, s.heap.size ≤ q → A q) → va_P D vwCl w0 s.heap → va_D A w0 → va_S A s.heap s.heap [] → XV sa s → xZ A s s.heap → xNcs s → c.exceptionTable.toList = tableOf hh → lv_has ls maxL (lv_args 0 av) →
      W p l e rm s m av.toArray below meth c s.heap [] 0 0 (MQ below (xQ D A rv P w1) av.toArray s rm.cells rm.slots A) (F0 m 0 ls [])) : xL l D cy sa y wd rm av w0 rv P w1 := by
  intro sz
  refine va_MetW (cc := cc) (maxL := maxL) (ret := ret) hy hw ?_
  intro p e s m args below meth c s₁ B hml hv
  obtain ⟨rfl, ⟨⟨hsz, hP, hK, hD0⟩, hV, hZ⟩, hNc⟩ := hv
  subst hsz
  have hts := atoms_spec (ws := wd) B.pre
  have htb := vx_table (x := y) B (hts _ (by rw [hw]; exact List.mem_cons_self))
  have hl := lv_entry av hlen
  rw [lg_entry_eq]
  exact body p e s m below meth c (va_A w0 s.heap.size) _ B.exec B.bytes B.returns hts (by rw [← ho]; exact findClass_of_methodNamed B.named) B.notSynchronized hml hK (fun q h => Or.inr h) hP hD0.self va_S.rf hV hZ hNc htb hl
theorem set_last {ws : va_W} {x y : Nat × va_E} : (ws ++ [x]).set ws.length y = ws ++ [y] := by simp
section XCT
variable {p : Program} {l : Launch} {e : Env} {R : Room} {s : State} {m : MethodId} {args : Array Value} {below : List Frame} {meth : Method} {c : Code} {H : Heap} {locs : List Loc} {cells slots : Nat} {Q : State → Prop} {cc : ByteArray} {pc : Nat} {ls : Array Slot} {D : va_G} {cy : Nat → ClassId} {sa : Nat → Nat} {A : Nat → Prop} {w0 ws : va_W} {rm : Room}
variable {Ts wd : List Cond} {own C E : String} {y : MethodName} {nL maxL index n : Nat} {bytes : ByteArray} {ret : Option FieldType} {b : Addr} {As rest st : List Value}
theorem xblindT {av : List Value} {sz : Nat} : FrameBlind (va_Pc av (xPreT D cy sa w0 sz)) := fun a U g mk q => by
  obtain ⟨q0, ⟨q1, qP, qK, qD⟩, qV, qZ⟩ := q
  exact ⟨q0, ⟨q1, qP, XK.same rfl qK, qD⟩, XV.same (s := U) rfl qV, xZ.moved (Vm.Alike.refl _) qZ⟩
/-- a call that always throws: on to its catcher -/
theorem xcT {ci : Nat} {fs : List Value} {qc : vw_C} (F : CallFix p m c cc nL s args Ts own) (hM : xT l D cy sa y wd rm (.ref b :: As) w0 E) (cw : CallW R s args own C index y bytes maxL ret wd rm rm.cells rm.slots n)
    (hK : XK D cy s) (hV : XV sa s) (hZ : xZ A s s.heap) (hP : va_P D vwCl ws H) (hD : va_D A ws) (hS : va_S A s.heap H locs) (hA : ∀ q : Nat, s.heap.size ≤ q → A q) (hrec : w0[0]? = some (b, .inr (ci, fs))) (hci : vwCl[ci]? = some qc) (hC : qc.1 = C) (hE : xE ws w0 (fun _ : Unit => w0) (fun _ => ws))
    (hn : As.length = n) (hsize : ls.size = nL) (hst : st = As.reverse ++ .ref b :: rest) (hrest : (rest.map fun v => v.category).sum ≤ 8) (hdg : decode cc pc = .ok (.invokevirtual index, 3)) (hf : cells + rm.cells ≤ R.cells ∧ slots + rm.slots ≤ R.slots)
    (kk : ∀ (q : Addr) (ce : Cell) (H1 : Heap) (locs1 : List Loc), H1[q]? = some ce → ce.vm = .none → s.vm.findClass E = some ce.cls → va_P D vwCl ws H1 → va_D A ws → va_S A s.heap H1 locs1 → vx_W p l e R s m args below meth c H1 locs1 (cells + rm.cells) (slots + rm.slots) Q (F0 m pc ls rest) q) : W p l e R s m args below meth c H locs cells slots Q (F0 m pc ls st) := by
  subst hst
  subst hC
  obtain ⟨wr, g1, g2⟩ := hE
  have hPw : va_P D vwCl w0 H := (xP_app.mp (xP_perm g1 hP)).1
  have hDw : va_D (fun _ => True) w0 := by
    have h := xD_iff.mp (xD_perm g1 hD)
    rw [List.map_append, List.nodup_append] at h
    exact xD_iff.mpr ⟨h.1.1, fun _ _ => trivial⟩
  have hAH : ∀ q : Nat, H.size ≤ q → A q := fun q h => hA q (Nat.le_trans hS.1 h)
  have hF : ∀ q, va_A w0 H.size q → A q := by
    intro q h
    rcases xA_mem.mp h with ⟨x, h⟩ | h
    · exact (xD_iff.mp hD).2 (q, x) (g1.mem_iff.mpr (List.mem_append_left _ h))
    · exact hAH q h
  have hZH : xZ A s H := hZ.kept hS.2.1
  have hr := vx_runV (e := e) (below := below) (meth := meth) (locs := locs) (As := As) (rest := rest) (g := F0 m pc ls (As.reverse ++ .ref b :: rest)) F (hM H.size) cw ⟨xblindT, va_recv hK.1 hPw hci hrec, fun U hU hW => ⟨rfl, ⟨by rw [hU], by rw [hU]; exact hPw, hK.warmed hW, hDw⟩, hV.warmed hW, by rw [hU]; exact (hZH.moved hW.alike).narrow hF⟩⟩ rfl hn hsize rfl (lv_room hrest) hdg hf
  intro T hT X
  rcases hr T hT X with ⟨v, st₀, t, T', L, h0, X', hL, e1, e2, hno, st⟩ | ⟨q, st₀, t, T', L, E', ce, h0, X', hL, e1, e2, ⟨hEE, hPb, hz, hk⟩, hce, hcv, hcl, st⟩
  · exact hno.elim
  · subst hEE
    rw [h0] at hz hk
    obtain ⟨j1, j2⟩ := xjoin hP hD g1 hk hAH hPb (xD_iff.mpr ⟨(xD_iff.mp hDw).1, fun q hq => xA_mem.mpr (Or.inl ⟨q.2, hq⟩)⟩)
    obtain ⟨t2, a1, b1⟩ := kk q ce T'.heap (locs ++ L) (by rw [e1]; exact hce) hcv hcl (by rw [e1]; exact xP_perm (g2 ()) j1) (xD_perm (g2 ()) j2)
      ⟨Nat.le_trans hS.1 (by rw [e1]; exact hz), fun q h1 h2 => by rw [e1, hk q (Nat.lt_of_lt_of_le h1 hS.1) (fun z => h2 (hF q z))]; exact hS.2.1 q h1 h2, fun q hq => by
        rcases List.mem_append.mp hq with h | h
        · exact hS.2.2 q h
        · exact hF _ (hL q h)⟩ T' rfl X'
    exact ⟨t2, st.trans a1, b1⟩
end XCT
set_option maxHeartbeats 4000000 in
set_option maxRecDepth 100000 in
/-- law: setPeople -/
theorem c_L_setPeople (l : Launch) (D : va_G) (cy : Nat → ClassId) (sa : Nat → Nat) (h : Nat) (ad : Nat → Nat) (nS nB : Nat) (st bk : Nat → Iu) (gate nu : Iu) (bt : Nat) (wt : va_W) (p0 : Int32) (h1 : (0 : Int32) ≤ p0 ∧ p0 ≤ 500) (o : Nat) (g : Nat → Int64) : xL l D cy sa yL_setPeople wsL_setPeople ({ frames := 7, cells := 1, slots := 6, locals := 142 } : Room) [.ref h, .int p0, .ref o] ((xw cy h ad nS nB st bk gate nu bt wt) ++ [(o, .inl (cy 4, 1, .inr (.inl g)))]) (fun _ : Unit => some (.int 0)) (fun u => True) (fun u => (xw cy h ad nS nB st bk gate (upd nu 1 p0) bt wt) ++ [(o, .inl (cy 4, 1, .inr (.inl (vp_updL g 0 ((nu 1).toInt64)))))]) := by
  refine xL.of cL_setPeople 4 (some .int) [(0, 9, 12, 13)] RL (by decide +kernel) rfl rfl (Nat.le_of_ble_eq_true rfl) ?_
  intro p e s m below meth c A ls hx hb hr hts hown hlocks hml hK hA hP hD hS hV hZ hNc htb hl
  have hl : lv_has ls 4 [(0, .ref h), (1, .int p0), (2, .ref o)] := hl
  refine lv_aload_n hx hb dL_setPeople_0 rfl (lv_at hl 2 rfl) ?_
  refine lv_iconst (v := 0) hx hb dL_setPeople_1 (by decide) ?_
  refine lv_aload_n hx hb dL_setPeople_2 rfl (lv_at hl 0 rfl) ?_
  refine lv_iload_n hx hb dL_setPeople_3 rfl (lv_at hl 1 rfl) ?_
  refine xcV (As := [.int p0]) (rest := [.int 0, .ref o]) ⟨hx, hb, hml, hown, hts⟩ (c_X3_setPeople l D cy h ad nS nB st bk gate nu bt wt p0 h1) (cwV 1 hts gL_setPeople_X3_setPeople rfl rfl rfl (by decide +kernel) ⟨Nat.le_of_ble_eq_true rfl, Nat.le_of_ble_eq_true rfl⟩) hK hP hD hS hA rfl rfl rfl (xE_l) rfl hl.1 rfl (Nat.le_of_ble_eq_true rfl) dL_setPeople_4 ⟨Nat.le_of_ble_eq_true rfl, Nat.le_of_ble_eq_true rfl⟩ (fun u H locs hu hP hD hS => ?_)
  have hP : va_P D vwCl ((xw cy h ad nS nB st bk gate (upd nu 1 p0) bt wt) ++ [(o, .inl (cy 4, 1, .inr (.inl g)))]) H := hP
  have hD : va_D A ((xw cy h ad nS nB st bk gate (upd nu 1 p0) bt wt) ++ [(o, .inl (cy 4, 1, .inr (.inl g)))]) := hD
  refine W.eq (g2 := F0 m 7 ls [.int (nu 1), .int 0, .ref o]) rfl ?_
  refine lv_i2l (v := (nu 1).toInt64) hx hb dL_setPeople_7 rfl ?_
  refine va_last hx hb hK.1 hP hD hS _ 4 last_at rfl (vp_in_nI (n := 0) (by decide) (by decide)) dL_setPeople_8 (fun H locs hP hD hS => ?_)
  rw [set_last] at hP hD
  have hP : va_P D vwCl ((xw cy h ad nS nB st bk gate (upd nu 1 p0) bt wt) ++ [(o, .inl (cy 4, 1, .inr (.inl (vp_updL g 0 ((nu 1).toInt64)))))]) H := hP
  have hD : va_D A ((xw cy h ad nS nB st bk gate (upd nu 1 p0) bt wt) ++ [(o, .inl (cy 4, 1, .inr (.inl (vp_updL g 0 ((nu 1).toInt64)))))]) := hD
  refine lv_goto (tgt := 15) hx hb dL_setPeople_9 (by decide) ?_
  refine lv_iconst (v := 0) hx hb dL_setPeople_15 (by decide) ?_
  exact xri u hx hb hr hlocks hS (Nat.le_of_ble_eq_true rfl) (Nat.le_of_ble_eq_true rfl) dL_setPeople_16 hP hD rfl hu

set_option maxHeartbeats 4000000 in
set_option maxRecDepth 100000 in
/-- law: setPeople -/
theorem c_L_setPeople_1 (l : Launch) (hst : l.stackTraces = false) (D : va_G) (cy : Nat → ClassId) (sa : Nat → Nat) (h : Nat) (ad : Nat → Nat) (nS nB : Nat) (st bk : Nat → Iu) (gate nu : Iu) (bt : Nat) (wt : va_W) (p0 : Int32) (h1 : ¬ ((0 : Int32) ≤ p0 ∧ p0 ≤ 500)) (o : Nat) (g : Nat → Int64) : xL l D cy sa yL_setPeople wsL_setPeople ({ frames := 7, cells := 1, slots := 6, locals := 142 } : Room) [.ref h, .int p0, .ref o] ((xw cy h ad nS nB st bk gate nu bt wt) ++ [(o, .inl (cy 4, 1, .inr (.inl g)))]) (fun _ : Unit => some (.int 1)) (fun _ => True) (fun _ => (xw cy h ad nS nB st bk gate nu bt wt) ++ [(o, .inl (cy 4, 1, .inr (.inl g)))]) := by
  refine xL.of cL_setPeople 4 (some .int) [(0, 9, 12, 13)] RL (by decide +kernel) rfl rfl (Nat.le_of_ble_eq_true rfl) ?_
  intro p e s m below meth c A ls hx hb hr hts hown hlocks hml hK hA hP hD hS hV hZ hNc htb hl
  have hl : lv_has ls 4 [(0, .ref h), (1, .int p0), (2, .ref o)] := hl
  refine lv_aload_n hx hb dL_setPeople_0 rfl (lv_at hl 2 rfl) ?_
  refine lv_iconst (v := 0) hx hb dL_setPeople_1 (by decide) ?_
  refine lv_aload_n hx hb dL_setPeople_2 rfl (lv_at hl 0 rfl) ?_
  refine lv_iload_n hx hb dL_setPeople_3 rfl (lv_at hl 1 rfl) ?_
  refine xcT (E := E_A) (As := [.int p0]) (rest := [.int 0, .ref o]) ⟨hx, hb, hml, hown, hts⟩ (c_X3_setPeople_1 l hst D cy sa h ad nS nB st bk gate nu bt wt p0 h1) (cwV 1 hts gL_setPeople_X3_setPeople rfl rfl rfl (by decide +kernel) ⟨Nat.le_of_ble_eq_true rfl, Nat.le_of_ble_eq_true rfl⟩) hK hV hZ hP hD hS hA rfl rfl rfl (xE_l) rfl hl.1 rfl (Nat.le_of_ble_eq_true rfl) dL_setPeople_4 ⟨Nat.le_of_ble_eq_true rfl, Nat.le_of_ble_eq_true rfl⟩ (fun q9 ce H locs hce hcv hcl hP hD hS => ?_)
  refine vx_catch hown [] ({ startPc := 0, endPc := 9, handlerPc := 12, catchType := 13 } : ExceptionTableEntry) [] (htb.trans rfl) (fun z hz => absurd hz List.not_mem_nil) (by decide) (by decide) (hts (.classLink RL 13 "java/lang/IllegalArgumentException") (List.mem_of_getElem? (i := 1) rfl)) (xBw_at hV _ (List.mem_of_getElem? (i := 3) rfl)) hce hcv hcl ?_
  refine W.eq (g2 := F0 m 12 ls [.ref q9]) rfl ?_
  refine lv_astore_n (lv' := [(3, .ref q9), (0, .ref h), (1, .int p0), (2, .ref o)]) hx hb dL_setPeople_12 rfl hl (by decide) rfl (fun ls hl => ?_)
  refine lv_iconst (v := 1) hx hb dL_setPeople_13 (by decide) ?_
  exact xri () hx hb hr hlocks hS (Nat.le_of_ble_eq_true rfl) (Nat.le_of_ble_eq_true rfl) dL_setPeople_14 hP hD rfl trivial

set_option maxHeartbeats 4000000 in
set_option maxRecDepth 100000 in
/-- law: setGate -/
theorem c_L_setGate (l : Launch) (D : va_G) (cy : Nat → ClassId) (sa : Nat → Nat) (h : Nat) (ad : Nat → Nat) (nS nB : Nat) (st bk : Nat → Iu) (gate nu : Iu) (bt : Nat) (wt : va_W) (k : Nat) (hk : k < 24) (p1 : Int32) (h2 : (0 : Int32) ≤ p1 ∧ p1 ≤ 99) (o : Nat) (g : Nat → Int64) : xL l D cy sa yL_setGate wsL_setGate ({ frames := 7, cells := 1, slots := 6, locals := 142 } : Room) [.ref h, .int (nI k), .int p1, .ref o] ((xw cy h ad nS nB st bk gate nu bt wt) ++ [(o, .inl (cy 4, 1, .inr (.inl g)))]) (fun _ : Unit => some (.int 0)) (fun u => True) (fun u => (xw cy h ad nS nB st bk (upd gate k p1) nu bt wt) ++ [(o, .inl (cy 4, 1, .inr (.inl (vp_updL g 0 ((gate k).toInt64)))))]) := by
  refine xL.of cL_setGate 5 (some .int) [(0, 10, 13, 19), (0, 10, 17, 13)] RL (by decide +kernel) rfl rfl (Nat.le_of_ble_eq_true rfl) ?_
  intro p e s m below meth c A ls hx hb hr hts hown hlocks hml hK hA hP hD hS hV hZ hNc htb hl
  have hl : lv_has ls 5 [(0, .ref h), (1, .int (nI k)), (2, .int p1), (3, .ref o)] := hl
  refine lv_aload_n hx hb dL_setGate_0 rfl (lv_at hl 3 rfl) ?_
  refine lv_iconst (v := 0) hx hb dL_setGate_1 (by decide) ?_
  refine lv_aload_n hx hb dL_setGate_2 rfl (lv_at hl 0 rfl) ?_
  refine lv_iload_n hx hb dL_setGate_3 rfl (lv_at hl 1 rfl) ?_
  refine lv_iload_n hx hb dL_setGate_4 rfl (lv_at hl 2 rfl) ?_
  refine xcV (As := [.int (nI k), .int p1]) (rest := [.int 0, .ref o]) ⟨hx, hb, hml, hown, hts⟩ (c_X3_setGate l D cy h ad nS nB st bk gate nu bt wt k hk p1 h2) (cwV 2 hts gL_setGate_X3_setGate rfl rfl rfl (by decide +kernel) ⟨Nat.le_of_ble_eq_true rfl, Nat.le_of_ble_eq_true rfl⟩) hK hP hD hS hA rfl rfl rfl (xE_l) rfl hl.1 rfl (Nat.le_of_ble_eq_true rfl) dL_setGate_5 ⟨Nat.le_of_ble_eq_true rfl, Nat.le_of_ble_eq_true rfl⟩ (fun u H locs hu hP hD hS => ?_)
  have hP : va_P D vwCl ((xw cy h ad nS nB st bk (upd gate k p1) nu bt wt) ++ [(o, .inl (cy 4, 1, .inr (.inl g)))]) H := hP
  have hD : va_D A ((xw cy h ad nS nB st bk (upd gate k p1) nu bt wt) ++ [(o, .inl (cy 4, 1, .inr (.inl g)))]) := hD
  refine W.eq (g2 := F0 m 8 ls [.int (gate k), .int 0, .ref o]) rfl ?_
  refine lv_i2l (v := (gate k).toInt64) hx hb dL_setGate_8 rfl ?_
  refine va_last hx hb hK.1 hP hD hS _ 4 last_at rfl (vp_in_nI (n := 0) (by decide) (by decide)) dL_setGate_9 (fun H locs hP hD hS => ?_)
  rw [set_last] at hP hD
  have hP : va_P D vwCl ((xw cy h ad nS nB st bk (upd gate k p1) nu bt wt) ++ [(o, .inl (cy 4, 1, .inr (.inl (vp_updL g 0 ((gate k).toInt64)))))]) H := hP
  have hD : va_D A ((xw cy h ad nS nB st bk (upd gate k p1) nu bt wt) ++ [(o, .inl (cy 4, 1, .inr (.inl (vp_updL g 0 ((gate k).toInt64)))))]) := hD
  refine lv_goto (tgt := 21) hx hb dL_setGate_10 (by decide) ?_
  refine lv_iconst (v := 0) hx hb dL_setGate_21 (by decide) ?_
  exact xri u hx hb hr hlocks hS (Nat.le_of_ble_eq_true rfl) (Nat.le_of_ble_eq_true rfl) dL_setGate_22 hP hD rfl hu

set_option maxHeartbeats 4000000 in
set_option maxRecDepth 100000 in
/-- law: setGate -/
theorem c_L_setGate_1 (l : Launch) (hst : l.stackTraces = false) (D : va_G) (cy : Nat → ClassId) (sa : Nat → Nat) (h : Nat) (ad : Nat → Nat) (nS nB : Nat) (st bk : Nat → Iu) (gate nu : Iu) (bt : Nat) (wt : va_W) (p0 p1 : Int32) (h1 : ¬ ((0 : Int32) ≤ p0 ∧ p0 ≤ 23)) (o : Nat) (g : Nat → Int64) : xL l D cy sa yL_setGate wsL_setGate ({ frames := 7, cells := 1, slots := 6, locals := 142 } : Room) [.ref h, .int p0, .int p1, .ref o] ((xw cy h ad nS nB st bk gate nu bt wt) ++ [(o, .inl (cy 4, 1, .inr (.inl g)))]) (fun _ : Unit => some (.int 1)) (fun _ => True) (fun _ => (xw cy h ad nS nB st bk gate nu bt wt) ++ [(o, .inl (cy 4, 1, .inr (.inl g)))]) := by
  refine xL.of cL_setGate 5 (some .int) [(0, 10, 13, 19), (0, 10, 17, 13)] RL (by decide +kernel) rfl rfl (Nat.le_of_ble_eq_true rfl) ?_
  intro p e s m below meth c A ls hx hb hr hts hown hlocks hml hK hA hP hD hS hV hZ hNc htb hl
  have hl : lv_has ls 5 [(0, .ref h), (1, .int p0), (2, .int p1), (3, .ref o)] := hl
  refine lv_aload_n hx hb dL_setGate_0 rfl (lv_at hl 3 rfl) ?_
  refine lv_iconst (v := 0) hx hb dL_setGate_1 (by decide) ?_
  refine lv_aload_n hx hb dL_setGate_2 rfl (lv_at hl 0 rfl) ?_
  refine lv_iload_n hx hb dL_setGate_3 rfl (lv_at hl 1 rfl) ?_
  refine lv_iload_n hx hb dL_setGate_4 rfl (lv_at hl 2 rfl) ?_
  refine xcT (E := E_I) (As := [.int p0, .int p1]) (rest := [.int 0, .ref o]) ⟨hx, hb, hml, hown, hts⟩ (c_X3_setGate_1 l hst D cy sa h ad nS nB st bk gate nu bt wt p0 p1 h1) (cwV 2 hts gL_setGate_X3_setGate rfl rfl rfl (by decide +kernel) ⟨Nat.le_of_ble_eq_true rfl, Nat.le_of_ble_eq_true rfl⟩) hK hV hZ hP hD hS hA rfl rfl rfl (xE_l) rfl hl.1 rfl (Nat.le_of_ble_eq_true rfl) dL_setGate_5 ⟨Nat.le_of_ble_eq_true rfl, Nat.le_of_ble_eq_true rfl⟩ (fun q9 ce H locs hce hcv hcl hP hD hS => ?_)
  refine vx_catch hown [] ({ startPc := 0, endPc := 10, handlerPc := 13, catchType := 19 } : ExceptionTableEntry) [({ startPc := 0, endPc := 10, handlerPc := 17, catchType := 13 } : ExceptionTableEntry)] (htb.trans rfl) (fun z hz => absurd hz List.not_mem_nil) (by decide) (by decide) (hts (.classLink RL 19 "java/lang/IndexOutOfBoundsException") (List.mem_of_getElem? (i := 1) rfl)) (xBw_at hV _ (List.mem_of_getElem? (i := 5) rfl)) hce hcv hcl ?_
  refine W.eq (g2 := F0 m 13 ls [.ref q9]) rfl ?_
  refine lv_astore (lv' := [(4, .ref q9), (0, .ref h), (1, .int p0), (2, .int p1), (3, .ref o)]) hx hb dL_setGate_13 hl (by decide) rfl (fun ls hl => ?_)
  refine lv_iconst (v := 1) hx hb dL_setGate_15 (by decide) ?_
  exact xri () hx hb hr hlocks hS (Nat.le_of_ble_eq_true rfl) (Nat.le_of_ble_eq_true rfl) dL_setGate_16 hP hD rfl trivial

set_option maxHeartbeats 4000000 in
set_option maxRecDepth 100000 in
/-- law: setGate -/
theorem c_L_setGate_2 (l : Launch) (hst : l.stackTraces = false) (D : va_G) (cy : Nat → ClassId) (sa : Nat → Nat) (h : Nat) (ad : Nat → Nat) (nS nB : Nat) (st bk : Nat → Iu) (gate nu : Iu) (bt : Nat) (wt : va_W) (p0 p1 : Int32) (h1 : (0 : Int32) ≤ p0 ∧ p0 ≤ 23) (h2 : ¬ ((0 : Int32) ≤ p1 ∧ p1 ≤ 99)) (o : Nat) (g : Nat → Int64) : xL l D cy sa yL_setGate wsL_setGate ({ frames := 7, cells := 1, slots := 6, locals := 142 } : Room) [.ref h, .int p0, .int p1, .ref o] ((xw cy h ad nS nB st bk gate nu bt wt) ++ [(o, .inl (cy 4, 1, .inr (.inl g)))]) (fun _ : Unit => some (.int 2)) (fun _ => True) (fun _ => (xw cy h ad nS nB st bk gate nu bt wt) ++ [(o, .inl (cy 4, 1, .inr (.inl g)))]) := by
  refine xL.of cL_setGate 5 (some .int) [(0, 10, 13, 19), (0, 10, 17, 13)] RL (by decide +kernel) rfl rfl (Nat.le_of_ble_eq_true rfl) ?_
  intro p e s m below meth c A ls hx hb hr hts hown hlocks hml hK hA hP hD hS hV hZ hNc htb hl
  have hl : lv_has ls 5 [(0, .ref h), (1, .int p0), (2, .int p1), (3, .ref o)] := hl
  refine lv_aload_n hx hb dL_setGate_0 rfl (lv_at hl 3 rfl) ?_
  refine lv_iconst (v := 0) hx hb dL_setGate_1 (by decide) ?_
  refine lv_aload_n hx hb dL_setGate_2 rfl (lv_at hl 0 rfl) ?_
  refine lv_iload_n hx hb dL_setGate_3 rfl (lv_at hl 1 rfl) ?_
  refine lv_iload_n hx hb dL_setGate_4 rfl (lv_at hl 2 rfl) ?_
  refine xcT (E := E_A) (As := [.int p0, .int p1]) (rest := [.int 0, .ref o]) ⟨hx, hb, hml, hown, hts⟩ (c_X3_setGate_2 l hst D cy sa h ad nS nB st bk gate nu bt wt p0 p1 h1 h2) (cwV 2 hts gL_setGate_X3_setGate rfl rfl rfl (by decide +kernel) ⟨Nat.le_of_ble_eq_true rfl, Nat.le_of_ble_eq_true rfl⟩) hK hV hZ hP hD hS hA rfl rfl rfl (xE_l) rfl hl.1 rfl (Nat.le_of_ble_eq_true rfl) dL_setGate_5 ⟨Nat.le_of_ble_eq_true rfl, Nat.le_of_ble_eq_true rfl⟩ (fun q9 ce H locs hce hcv hcl hP hD hS => ?_)
  refine vx_catch hown [({ startPc := 0, endPc := 10, handlerPc := 13, catchType := 19 } : ExceptionTableEntry)] ({ startPc := 0, endPc := 10, handlerPc := 17, catchType := 13 } : ExceptionTableEntry) [] (htb.trans rfl) (fun z hz => by rcases List.mem_singleton.mp hz with rfl; exact Or.inr ⟨by decide, E_I, (hts (.classLink RL 19 "java/lang/IndexOutOfBoundsException") (List.mem_of_getElem? (i := 1) rfl)), hNc.1⟩) (by decide) (by decide) (hts (.classLink RL 13 "java/lang/IllegalArgumentException") (List.mem_of_getElem? (i := 2) rfl)) (xBw_at hV _ (List.mem_of_getElem? (i := 3) rfl)) hce hcv hcl ?_
  refine W.eq (g2 := F0 m 17 ls [.ref q9]) rfl ?_
  refine lv_astore (lv' := [(4, .ref q9), (0, .ref h), (1, .int p0), (2, .int p1), (3, .ref o)]) hx hb dL_setGate_17 hl (by decide) rfl (fun ls hl => ?_)
  refine lv_iconst (v := 2) hx hb dL_setGate_19 (by decide) ?_
  exact xri () hx hb hr hlocks hS (Nat.le_of_ble_eq_true rfl) (Nat.le_of_ble_eq_true rfl) dL_setGate_20 hP hD rfl trivial

set_option maxHeartbeats 4000000 in
set_option maxRecDepth 100000 in
/-- law: open -/
theorem c_L_open (l : Launch) (D : va_G) (cy : Nat → ClassId) (sa : Nat → Nat) (h : Nat) (ad : Nat → Nat) (nS nB : Nat) (st bk : Nat → Iu) (gate nu : Iu) (bt : Nat) (wt : va_W) (p0 p1 : Int32) (h1 : (0 : Int32) ≤ p0 ∧ p0 ≤ 900) (h2 : (0 : Int32) ≤ p1 ∧ p1 ≤ 50) (hroom : nS < 4) (o : Nat) (g : Nat → Int64) : xL l D cy sa yL_open wsL_open ({ frames := 7, cells := 2, slots := 9, locals := 143 } : Room) [.ref h, .int p0, .int p1, .ref o] ((xw cy h ad nS nB st bk gate nu bt wt) ++ [(o, .inl (cy 4, 1, .inr (.inl g)))]) (fun _ : Nat => some (.int 0)) (fun u => True) (fun u => (xw cy h (va_up ad (4 + nS) u) (nS + 1) nB (va_up st nS (newS p0 p1)) bk gate nu bt wt) ++ [(o, .inl (cy 4, 1, .inr (.inl (vp_updL g 0 ((nI nS).toInt64)))))]) := by
  refine xL.of cL_open 5 (some .int) [(0, 10, 13, 13), (0, 10, 17, 24)] RL (by decide +kernel) rfl rfl (Nat.le_of_ble_eq_true rfl) ?_
  intro p e s m below meth c A ls hx hb hr hts hown hlocks hml hK hA hP hD hS hV hZ hNc htb hl
  have hl : lv_has ls 5 [(0, .ref h), (1, .int p0), (2, .int p1), (3, .ref o)] := hl
  refine lv_aload_n hx hb dL_open_0 rfl (lv_at hl 3 rfl) ?_
  refine lv_iconst (v := 0) hx hb dL_open_1 (by decide) ?_
  refine lv_aload_n hx hb dL_open_2 rfl (lv_at hl 0 rfl) ?_
  refine lv_iload_n hx hb dL_open_3 rfl (lv_at hl 1 rfl) ?_
  refine lv_iload_n hx hb dL_open_4 rfl (lv_at hl 2 rfl) ?_
  refine xcV (As := [.int p0, .int p1]) (rest := [.int 0, .ref o]) ⟨hx, hb, hml, hown, hts⟩ (c_X3_open l D cy h ad nS nB st bk gate nu bt wt p0 p1 h1 h2 hroom) (cwV 2 hts gL_open_X3_open rfl rfl rfl (by decide +kernel) ⟨Nat.le_of_ble_eq_true rfl, Nat.le_of_ble_eq_true rfl⟩) hK hP hD hS hA rfl rfl rfl (xE_l) rfl hl.1 rfl (Nat.le_of_ble_eq_true rfl) dL_open_5 ⟨Nat.le_of_ble_eq_true rfl, Nat.le_of_ble_eq_true rfl⟩ (fun u H locs hu hP hD hS => ?_)
  have hP : va_P D vwCl ((xw cy h (va_up ad (4 + nS) u) (nS + 1) nB (va_up st nS (newS p0 p1)) bk gate nu bt wt) ++ [(o, .inl (cy 4, 1, .inr (.inl g)))]) H := hP
  have hD : va_D A ((xw cy h (va_up ad (4 + nS) u) (nS + 1) nB (va_up st nS (newS p0 p1)) bk gate nu bt wt) ++ [(o, .inl (cy 4, 1, .inr (.inl g)))]) := hD
  refine W.eq (g2 := F0 m 8 ls [.int (nI nS), .int 0, .ref o]) rfl ?_
  refine lv_i2l (v := (nI nS).toInt64) hx hb dL_open_8 rfl ?_
  refine va_last hx hb hK.1 hP hD hS _ 4 last_at rfl (vp_in_nI (n := 0) (by decide) (by decide)) dL_open_9 (fun H locs hP hD hS => ?_)
  rw [set_last] at hP hD
  have hP : va_P D vwCl ((xw cy h (va_up ad (4 + nS) u) (nS + 1) nB (va_up st nS (newS p0 p1)) bk gate nu bt wt) ++ [(o, .inl (cy 4, 1, .inr (.inl (vp_updL g 0 ((nI nS).toInt64)))))]) H := hP
  have hD : va_D A ((xw cy h (va_up ad (4 + nS) u) (nS + 1) nB (va_up st nS (newS p0 p1)) bk gate nu bt wt) ++ [(o, .inl (cy 4, 1, .inr (.inl (vp_updL g 0 ((nI nS).toInt64)))))]) := hD
  refine lv_goto (tgt := 21) hx hb dL_open_10 (by decide) ?_
  refine lv_iconst (v := 0) hx hb dL_open_21 (by decide) ?_
  exact xri u hx hb hr hlocks hS (Nat.le_of_ble_eq_true rfl) (Nat.le_of_ble_eq_true rfl) dL_open_22 hP hD rfl hu

set_option maxHeartbeats 4000000 in
set_option maxRecDepth 100000 in
/-- law: open -/
theorem c_L_open_1a (l : Launch) (hst : l.stackTraces = false) (D : va_G) (cy : Nat → ClassId) (sa : Nat → Nat) (h : Nat) (ad : Nat → Nat) (nS nB : Nat) (st bk : Nat → Iu) (gate nu : Iu) (bt : Nat) (wt : va_W) (p0 p1 : Int32) (h1 : ¬ ((0 : Int32) ≤ p0 ∧ p0 ≤ 900)) (o : Nat) (g : Nat → Int64) : xL l D cy sa yL_open wsL_open ({ frames := 7, cells := 2, slots := 9, locals := 143 } : Room) [.ref h, .int p0, .int p1, .ref o] ((xw cy h ad nS nB st bk gate nu bt wt) ++ [(o, .inl (cy 4, 1, .inr (.inl g)))]) (fun _ : Unit => some (.int 1)) (fun _ => True) (fun _ => (xw cy h ad nS nB st bk gate nu bt wt) ++ [(o, .inl (cy 4, 1, .inr (.inl g)))]) := by
  refine xL.of cL_open 5 (some .int) [(0, 10, 13, 13), (0, 10, 17, 24)] RL (by decide +kernel) rfl rfl (Nat.le_of_ble_eq_true rfl) ?_
  intro p e s m below meth c A ls hx hb hr hts hown hlocks hml hK hA hP hD hS hV hZ hNc htb hl
  have hl : lv_has ls 5 [(0, .ref h), (1, .int p0), (2, .int p1), (3, .ref o)] := hl
  refine lv_aload_n hx hb dL_open_0 rfl (lv_at hl 3 rfl) ?_
  refine lv_iconst (v := 0) hx hb dL_open_1 (by decide) ?_
  refine lv_aload_n hx hb dL_open_2 rfl (lv_at hl 0 rfl) ?_
  refine lv_iload_n hx hb dL_open_3 rfl (lv_at hl 1 rfl) ?_
  refine lv_iload_n hx hb dL_open_4 rfl (lv_at hl 2 rfl) ?_
  refine xcT (E := E_A) (As := [.int p0, .int p1]) (rest := [.int 0, .ref o]) ⟨hx, hb, hml, hown, hts⟩ (c_X3_open_1a l hst D cy sa h ad nS nB st bk gate nu bt wt p0 p1 h1) (cwV 2 hts gL_open_X3_open rfl rfl rfl (by decide +kernel) ⟨Nat.le_of_ble_eq_true rfl, Nat.le_of_ble_eq_true rfl⟩) hK hV hZ hP hD hS hA rfl rfl rfl (xE_l) rfl hl.1 rfl (Nat.le_of_ble_eq_true rfl) dL_open_5 ⟨Nat.le_of_ble_eq_true rfl, Nat.le_of_ble_eq_true rfl⟩ (fun q9 ce H locs hce hcv hcl hP hD hS => ?_)
  refine vx_catch hown [] ({ startPc := 0, endPc := 10, handlerPc := 13, catchType := 13 } : ExceptionTableEntry) [({ startPc := 0, endPc := 10, handlerPc := 17, catchType := 24 } : ExceptionTableEntry)] (htb.trans rfl) (fun z hz => absurd hz List.not_mem_nil) (by decide) (by decide) (hts (.classLink RL 13 "java/lang/IllegalArgumentException") (List.mem_of_getElem? (i := 1) rfl)) (xBw_at hV _ (List.mem_of_getElem? (i := 3) rfl)) hce hcv hcl ?_
  refine W.eq (g2 := F0 m 13 ls [.ref q9]) rfl ?_
  refine lv_astore (lv' := [(4, .ref q9), (0, .ref h), (1, .int p0), (2, .int p1), (3, .ref o)]) hx hb dL_open_13 hl (by decide) rfl (fun ls hl => ?_)
  refine lv_iconst (v := 1) hx hb dL_open_15 (by decide) ?_
  exact xri () hx hb hr hlocks hS (Nat.le_of_ble_eq_true rfl) (Nat.le_of_ble_eq_true rfl) dL_open_16 hP hD rfl trivial

set_option maxHeartbeats 4000000 in
set_option maxRecDepth 100000 in
/-- law: open -/
theorem c_L_open_1b (l : Launch) (hst : l.stackTraces = false) (D : va_G) (cy : Nat → ClassId) (sa : Nat → Nat) (h : Nat) (ad : Nat → Nat) (nS nB : Nat) (st bk : Nat → Iu) (gate nu : Iu) (bt : Nat) (wt : va_W) (p0 p1 : Int32) (h1 : (0 : Int32) ≤ p0 ∧ p0 ≤ 900) (h2 : ¬ ((0 : Int32) ≤ p1 ∧ p1 ≤ 50)) (o : Nat) (g : Nat → Int64) : xL l D cy sa yL_open wsL_open ({ frames := 7, cells := 2, slots := 9, locals := 143 } : Room) [.ref h, .int p0, .int p1, .ref o] ((xw cy h ad nS nB st bk gate nu bt wt) ++ [(o, .inl (cy 4, 1, .inr (.inl g)))]) (fun _ : Unit => some (.int 1)) (fun _ => True) (fun _ => (xw cy h ad nS nB st bk gate nu bt wt) ++ [(o, .inl (cy 4, 1, .inr (.inl g)))]) := by
  refine xL.of cL_open 5 (some .int) [(0, 10, 13, 13), (0, 10, 17, 24)] RL (by decide +kernel) rfl rfl (Nat.le_of_ble_eq_true rfl) ?_
  intro p e s m below meth c A ls hx hb hr hts hown hlocks hml hK hA hP hD hS hV hZ hNc htb hl
  have hl : lv_has ls 5 [(0, .ref h), (1, .int p0), (2, .int p1), (3, .ref o)] := hl
  refine lv_aload_n hx hb dL_open_0 rfl (lv_at hl 3 rfl) ?_
  refine lv_iconst (v := 0) hx hb dL_open_1 (by decide) ?_
  refine lv_aload_n hx hb dL_open_2 rfl (lv_at hl 0 rfl) ?_
  refine lv_iload_n hx hb dL_open_3 rfl (lv_at hl 1 rfl) ?_
  refine lv_iload_n hx hb dL_open_4 rfl (lv_at hl 2 rfl) ?_
  refine xcT (E := E_A) (As := [.int p0, .int p1]) (rest := [.int 0, .ref o]) ⟨hx, hb, hml, hown, hts⟩ (c_X3_open_1b l hst D cy sa h ad nS nB st bk gate nu bt wt p0 p1 h1 h2) (cwV 2 hts gL_open_X3_open rfl rfl rfl (by decide +kernel) ⟨Nat.le_of_ble_eq_true rfl, Nat.le_of_ble_eq_true rfl⟩) hK hV hZ hP hD hS hA rfl rfl rfl (xE_l) rfl hl.1 rfl (Nat.le_of_ble_eq_true rfl) dL_open_5 ⟨Nat.le_of_ble_eq_true rfl, Nat.le_of_ble_eq_true rfl⟩ (fun q9 ce H locs hce hcv hcl hP hD hS => ?_)
  refine vx_catch hown [] ({ startPc := 0, endPc := 10, handlerPc := 13, catchType := 13 } : ExceptionTableEntry) [({ startPc := 0, endPc := 10, handlerPc := 17, catchType := 24 } : ExceptionTableEntry)] (htb.trans rfl) (fun z hz => absurd hz List.not_mem_nil) (by decide) (by decide) (hts (.classLink RL 13 "java/lang/IllegalArgumentException") (List.mem_of_getElem? (i := 1) rfl)) (xBw_at hV _ (List.mem_of_getElem? (i := 3) rfl)) hce hcv hcl ?_
  refine W.eq (g2 := F0 m 13 ls [.ref q9]) rfl ?_
  refine lv_astore (lv' := [(4, .ref q9), (0, .ref h), (1, .int p0), (2, .int p1), (3, .ref o)]) hx hb dL_open_13 hl (by decide) rfl (fun ls hl => ?_)
  refine lv_iconst (v := 1) hx hb dL_open_15 (by decide) ?_
  exact xri () hx hb hr hlocks hS (Nat.le_of_ble_eq_true rfl) (Nat.le_of_ble_eq_true rfl) dL_open_16 hP hD rfl trivial

set_option maxHeartbeats 4000000 in
set_option maxRecDepth 100000 in
/-- law: open -/
theorem c_L_open_2 (l : Launch) (hst : l.stackTraces = false) (D : va_G) (cy : Nat → ClassId) (sa : Nat → Nat) (h : Nat) (ad : Nat → Nat) (nS nB : Nat) (st bk : Nat → Iu) (gate nu : Iu) (bt : Nat) (wt : va_W) (p0 p1 : Int32) (h1 : (0 : Int32) ≤ p0 ∧ p0 ≤ 900) (h2 : (0 : Int32) ≤ p1 ∧ p1 ≤ 50) (hfull : nS = 4) (o : Nat) (g : Nat → Int64) : xL l D cy sa yL_open wsL_open ({ frames := 7, cells := 2, slots := 9, locals := 143 } : Room) [.ref h, .int p0, .int p1, .ref o] ((xw cy h ad nS nB st bk gate nu bt wt) ++ [(o, .inl (cy 4, 1, .inr (.inl g)))]) (fun _ : Unit => some (.int 2)) (fun _ => True) (fun _ => (xw cy h ad nS nB st bk gate nu bt wt) ++ [(o, .inl (cy 4, 1, .inr (.inl g)))]) := by
  refine xL.of cL_open 5 (some .int) [(0, 10, 13, 13), (0, 10, 17, 24)] RL (by decide +kernel) rfl rfl (Nat.le_of_ble_eq_true rfl) ?_
  intro p e s m below meth c A ls hx hb hr hts hown hlocks hml hK hA hP hD hS hV hZ hNc htb hl
  have hl : lv_has ls 5 [(0, .ref h), (1, .int p0), (2, .int p1), (3, .ref o)] := hl
  refine lv_aload_n hx hb dL_open_0 rfl (lv_at hl 3 rfl) ?_
  refine lv_iconst (v := 0) hx hb dL_open_1 (by decide) ?_
  refine lv_aload_n hx hb dL_open_2 rfl (lv_at hl 0 rfl) ?_
  refine lv_iload_n hx hb dL_open_3 rfl (lv_at hl 1 rfl) ?_
  refine lv_iload_n hx hb dL_open_4 rfl (lv_at hl 2 rfl) ?_
  refine xcT (E := E_S) (As := [.int p0, .int p1]) (rest := [.int 0, .ref o]) ⟨hx, hb, hml, hown, hts⟩ (c_X3_open_2 l hst D cy sa h ad nS nB st bk gate nu bt wt p0 p1 h1 h2 hfull) (cwV 2 hts gL_open_X3_open rfl rfl rfl (by decide +kernel) ⟨Nat.le_of_ble_eq_true rfl, Nat.le_of_ble_eq_true rfl⟩) hK hV hZ hP hD hS hA rfl rfl rfl (xE_l) rfl hl.1 rfl (Nat.le_of_ble_eq_true rfl) dL_open_5 ⟨Nat.le_of_ble_eq_true rfl, Nat.le_of_ble_eq_true rfl⟩ (fun q9 ce H locs hce hcv hcl hP hD hS => ?_)
  refine vx_catch hown [({ startPc := 0, endPc := 10, handlerPc := 13, catchType := 13 } : ExceptionTableEntry)] ({ startPc := 0, endPc := 10, handlerPc := 17, catchType := 24 } : ExceptionTableEntry) [] (htb.trans rfl) (fun z hz => by rcases List.mem_singleton.mp hz with rfl; exact Or.inr ⟨by decide, E_A, (hts (.classLink RL 13 "java/lang/IllegalArgumentException") (List.mem_of_getElem? (i := 1) rfl)), hNc.2.1⟩) (by decide) (by decide) (hts (.classLink RL 24 "java/lang/IllegalStateException") (List.mem_of_getElem? (i := 2) rfl)) (xBw_at hV _ (List.mem_of_getElem? (i := 4) rfl)) hce hcv hcl ?_
  refine W.eq (g2 := F0 m 17 ls [.ref q9]) rfl ?_
  refine lv_astore (lv' := [(4, .ref q9), (0, .ref h), (1, .int p0), (2, .int p1), (3, .ref o)]) hx hb dL_open_17 hl (by decide) rfl (fun ls hl => ?_)
  refine lv_iconst (v := 2) hx hb dL_open_19 (by decide) ?_
  exact xri () hx hb hr hlocks hS (Nat.le_of_ble_eq_true rfl) (Nat.le_of_ble_eq_true rfl) dL_open_20 hP hD rfl trivial

set_option maxHeartbeats 4000000 in
set_option maxRecDepth 100000 in
/-- law: smoke -/
theorem c_L_smoke (l : Launch) (D : va_G) (cy : Nat → ClassId) (sa : Nat → Nat) (h : Nat) (ad : Nat → Nat) (nS nB : Nat) (st bk : Nat → Iu) (gate nu : Iu) (bt : Nat) (wt : va_W) (i : Nat) (hi : i < nS) (hcS : nS ≤ 4) (hcB : nB ≤ 6) (o : Nat) (g : Nat → Int64) : xL l D cy sa yL_smoke wsL_smoke ({ frames := 7, cells := 1, slots := 6, locals := 142 } : Room) [.ref h, .int (nI i), .ref o] ((xw cy h ad nS nB st bk gate nu bt wt) ++ [(o, .inl (cy 4, 1, .inr (.inl g)))]) (fun _ : Unit => some (.int 0)) (fun u => True) (fun u => (xw cy h ad nS nB (va_up st i (sSmoke (st i))) bk gate nu bt wt) ++ [(o, .inl (cy 4, 1, .inr (.inl (vp_updL g 0 ((st i 1).toInt64)))))]) := by
  refine xL.of cL_smoke 4 (some .int) [(0, 9, 12, 19)] RL (by decide +kernel) rfl rfl (Nat.le_of_ble_eq_true rfl) ?_
  intro p e s m below meth c A ls hx hb hr hts hown hlocks hml hK hA hP hD hS hV hZ hNc htb hl
  have hl : lv_has ls 4 [(0, .ref h), (1, .int (nI i)), (2, .ref o)] := hl
  refine lv_aload_n hx hb dL_smoke_0 rfl (lv_at hl 2 rfl) ?_
  refine lv_iconst (v := 0) hx hb dL_smoke_1 (by decide) ?_
  refine lv_aload_n hx hb dL_smoke_2 rfl (lv_at hl 0 rfl) ?_
  refine lv_iload_n hx hb dL_smoke_3 rfl (lv_at hl 1 rfl) ?_
  refine xcV (As := [.int (nI i)]) (rest := [.int 0, .ref o]) ⟨hx, hb, hml, hown, hts⟩ (c_X3_smoke l D cy h ad nS nB st bk gate nu bt wt i hi hcS hcB) (cwV 1 hts gL_smoke_X3_smoke rfl rfl rfl (by decide +kernel) ⟨Nat.le_of_ble_eq_true rfl, Nat.le_of_ble_eq_true rfl⟩) hK hP hD hS hA rfl rfl rfl (xE_l) rfl hl.1 rfl (Nat.le_of_ble_eq_true rfl) dL_smoke_4 ⟨Nat.le_of_ble_eq_true rfl, Nat.le_of_ble_eq_true rfl⟩ (fun u H locs hu hP hD hS => ?_)
  have hP : va_P D vwCl ((xw cy h ad nS nB (va_up st i (sSmoke (st i))) bk gate nu bt wt) ++ [(o, .inl (cy 4, 1, .inr (.inl g)))]) H := hP
  have hD : va_D A ((xw cy h ad nS nB (va_up st i (sSmoke (st i))) bk gate nu bt wt) ++ [(o, .inl (cy 4, 1, .inr (.inl g)))]) := hD
  refine W.eq (g2 := F0 m 7 ls [.int (st i 1), .int 0, .ref o]) rfl ?_
  refine lv_i2l (v := (st i 1).toInt64) hx hb dL_smoke_7 rfl ?_
  refine va_last hx hb hK.1 hP hD hS _ 4 last_at rfl (vp_in_nI (n := 0) (by decide) (by decide)) dL_smoke_8 (fun H locs hP hD hS => ?_)
  rw [set_last] at hP hD
  have hP : va_P D vwCl ((xw cy h ad nS nB (va_up st i (sSmoke (st i))) bk gate nu bt wt) ++ [(o, .inl (cy 4, 1, .inr (.inl (vp_updL g 0 ((st i 1).toInt64)))))]) H := hP
  have hD : va_D A ((xw cy h ad nS nB (va_up st i (sSmoke (st i))) bk gate nu bt wt) ++ [(o, .inl (cy 4, 1, .inr (.inl (vp_updL g 0 ((st i 1).toInt64)))))]) := hD
  refine lv_goto (tgt := 15) hx hb dL_smoke_9 (by decide) ?_
  refine lv_iconst (v := 0) hx hb dL_smoke_15 (by decide) ?_
  exact xri u hx hb hr hlocks hS (Nat.le_of_ble_eq_true rfl) (Nat.le_of_ble_eq_true rfl) dL_smoke_16 hP hD rfl hu

set_option maxHeartbeats 4000000 in
set_option maxRecDepth 100000 in
/-- law: smoke -/
theorem c_L_smoke_1 (l : Launch) (hst : l.stackTraces = false) (D : va_G) (cy : Nat → ClassId) (sa : Nat → Nat) (h : Nat) (ad : Nat → Nat) (nS nB : Nat) (st bk : Nat → Iu) (gate nu : Iu) (bt : Nat) (wt : va_W) (p0 : Int32) (hv : ¬ vp_in p0 nS) (hcS : nS ≤ 4) (hcB : nB ≤ 6) (o : Nat) (g : Nat → Int64) : xL l D cy sa yL_smoke wsL_smoke ({ frames := 7, cells := 1, slots := 6, locals := 142 } : Room) [.ref h, .int p0, .ref o] ((xw cy h ad nS nB st bk gate nu bt wt) ++ [(o, .inl (cy 4, 1, .inr (.inl g)))]) (fun _ : Unit => some (.int 1)) (fun _ => True) (fun _ => (xw cy h ad nS nB st bk gate nu bt wt) ++ [(o, .inl (cy 4, 1, .inr (.inl g)))]) := by
  refine xL.of cL_smoke 4 (some .int) [(0, 9, 12, 19)] RL (by decide +kernel) rfl rfl (Nat.le_of_ble_eq_true rfl) ?_
  intro p e s m below meth c A ls hx hb hr hts hown hlocks hml hK hA hP hD hS hV hZ hNc htb hl
  have hl : lv_has ls 4 [(0, .ref h), (1, .int p0), (2, .ref o)] := hl
  refine lv_aload_n hx hb dL_smoke_0 rfl (lv_at hl 2 rfl) ?_
  refine lv_iconst (v := 0) hx hb dL_smoke_1 (by decide) ?_
  refine lv_aload_n hx hb dL_smoke_2 rfl (lv_at hl 0 rfl) ?_
  refine lv_iload_n hx hb dL_smoke_3 rfl (lv_at hl 1 rfl) ?_
  refine xcT (E := E_I) (As := [.int p0]) (rest := [.int 0, .ref o]) ⟨hx, hb, hml, hown, hts⟩ (c_X3_smoke_1 l hst D cy sa h ad nS nB st bk gate nu bt wt p0 hv hcS hcB) (cwV 1 hts gL_smoke_X3_smoke rfl rfl rfl (by decide +kernel) ⟨Nat.le_of_ble_eq_true rfl, Nat.le_of_ble_eq_true rfl⟩) hK hV hZ hP hD hS hA rfl rfl rfl (xE_l) rfl hl.1 rfl (Nat.le_of_ble_eq_true rfl) dL_smoke_4 ⟨Nat.le_of_ble_eq_true rfl, Nat.le_of_ble_eq_true rfl⟩ (fun q9 ce H locs hce hcv hcl hP hD hS => ?_)
  refine vx_catch hown [] ({ startPc := 0, endPc := 9, handlerPc := 12, catchType := 19 } : ExceptionTableEntry) [] (htb.trans rfl) (fun z hz => absurd hz List.not_mem_nil) (by decide) (by decide) (hts (.classLink RL 19 "java/lang/IndexOutOfBoundsException") (List.mem_of_getElem? (i := 1) rfl)) (xBw_at hV _ (List.mem_of_getElem? (i := 5) rfl)) hce hcv hcl ?_
  refine W.eq (g2 := F0 m 12 ls [.ref q9]) rfl ?_
  refine lv_astore_n (lv' := [(3, .ref q9), (0, .ref h), (1, .int p0), (2, .ref o)]) hx hb dL_smoke_12 rfl hl (by decide) rfl (fun ls hl => ?_)
  refine lv_iconst (v := 1) hx hb dL_smoke_13 (by decide) ?_
  exact xri () hx hb hr hlocks hS (Nat.le_of_ble_eq_true rfl) (Nat.le_of_ble_eq_true rfl) dL_smoke_14 hP hD rfl trivial

set_option maxHeartbeats 4000000 in
set_option maxRecDepth 100000 in
/-- law: swear -/
theorem c_L_swear (l : Launch) (D : va_G) (cy : Nat → ClassId) (sa : Nat → Nat) (h : Nat) (ad : Nat → Nat) (nS nB : Nat) (st bk : Nat → Iu) (gate nu : Iu) (bt : Nat) (wt : va_W) (i : Nat) (hi : i < nS) (p1 p2 p3 : Int32) (h1 : (0 : Int32) ≤ p1 ∧ p1 ≤ 25) (h2 : (5 : Int32) ≤ p2 ∧ p2 ≤ 12) (h3 : (0 : Int32) ≤ p3 ∧ p3 ≤ 90) (hno : ownF bk p1 nB 0 < 0) (hroom : nB < 6) (hcS : nS ≤ 4) (hcB : nB ≤ 6) (o : Nat) (g : Nat → Int64) : xL l D cy sa yL_swear wsL_swear ({ frames := 7, cells := 2, slots := 14, locals := 145 } : Room) [.ref h, .int (nI i), .int p1, .int p2, .int p3, .ref o] ((xw cy h ad nS nB st bk gate nu bt wt) ++ [(o, .inl (cy 4, 1, .inr (.inl g)))]) (fun _ : Nat => some (.int 0)) (fun u => True) (fun u => (xw cy h (va_up ad (8 + nB) u) nS (nB + 1) st (va_up bk nB (newB (nI i) p1 p2 p3)) gate nu bt wt) ++ [(o, .inl (cy 4, 1, .inr (.inl (vp_updL g 0 ((nI nB).toInt64)))))]) := by
  refine xL.of cL_swear 7 (some .int) [(0, 14, 17, 19), (0, 14, 21, 13), (0, 14, 25, 24)] RL (by decide +kernel) rfl rfl (Nat.le_of_ble_eq_true rfl) ?_
  intro p e s m below meth c A ls hx hb hr hts hown hlocks hml hK hA hP hD hS hV hZ hNc htb hl
  have hl : lv_has ls 7 [(0, .ref h), (1, .int (nI i)), (2, .int p1), (3, .int p2), (4, .int p3), (5, .ref o)] := hl
  refine lv_aload hx hb dL_swear_0 (lv_at hl 5 rfl) ?_
  refine lv_iconst (v := 0) hx hb dL_swear_2 (by decide) ?_
  refine lv_aload_n hx hb dL_swear_3 rfl (lv_at hl 0 rfl) ?_
  refine lv_iload_n hx hb dL_swear_4 rfl (lv_at hl 1 rfl) ?_
  refine lv_iload_n hx hb dL_swear_5 rfl (lv_at hl 2 rfl) ?_
  refine lv_iload_n hx hb dL_swear_6 rfl (lv_at hl 3 rfl) ?_
  refine lv_iload hx hb dL_swear_7 (lv_at hl 4 rfl) ?_
  refine xcV (As := [.int (nI i), .int p1, .int p2, .int p3]) (rest := [.int 0, .ref o]) ⟨hx, hb, hml, hown, hts⟩ (c_X3_swear l D cy h ad nS nB st bk gate nu bt wt i hi p1 p2 p3 h1 h2 h3 hno hroom hcS hcB) (cwV 4 hts gL_swear_X3_swear rfl rfl rfl (by decide +kernel) ⟨Nat.le_of_ble_eq_true rfl, Nat.le_of_ble_eq_true rfl⟩) hK hP hD hS hA rfl rfl rfl (xE_l) rfl hl.1 rfl (Nat.le_of_ble_eq_true rfl) dL_swear_9 ⟨Nat.le_of_ble_eq_true rfl, Nat.le_of_ble_eq_true rfl⟩ (fun u H locs hu hP hD hS => ?_)
  have hP : va_P D vwCl ((xw cy h (va_up ad (8 + nB) u) nS (nB + 1) st (va_up bk nB (newB (nI i) p1 p2 p3)) gate nu bt wt) ++ [(o, .inl (cy 4, 1, .inr (.inl g)))]) H := hP
  have hD : va_D A ((xw cy h (va_up ad (8 + nB) u) nS (nB + 1) st (va_up bk nB (newB (nI i) p1 p2 p3)) gate nu bt wt) ++ [(o, .inl (cy 4, 1, .inr (.inl g)))]) := hD
  refine W.eq (g2 := F0 m 12 ls [.int (nI nB), .int 0, .ref o]) rfl ?_
  refine lv_i2l (v := (nI nB).toInt64) hx hb dL_swear_12 rfl ?_
  refine va_last hx hb hK.1 hP hD hS _ 4 last_at rfl (vp_in_nI (n := 0) (by decide) (by decide)) dL_swear_13 (fun H locs hP hD hS => ?_)
  rw [set_last] at hP hD
  have hP : va_P D vwCl ((xw cy h (va_up ad (8 + nB) u) nS (nB + 1) st (va_up bk nB (newB (nI i) p1 p2 p3)) gate nu bt wt) ++ [(o, .inl (cy 4, 1, .inr (.inl (vp_updL g 0 ((nI nB).toInt64)))))]) H := hP
  have hD : va_D A ((xw cy h (va_up ad (8 + nB) u) nS (nB + 1) st (va_up bk nB (newB (nI i) p1 p2 p3)) gate nu bt wt) ++ [(o, .inl (cy 4, 1, .inr (.inl (vp_updL g 0 ((nI nB).toInt64)))))]) := hD
  refine lv_goto (tgt := 29) hx hb dL_swear_14 (by decide) ?_
  refine lv_iconst (v := 0) hx hb dL_swear_29 (by decide) ?_
  exact xri u hx hb hr hlocks hS (Nat.le_of_ble_eq_true rfl) (Nat.le_of_ble_eq_true rfl) dL_swear_30 hP hD rfl hu

set_option maxHeartbeats 4000000 in
set_option maxRecDepth 100000 in
/-- law: swear -/
theorem c_L_swear_1 (l : Launch) (hst : l.stackTraces = false) (D : va_G) (cy : Nat → ClassId) (sa : Nat → Nat) (h : Nat) (ad : Nat → Nat) (nS nB : Nat) (st bk : Nat → Iu) (gate nu : Iu) (bt : Nat) (wt : va_W) (p0 : Int32) (p1 p2 p3 : Int32) (hv : ¬ vp_in p0 nS) (hcS : nS ≤ 4) (hcB : nB ≤ 6) (o : Nat) (g : Nat → Int64) : xL l D cy sa yL_swear wsL_swear ({ frames := 7, cells := 2, slots := 14, locals := 145 } : Room) [.ref h, .int p0, .int p1, .int p2, .int p3, .ref o] ((xw cy h ad nS nB st bk gate nu bt wt) ++ [(o, .inl (cy 4, 1, .inr (.inl g)))]) (fun _ : Unit => some (.int 1)) (fun _ => True) (fun _ => (xw cy h ad nS nB st bk gate nu bt wt) ++ [(o, .inl (cy 4, 1, .inr (.inl g)))]) := by
  refine xL.of cL_swear 7 (some .int) [(0, 14, 17, 19), (0, 14, 21, 13), (0, 14, 25, 24)] RL (by decide +kernel) rfl rfl (Nat.le_of_ble_eq_true rfl) ?_
  intro p e s m below meth c A ls hx hb hr hts hown hlocks hml hK hA hP hD hS hV hZ hNc htb hl
  have hl : lv_has ls 7 [(0, .ref h), (1, .int p0), (2, .int p1), (3, .int p2), (4, .int p3), (5, .ref o)] := hl
  refine lv_aload hx hb dL_swear_0 (lv_at hl 5 rfl) ?_
  refine lv_iconst (v := 0) hx hb dL_swear_2 (by decide) ?_
  refine lv_aload_n hx hb dL_swear_3 rfl (lv_at hl 0 rfl) ?_
  refine lv_iload_n hx hb dL_swear_4 rfl (lv_at hl 1 rfl) ?_
  refine lv_iload_n hx hb dL_swear_5 rfl (lv_at hl 2 rfl) ?_
  refine lv_iload_n hx hb dL_swear_6 rfl (lv_at hl 3 rfl) ?_
  refine lv_iload hx hb dL_swear_7 (lv_at hl 4 rfl) ?_
  refine xcT (E := E_I) (As := [.int p0, .int p1, .int p2, .int p3]) (rest := [.int 0, .ref o]) ⟨hx, hb, hml, hown, hts⟩ (c_X3_swear_1 l hst D cy sa h ad nS nB st bk gate nu bt wt p0 p1 p2 p3 hv hcS hcB) (cwV 4 hts gL_swear_X3_swear rfl rfl rfl (by decide +kernel) ⟨Nat.le_of_ble_eq_true rfl, Nat.le_of_ble_eq_true rfl⟩) hK hV hZ hP hD hS hA rfl rfl rfl (xE_l) rfl hl.1 rfl (Nat.le_of_ble_eq_true rfl) dL_swear_9 ⟨Nat.le_of_ble_eq_true rfl, Nat.le_of_ble_eq_true rfl⟩ (fun q9 ce H locs hce hcv hcl hP hD hS => ?_)
  refine vx_catch hown [] ({ startPc := 0, endPc := 14, handlerPc := 17, catchType := 19 } : ExceptionTableEntry) [({ startPc := 0, endPc := 14, handlerPc := 21, catchType := 13 } : ExceptionTableEntry), ({ startPc := 0, endPc := 14, handlerPc := 25, catchType := 24 } : ExceptionTableEntry)] (htb.trans rfl) (fun z hz => absurd hz List.not_mem_nil) (by decide) (by decide) (hts (.classLink RL 19 "java/lang/IndexOutOfBoundsException") (List.mem_of_getElem? (i := 1) rfl)) (xBw_at hV _ (List.mem_of_getElem? (i := 5) rfl)) hce hcv hcl ?_
  refine W.eq (g2 := F0 m 17 ls [.ref q9]) rfl ?_
  refine lv_astore (lv' := [(6, .ref q9), (0, .ref h), (1, .int p0), (2, .int p1), (3, .int p2), (4, .int p3), (5, .ref o)]) hx hb dL_swear_17 hl (by decide) rfl (fun ls hl => ?_)
  refine lv_iconst (v := 1) hx hb dL_swear_19 (by decide) ?_
  exact xri () hx hb hr hlocks hS (Nat.le_of_ble_eq_true rfl) (Nat.le_of_ble_eq_true rfl) dL_swear_20 hP hD rfl trivial

set_option maxHeartbeats 4000000 in
set_option maxRecDepth 100000 in
/-- law: swear -/
theorem c_L_swear_2a (l : Launch) (hst : l.stackTraces = false) (D : va_G) (cy : Nat → ClassId) (sa : Nat → Nat) (h : Nat) (ad : Nat → Nat) (nS nB : Nat) (st bk : Nat → Iu) (gate nu : Iu) (bt : Nat) (wt : va_W) (i : Nat) (hi : i < nS) (p1 p2 p3 : Int32) (h1 : ¬ ((0 : Int32) ≤ p1 ∧ p1 ≤ 25)) (hcS : nS ≤ 4) (hcB : nB ≤ 6) (o : Nat) (g : Nat → Int64) : xL l D cy sa yL_swear wsL_swear ({ frames := 7, cells := 2, slots := 14, locals := 145 } : Room) [.ref h, .int (nI i), .int p1, .int p2, .int p3, .ref o] ((xw cy h ad nS nB st bk gate nu bt wt) ++ [(o, .inl (cy 4, 1, .inr (.inl g)))]) (fun _ : Unit => some (.int 2)) (fun _ => True) (fun _ => (xw cy h ad nS nB st bk gate nu bt wt) ++ [(o, .inl (cy 4, 1, .inr (.inl g)))]) := by
  refine xL.of cL_swear 7 (some .int) [(0, 14, 17, 19), (0, 14, 21, 13), (0, 14, 25, 24)] RL (by decide +kernel) rfl rfl (Nat.le_of_ble_eq_true rfl) ?_
  intro p e s m below meth c A ls hx hb hr hts hown hlocks hml hK hA hP hD hS hV hZ hNc htb hl
  have hl : lv_has ls 7 [(0, .ref h), (1, .int (nI i)), (2, .int p1), (3, .int p2), (4, .int p3), (5, .ref o)] := hl
  refine lv_aload hx hb dL_swear_0 (lv_at hl 5 rfl) ?_
  refine lv_iconst (v := 0) hx hb dL_swear_2 (by decide) ?_
  refine lv_aload_n hx hb dL_swear_3 rfl (lv_at hl 0 rfl) ?_
  refine lv_iload_n hx hb dL_swear_4 rfl (lv_at hl 1 rfl) ?_
  refine lv_iload_n hx hb dL_swear_5 rfl (lv_at hl 2 rfl) ?_
  refine lv_iload_n hx hb dL_swear_6 rfl (lv_at hl 3 rfl) ?_
  refine lv_iload hx hb dL_swear_7 (lv_at hl 4 rfl) ?_
  refine xcT (E := E_A) (As := [.int (nI i), .int p1, .int p2, .int p3]) (rest := [.int 0, .ref o]) ⟨hx, hb, hml, hown, hts⟩ (c_X3_swear_2a l hst D cy sa h ad nS nB st bk gate nu bt wt i hi p1 p2 p3 h1 hcS hcB) (cwV 4 hts gL_swear_X3_swear rfl rfl rfl (by decide +kernel) ⟨Nat.le_of_ble_eq_true rfl, Nat.le_of_ble_eq_true rfl⟩) hK hV hZ hP hD hS hA rfl rfl rfl (xE_l) rfl hl.1 rfl (Nat.le_of_ble_eq_true rfl) dL_swear_9 ⟨Nat.le_of_ble_eq_true rfl, Nat.le_of_ble_eq_true rfl⟩ (fun q9 ce H locs hce hcv hcl hP hD hS => ?_)
  refine vx_catch hown [({ startPc := 0, endPc := 14, handlerPc := 17, catchType := 19 } : ExceptionTableEntry)] ({ startPc := 0, endPc := 14, handlerPc := 21, catchType := 13 } : ExceptionTableEntry) [({ startPc := 0, endPc := 14, handlerPc := 25, catchType := 24 } : ExceptionTableEntry)] (htb.trans rfl) (fun z hz => by rcases List.mem_singleton.mp hz with rfl; exact Or.inr ⟨by decide, E_I, (hts (.classLink RL 19 "java/lang/IndexOutOfBoundsException") (List.mem_of_getElem? (i := 1) rfl)), hNc.1⟩) (by decide) (by decide) (hts (.classLink RL 13 "java/lang/IllegalArgumentException") (List.mem_of_getElem? (i := 2) rfl)) (xBw_at hV _ (List.mem_of_getElem? (i := 3) rfl)) hce hcv hcl ?_
  refine W.eq (g2 := F0 m 21 ls [.ref q9]) rfl ?_
  refine lv_astore (lv' := [(6, .ref q9), (0, .ref h), (1, .int (nI i)), (2, .int p1), (3, .int p2), (4, .int p3), (5, .ref o)]) hx hb dL_swear_21 hl (by decide) rfl (fun ls hl => ?_)
  refine lv_iconst (v := 2) hx hb dL_swear_23 (by decide) ?_
  exact xri () hx hb hr hlocks hS (Nat.le_of_ble_eq_true rfl) (Nat.le_of_ble_eq_true rfl) dL_swear_24 hP hD rfl trivial

set_option maxHeartbeats 4000000 in
set_option maxRecDepth 100000 in
/-- law: swear -/
theorem c_L_swear_2b (l : Launch) (hst : l.stackTraces = false) (D : va_G) (cy : Nat → ClassId) (sa : Nat → Nat) (h : Nat) (ad : Nat → Nat) (nS nB : Nat) (st bk : Nat → Iu) (gate nu : Iu) (bt : Nat) (wt : va_W) (i : Nat) (hi : i < nS) (p1 p2 p3 : Int32) (h1 : (0 : Int32) ≤ p1 ∧ p1 ≤ 25) (h2 : ¬ ((5 : Int32) ≤ p2 ∧ p2 ≤ 12)) (hcS : nS ≤ 4) (hcB : nB ≤ 6) (o : Nat) (g : Nat → Int64) : xL l D cy sa yL_swear wsL_swear ({ frames := 7, cells := 2, slots := 14, locals := 145 } : Room) [.ref h, .int (nI i), .int p1, .int p2, .int p3, .ref o] ((xw cy h ad nS nB st bk gate nu bt wt) ++ [(o, .inl (cy 4, 1, .inr (.inl g)))]) (fun _ : Unit => some (.int 2)) (fun _ => True) (fun _ => (xw cy h ad nS nB st bk gate nu bt wt) ++ [(o, .inl (cy 4, 1, .inr (.inl g)))]) := by
  refine xL.of cL_swear 7 (some .int) [(0, 14, 17, 19), (0, 14, 21, 13), (0, 14, 25, 24)] RL (by decide +kernel) rfl rfl (Nat.le_of_ble_eq_true rfl) ?_
  intro p e s m below meth c A ls hx hb hr hts hown hlocks hml hK hA hP hD hS hV hZ hNc htb hl
  have hl : lv_has ls 7 [(0, .ref h), (1, .int (nI i)), (2, .int p1), (3, .int p2), (4, .int p3), (5, .ref o)] := hl
  refine lv_aload hx hb dL_swear_0 (lv_at hl 5 rfl) ?_
  refine lv_iconst (v := 0) hx hb dL_swear_2 (by decide) ?_
  refine lv_aload_n hx hb dL_swear_3 rfl (lv_at hl 0 rfl) ?_
  refine lv_iload_n hx hb dL_swear_4 rfl (lv_at hl 1 rfl) ?_
  refine lv_iload_n hx hb dL_swear_5 rfl (lv_at hl 2 rfl) ?_
  refine lv_iload_n hx hb dL_swear_6 rfl (lv_at hl 3 rfl) ?_
  refine lv_iload hx hb dL_swear_7 (lv_at hl 4 rfl) ?_
  refine xcT (E := E_A) (As := [.int (nI i), .int p1, .int p2, .int p3]) (rest := [.int 0, .ref o]) ⟨hx, hb, hml, hown, hts⟩ (c_X3_swear_2b l hst D cy sa h ad nS nB st bk gate nu bt wt i hi p1 p2 p3 h1 h2 hcS hcB) (cwV 4 hts gL_swear_X3_swear rfl rfl rfl (by decide +kernel) ⟨Nat.le_of_ble_eq_true rfl, Nat.le_of_ble_eq_true rfl⟩) hK hV hZ hP hD hS hA rfl rfl rfl (xE_l) rfl hl.1 rfl (Nat.le_of_ble_eq_true rfl) dL_swear_9 ⟨Nat.le_of_ble_eq_true rfl, Nat.le_of_ble_eq_true rfl⟩ (fun q9 ce H locs hce hcv hcl hP hD hS => ?_)
  refine vx_catch hown [({ startPc := 0, endPc := 14, handlerPc := 17, catchType := 19 } : ExceptionTableEntry)] ({ startPc := 0, endPc := 14, handlerPc := 21, catchType := 13 } : ExceptionTableEntry) [({ startPc := 0, endPc := 14, handlerPc := 25, catchType := 24 } : ExceptionTableEntry)] (htb.trans rfl) (fun z hz => by rcases List.mem_singleton.mp hz with rfl; exact Or.inr ⟨by decide, E_I, (hts (.classLink RL 19 "java/lang/IndexOutOfBoundsException") (List.mem_of_getElem? (i := 1) rfl)), hNc.1⟩) (by decide) (by decide) (hts (.classLink RL 13 "java/lang/IllegalArgumentException") (List.mem_of_getElem? (i := 2) rfl)) (xBw_at hV _ (List.mem_of_getElem? (i := 3) rfl)) hce hcv hcl ?_
  refine W.eq (g2 := F0 m 21 ls [.ref q9]) rfl ?_
  refine lv_astore (lv' := [(6, .ref q9), (0, .ref h), (1, .int (nI i)), (2, .int p1), (3, .int p2), (4, .int p3), (5, .ref o)]) hx hb dL_swear_21 hl (by decide) rfl (fun ls hl => ?_)
  refine lv_iconst (v := 2) hx hb dL_swear_23 (by decide) ?_
  exact xri () hx hb hr hlocks hS (Nat.le_of_ble_eq_true rfl) (Nat.le_of_ble_eq_true rfl) dL_swear_24 hP hD rfl trivial

set_option maxHeartbeats 4000000 in
set_option maxRecDepth 100000 in
/-- law: swear -/
theorem c_L_swear_2c (l : Launch) (hst : l.stackTraces = false) (D : va_G) (cy : Nat → ClassId) (sa : Nat → Nat) (h : Nat) (ad : Nat → Nat) (nS nB : Nat) (st bk : Nat → Iu) (gate nu : Iu) (bt : Nat) (wt : va_W) (i : Nat) (hi : i < nS) (p1 p2 p3 : Int32) (h1 : (0 : Int32) ≤ p1 ∧ p1 ≤ 25) (h2 : (5 : Int32) ≤ p2 ∧ p2 ≤ 12) (h3 : ¬ ((0 : Int32) ≤ p3 ∧ p3 ≤ 90)) (hcS : nS ≤ 4) (hcB : nB ≤ 6) (o : Nat) (g : Nat → Int64) : xL l D cy sa yL_swear wsL_swear ({ frames := 7, cells := 2, slots := 14, locals := 145 } : Room) [.ref h, .int (nI i), .int p1, .int p2, .int p3, .ref o] ((xw cy h ad nS nB st bk gate nu bt wt) ++ [(o, .inl (cy 4, 1, .inr (.inl g)))]) (fun _ : Unit => some (.int 2)) (fun _ => True) (fun _ => (xw cy h ad nS nB st bk gate nu bt wt) ++ [(o, .inl (cy 4, 1, .inr (.inl g)))]) := by
  refine xL.of cL_swear 7 (some .int) [(0, 14, 17, 19), (0, 14, 21, 13), (0, 14, 25, 24)] RL (by decide +kernel) rfl rfl (Nat.le_of_ble_eq_true rfl) ?_
  intro p e s m below meth c A ls hx hb hr hts hown hlocks hml hK hA hP hD hS hV hZ hNc htb hl
  have hl : lv_has ls 7 [(0, .ref h), (1, .int (nI i)), (2, .int p1), (3, .int p2), (4, .int p3), (5, .ref o)] := hl
  refine lv_aload hx hb dL_swear_0 (lv_at hl 5 rfl) ?_
  refine lv_iconst (v := 0) hx hb dL_swear_2 (by decide) ?_
  refine lv_aload_n hx hb dL_swear_3 rfl (lv_at hl 0 rfl) ?_
  refine lv_iload_n hx hb dL_swear_4 rfl (lv_at hl 1 rfl) ?_
  refine lv_iload_n hx hb dL_swear_5 rfl (lv_at hl 2 rfl) ?_
  refine lv_iload_n hx hb dL_swear_6 rfl (lv_at hl 3 rfl) ?_
  refine lv_iload hx hb dL_swear_7 (lv_at hl 4 rfl) ?_
  refine xcT (E := E_A) (As := [.int (nI i), .int p1, .int p2, .int p3]) (rest := [.int 0, .ref o]) ⟨hx, hb, hml, hown, hts⟩ (c_X3_swear_2c l hst D cy sa h ad nS nB st bk gate nu bt wt i hi p1 p2 p3 h1 h2 h3 hcS hcB) (cwV 4 hts gL_swear_X3_swear rfl rfl rfl (by decide +kernel) ⟨Nat.le_of_ble_eq_true rfl, Nat.le_of_ble_eq_true rfl⟩) hK hV hZ hP hD hS hA rfl rfl rfl (xE_l) rfl hl.1 rfl (Nat.le_of_ble_eq_true rfl) dL_swear_9 ⟨Nat.le_of_ble_eq_true rfl, Nat.le_of_ble_eq_true rfl⟩ (fun q9 ce H locs hce hcv hcl hP hD hS => ?_)
  refine vx_catch hown [({ startPc := 0, endPc := 14, handlerPc := 17, catchType := 19 } : ExceptionTableEntry)] ({ startPc := 0, endPc := 14, handlerPc := 21, catchType := 13 } : ExceptionTableEntry) [({ startPc := 0, endPc := 14, handlerPc := 25, catchType := 24 } : ExceptionTableEntry)] (htb.trans rfl) (fun z hz => by rcases List.mem_singleton.mp hz with rfl; exact Or.inr ⟨by decide, E_I, (hts (.classLink RL 19 "java/lang/IndexOutOfBoundsException") (List.mem_of_getElem? (i := 1) rfl)), hNc.1⟩) (by decide) (by decide) (hts (.classLink RL 13 "java/lang/IllegalArgumentException") (List.mem_of_getElem? (i := 2) rfl)) (xBw_at hV _ (List.mem_of_getElem? (i := 3) rfl)) hce hcv hcl ?_
  refine W.eq (g2 := F0 m 21 ls [.ref q9]) rfl ?_
  refine lv_astore (lv' := [(6, .ref q9), (0, .ref h), (1, .int (nI i)), (2, .int p1), (3, .int p2), (4, .int p3), (5, .ref o)]) hx hb dL_swear_21 hl (by decide) rfl (fun ls hl => ?_)
  refine lv_iconst (v := 2) hx hb dL_swear_23 (by decide) ?_
  exact xri () hx hb hr hlocks hS (Nat.le_of_ble_eq_true rfl) (Nat.le_of_ble_eq_true rfl) dL_swear_24 hP hD rfl trivial

set_option maxHeartbeats 4000000 in
set_option maxRecDepth 100000 in
/-- law: swear -/
theorem c_L_swear_3a (l : Launch) (hst : l.stackTraces = false) (D : va_G) (cy : Nat → ClassId) (sa : Nat → Nat) (h : Nat) (ad : Nat → Nat) (nS nB : Nat) (st bk : Nat → Iu) (gate nu : Iu) (bt : Nat) (wt : va_W) (i : Nat) (hi : i < nS) (p1 p2 p3 : Int32) (h1 : (0 : Int32) ≤ p1 ∧ p1 ≤ 25) (h2 : (5 : Int32) ≤ p2 ∧ p2 ≤ 12) (h3 : (0 : Int32) ≤ p3 ∧ p3 ≤ 90) (hno : ¬ ownF bk p1 nB 0 < 0) (hcS : nS ≤ 4) (hcB : nB ≤ 6) (o : Nat) (g : Nat → Int64) : xL l D cy sa yL_swear wsL_swear ({ frames := 7, cells := 2, slots := 14, locals := 145 } : Room) [.ref h, .int (nI i), .int p1, .int p2, .int p3, .ref o] ((xw cy h ad nS nB st bk gate nu bt wt) ++ [(o, .inl (cy 4, 1, .inr (.inl g)))]) (fun _ : Unit => some (.int 3)) (fun _ => True) (fun _ => (xw cy h ad nS nB st bk gate nu bt wt) ++ [(o, .inl (cy 4, 1, .inr (.inl g)))]) := by
  refine xL.of cL_swear 7 (some .int) [(0, 14, 17, 19), (0, 14, 21, 13), (0, 14, 25, 24)] RL (by decide +kernel) rfl rfl (Nat.le_of_ble_eq_true rfl) ?_
  intro p e s m below meth c A ls hx hb hr hts hown hlocks hml hK hA hP hD hS hV hZ hNc htb hl
  have hl : lv_has ls 7 [(0, .ref h), (1, .int (nI i)), (2, .int p1), (3, .int p2), (4, .int p3), (5, .ref o)] := hl
  refine lv_aload hx hb dL_swear_0 (lv_at hl 5 rfl) ?_
  refine lv_iconst (v := 0) hx hb dL_swear_2 (by decide) ?_
  refine lv_aload_n hx hb dL_swear_3 rfl (lv_at hl 0 rfl) ?_
  refine lv_iload_n hx hb dL_swear_4 rfl (lv_at hl 1 rfl) ?_
  refine lv_iload_n hx hb dL_swear_5 rfl (lv_at hl 2 rfl) ?_
  refine lv_iload_n hx hb dL_swear_6 rfl (lv_at hl 3 rfl) ?_
  refine lv_iload hx hb dL_swear_7 (lv_at hl 4 rfl) ?_
  refine xcT (E := E_S) (As := [.int (nI i), .int p1, .int p2, .int p3]) (rest := [.int 0, .ref o]) ⟨hx, hb, hml, hown, hts⟩ (c_X3_swear_3a l hst D cy sa h ad nS nB st bk gate nu bt wt i hi p1 p2 p3 h1 h2 h3 hno hcS hcB) (cwV 4 hts gL_swear_X3_swear rfl rfl rfl (by decide +kernel) ⟨Nat.le_of_ble_eq_true rfl, Nat.le_of_ble_eq_true rfl⟩) hK hV hZ hP hD hS hA rfl rfl rfl (xE_l) rfl hl.1 rfl (Nat.le_of_ble_eq_true rfl) dL_swear_9 ⟨Nat.le_of_ble_eq_true rfl, Nat.le_of_ble_eq_true rfl⟩ (fun q9 ce H locs hce hcv hcl hP hD hS => ?_)
  refine vx_catch hown [({ startPc := 0, endPc := 14, handlerPc := 17, catchType := 19 } : ExceptionTableEntry), ({ startPc := 0, endPc := 14, handlerPc := 21, catchType := 13 } : ExceptionTableEntry)] ({ startPc := 0, endPc := 14, handlerPc := 25, catchType := 24 } : ExceptionTableEntry) [] (htb.trans rfl) (fun z hz => (List.mem_cons.mp hz).elim (fun h => by subst h; exact Or.inr ⟨by decide, E_I, (hts (.classLink RL 19 "java/lang/IndexOutOfBoundsException") (List.mem_of_getElem? (i := 1) rfl)), hNc.2.2.1⟩) (fun h => by rcases List.mem_singleton.mp h with rfl; exact Or.inr ⟨by decide, E_A, (hts (.classLink RL 13 "java/lang/IllegalArgumentException") (List.mem_of_getElem? (i := 2) rfl)), hNc.2.1⟩)) (by decide) (by decide) (hts (.classLink RL 24 "java/lang/IllegalStateException") (List.mem_of_getElem? (i := 3) rfl)) (xBw_at hV _ (List.mem_of_getElem? (i := 4) rfl)) hce hcv hcl ?_
  refine W.eq (g2 := F0 m 25 ls [.ref q9]) rfl ?_
  refine lv_astore (lv' := [(6, .ref q9), (0, .ref h), (1, .int (nI i)), (2, .int p1), (3, .int p2), (4, .int p3), (5, .ref o)]) hx hb dL_swear_25 hl (by decide) rfl (fun ls hl => ?_)
  refine lv_iconst (v := 3) hx hb dL_swear_27 (by decide) ?_
  exact xri () hx hb hr hlocks hS (Nat.le_of_ble_eq_true rfl) (Nat.le_of_ble_eq_true rfl) dL_swear_28 hP hD rfl trivial

set_option maxHeartbeats 4000000 in
set_option maxRecDepth 100000 in
/-- law: swear -/
theorem c_L_swear_3b (l : Launch) (hst : l.stackTraces = false) (D : va_G) (cy : Nat → ClassId) (sa : Nat → Nat) (h : Nat) (ad : Nat → Nat) (nS nB : Nat) (st bk : Nat → Iu) (gate nu : Iu) (bt : Nat) (wt : va_W) (i : Nat) (hi : i < nS) (p1 p2 p3 : Int32) (h1 : (0 : Int32) ≤ p1 ∧ p1 ≤ 25) (h2 : (5 : Int32) ≤ p2 ∧ p2 ≤ 12) (h3 : (0 : Int32) ≤ p3 ∧ p3 ≤ 90) (hno : ownF bk p1 nB 0 < 0) (hfull : nB = 6) (hcS : nS ≤ 4) (hcB : nB ≤ 6) (o : Nat) (g : Nat → Int64) : xL l D cy sa yL_swear wsL_swear ({ frames := 7, cells := 2, slots := 14, locals := 145 } : Room) [.ref h, .int (nI i), .int p1, .int p2, .int p3, .ref o] ((xw cy h ad nS nB st bk gate nu bt wt) ++ [(o, .inl (cy 4, 1, .inr (.inl g)))]) (fun _ : Unit => some (.int 3)) (fun _ => True) (fun _ => (xw cy h ad nS nB st bk gate nu bt wt) ++ [(o, .inl (cy 4, 1, .inr (.inl g)))]) := by
  refine xL.of cL_swear 7 (some .int) [(0, 14, 17, 19), (0, 14, 21, 13), (0, 14, 25, 24)] RL (by decide +kernel) rfl rfl (Nat.le_of_ble_eq_true rfl) ?_
  intro p e s m below meth c A ls hx hb hr hts hown hlocks hml hK hA hP hD hS hV hZ hNc htb hl
  have hl : lv_has ls 7 [(0, .ref h), (1, .int (nI i)), (2, .int p1), (3, .int p2), (4, .int p3), (5, .ref o)] := hl
  refine lv_aload hx hb dL_swear_0 (lv_at hl 5 rfl) ?_
  refine lv_iconst (v := 0) hx hb dL_swear_2 (by decide) ?_
  refine lv_aload_n hx hb dL_swear_3 rfl (lv_at hl 0 rfl) ?_
  refine lv_iload_n hx hb dL_swear_4 rfl (lv_at hl 1 rfl) ?_
  refine lv_iload_n hx hb dL_swear_5 rfl (lv_at hl 2 rfl) ?_
  refine lv_iload_n hx hb dL_swear_6 rfl (lv_at hl 3 rfl) ?_
  refine lv_iload hx hb dL_swear_7 (lv_at hl 4 rfl) ?_
  refine xcT (E := E_S) (As := [.int (nI i), .int p1, .int p2, .int p3]) (rest := [.int 0, .ref o]) ⟨hx, hb, hml, hown, hts⟩ (c_X3_swear_3b l hst D cy sa h ad nS nB st bk gate nu bt wt i hi p1 p2 p3 h1 h2 h3 hno hfull hcS hcB) (cwV 4 hts gL_swear_X3_swear rfl rfl rfl (by decide +kernel) ⟨Nat.le_of_ble_eq_true rfl, Nat.le_of_ble_eq_true rfl⟩) hK hV hZ hP hD hS hA rfl rfl rfl (xE_l) rfl hl.1 rfl (Nat.le_of_ble_eq_true rfl) dL_swear_9 ⟨Nat.le_of_ble_eq_true rfl, Nat.le_of_ble_eq_true rfl⟩ (fun q9 ce H locs hce hcv hcl hP hD hS => ?_)
  refine vx_catch hown [({ startPc := 0, endPc := 14, handlerPc := 17, catchType := 19 } : ExceptionTableEntry), ({ startPc := 0, endPc := 14, handlerPc := 21, catchType := 13 } : ExceptionTableEntry)] ({ startPc := 0, endPc := 14, handlerPc := 25, catchType := 24 } : ExceptionTableEntry) [] (htb.trans rfl) (fun z hz => (List.mem_cons.mp hz).elim (fun h => by subst h; exact Or.inr ⟨by decide, E_I, (hts (.classLink RL 19 "java/lang/IndexOutOfBoundsException") (List.mem_of_getElem? (i := 1) rfl)), hNc.2.2.1⟩) (fun h => by rcases List.mem_singleton.mp h with rfl; exact Or.inr ⟨by decide, E_A, (hts (.classLink RL 13 "java/lang/IllegalArgumentException") (List.mem_of_getElem? (i := 2) rfl)), hNc.2.1⟩)) (by decide) (by decide) (hts (.classLink RL 24 "java/lang/IllegalStateException") (List.mem_of_getElem? (i := 3) rfl)) (xBw_at hV _ (List.mem_of_getElem? (i := 4) rfl)) hce hcv hcl ?_
  refine W.eq (g2 := F0 m 25 ls [.ref q9]) rfl ?_
  refine lv_astore (lv' := [(6, .ref q9), (0, .ref h), (1, .int (nI i)), (2, .int p1), (3, .int p2), (4, .int p3), (5, .ref o)]) hx hb dL_swear_25 hl (by decide) rfl (fun ls hl => ?_)
  refine lv_iconst (v := 3) hx hb dL_swear_27 (by decide) ?_
  exact xri () hx hb hr hlocks hS (Nat.le_of_ble_eq_true rfl) (Nat.le_of_ble_eq_true rfl) dL_swear_28 hP hD rfl trivial

set_option maxHeartbeats 4000000 in
set_option maxRecDepth 100000 in
/-- law: deal -/
theorem c_L_deal (l : Launch) (D : va_G) (cy : Nat → ClassId) (sa : Nat → Nat) (h : Nat) (ad : Nat → Nat) (nS nB : Nat) (st bk : Nat → Iu) (gate nu : Iu) (bt : Nat) (wt : va_W) (j : Nat) (hj : j < nB) (p1 : Int32) (h2 : (0 : Int32) ≤ p1 ∧ p1 ≤ 90) (hcS : nS ≤ 4) (hcB : nB ≤ 6) (o : Nat) (g : Nat → Int64) : xL l D cy sa yL_deal wsL_deal ({ frames := 7, cells := 1, slots := 6, locals := 144 } : Room) [.ref h, .int (nI j), .int p1, .ref o] ((xw cy h ad nS nB st bk gate nu bt wt) ++ [(o, .inl (cy 4, 1, .inr (.inl g)))]) (fun _ : Unit => some (.int 0)) (fun u => True) (fun u => (xw cy h ad nS nB st (va_up bk j (upd (bk j) 2 p1)) gate nu bt wt) ++ [(o, .inl (cy 4, 1, .inr (.inl (vp_updL g 0 ((bk j 2).toInt64)))))]) := by
  refine xL.of cL_deal 5 (some .int) [(0, 10, 13, 19), (0, 10, 17, 13)] RL (by decide +kernel) rfl rfl (Nat.le_of_ble_eq_true rfl) ?_
  intro p e s m below meth c A ls hx hb hr hts hown hlocks hml hK hA hP hD hS hV hZ hNc htb hl
  have hl : lv_has ls 5 [(0, .ref h), (1, .int (nI j)), (2, .int p1), (3, .ref o)] := hl
  refine lv_aload_n hx hb dL_deal_0 rfl (lv_at hl 3 rfl) ?_
  refine lv_iconst (v := 0) hx hb dL_deal_1 (by decide) ?_
  refine lv_aload_n hx hb dL_deal_2 rfl (lv_at hl 0 rfl) ?_
  refine lv_iload_n hx hb dL_deal_3 rfl (lv_at hl 1 rfl) ?_
  refine lv_iload_n hx hb dL_deal_4 rfl (lv_at hl 2 rfl) ?_
  refine xcV (As := [.int (nI j), .int p1]) (rest := [.int 0, .ref o]) ⟨hx, hb, hml, hown, hts⟩ (c_X3_deal l D cy h ad nS nB st bk gate nu bt wt j hj p1 h2 hcS hcB) (cwV 2 hts gL_deal_X3_deal rfl rfl rfl (by decide +kernel) ⟨Nat.le_of_ble_eq_true rfl, Nat.le_of_ble_eq_true rfl⟩) hK hP hD hS hA rfl rfl rfl (xE_l) rfl hl.1 rfl (Nat.le_of_ble_eq_true rfl) dL_deal_5 ⟨Nat.le_of_ble_eq_true rfl, Nat.le_of_ble_eq_true rfl⟩ (fun u H locs hu hP hD hS => ?_)
  have hP : va_P D vwCl ((xw cy h ad nS nB st (va_up bk j (upd (bk j) 2 p1)) gate nu bt wt) ++ [(o, .inl (cy 4, 1, .inr (.inl g)))]) H := hP
  have hD : va_D A ((xw cy h ad nS nB st (va_up bk j (upd (bk j) 2 p1)) gate nu bt wt) ++ [(o, .inl (cy 4, 1, .inr (.inl g)))]) := hD
  refine W.eq (g2 := F0 m 8 ls [.int (bk j 2), .int 0, .ref o]) rfl ?_
  refine lv_i2l (v := (bk j 2).toInt64) hx hb dL_deal_8 rfl ?_
  refine va_last hx hb hK.1 hP hD hS _ 4 last_at rfl (vp_in_nI (n := 0) (by decide) (by decide)) dL_deal_9 (fun H locs hP hD hS => ?_)
  rw [set_last] at hP hD
  have hP : va_P D vwCl ((xw cy h ad nS nB st (va_up bk j (upd (bk j) 2 p1)) gate nu bt wt) ++ [(o, .inl (cy 4, 1, .inr (.inl (vp_updL g 0 ((bk j 2).toInt64)))))]) H := hP
  have hD : va_D A ((xw cy h ad nS nB st (va_up bk j (upd (bk j) 2 p1)) gate nu bt wt) ++ [(o, .inl (cy 4, 1, .inr (.inl (vp_updL g 0 ((bk j 2).toInt64)))))]) := hD
  refine lv_goto (tgt := 21) hx hb dL_deal_10 (by decide) ?_
  refine lv_iconst (v := 0) hx hb dL_deal_21 (by decide) ?_
  exact xri u hx hb hr hlocks hS (Nat.le_of_ble_eq_true rfl) (Nat.le_of_ble_eq_true rfl) dL_deal_22 hP hD rfl hu

set_option maxHeartbeats 4000000 in
set_option maxRecDepth 100000 in
/-- law: deal -/
theorem c_L_deal_1 (l : Launch) (hst : l.stackTraces = false) (D : va_G) (cy : Nat → ClassId) (sa : Nat → Nat) (h : Nat) (ad : Nat → Nat) (nS nB : Nat) (st bk : Nat → Iu) (gate nu : Iu) (bt : Nat) (wt : va_W) (p0 p1 : Int32) (hv : ¬ vp_in p0 nB) (hcS : nS ≤ 4) (hcB : nB ≤ 6) (o : Nat) (g : Nat → Int64) : xL l D cy sa yL_deal wsL_deal ({ frames := 7, cells := 1, slots := 6, locals := 144 } : Room) [.ref h, .int p0, .int p1, .ref o] ((xw cy h ad nS nB st bk gate nu bt wt) ++ [(o, .inl (cy 4, 1, .inr (.inl g)))]) (fun _ : Unit => some (.int 1)) (fun _ => True) (fun _ => (xw cy h ad nS nB st bk gate nu bt wt) ++ [(o, .inl (cy 4, 1, .inr (.inl g)))]) := by
  refine xL.of cL_deal 5 (some .int) [(0, 10, 13, 19), (0, 10, 17, 13)] RL (by decide +kernel) rfl rfl (Nat.le_of_ble_eq_true rfl) ?_
  intro p e s m below meth c A ls hx hb hr hts hown hlocks hml hK hA hP hD hS hV hZ hNc htb hl
  have hl : lv_has ls 5 [(0, .ref h), (1, .int p0), (2, .int p1), (3, .ref o)] := hl
  refine lv_aload_n hx hb dL_deal_0 rfl (lv_at hl 3 rfl) ?_
  refine lv_iconst (v := 0) hx hb dL_deal_1 (by decide) ?_
  refine lv_aload_n hx hb dL_deal_2 rfl (lv_at hl 0 rfl) ?_
  refine lv_iload_n hx hb dL_deal_3 rfl (lv_at hl 1 rfl) ?_
  refine lv_iload_n hx hb dL_deal_4 rfl (lv_at hl 2 rfl) ?_
  refine xcT (E := E_I) (As := [.int p0, .int p1]) (rest := [.int 0, .ref o]) ⟨hx, hb, hml, hown, hts⟩ (c_X3_deal_1 l hst D cy sa h ad nS nB st bk gate nu bt wt p0 p1 hv hcS hcB) (cwV 2 hts gL_deal_X3_deal rfl rfl rfl (by decide +kernel) ⟨Nat.le_of_ble_eq_true rfl, Nat.le_of_ble_eq_true rfl⟩) hK hV hZ hP hD hS hA rfl rfl rfl (xE_l) rfl hl.1 rfl (Nat.le_of_ble_eq_true rfl) dL_deal_5 ⟨Nat.le_of_ble_eq_true rfl, Nat.le_of_ble_eq_true rfl⟩ (fun q9 ce H locs hce hcv hcl hP hD hS => ?_)
  refine vx_catch hown [] ({ startPc := 0, endPc := 10, handlerPc := 13, catchType := 19 } : ExceptionTableEntry) [({ startPc := 0, endPc := 10, handlerPc := 17, catchType := 13 } : ExceptionTableEntry)] (htb.trans rfl) (fun z hz => absurd hz List.not_mem_nil) (by decide) (by decide) (hts (.classLink RL 19 "java/lang/IndexOutOfBoundsException") (List.mem_of_getElem? (i := 1) rfl)) (xBw_at hV _ (List.mem_of_getElem? (i := 5) rfl)) hce hcv hcl ?_
  refine W.eq (g2 := F0 m 13 ls [.ref q9]) rfl ?_
  refine lv_astore (lv' := [(4, .ref q9), (0, .ref h), (1, .int p0), (2, .int p1), (3, .ref o)]) hx hb dL_deal_13 hl (by decide) rfl (fun ls hl => ?_)
  refine lv_iconst (v := 1) hx hb dL_deal_15 (by decide) ?_
  exact xri () hx hb hr hlocks hS (Nat.le_of_ble_eq_true rfl) (Nat.le_of_ble_eq_true rfl) dL_deal_16 hP hD rfl trivial

set_option maxHeartbeats 4000000 in
set_option maxRecDepth 100000 in
/-- law: deal -/
theorem c_L_deal_2 (l : Launch) (hst : l.stackTraces = false) (D : va_G) (cy : Nat → ClassId) (sa : Nat → Nat) (h : Nat) (ad : Nat → Nat) (nS nB : Nat) (st bk : Nat → Iu) (gate nu : Iu) (bt : Nat) (wt : va_W) (j : Nat) (hj : j < nB) (p1 : Int32) (h2 : ¬ ((0 : Int32) ≤ p1 ∧ p1 ≤ 90)) (hcS : nS ≤ 4) (hcB : nB ≤ 6) (o : Nat) (g : Nat → Int64) : xL l D cy sa yL_deal wsL_deal ({ frames := 7, cells := 1, slots := 6, locals := 144 } : Room) [.ref h, .int (nI j), .int p1, .ref o] ((xw cy h ad nS nB st bk gate nu bt wt) ++ [(o, .inl (cy 4, 1, .inr (.inl g)))]) (fun _ : Unit => some (.int 2)) (fun _ => True) (fun _ => (xw cy h ad nS nB st bk gate nu bt wt) ++ [(o, .inl (cy 4, 1, .inr (.inl g)))]) := by
  refine xL.of cL_deal 5 (some .int) [(0, 10, 13, 19), (0, 10, 17, 13)] RL (by decide +kernel) rfl rfl (Nat.le_of_ble_eq_true rfl) ?_
  intro p e s m below meth c A ls hx hb hr hts hown hlocks hml hK hA hP hD hS hV hZ hNc htb hl
  have hl : lv_has ls 5 [(0, .ref h), (1, .int (nI j)), (2, .int p1), (3, .ref o)] := hl
  refine lv_aload_n hx hb dL_deal_0 rfl (lv_at hl 3 rfl) ?_
  refine lv_iconst (v := 0) hx hb dL_deal_1 (by decide) ?_
  refine lv_aload_n hx hb dL_deal_2 rfl (lv_at hl 0 rfl) ?_
  refine lv_iload_n hx hb dL_deal_3 rfl (lv_at hl 1 rfl) ?_
  refine lv_iload_n hx hb dL_deal_4 rfl (lv_at hl 2 rfl) ?_
  refine xcT (E := E_A) (As := [.int (nI j), .int p1]) (rest := [.int 0, .ref o]) ⟨hx, hb, hml, hown, hts⟩ (c_X3_deal_2 l hst D cy sa h ad nS nB st bk gate nu bt wt j hj p1 h2 hcS hcB) (cwV 2 hts gL_deal_X3_deal rfl rfl rfl (by decide +kernel) ⟨Nat.le_of_ble_eq_true rfl, Nat.le_of_ble_eq_true rfl⟩) hK hV hZ hP hD hS hA rfl rfl rfl (xE_l) rfl hl.1 rfl (Nat.le_of_ble_eq_true rfl) dL_deal_5 ⟨Nat.le_of_ble_eq_true rfl, Nat.le_of_ble_eq_true rfl⟩ (fun q9 ce H locs hce hcv hcl hP hD hS => ?_)
  refine vx_catch hown [({ startPc := 0, endPc := 10, handlerPc := 13, catchType := 19 } : ExceptionTableEntry)] ({ startPc := 0, endPc := 10, handlerPc := 17, catchType := 13 } : ExceptionTableEntry) [] (htb.trans rfl) (fun z hz => by rcases List.mem_singleton.mp hz with rfl; exact Or.inr ⟨by decide, E_I, (hts (.classLink RL 19 "java/lang/IndexOutOfBoundsException") (List.mem_of_getElem? (i := 1) rfl)), hNc.1⟩) (by decide) (by decide) (hts (.classLink RL 13 "java/lang/IllegalArgumentException") (List.mem_of_getElem? (i := 2) rfl)) (xBw_at hV _ (List.mem_of_getElem? (i := 3) rfl)) hce hcv hcl ?_
  refine W.eq (g2 := F0 m 17 ls [.ref q9]) rfl ?_
  refine lv_astore (lv' := [(4, .ref q9), (0, .ref h), (1, .int (nI j)), (2, .int p1), (3, .ref o)]) hx hb dL_deal_17 hl (by decide) rfl (fun ls hl => ?_)
  refine lv_iconst (v := 2) hx hb dL_deal_19 (by decide) ?_
  exact xri () hx hb hr hlocks hS (Nat.le_of_ble_eq_true rfl) (Nat.le_of_ble_eq_true rfl) dL_deal_20 hP hD rfl trivial

set_option maxHeartbeats 4000000 in
set_option maxRecDepth 100000 in
/-- law: weigh -/
theorem c_L_weigh (l : Launch) (D : va_G) (cy : Nat → ClassId) (sa : Nat → Nat) (h : Nat) (ad : Nat → Nat) (nS nB : Nat) (st bk : Nat → Iu) (gate nu : Iu) (bt : Nat) (wt : va_W) (j : Nat) (hj : j < nB) (h2 : (0 : Int32) < bk j 5) (hcS : nS ≤ 4) (hcB : nB ≤ 6) (o : Nat) (g : Nat → Int64) : xL l D cy sa yL_weigh wsL_weigh ({ frames := 7, cells := 1, slots := 6, locals := 142 } : Room) [.ref h, .int (nI j), .ref o] ((xw cy h ad nS nB st bk gate nu bt wt) ++ [(o, .inl (cy 4, 1, .inr (.inl g)))]) (fun _ : Unit => some (.int 0)) (fun u => True) (fun u => (xw cy h ad nS nB st (va_up bk j (bInspect (bk j))) gate nu bt wt) ++ [(o, .inl (cy 4, 1, .inr (.inl (vp_updL g 0 ((bk j 4).toInt64)))))]) := by
  refine xL.of cL_weigh 4 (some .int) [(0, 9, 12, 19), (0, 9, 15, 24)] RL (by decide +kernel) rfl rfl (Nat.le_of_ble_eq_true rfl) ?_
  intro p e s m below meth c A ls hx hb hr hts hown hlocks hml hK hA hP hD hS hV hZ hNc htb hl
  have hl : lv_has ls 4 [(0, .ref h), (1, .int (nI j)), (2, .ref o)] := hl
  refine lv_aload_n hx hb dL_weigh_0 rfl (lv_at hl 2 rfl) ?_
  refine lv_iconst (v := 0) hx hb dL_weigh_1 (by decide) ?_
  refine lv_aload_n hx hb dL_weigh_2 rfl (lv_at hl 0 rfl) ?_
  refine lv_iload_n hx hb dL_weigh_3 rfl (lv_at hl 1 rfl) ?_
  refine xcV (As := [.int (nI j)]) (rest := [.int 0, .ref o]) ⟨hx, hb, hml, hown, hts⟩ (c_X3_weigh l D cy h ad nS nB st bk gate nu bt wt j hj h2 hcS hcB) (cwV 1 hts gL_weigh_X3_weigh rfl rfl rfl (by decide +kernel) ⟨Nat.le_of_ble_eq_true rfl, Nat.le_of_ble_eq_true rfl⟩) hK hP hD hS hA rfl rfl rfl (xE_l) rfl hl.1 rfl (Nat.le_of_ble_eq_true rfl) dL_weigh_4 ⟨Nat.le_of_ble_eq_true rfl, Nat.le_of_ble_eq_true rfl⟩ (fun u H locs hu hP hD hS => ?_)
  have hP : va_P D vwCl ((xw cy h ad nS nB st (va_up bk j (bInspect (bk j))) gate nu bt wt) ++ [(o, .inl (cy 4, 1, .inr (.inl g)))]) H := hP
  have hD : va_D A ((xw cy h ad nS nB st (va_up bk j (bInspect (bk j))) gate nu bt wt) ++ [(o, .inl (cy 4, 1, .inr (.inl g)))]) := hD
  refine W.eq (g2 := F0 m 7 ls [.int (bk j 4), .int 0, .ref o]) rfl ?_
  refine lv_i2l (v := (bk j 4).toInt64) hx hb dL_weigh_7 rfl ?_
  refine va_last hx hb hK.1 hP hD hS _ 4 last_at rfl (vp_in_nI (n := 0) (by decide) (by decide)) dL_weigh_8 (fun H locs hP hD hS => ?_)
  rw [set_last] at hP hD
  have hP : va_P D vwCl ((xw cy h ad nS nB st (va_up bk j (bInspect (bk j))) gate nu bt wt) ++ [(o, .inl (cy 4, 1, .inr (.inl (vp_updL g 0 ((bk j 4).toInt64)))))]) H := hP
  have hD : va_D A ((xw cy h ad nS nB st (va_up bk j (bInspect (bk j))) gate nu bt wt) ++ [(o, .inl (cy 4, 1, .inr (.inl (vp_updL g 0 ((bk j 4).toInt64)))))]) := hD
  refine lv_goto (tgt := 18) hx hb dL_weigh_9 (by decide) ?_
  refine lv_iconst (v := 0) hx hb dL_weigh_18 (by decide) ?_
  exact xri u hx hb hr hlocks hS (Nat.le_of_ble_eq_true rfl) (Nat.le_of_ble_eq_true rfl) dL_weigh_19 hP hD rfl hu

set_option maxHeartbeats 4000000 in
set_option maxRecDepth 100000 in
/-- law: weigh -/
theorem c_L_weigh_1 (l : Launch) (hst : l.stackTraces = false) (D : va_G) (cy : Nat → ClassId) (sa : Nat → Nat) (h : Nat) (ad : Nat → Nat) (nS nB : Nat) (st bk : Nat → Iu) (gate nu : Iu) (bt : Nat) (wt : va_W) (p0 : Int32) (hv : ¬ vp_in p0 nB) (hcS : nS ≤ 4) (hcB : nB ≤ 6) (o : Nat) (g : Nat → Int64) : xL l D cy sa yL_weigh wsL_weigh ({ frames := 7, cells := 1, slots := 6, locals := 142 } : Room) [.ref h, .int p0, .ref o] ((xw cy h ad nS nB st bk gate nu bt wt) ++ [(o, .inl (cy 4, 1, .inr (.inl g)))]) (fun _ : Unit => some (.int 1)) (fun _ => True) (fun _ => (xw cy h ad nS nB st bk gate nu bt wt) ++ [(o, .inl (cy 4, 1, .inr (.inl g)))]) := by
  refine xL.of cL_weigh 4 (some .int) [(0, 9, 12, 19), (0, 9, 15, 24)] RL (by decide +kernel) rfl rfl (Nat.le_of_ble_eq_true rfl) ?_
  intro p e s m below meth c A ls hx hb hr hts hown hlocks hml hK hA hP hD hS hV hZ hNc htb hl
  have hl : lv_has ls 4 [(0, .ref h), (1, .int p0), (2, .ref o)] := hl
  refine lv_aload_n hx hb dL_weigh_0 rfl (lv_at hl 2 rfl) ?_
  refine lv_iconst (v := 0) hx hb dL_weigh_1 (by decide) ?_
  refine lv_aload_n hx hb dL_weigh_2 rfl (lv_at hl 0 rfl) ?_
  refine lv_iload_n hx hb dL_weigh_3 rfl (lv_at hl 1 rfl) ?_
  refine xcT (E := E_I) (As := [.int p0]) (rest := [.int 0, .ref o]) ⟨hx, hb, hml, hown, hts⟩ (c_X3_weigh_1 l hst D cy sa h ad nS nB st bk gate nu bt wt p0 hv hcS hcB) (cwV 1 hts gL_weigh_X3_weigh rfl rfl rfl (by decide +kernel) ⟨Nat.le_of_ble_eq_true rfl, Nat.le_of_ble_eq_true rfl⟩) hK hV hZ hP hD hS hA rfl rfl rfl (xE_l) rfl hl.1 rfl (Nat.le_of_ble_eq_true rfl) dL_weigh_4 ⟨Nat.le_of_ble_eq_true rfl, Nat.le_of_ble_eq_true rfl⟩ (fun q9 ce H locs hce hcv hcl hP hD hS => ?_)
  refine vx_catch hown [] ({ startPc := 0, endPc := 9, handlerPc := 12, catchType := 19 } : ExceptionTableEntry) [({ startPc := 0, endPc := 9, handlerPc := 15, catchType := 24 } : ExceptionTableEntry)] (htb.trans rfl) (fun z hz => absurd hz List.not_mem_nil) (by decide) (by decide) (hts (.classLink RL 19 "java/lang/IndexOutOfBoundsException") (List.mem_of_getElem? (i := 1) rfl)) (xBw_at hV _ (List.mem_of_getElem? (i := 5) rfl)) hce hcv hcl ?_
  refine W.eq (g2 := F0 m 12 ls [.ref q9]) rfl ?_
  refine lv_astore_n (lv' := [(3, .ref q9), (0, .ref h), (1, .int p0), (2, .ref o)]) hx hb dL_weigh_12 rfl hl (by decide) rfl (fun ls hl => ?_)
  refine lv_iconst (v := 1) hx hb dL_weigh_13 (by decide) ?_
  exact xri () hx hb hr hlocks hS (Nat.le_of_ble_eq_true rfl) (Nat.le_of_ble_eq_true rfl) dL_weigh_14 hP hD rfl trivial

set_option maxHeartbeats 4000000 in
set_option maxRecDepth 100000 in
/-- law: weigh -/
theorem c_L_weigh_2 (l : Launch) (hst : l.stackTraces = false) (D : va_G) (cy : Nat → ClassId) (sa : Nat → Nat) (h : Nat) (ad : Nat → Nat) (nS nB : Nat) (st bk : Nat → Iu) (gate nu : Iu) (bt : Nat) (wt : va_W) (j : Nat) (hj : j < nB) (h2 : ¬ (0 : Int32) < bk j 5) (hcS : nS ≤ 4) (hcB : nB ≤ 6) (o : Nat) (g : Nat → Int64) : xL l D cy sa yL_weigh wsL_weigh ({ frames := 7, cells := 1, slots := 6, locals := 142 } : Room) [.ref h, .int (nI j), .ref o] ((xw cy h ad nS nB st bk gate nu bt wt) ++ [(o, .inl (cy 4, 1, .inr (.inl g)))]) (fun _ : Unit => some (.int 2)) (fun _ => True) (fun _ => (xw cy h ad nS nB st bk gate nu bt wt) ++ [(o, .inl (cy 4, 1, .inr (.inl g)))]) := by
  refine xL.of cL_weigh 4 (some .int) [(0, 9, 12, 19), (0, 9, 15, 24)] RL (by decide +kernel) rfl rfl (Nat.le_of_ble_eq_true rfl) ?_
  intro p e s m below meth c A ls hx hb hr hts hown hlocks hml hK hA hP hD hS hV hZ hNc htb hl
  have hl : lv_has ls 4 [(0, .ref h), (1, .int (nI j)), (2, .ref o)] := hl
  refine lv_aload_n hx hb dL_weigh_0 rfl (lv_at hl 2 rfl) ?_
  refine lv_iconst (v := 0) hx hb dL_weigh_1 (by decide) ?_
  refine lv_aload_n hx hb dL_weigh_2 rfl (lv_at hl 0 rfl) ?_
  refine lv_iload_n hx hb dL_weigh_3 rfl (lv_at hl 1 rfl) ?_
  refine xcT (E := E_S) (As := [.int (nI j)]) (rest := [.int 0, .ref o]) ⟨hx, hb, hml, hown, hts⟩ (c_X3_weigh_2 l hst D cy sa h ad nS nB st bk gate nu bt wt j hj h2 hcS hcB) (cwV 1 hts gL_weigh_X3_weigh rfl rfl rfl (by decide +kernel) ⟨Nat.le_of_ble_eq_true rfl, Nat.le_of_ble_eq_true rfl⟩) hK hV hZ hP hD hS hA rfl rfl rfl (xE_l) rfl hl.1 rfl (Nat.le_of_ble_eq_true rfl) dL_weigh_4 ⟨Nat.le_of_ble_eq_true rfl, Nat.le_of_ble_eq_true rfl⟩ (fun q9 ce H locs hce hcv hcl hP hD hS => ?_)
  refine vx_catch hown [({ startPc := 0, endPc := 9, handlerPc := 12, catchType := 19 } : ExceptionTableEntry)] ({ startPc := 0, endPc := 9, handlerPc := 15, catchType := 24 } : ExceptionTableEntry) [] (htb.trans rfl) (fun z hz => by rcases List.mem_singleton.mp hz with rfl; exact Or.inr ⟨by decide, E_I, (hts (.classLink RL 19 "java/lang/IndexOutOfBoundsException") (List.mem_of_getElem? (i := 1) rfl)), hNc.2.2.1⟩) (by decide) (by decide) (hts (.classLink RL 24 "java/lang/IllegalStateException") (List.mem_of_getElem? (i := 2) rfl)) (xBw_at hV _ (List.mem_of_getElem? (i := 4) rfl)) hce hcv hcl ?_
  refine W.eq (g2 := F0 m 15 ls [.ref q9]) rfl ?_
  refine lv_astore_n (lv' := [(3, .ref q9), (0, .ref h), (1, .int (nI j)), (2, .ref o)]) hx hb dL_weigh_15 rfl hl (by decide) rfl (fun ls hl => ?_)
  refine lv_iconst (v := 2) hx hb dL_weigh_16 (by decide) ?_
  exact xri () hx hb hr hlocks hS (Nat.le_of_ble_eq_true rfl) (Nat.le_of_ble_eq_true rfl) dL_weigh_17 hP hD rfl trivial

set_option maxHeartbeats 4000000 in
set_option maxRecDepth 100000 in
/-- law: pardon -/
theorem c_L_pardon (l : Launch) (D : va_G) (cy : Nat → ClassId) (sa : Nat → Nat) (h : Nat) (ad : Nat → Nat) (nS nB : Nat) (st bk : Nat → Iu) (gate nu : Iu) (bt : Nat) (wt : va_W) (j : Nat) (hj : j < nB) (hg : bk j 7 = 0 ∨ bk j 7 = 1) (hcS : nS ≤ 4) (hcB : nB ≤ 6) (o : Nat) (g : Nat → Int64) : xL l D cy sa yL_pardon wsL_pardon ({ frames := 7, cells := 1, slots := 6, locals := 142 } : Room) [.ref h, .int (nI j), .ref o] ((xw cy h ad nS nB st bk gate nu bt wt) ++ [(o, .inl (cy 4, 1, .inr (.inl g)))]) (fun _ : Unit => some (.int 0)) (fun u => True) (fun u => (xw cy h ad nS nB st (va_up bk j (bForgive (bk j))) gate nu bt wt) ++ [(o, .inl (cy 4, 1, .inr (.inl (vp_updL g 0 ((if bk j 7 = 0 then 0 else 1))))))]) := by
  refine xL.of cL_pardon 4 (some .int) [(0, 16, 19, 19)] RL (by decide +kernel) rfl rfl (Nat.le_of_ble_eq_true rfl) ?_
  intro p e s m below meth c A ls hx hb hr hts hown hlocks hml hK hA hP hD hS hV hZ hNc htb hl
  have hl : lv_has ls 4 [(0, .ref h), (1, .int (nI j)), (2, .ref o)] := hl
  refine lv_aload_n hx hb dL_pardon_0 rfl (lv_at hl 2 rfl) ?_
  refine lv_iconst (v := 0) hx hb dL_pardon_1 (by decide) ?_
  refine lv_aload_n hx hb dL_pardon_2 rfl (lv_at hl 0 rfl) ?_
  refine lv_iload_n hx hb dL_pardon_3 rfl (lv_at hl 1 rfl) ?_
  refine xcV (As := [.int (nI j)]) (rest := [.int 0, .ref o]) ⟨hx, hb, hml, hown, hts⟩ (c_X3_pardon l D cy h ad nS nB st bk gate nu bt wt j hj hg hcS hcB) (cwV 1 hts gL_pardon_X3_pardon rfl rfl rfl (by decide +kernel) ⟨Nat.le_of_ble_eq_true rfl, Nat.le_of_ble_eq_true rfl⟩) hK hP hD hS hA rfl rfl rfl (xE_l) rfl hl.1 rfl (Nat.le_of_ble_eq_true rfl) dL_pardon_4 ⟨Nat.le_of_ble_eq_true rfl, Nat.le_of_ble_eq_true rfl⟩ (fun u H locs hu hP hD hS => ?_)
  have hP : va_P D vwCl ((xw cy h ad nS nB st (va_up bk j (bForgive (bk j))) gate nu bt wt) ++ [(o, .inl (cy 4, 1, .inr (.inl g)))]) H := hP
  have hD : va_D A ((xw cy h ad nS nB st (va_up bk j (bForgive (bk j))) gate nu bt wt) ++ [(o, .inl (cy 4, 1, .inr (.inl g)))]) := hD
  refine W.eq (g2 := F0 m 7 ls [.int (bk j 7), .int 0, .ref o]) rfl ?_
  refine lv_if_eq (tgt := 14) hx hb dL_pardon_7 (by decide) (fun c7 => ?_) (fun c7 => ?_)
  · refine lv_lconst (v := 0) hx hb dL_pardon_14 (by decide) ?_
    refine va_last hx hb hK.1 hP hD hS _ 4 last_at rfl (vp_in_nI (n := 0) (by decide) (by decide)) dL_pardon_15 (fun H locs hP hD hS => ?_)
    rw [set_last] at hP hD
    have hP : va_P D vwCl ((xw cy h ad nS nB st (va_up bk j (bForgive (bk j))) gate nu bt wt) ++ [(o, .inl (cy 4, 1, .inr (.inl (vp_updL g 0 0))))]) H := hP
    have hD : va_D A ((xw cy h ad nS nB st (va_up bk j (bForgive (bk j))) gate nu bt wt) ++ [(o, .inl (cy 4, 1, .inr (.inl (vp_updL g 0 0))))]) := hD
    refine lv_goto (tgt := 22) hx hb dL_pardon_16 (by decide) ?_
    refine lv_iconst (v := 0) hx hb dL_pardon_22 (by decide) ?_
    exact xri u hx hb hr hlocks hS (Nat.le_of_ble_eq_true rfl) (Nat.le_of_ble_eq_true rfl) dL_pardon_23 (by rw [if_pos c7]; exact hP) (by rw [if_pos c7]; exact hD) rfl hu
  · refine lv_lconst (v := 1) hx hb dL_pardon_10 (by decide) ?_
    refine lv_goto (tgt := 15) hx hb dL_pardon_11 (by decide) ?_
    refine va_last hx hb hK.1 hP hD hS _ 4 last_at rfl (vp_in_nI (n := 0) (by decide) (by decide)) dL_pardon_15 (fun H locs hP hD hS => ?_)
    rw [set_last] at hP hD
    have hP : va_P D vwCl ((xw cy h ad nS nB st (va_up bk j (bForgive (bk j))) gate nu bt wt) ++ [(o, .inl (cy 4, 1, .inr (.inl (vp_updL g 0 1))))]) H := hP
    have hD : va_D A ((xw cy h ad nS nB st (va_up bk j (bForgive (bk j))) gate nu bt wt) ++ [(o, .inl (cy 4, 1, .inr (.inl (vp_updL g 0 1))))]) := hD
    refine lv_goto (tgt := 22) hx hb dL_pardon_16 (by decide) ?_
    refine lv_iconst (v := 0) hx hb dL_pardon_22 (by decide) ?_
    exact xri u hx hb hr hlocks hS (Nat.le_of_ble_eq_true rfl) (Nat.le_of_ble_eq_true rfl) dL_pardon_23 (by rw [if_neg c7]; exact hP) (by rw [if_neg c7]; exact hD) rfl hu

set_option maxHeartbeats 4000000 in
set_option maxRecDepth 100000 in
/-- law: pardon -/
theorem c_L_pardon_1 (l : Launch) (hst : l.stackTraces = false) (D : va_G) (cy : Nat → ClassId) (sa : Nat → Nat) (h : Nat) (ad : Nat → Nat) (nS nB : Nat) (st bk : Nat → Iu) (gate nu : Iu) (bt : Nat) (wt : va_W) (p0 : Int32) (hv : ¬ vp_in p0 nB) (hcS : nS ≤ 4) (hcB : nB ≤ 6) (o : Nat) (g : Nat → Int64) : xL l D cy sa yL_pardon wsL_pardon ({ frames := 7, cells := 1, slots := 6, locals := 142 } : Room) [.ref h, .int p0, .ref o] ((xw cy h ad nS nB st bk gate nu bt wt) ++ [(o, .inl (cy 4, 1, .inr (.inl g)))]) (fun _ : Unit => some (.int 1)) (fun _ => True) (fun _ => (xw cy h ad nS nB st bk gate nu bt wt) ++ [(o, .inl (cy 4, 1, .inr (.inl g)))]) := by
  refine xL.of cL_pardon 4 (some .int) [(0, 16, 19, 19)] RL (by decide +kernel) rfl rfl (Nat.le_of_ble_eq_true rfl) ?_
  intro p e s m below meth c A ls hx hb hr hts hown hlocks hml hK hA hP hD hS hV hZ hNc htb hl
  have hl : lv_has ls 4 [(0, .ref h), (1, .int p0), (2, .ref o)] := hl
  refine lv_aload_n hx hb dL_pardon_0 rfl (lv_at hl 2 rfl) ?_
  refine lv_iconst (v := 0) hx hb dL_pardon_1 (by decide) ?_
  refine lv_aload_n hx hb dL_pardon_2 rfl (lv_at hl 0 rfl) ?_
  refine lv_iload_n hx hb dL_pardon_3 rfl (lv_at hl 1 rfl) ?_
  refine xcT (E := E_I) (As := [.int p0]) (rest := [.int 0, .ref o]) ⟨hx, hb, hml, hown, hts⟩ (c_X3_pardon_1 l hst D cy sa h ad nS nB st bk gate nu bt wt p0 hv hcS hcB) (cwV 1 hts gL_pardon_X3_pardon rfl rfl rfl (by decide +kernel) ⟨Nat.le_of_ble_eq_true rfl, Nat.le_of_ble_eq_true rfl⟩) hK hV hZ hP hD hS hA rfl rfl rfl (xE_l) rfl hl.1 rfl (Nat.le_of_ble_eq_true rfl) dL_pardon_4 ⟨Nat.le_of_ble_eq_true rfl, Nat.le_of_ble_eq_true rfl⟩ (fun q9 ce H locs hce hcv hcl hP hD hS => ?_)
  refine vx_catch hown [] ({ startPc := 0, endPc := 16, handlerPc := 19, catchType := 19 } : ExceptionTableEntry) [] (htb.trans rfl) (fun z hz => absurd hz List.not_mem_nil) (by decide) (by decide) (hts (.classLink RL 19 "java/lang/IndexOutOfBoundsException") (List.mem_of_getElem? (i := 1) rfl)) (xBw_at hV _ (List.mem_of_getElem? (i := 5) rfl)) hce hcv hcl ?_
  refine W.eq (g2 := F0 m 19 ls [.ref q9]) rfl ?_
  refine lv_astore_n (lv' := [(3, .ref q9), (0, .ref h), (1, .int p0), (2, .ref o)]) hx hb dL_pardon_19 rfl hl (by decide) rfl (fun ls hl => ?_)
  refine lv_iconst (v := 1) hx hb dL_pardon_20 (by decide) ?_
  exact xri () hx hb hr hlocks hS (Nat.le_of_ble_eq_true rfl) (Nat.le_of_ble_eq_true rfl) dL_pardon_21 hP hD rfl trivial

set_option maxHeartbeats 4000000 in
set_option maxRecDepth 100000 in
/-- law: store -/
theorem c_L_store (l : Launch) (D : va_G) (cy : Nat → ClassId) (sa : Nat → Nat) (h : Nat) (ad : Nat → Nat) (nS nB : Nat) (st bk : Nat → Iu) (gate nu : Iu) (bt : Nat) (wt : va_W) (i : Nat) (hi : i < nS) (k : Nat) (hk : k < 4) (hcS : nS ≤ 4) (hcB : nB ≤ 6) (o : Nat) (g : Nat → Int64) : xL l D cy sa yL_store wsL_store ({ frames := 7, cells := 1, slots := 6, locals := 142 } : Room) [.ref h, .int (nI i), .int (nI k), .ref o] ((xw cy h ad nS nB st bk gate nu bt wt) ++ [(o, .inl (cy 4, 1, .inr (.inl g)))]) (fun _ : Unit => some (.int 0)) (fun u => True) (fun u => (xw cy h ad nS nB st bk gate nu bt wt) ++ [(o, .inl (cy 4, 1, .inr (.inl (vp_updL g 0 ((stFact st bk nB i k).toInt64)))))]) := by
  refine xL.of cL_store 5 (some .int) [(0, 10, 13, 19)] RL (by decide +kernel) rfl rfl (Nat.le_of_ble_eq_true rfl) ?_
  intro p e s m below meth c A ls hx hb hr hts hown hlocks hml hK hA hP hD hS hV hZ hNc htb hl
  have hl : lv_has ls 5 [(0, .ref h), (1, .int (nI i)), (2, .int (nI k)), (3, .ref o)] := hl
  refine lv_aload_n hx hb dL_store_0 rfl (lv_at hl 3 rfl) ?_
  refine lv_iconst (v := 0) hx hb dL_store_1 (by decide) ?_
  refine lv_aload_n hx hb dL_store_2 rfl (lv_at hl 0 rfl) ?_
  refine lv_iload_n hx hb dL_store_3 rfl (lv_at hl 1 rfl) ?_
  refine lv_iload_n hx hb dL_store_4 rfl (lv_at hl 2 rfl) ?_
  refine xcV (As := [.int (nI i), .int (nI k)]) (rest := [.int 0, .ref o]) ⟨hx, hb, hml, hown, hts⟩ (c_X3_store l D cy h ad nS nB st bk gate nu bt wt i hi k hk hcS hcB) (cwV 2 hts gL_store_X3_store rfl rfl rfl (by decide +kernel) ⟨Nat.le_of_ble_eq_true rfl, Nat.le_of_ble_eq_true rfl⟩) hK hP hD hS hA rfl rfl rfl (xE_l) rfl hl.1 rfl (Nat.le_of_ble_eq_true rfl) dL_store_5 ⟨Nat.le_of_ble_eq_true rfl, Nat.le_of_ble_eq_true rfl⟩ (fun u H locs hu hP hD hS => ?_)
  have hP : va_P D vwCl ((xw cy h ad nS nB st bk gate nu bt wt) ++ [(o, .inl (cy 4, 1, .inr (.inl g)))]) H := hP
  have hD : va_D A ((xw cy h ad nS nB st bk gate nu bt wt) ++ [(o, .inl (cy 4, 1, .inr (.inl g)))]) := hD
  refine W.eq (g2 := F0 m 8 ls [.int (stFact st bk nB i k), .int 0, .ref o]) rfl ?_
  refine lv_i2l (v := (stFact st bk nB i k).toInt64) hx hb dL_store_8 rfl ?_
  refine va_last hx hb hK.1 hP hD hS _ 4 last_at rfl (vp_in_nI (n := 0) (by decide) (by decide)) dL_store_9 (fun H locs hP hD hS => ?_)
  rw [set_last] at hP hD
  have hP : va_P D vwCl ((xw cy h ad nS nB st bk gate nu bt wt) ++ [(o, .inl (cy 4, 1, .inr (.inl (vp_updL g 0 ((stFact st bk nB i k).toInt64)))))]) H := hP
  have hD : va_D A ((xw cy h ad nS nB st bk gate nu bt wt) ++ [(o, .inl (cy 4, 1, .inr (.inl (vp_updL g 0 ((stFact st bk nB i k).toInt64)))))]) := hD
  refine lv_goto (tgt := 17) hx hb dL_store_10 (by decide) ?_
  refine lv_iconst (v := 0) hx hb dL_store_17 (by decide) ?_
  exact xri u hx hb hr hlocks hS (Nat.le_of_ble_eq_true rfl) (Nat.le_of_ble_eq_true rfl) dL_store_18 hP hD rfl hu

set_option maxHeartbeats 4000000 in
set_option maxRecDepth 100000 in
/-- law: store -/
theorem c_L_store_1a (l : Launch) (hst : l.stackTraces = false) (D : va_G) (cy : Nat → ClassId) (sa : Nat → Nat) (h : Nat) (ad : Nat → Nat) (nS nB : Nat) (st bk : Nat → Iu) (gate nu : Iu) (bt : Nat) (wt : va_W) (p0 p1 : Int32) (hv : ¬ vp_in p0 nS) (hcS : nS ≤ 4) (hcB : nB ≤ 6) (o : Nat) (g : Nat → Int64) : xL l D cy sa yL_store wsL_store ({ frames := 7, cells := 1, slots := 6, locals := 142 } : Room) [.ref h, .int p0, .int p1, .ref o] ((xw cy h ad nS nB st bk gate nu bt wt) ++ [(o, .inl (cy 4, 1, .inr (.inl g)))]) (fun _ : Unit => some (.int 1)) (fun _ => True) (fun _ => (xw cy h ad nS nB st bk gate nu bt wt) ++ [(o, .inl (cy 4, 1, .inr (.inl g)))]) := by
  refine xL.of cL_store 5 (some .int) [(0, 10, 13, 19)] RL (by decide +kernel) rfl rfl (Nat.le_of_ble_eq_true rfl) ?_
  intro p e s m below meth c A ls hx hb hr hts hown hlocks hml hK hA hP hD hS hV hZ hNc htb hl
  have hl : lv_has ls 5 [(0, .ref h), (1, .int p0), (2, .int p1), (3, .ref o)] := hl
  refine lv_aload_n hx hb dL_store_0 rfl (lv_at hl 3 rfl) ?_
  refine lv_iconst (v := 0) hx hb dL_store_1 (by decide) ?_
  refine lv_aload_n hx hb dL_store_2 rfl (lv_at hl 0 rfl) ?_
  refine lv_iload_n hx hb dL_store_3 rfl (lv_at hl 1 rfl) ?_
  refine lv_iload_n hx hb dL_store_4 rfl (lv_at hl 2 rfl) ?_
  refine xcT (E := E_I) (As := [.int p0, .int p1]) (rest := [.int 0, .ref o]) ⟨hx, hb, hml, hown, hts⟩ (c_X3_store_1a l hst D cy sa h ad nS nB st bk gate nu bt wt p0 p1 hv hcS hcB) (cwV 2 hts gL_store_X3_store rfl rfl rfl (by decide +kernel) ⟨Nat.le_of_ble_eq_true rfl, Nat.le_of_ble_eq_true rfl⟩) hK hV hZ hP hD hS hA rfl rfl rfl (xE_l) rfl hl.1 rfl (Nat.le_of_ble_eq_true rfl) dL_store_5 ⟨Nat.le_of_ble_eq_true rfl, Nat.le_of_ble_eq_true rfl⟩ (fun q9 ce H locs hce hcv hcl hP hD hS => ?_)
  refine vx_catch hown [] ({ startPc := 0, endPc := 10, handlerPc := 13, catchType := 19 } : ExceptionTableEntry) [] (htb.trans rfl) (fun z hz => absurd hz List.not_mem_nil) (by decide) (by decide) (hts (.classLink RL 19 "java/lang/IndexOutOfBoundsException") (List.mem_of_getElem? (i := 1) rfl)) (xBw_at hV _ (List.mem_of_getElem? (i := 5) rfl)) hce hcv hcl ?_
  refine W.eq (g2 := F0 m 13 ls [.ref q9]) rfl ?_
  refine lv_astore (lv' := [(4, .ref q9), (0, .ref h), (1, .int p0), (2, .int p1), (3, .ref o)]) hx hb dL_store_13 hl (by decide) rfl (fun ls hl => ?_)
  refine lv_iconst (v := 1) hx hb dL_store_15 (by decide) ?_
  exact xri () hx hb hr hlocks hS (Nat.le_of_ble_eq_true rfl) (Nat.le_of_ble_eq_true rfl) dL_store_16 hP hD rfl trivial

set_option maxHeartbeats 4000000 in
set_option maxRecDepth 100000 in
/-- law: store -/
theorem c_L_store_1b (l : Launch) (hst : l.stackTraces = false) (D : va_G) (cy : Nat → ClassId) (sa : Nat → Nat) (h : Nat) (ad : Nat → Nat) (nS nB : Nat) (st bk : Nat → Iu) (gate nu : Iu) (bt : Nat) (wt : va_W) (i : Nat) (hi : i < nS) (p1 : Int32) (h2 : ¬ ((0 : Int32) ≤ p1 ∧ p1 ≤ 3)) (hcS : nS ≤ 4) (hcB : nB ≤ 6) (o : Nat) (g : Nat → Int64) : xL l D cy sa yL_store wsL_store ({ frames := 7, cells := 1, slots := 6, locals := 142 } : Room) [.ref h, .int (nI i), .int p1, .ref o] ((xw cy h ad nS nB st bk gate nu bt wt) ++ [(o, .inl (cy 4, 1, .inr (.inl g)))]) (fun _ : Unit => some (.int 1)) (fun _ => True) (fun _ => (xw cy h ad nS nB st bk gate nu bt wt) ++ [(o, .inl (cy 4, 1, .inr (.inl g)))]) := by
  refine xL.of cL_store 5 (some .int) [(0, 10, 13, 19)] RL (by decide +kernel) rfl rfl (Nat.le_of_ble_eq_true rfl) ?_
  intro p e s m below meth c A ls hx hb hr hts hown hlocks hml hK hA hP hD hS hV hZ hNc htb hl
  have hl : lv_has ls 5 [(0, .ref h), (1, .int (nI i)), (2, .int p1), (3, .ref o)] := hl
  refine lv_aload_n hx hb dL_store_0 rfl (lv_at hl 3 rfl) ?_
  refine lv_iconst (v := 0) hx hb dL_store_1 (by decide) ?_
  refine lv_aload_n hx hb dL_store_2 rfl (lv_at hl 0 rfl) ?_
  refine lv_iload_n hx hb dL_store_3 rfl (lv_at hl 1 rfl) ?_
  refine lv_iload_n hx hb dL_store_4 rfl (lv_at hl 2 rfl) ?_
  refine xcT (E := E_I) (As := [.int (nI i), .int p1]) (rest := [.int 0, .ref o]) ⟨hx, hb, hml, hown, hts⟩ (c_X3_store_1b l hst D cy sa h ad nS nB st bk gate nu bt wt i hi p1 h2 hcS hcB) (cwV 2 hts gL_store_X3_store rfl rfl rfl (by decide +kernel) ⟨Nat.le_of_ble_eq_true rfl, Nat.le_of_ble_eq_true rfl⟩) hK hV hZ hP hD hS hA rfl rfl rfl (xE_l) rfl hl.1 rfl (Nat.le_of_ble_eq_true rfl) dL_store_5 ⟨Nat.le_of_ble_eq_true rfl, Nat.le_of_ble_eq_true rfl⟩ (fun q9 ce H locs hce hcv hcl hP hD hS => ?_)
  refine vx_catch hown [] ({ startPc := 0, endPc := 10, handlerPc := 13, catchType := 19 } : ExceptionTableEntry) [] (htb.trans rfl) (fun z hz => absurd hz List.not_mem_nil) (by decide) (by decide) (hts (.classLink RL 19 "java/lang/IndexOutOfBoundsException") (List.mem_of_getElem? (i := 1) rfl)) (xBw_at hV _ (List.mem_of_getElem? (i := 5) rfl)) hce hcv hcl ?_
  refine W.eq (g2 := F0 m 13 ls [.ref q9]) rfl ?_
  refine lv_astore (lv' := [(4, .ref q9), (0, .ref h), (1, .int (nI i)), (2, .int p1), (3, .ref o)]) hx hb dL_store_13 hl (by decide) rfl (fun ls hl => ?_)
  refine lv_iconst (v := 1) hx hb dL_store_15 (by decide) ?_
  exact xri () hx hb hr hlocks hS (Nat.le_of_ble_eq_true rfl) (Nat.le_of_ble_eq_true rfl) dL_store_16 hP hD rfl trivial

set_option maxHeartbeats 4000000 in
set_option maxRecDepth 100000 in
/-- law: baker -/
theorem c_L_baker (l : Launch) (D : va_G) (cy : Nat → ClassId) (sa : Nat → Nat) (h : Nat) (ad : Nat → Nat) (nS nB : Nat) (st bk : Nat → Iu) (gate nu : Iu) (bt : Nat) (wt : va_W) (j : Nat) (hj : j < nB) (k : Nat) (hk : k < 8) (hcS : nS ≤ 4) (hcB : nB ≤ 6) (o : Nat) (g : Nat → Int64) : xL l D cy sa yL_baker wsL_baker ({ frames := 7, cells := 1, slots := 6, locals := 143 } : Room) [.ref h, .int (nI j), .int (nI k), .ref o] ((xw cy h ad nS nB st bk gate nu bt wt) ++ [(o, .inl (cy 4, 1, .inr (.inl g)))]) (fun _ : Unit => some (.int 0)) (fun u => True) (fun u => (xw cy h ad nS nB st bk gate nu bt wt) ++ [(o, .inl (cy 4, 1, .inr (.inl (vp_updL g 0 ((bFact (bk j) k).toInt64)))))]) := by
  refine xL.of cL_baker 5 (some .int) [(0, 10, 13, 19)] RL (by decide +kernel) rfl rfl (Nat.le_of_ble_eq_true rfl) ?_
  intro p e s m below meth c A ls hx hb hr hts hown hlocks hml hK hA hP hD hS hV hZ hNc htb hl
  have hl : lv_has ls 5 [(0, .ref h), (1, .int (nI j)), (2, .int (nI k)), (3, .ref o)] := hl
  refine lv_aload_n hx hb dL_baker_0 rfl (lv_at hl 3 rfl) ?_
  refine lv_iconst (v := 0) hx hb dL_baker_1 (by decide) ?_
  refine lv_aload_n hx hb dL_baker_2 rfl (lv_at hl 0 rfl) ?_
  refine lv_iload_n hx hb dL_baker_3 rfl (lv_at hl 1 rfl) ?_
  refine lv_iload_n hx hb dL_baker_4 rfl (lv_at hl 2 rfl) ?_
  refine xcV (As := [.int (nI j), .int (nI k)]) (rest := [.int 0, .ref o]) ⟨hx, hb, hml, hown, hts⟩ (c_X3_baker l D cy h ad nS nB st bk gate nu bt wt j hj k hk hcS hcB) (cwV 2 hts gL_baker_X3_baker rfl rfl rfl (by decide +kernel) ⟨Nat.le_of_ble_eq_true rfl, Nat.le_of_ble_eq_true rfl⟩) hK hP hD hS hA rfl rfl rfl (xE_l) rfl hl.1 rfl (Nat.le_of_ble_eq_true rfl) dL_baker_5 ⟨Nat.le_of_ble_eq_true rfl, Nat.le_of_ble_eq_true rfl⟩ (fun u H locs hu hP hD hS => ?_)
  have hP : va_P D vwCl ((xw cy h ad nS nB st bk gate nu bt wt) ++ [(o, .inl (cy 4, 1, .inr (.inl g)))]) H := hP
  have hD : va_D A ((xw cy h ad nS nB st bk gate nu bt wt) ++ [(o, .inl (cy 4, 1, .inr (.inl g)))]) := hD
  refine W.eq (g2 := F0 m 8 ls [.int (bFact (bk j) k), .int 0, .ref o]) rfl ?_
  refine lv_i2l (v := (bFact (bk j) k).toInt64) hx hb dL_baker_8 rfl ?_
  refine va_last hx hb hK.1 hP hD hS _ 4 last_at rfl (vp_in_nI (n := 0) (by decide) (by decide)) dL_baker_9 (fun H locs hP hD hS => ?_)
  rw [set_last] at hP hD
  have hP : va_P D vwCl ((xw cy h ad nS nB st bk gate nu bt wt) ++ [(o, .inl (cy 4, 1, .inr (.inl (vp_updL g 0 ((bFact (bk j) k).toInt64)))))]) H := hP
  have hD : va_D A ((xw cy h ad nS nB st bk gate nu bt wt) ++ [(o, .inl (cy 4, 1, .inr (.inl (vp_updL g 0 ((bFact (bk j) k).toInt64)))))]) := hD
  refine lv_goto (tgt := 17) hx hb dL_baker_10 (by decide) ?_
  refine lv_iconst (v := 0) hx hb dL_baker_17 (by decide) ?_
  exact xri u hx hb hr hlocks hS (Nat.le_of_ble_eq_true rfl) (Nat.le_of_ble_eq_true rfl) dL_baker_18 hP hD rfl hu

set_option maxHeartbeats 4000000 in
set_option maxRecDepth 100000 in
/-- law: baker -/
theorem c_L_baker_1a (l : Launch) (hst : l.stackTraces = false) (D : va_G) (cy : Nat → ClassId) (sa : Nat → Nat) (h : Nat) (ad : Nat → Nat) (nS nB : Nat) (st bk : Nat → Iu) (gate nu : Iu) (bt : Nat) (wt : va_W) (p0 p1 : Int32) (hv : ¬ vp_in p0 nB) (hcS : nS ≤ 4) (hcB : nB ≤ 6) (o : Nat) (g : Nat → Int64) : xL l D cy sa yL_baker wsL_baker ({ frames := 7, cells := 1, slots := 6, locals := 143 } : Room) [.ref h, .int p0, .int p1, .ref o] ((xw cy h ad nS nB st bk gate nu bt wt) ++ [(o, .inl (cy 4, 1, .inr (.inl g)))]) (fun _ : Unit => some (.int 1)) (fun _ => True) (fun _ => (xw cy h ad nS nB st bk gate nu bt wt) ++ [(o, .inl (cy 4, 1, .inr (.inl g)))]) := by
  refine xL.of cL_baker 5 (some .int) [(0, 10, 13, 19)] RL (by decide +kernel) rfl rfl (Nat.le_of_ble_eq_true rfl) ?_
  intro p e s m below meth c A ls hx hb hr hts hown hlocks hml hK hA hP hD hS hV hZ hNc htb hl
  have hl : lv_has ls 5 [(0, .ref h), (1, .int p0), (2, .int p1), (3, .ref o)] := hl
  refine lv_aload_n hx hb dL_baker_0 rfl (lv_at hl 3 rfl) ?_
  refine lv_iconst (v := 0) hx hb dL_baker_1 (by decide) ?_
  refine lv_aload_n hx hb dL_baker_2 rfl (lv_at hl 0 rfl) ?_
  refine lv_iload_n hx hb dL_baker_3 rfl (lv_at hl 1 rfl) ?_
  refine lv_iload_n hx hb dL_baker_4 rfl (lv_at hl 2 rfl) ?_
  refine xcT (E := E_I) (As := [.int p0, .int p1]) (rest := [.int 0, .ref o]) ⟨hx, hb, hml, hown, hts⟩ (c_X3_baker_1a l hst D cy sa h ad nS nB st bk gate nu bt wt p0 p1 hv hcS hcB) (cwV 2 hts gL_baker_X3_baker rfl rfl rfl (by decide +kernel) ⟨Nat.le_of_ble_eq_true rfl, Nat.le_of_ble_eq_true rfl⟩) hK hV hZ hP hD hS hA rfl rfl rfl (xE_l) rfl hl.1 rfl (Nat.le_of_ble_eq_true rfl) dL_baker_5 ⟨Nat.le_of_ble_eq_true rfl, Nat.le_of_ble_eq_true rfl⟩ (fun q9 ce H locs hce hcv hcl hP hD hS => ?_)
  refine vx_catch hown [] ({ startPc := 0, endPc := 10, handlerPc := 13, catchType := 19 } : ExceptionTableEntry) [] (htb.trans rfl) (fun z hz => absurd hz List.not_mem_nil) (by decide) (by decide) (hts (.classLink RL 19 "java/lang/IndexOutOfBoundsException") (List.mem_of_getElem? (i := 1) rfl)) (xBw_at hV _ (List.mem_of_getElem? (i := 5) rfl)) hce hcv hcl ?_
  refine W.eq (g2 := F0 m 13 ls [.ref q9]) rfl ?_
  refine lv_astore (lv' := [(4, .ref q9), (0, .ref h), (1, .int p0), (2, .int p1), (3, .ref o)]) hx hb dL_baker_13 hl (by decide) rfl (fun ls hl => ?_)
  refine lv_iconst (v := 1) hx hb dL_baker_15 (by decide) ?_
  exact xri () hx hb hr hlocks hS (Nat.le_of_ble_eq_true rfl) (Nat.le_of_ble_eq_true rfl) dL_baker_16 hP hD rfl trivial

set_option maxHeartbeats 4000000 in
set_option maxRecDepth 100000 in
/-- law: baker -/
theorem c_L_baker_1b (l : Launch) (hst : l.stackTraces = false) (D : va_G) (cy : Nat → ClassId) (sa : Nat → Nat) (h : Nat) (ad : Nat → Nat) (nS nB : Nat) (st bk : Nat → Iu) (gate nu : Iu) (bt : Nat) (wt : va_W) (j : Nat) (hj : j < nB) (p1 : Int32) (h2 : ¬ ((0 : Int32) ≤ p1 ∧ p1 ≤ 7)) (hcS : nS ≤ 4) (hcB : nB ≤ 6) (o : Nat) (g : Nat → Int64) : xL l D cy sa yL_baker wsL_baker ({ frames := 7, cells := 1, slots := 6, locals := 143 } : Room) [.ref h, .int (nI j), .int p1, .ref o] ((xw cy h ad nS nB st bk gate nu bt wt) ++ [(o, .inl (cy 4, 1, .inr (.inl g)))]) (fun _ : Unit => some (.int 1)) (fun _ => True) (fun _ => (xw cy h ad nS nB st bk gate nu bt wt) ++ [(o, .inl (cy 4, 1, .inr (.inl g)))]) := by
  refine xL.of cL_baker 5 (some .int) [(0, 10, 13, 19)] RL (by decide +kernel) rfl rfl (Nat.le_of_ble_eq_true rfl) ?_
  intro p e s m below meth c A ls hx hb hr hts hown hlocks hml hK hA hP hD hS hV hZ hNc htb hl
  have hl : lv_has ls 5 [(0, .ref h), (1, .int (nI j)), (2, .int p1), (3, .ref o)] := hl
  refine lv_aload_n hx hb dL_baker_0 rfl (lv_at hl 3 rfl) ?_
  refine lv_iconst (v := 0) hx hb dL_baker_1 (by decide) ?_
  refine lv_aload_n hx hb dL_baker_2 rfl (lv_at hl 0 rfl) ?_
  refine lv_iload_n hx hb dL_baker_3 rfl (lv_at hl 1 rfl) ?_
  refine lv_iload_n hx hb dL_baker_4 rfl (lv_at hl 2 rfl) ?_
  refine xcT (E := E_I) (As := [.int (nI j), .int p1]) (rest := [.int 0, .ref o]) ⟨hx, hb, hml, hown, hts⟩ (c_X3_baker_1b l hst D cy sa h ad nS nB st bk gate nu bt wt j hj p1 h2 hcS hcB) (cwV 2 hts gL_baker_X3_baker rfl rfl rfl (by decide +kernel) ⟨Nat.le_of_ble_eq_true rfl, Nat.le_of_ble_eq_true rfl⟩) hK hV hZ hP hD hS hA rfl rfl rfl (xE_l) rfl hl.1 rfl (Nat.le_of_ble_eq_true rfl) dL_baker_5 ⟨Nat.le_of_ble_eq_true rfl, Nat.le_of_ble_eq_true rfl⟩ (fun q9 ce H locs hce hcv hcl hP hD hS => ?_)
  refine vx_catch hown [] ({ startPc := 0, endPc := 10, handlerPc := 13, catchType := 19 } : ExceptionTableEntry) [] (htb.trans rfl) (fun z hz => absurd hz List.not_mem_nil) (by decide) (by decide) (hts (.classLink RL 19 "java/lang/IndexOutOfBoundsException") (List.mem_of_getElem? (i := 1) rfl)) (xBw_at hV _ (List.mem_of_getElem? (i := 5) rfl)) hce hcv hcl ?_
  refine W.eq (g2 := F0 m 13 ls [.ref q9]) rfl ?_
  refine lv_astore (lv' := [(4, .ref q9), (0, .ref h), (1, .int (nI j)), (2, .int p1), (3, .ref o)]) hx hb dL_baker_13 hl (by decide) rfl (fun ls hl => ?_)
  refine lv_iconst (v := 1) hx hb dL_baker_15 (by decide) ?_
  exact xri () hx hb hr hlocks hS (Nat.le_of_ble_eq_true rfl) (Nat.le_of_ble_eq_true rfl) dL_baker_16 hP hD rfl trivial

set_option maxHeartbeats 4000000 in
set_option maxRecDepth 100000 in
/-- law: whose -/
theorem c_L_whose (l : Launch) (D : va_G) (cy : Nat → ClassId) (sa : Nat → Nat) (h : Nat) (ad : Nat → Nat) (nS nB : Nat) (st bk : Nat → Iu) (gate nu : Iu) (bt : Nat) (wt : va_W) (p0 : Int32) (h1 : (0 : Int32) ≤ p0 ∧ p0 ≤ 25) (hcS : nS ≤ 4) (hcB : nB ≤ 6) (o : Nat) (g : Nat → Int64) : xL l D cy sa yL_whose wsL_whose ({ frames := 7, cells := 1, slots := 6, locals := 141 } : Room) [.ref h, .int p0, .ref o] ((xw cy h ad nS nB st bk gate nu bt wt) ++ [(o, .inl (cy 4, 1, .inr (.inl g)))]) (fun _ : Unit => some (.int 0)) (fun u => True) (fun u => (xw cy h ad nS nB st bk gate nu bt wt) ++ [(o, .inl (cy 4, 1, .inr (.inl (vp_updL g 0 ((ownF bk p0 nB 0).toInt64)))))]) := by
  refine xL.of cL_whose 4 (some .int) [(0, 9, 12, 13)] RL (by decide +kernel) rfl rfl (Nat.le_of_ble_eq_true rfl) ?_
  intro p e s m below meth c A ls hx hb hr hts hown hlocks hml hK hA hP hD hS hV hZ hNc htb hl
  have hl : lv_has ls 4 [(0, .ref h), (1, .int p0), (2, .ref o)] := hl
  refine lv_aload_n hx hb dL_whose_0 rfl (lv_at hl 2 rfl) ?_
  refine lv_iconst (v := 0) hx hb dL_whose_1 (by decide) ?_
  refine lv_aload_n hx hb dL_whose_2 rfl (lv_at hl 0 rfl) ?_
  refine lv_iload_n hx hb dL_whose_3 rfl (lv_at hl 1 rfl) ?_
  refine xcV (As := [.int p0]) (rest := [.int 0, .ref o]) ⟨hx, hb, hml, hown, hts⟩ (c_X3_whose l D cy h ad nS nB st bk gate nu bt wt p0 h1 hcS hcB) (cwV 1 hts gL_whose_X3_whose rfl rfl rfl (by decide +kernel) ⟨Nat.le_of_ble_eq_true rfl, Nat.le_of_ble_eq_true rfl⟩) hK hP hD hS hA rfl rfl rfl (xE_l) rfl hl.1 rfl (Nat.le_of_ble_eq_true rfl) dL_whose_4 ⟨Nat.le_of_ble_eq_true rfl, Nat.le_of_ble_eq_true rfl⟩ (fun u H locs hu hP hD hS => ?_)
  have hP : va_P D vwCl ((xw cy h ad nS nB st bk gate nu bt wt) ++ [(o, .inl (cy 4, 1, .inr (.inl g)))]) H := hP
  have hD : va_D A ((xw cy h ad nS nB st bk gate nu bt wt) ++ [(o, .inl (cy 4, 1, .inr (.inl g)))]) := hD
  refine W.eq (g2 := F0 m 7 ls [.int (ownF bk p0 nB 0), .int 0, .ref o]) rfl ?_
  refine lv_i2l (v := (ownF bk p0 nB 0).toInt64) hx hb dL_whose_7 rfl ?_
  refine va_last hx hb hK.1 hP hD hS _ 4 last_at rfl (vp_in_nI (n := 0) (by decide) (by decide)) dL_whose_8 (fun H locs hP hD hS => ?_)
  rw [set_last] at hP hD
  have hP : va_P D vwCl ((xw cy h ad nS nB st bk gate nu bt wt) ++ [(o, .inl (cy 4, 1, .inr (.inl (vp_updL g 0 ((ownF bk p0 nB 0).toInt64)))))]) H := hP
  have hD : va_D A ((xw cy h ad nS nB st bk gate nu bt wt) ++ [(o, .inl (cy 4, 1, .inr (.inl (vp_updL g 0 ((ownF bk p0 nB 0).toInt64)))))]) := hD
  refine lv_goto (tgt := 15) hx hb dL_whose_9 (by decide) ?_
  refine lv_iconst (v := 0) hx hb dL_whose_15 (by decide) ?_
  exact xri u hx hb hr hlocks hS (Nat.le_of_ble_eq_true rfl) (Nat.le_of_ble_eq_true rfl) dL_whose_16 hP hD rfl hu

set_option maxHeartbeats 4000000 in
set_option maxRecDepth 100000 in
/-- law: whose -/
theorem c_L_whose_1 (l : Launch) (hst : l.stackTraces = false) (D : va_G) (cy : Nat → ClassId) (sa : Nat → Nat) (h : Nat) (ad : Nat → Nat) (nS nB : Nat) (st bk : Nat → Iu) (gate nu : Iu) (bt : Nat) (wt : va_W) (p0 : Int32) (h1 : ¬ ((0 : Int32) ≤ p0 ∧ p0 ≤ 25)) (o : Nat) (g : Nat → Int64) : xL l D cy sa yL_whose wsL_whose ({ frames := 7, cells := 1, slots := 6, locals := 141 } : Room) [.ref h, .int p0, .ref o] ((xw cy h ad nS nB st bk gate nu bt wt) ++ [(o, .inl (cy 4, 1, .inr (.inl g)))]) (fun _ : Unit => some (.int 1)) (fun _ => True) (fun _ => (xw cy h ad nS nB st bk gate nu bt wt) ++ [(o, .inl (cy 4, 1, .inr (.inl g)))]) := by
  refine xL.of cL_whose 4 (some .int) [(0, 9, 12, 13)] RL (by decide +kernel) rfl rfl (Nat.le_of_ble_eq_true rfl) ?_
  intro p e s m below meth c A ls hx hb hr hts hown hlocks hml hK hA hP hD hS hV hZ hNc htb hl
  have hl : lv_has ls 4 [(0, .ref h), (1, .int p0), (2, .ref o)] := hl
  refine lv_aload_n hx hb dL_whose_0 rfl (lv_at hl 2 rfl) ?_
  refine lv_iconst (v := 0) hx hb dL_whose_1 (by decide) ?_
  refine lv_aload_n hx hb dL_whose_2 rfl (lv_at hl 0 rfl) ?_
  refine lv_iload_n hx hb dL_whose_3 rfl (lv_at hl 1 rfl) ?_
  refine xcT (E := E_A) (As := [.int p0]) (rest := [.int 0, .ref o]) ⟨hx, hb, hml, hown, hts⟩ (c_X3_whose_1 l hst D cy sa h ad nS nB st bk gate nu bt wt p0 h1) (cwV 1 hts gL_whose_X3_whose rfl rfl rfl (by decide +kernel) ⟨Nat.le_of_ble_eq_true rfl, Nat.le_of_ble_eq_true rfl⟩) hK hV hZ hP hD hS hA rfl rfl rfl (xE_l) rfl hl.1 rfl (Nat.le_of_ble_eq_true rfl) dL_whose_4 ⟨Nat.le_of_ble_eq_true rfl, Nat.le_of_ble_eq_true rfl⟩ (fun q9 ce H locs hce hcv hcl hP hD hS => ?_)
  refine vx_catch hown [] ({ startPc := 0, endPc := 9, handlerPc := 12, catchType := 13 } : ExceptionTableEntry) [] (htb.trans rfl) (fun z hz => absurd hz List.not_mem_nil) (by decide) (by decide) (hts (.classLink RL 13 "java/lang/IllegalArgumentException") (List.mem_of_getElem? (i := 1) rfl)) (xBw_at hV _ (List.mem_of_getElem? (i := 3) rfl)) hce hcv hcl ?_
  refine W.eq (g2 := F0 m 12 ls [.ref q9]) rfl ?_
  refine lv_astore_n (lv' := [(3, .ref q9), (0, .ref h), (1, .int p0), (2, .ref o)]) hx hb dL_whose_12 rfl hl (by decide) rfl (fun ls hl => ?_)
  refine lv_iconst (v := 1) hx hb dL_whose_13 (by decide) ?_
  exact xri () hx hb hr hlocks hS (Nat.le_of_ble_eq_true rfl) (Nat.le_of_ble_eq_true rfl) dL_whose_14 hP hD rfl trivial

set_option maxHeartbeats 4000000 in
set_option maxRecDepth 100000 in
/-- law: count -/
theorem c_L_count (l : Launch) (D : va_G) (cy : Nat → ClassId) (sa : Nat → Nat) (h : Nat) (ad : Nat → Nat) (nS nB : Nat) (st bk : Nat → Iu) (gate nu : Iu) (bt : Nat) (wt : va_W) (hq k : Nat) (eh : nu 0 = nI hq) (hh : hq < 2 ^ 31) (hk : k < 10) (hcS : nS ≤ 4) (hcB : nB ≤ 6) (o : Nat) (g : Nat → Int64) : xL l D cy sa yL_count wsL_count ({ frames := 7, cells := 1, slots := 6, locals := 141 } : Room) [.ref h, .int (nI k), .ref o] ((xw cy h ad nS nB st bk gate nu bt wt) ++ [(o, .inl (cy 4, 1, .inr (.inl g)))]) (fun _ : Unit => some (.int 0)) (fun u => True) (fun u => (xw cy h ad nS nB st bk gate nu bt wt) ++ [(o, .inl (cy 4, 1, .inr (.inl (vp_updL g 0 ((tFact nS nB st bk nu hq k).toInt64)))))]) := by
  refine xL.of cL_count 4 (some .int) [(0, 9, 12, 19)] RL (by decide +kernel) rfl rfl (Nat.le_of_ble_eq_true rfl) ?_
  intro p e s m below meth c A ls hx hb hr hts hown hlocks hml hK hA hP hD hS hV hZ hNc htb hl
  have hl : lv_has ls 4 [(0, .ref h), (1, .int (nI k)), (2, .ref o)] := hl
  refine lv_aload_n hx hb dL_count_0 rfl (lv_at hl 2 rfl) ?_
  refine lv_iconst (v := 0) hx hb dL_count_1 (by decide) ?_
  refine lv_aload_n hx hb dL_count_2 rfl (lv_at hl 0 rfl) ?_
  refine lv_iload_n hx hb dL_count_3 rfl (lv_at hl 1 rfl) ?_
  refine xcV (As := [.int (nI k)]) (rest := [.int 0, .ref o]) ⟨hx, hb, hml, hown, hts⟩ (c_X3_count l D cy h ad nS nB st bk gate nu bt wt hq k eh hh hk hcS hcB) (cwV 1 hts gL_count_X3_count rfl rfl rfl (by decide +kernel) ⟨Nat.le_of_ble_eq_true rfl, Nat.le_of_ble_eq_true rfl⟩) hK hP hD hS hA rfl rfl rfl (xE_l) rfl hl.1 rfl (Nat.le_of_ble_eq_true rfl) dL_count_4 ⟨Nat.le_of_ble_eq_true rfl, Nat.le_of_ble_eq_true rfl⟩ (fun u H locs hu hP hD hS => ?_)
  have hP : va_P D vwCl ((xw cy h ad nS nB st bk gate nu bt wt) ++ [(o, .inl (cy 4, 1, .inr (.inl g)))]) H := hP
  have hD : va_D A ((xw cy h ad nS nB st bk gate nu bt wt) ++ [(o, .inl (cy 4, 1, .inr (.inl g)))]) := hD
  refine W.eq (g2 := F0 m 7 ls [.int (tFact nS nB st bk nu hq k), .int 0, .ref o]) rfl ?_
  refine lv_i2l (v := (tFact nS nB st bk nu hq k).toInt64) hx hb dL_count_7 rfl ?_
  refine va_last hx hb hK.1 hP hD hS _ 4 last_at rfl (vp_in_nI (n := 0) (by decide) (by decide)) dL_count_8 (fun H locs hP hD hS => ?_)
  rw [set_last] at hP hD
  have hP : va_P D vwCl ((xw cy h ad nS nB st bk gate nu bt wt) ++ [(o, .inl (cy 4, 1, .inr (.inl (vp_updL g 0 ((tFact nS nB st bk nu hq k).toInt64)))))]) H := hP
  have hD : va_D A ((xw cy h ad nS nB st bk gate nu bt wt) ++ [(o, .inl (cy 4, 1, .inr (.inl (vp_updL g 0 ((tFact nS nB st bk nu hq k).toInt64)))))]) := hD
  refine lv_goto (tgt := 15) hx hb dL_count_9 (by decide) ?_
  refine lv_iconst (v := 0) hx hb dL_count_15 (by decide) ?_
  exact xri u hx hb hr hlocks hS (Nat.le_of_ble_eq_true rfl) (Nat.le_of_ble_eq_true rfl) dL_count_16 hP hD rfl hu

set_option maxHeartbeats 4000000 in
set_option maxRecDepth 100000 in
/-- law: count -/
theorem c_L_count_1 (l : Launch) (hst : l.stackTraces = false) (D : va_G) (cy : Nat → ClassId) (sa : Nat → Nat) (h : Nat) (ad : Nat → Nat) (nS nB : Nat) (st bk : Nat → Iu) (gate nu : Iu) (bt : Nat) (wt : va_W) (p0 : Int32) (h1 : ¬ ((0 : Int32) ≤ p0 ∧ p0 ≤ 9)) (o : Nat) (g : Nat → Int64) : xL l D cy sa yL_count wsL_count ({ frames := 7, cells := 1, slots := 6, locals := 141 } : Room) [.ref h, .int p0, .ref o] ((xw cy h ad nS nB st bk gate nu bt wt) ++ [(o, .inl (cy 4, 1, .inr (.inl g)))]) (fun _ : Unit => some (.int 1)) (fun _ => True) (fun _ => (xw cy h ad nS nB st bk gate nu bt wt) ++ [(o, .inl (cy 4, 1, .inr (.inl g)))]) := by
  refine xL.of cL_count 4 (some .int) [(0, 9, 12, 19)] RL (by decide +kernel) rfl rfl (Nat.le_of_ble_eq_true rfl) ?_
  intro p e s m below meth c A ls hx hb hr hts hown hlocks hml hK hA hP hD hS hV hZ hNc htb hl
  have hl : lv_has ls 4 [(0, .ref h), (1, .int p0), (2, .ref o)] := hl
  refine lv_aload_n hx hb dL_count_0 rfl (lv_at hl 2 rfl) ?_
  refine lv_iconst (v := 0) hx hb dL_count_1 (by decide) ?_
  refine lv_aload_n hx hb dL_count_2 rfl (lv_at hl 0 rfl) ?_
  refine lv_iload_n hx hb dL_count_3 rfl (lv_at hl 1 rfl) ?_
  refine xcT (E := E_I) (As := [.int p0]) (rest := [.int 0, .ref o]) ⟨hx, hb, hml, hown, hts⟩ (c_X3_count_1 l hst D cy sa h ad nS nB st bk gate nu bt wt p0 h1) (cwV 1 hts gL_count_X3_count rfl rfl rfl (by decide +kernel) ⟨Nat.le_of_ble_eq_true rfl, Nat.le_of_ble_eq_true rfl⟩) hK hV hZ hP hD hS hA rfl rfl rfl (xE_l) rfl hl.1 rfl (Nat.le_of_ble_eq_true rfl) dL_count_4 ⟨Nat.le_of_ble_eq_true rfl, Nat.le_of_ble_eq_true rfl⟩ (fun q9 ce H locs hce hcv hcl hP hD hS => ?_)
  refine vx_catch hown [] ({ startPc := 0, endPc := 9, handlerPc := 12, catchType := 19 } : ExceptionTableEntry) [] (htb.trans rfl) (fun z hz => absurd hz List.not_mem_nil) (by decide) (by decide) (hts (.classLink RL 19 "java/lang/IndexOutOfBoundsException") (List.mem_of_getElem? (i := 1) rfl)) (xBw_at hV _ (List.mem_of_getElem? (i := 5) rfl)) hce hcv hcl ?_
  refine W.eq (g2 := F0 m 12 ls [.ref q9]) rfl ?_
  refine lv_astore_n (lv' := [(3, .ref q9), (0, .ref h), (1, .int p0), (2, .ref o)]) hx hb dL_count_12 rfl hl (by decide) rfl (fun ls hl => ?_)
  refine lv_iconst (v := 1) hx hb dL_count_13 (by decide) ?_
  exact xri () hx hb hr hlocks hS (Nat.le_of_ble_eq_true rfl) (Nat.le_of_ble_eq_true rfl) dL_count_14 hP hD rfl trivial

set_option maxHeartbeats 4000000 in
set_option maxRecDepth 100000 in
/-- law: pass -/
theorem c_L_pass (l : Launch) (D : va_G) (cy : Nat → ClassId) (sa : Nat → Nat) (h : Nat) (ad : Nat → Nat) (nS nB : Nat) (st bk : Nat → Iu) (gate nu : Iu) (bt : Nat) (wt : va_W) (hq n : Nat) (eh : nu 0 = nI hq) (hn1 : 1 ≤ n) (hn2 : n ≤ 240) (hh : hq + n < 2 ^ 31) (hcS : nS ≤ 4) (hcB : nB ≤ 6) (hof : ∀ j, j < nB → ∃ i, i < nS ∧ bk j 0 = nI i) (o : Nat) (g : Nat → Int64) : xL l D cy sa yL_pass wsL_pass ({ frames := 7, cells := 1, slots := 6, locals := 201 } : Room) [.ref h, .int (nI n), .ref o] ((xw cy h ad nS nB st bk gate nu bt wt) ++ [(o, .inl (cy 4, 1, .inr (.inl g)))]) (fun _ : Unit => some (.int 0)) (fun u => True) (fun u => (xw cy h ad nS nB (hrs nS nB hq gate (st, bk, nu) n).1 (hrs nS nB hq gate (st, bk, nu) n).2.1 gate (hrs nS nB hq gate (st, bk, nu) n).2.2 bt wt) ++ [(o, .inl (cy 4, 1, .inr (.inl (vp_updL g 0 ((unf nS nB hq gate (st, bk, nu) n).toInt64)))))]) := by
  refine xL.of cL_pass 4 (some .int) [(0, 9, 12, 13)] RL (by decide +kernel) rfl rfl (Nat.le_of_ble_eq_true rfl) ?_
  intro p e s m below meth c A ls hx hb hr hts hown hlocks hml hK hA hP hD hS hV hZ hNc htb hl
  have hl : lv_has ls 4 [(0, .ref h), (1, .int (nI n)), (2, .ref o)] := hl
  refine lv_aload_n hx hb dL_pass_0 rfl (lv_at hl 2 rfl) ?_
  refine lv_iconst (v := 0) hx hb dL_pass_1 (by decide) ?_
  refine lv_aload_n hx hb dL_pass_2 rfl (lv_at hl 0 rfl) ?_
  refine lv_iload_n hx hb dL_pass_3 rfl (lv_at hl 1 rfl) ?_
  refine xcV (As := [.int (nI n)]) (rest := [.int 0, .ref o]) ⟨hx, hb, hml, hown, hts⟩ (c_X3_pass l D cy h ad nS nB st bk gate nu bt wt hq n eh hn1 hn2 hh hcS hcB hof) (cwV 1 hts gL_pass_X3_pass rfl rfl rfl (by decide +kernel) ⟨Nat.le_of_ble_eq_true rfl, Nat.le_of_ble_eq_true rfl⟩) hK hP hD hS hA rfl rfl rfl (xE_l) rfl hl.1 rfl (Nat.le_of_ble_eq_true rfl) dL_pass_4 ⟨Nat.le_of_ble_eq_true rfl, Nat.le_of_ble_eq_true rfl⟩ (fun u H locs hu hP hD hS => ?_)
  have hP : va_P D vwCl ((xw cy h ad nS nB (hrs nS nB hq gate (st, bk, nu) n).1 (hrs nS nB hq gate (st, bk, nu) n).2.1 gate (hrs nS nB hq gate (st, bk, nu) n).2.2 bt wt) ++ [(o, .inl (cy 4, 1, .inr (.inl g)))]) H := hP
  have hD : va_D A ((xw cy h ad nS nB (hrs nS nB hq gate (st, bk, nu) n).1 (hrs nS nB hq gate (st, bk, nu) n).2.1 gate (hrs nS nB hq gate (st, bk, nu) n).2.2 bt wt) ++ [(o, .inl (cy 4, 1, .inr (.inl g)))]) := hD
  refine W.eq (g2 := F0 m 7 ls [.int (unf nS nB hq gate (st, bk, nu) n), .int 0, .ref o]) rfl ?_
  refine lv_i2l (v := (unf nS nB hq gate (st, bk, nu) n).toInt64) hx hb dL_pass_7 rfl ?_
  refine va_last hx hb hK.1 hP hD hS _ 4 last_at rfl (vp_in_nI (n := 0) (by decide) (by decide)) dL_pass_8 (fun H locs hP hD hS => ?_)
  rw [set_last] at hP hD
  have hP : va_P D vwCl ((xw cy h ad nS nB (hrs nS nB hq gate (st, bk, nu) n).1 (hrs nS nB hq gate (st, bk, nu) n).2.1 gate (hrs nS nB hq gate (st, bk, nu) n).2.2 bt wt) ++ [(o, .inl (cy 4, 1, .inr (.inl (vp_updL g 0 ((unf nS nB hq gate (st, bk, nu) n).toInt64)))))]) H := hP
  have hD : va_D A ((xw cy h ad nS nB (hrs nS nB hq gate (st, bk, nu) n).1 (hrs nS nB hq gate (st, bk, nu) n).2.1 gate (hrs nS nB hq gate (st, bk, nu) n).2.2 bt wt) ++ [(o, .inl (cy 4, 1, .inr (.inl (vp_updL g 0 ((unf nS nB hq gate (st, bk, nu) n).toInt64)))))]) := hD
  refine lv_goto (tgt := 15) hx hb dL_pass_9 (by decide) ?_
  refine lv_iconst (v := 0) hx hb dL_pass_15 (by decide) ?_
  exact xri u hx hb hr hlocks hS (Nat.le_of_ble_eq_true rfl) (Nat.le_of_ble_eq_true rfl) dL_pass_16 hP hD rfl hu

set_option maxHeartbeats 4000000 in
set_option maxRecDepth 100000 in
/-- law: pass -/
theorem c_L_pass_1 (l : Launch) (hst : l.stackTraces = false) (D : va_G) (cy : Nat → ClassId) (sa : Nat → Nat) (h : Nat) (ad : Nat → Nat) (nS nB : Nat) (st bk : Nat → Iu) (gate nu : Iu) (bt : Nat) (wt : va_W) (p0 : Int32) (h1 : ¬ ((1 : Int32) ≤ p0 ∧ p0 ≤ 240)) (o : Nat) (g : Nat → Int64) : xL l D cy sa yL_pass wsL_pass ({ frames := 7, cells := 1, slots := 6, locals := 201 } : Room) [.ref h, .int p0, .ref o] ((xw cy h ad nS nB st bk gate nu bt wt) ++ [(o, .inl (cy 4, 1, .inr (.inl g)))]) (fun _ : Unit => some (.int 1)) (fun _ => True) (fun _ => (xw cy h ad nS nB st bk gate nu bt wt) ++ [(o, .inl (cy 4, 1, .inr (.inl g)))]) := by
  refine xL.of cL_pass 4 (some .int) [(0, 9, 12, 13)] RL (by decide +kernel) rfl rfl (Nat.le_of_ble_eq_true rfl) ?_
  intro p e s m below meth c A ls hx hb hr hts hown hlocks hml hK hA hP hD hS hV hZ hNc htb hl
  have hl : lv_has ls 4 [(0, .ref h), (1, .int p0), (2, .ref o)] := hl
  refine lv_aload_n hx hb dL_pass_0 rfl (lv_at hl 2 rfl) ?_
  refine lv_iconst (v := 0) hx hb dL_pass_1 (by decide) ?_
  refine lv_aload_n hx hb dL_pass_2 rfl (lv_at hl 0 rfl) ?_
  refine lv_iload_n hx hb dL_pass_3 rfl (lv_at hl 1 rfl) ?_
  refine xcT (E := E_A) (As := [.int p0]) (rest := [.int 0, .ref o]) ⟨hx, hb, hml, hown, hts⟩ (c_X3_pass_1 l hst D cy sa h ad nS nB st bk gate nu bt wt p0 h1) (cwV 1 hts gL_pass_X3_pass rfl rfl rfl (by decide +kernel) ⟨Nat.le_of_ble_eq_true rfl, Nat.le_of_ble_eq_true rfl⟩) hK hV hZ hP hD hS hA rfl rfl rfl (xE_l) rfl hl.1 rfl (Nat.le_of_ble_eq_true rfl) dL_pass_4 ⟨Nat.le_of_ble_eq_true rfl, Nat.le_of_ble_eq_true rfl⟩ (fun q9 ce H locs hce hcv hcl hP hD hS => ?_)
  refine vx_catch hown [] ({ startPc := 0, endPc := 9, handlerPc := 12, catchType := 13 } : ExceptionTableEntry) [] (htb.trans rfl) (fun z hz => absurd hz List.not_mem_nil) (by decide) (by decide) (hts (.classLink RL 13 "java/lang/IllegalArgumentException") (List.mem_of_getElem? (i := 1) rfl)) (xBw_at hV _ (List.mem_of_getElem? (i := 3) rfl)) hce hcv hcl ?_
  refine W.eq (g2 := F0 m 12 ls [.ref q9]) rfl ?_
  refine lv_astore_n (lv' := [(3, .ref q9), (0, .ref h), (1, .int p0), (2, .ref o)]) hx hb dL_pass_12 rfl hl (by decide) rfl (fun ls hl => ?_)
  refine lv_iconst (v := 1) hx hb dL_pass_13 (by decide) ?_
  exact xri () hx hb hr hlocks hS (Nat.le_of_ble_eq_true rfl) (Nat.le_of_ble_eq_true rfl) dL_pass_14 hP hD rfl trivial

set_option maxHeartbeats 4000000 in
set_option maxRecDepth 100000 in
/-- law: foresee -/
theorem c_L_foresee (l : Launch) (D : va_G) (cy : Nat → ClassId) (sa : Nat → Nat) (h : Nat) (ad av : Nat → Nat) (nS nB tS tB : Nat) (st bk ts tb : Nat → Iu) (gate nu tg tn : Iu) (hSM : tS ≤ nS) (hBM : tB ≤ nB) (hcS : nS ≤ 4) (hcB : nB ≤ 6) (hb7 : ∀ j, j < nB → bk j 7 = 0 ∨ bk j 7 = 1) (hq n k : Nat) (eh : nu 0 = nI hq) (hn1 : 1 ≤ n) (hn2 : n ≤ 240) (hh : hq + n < 2 ^ 31) (hk : k < 4) (hof : ∀ j, j < nB → ∃ i, i < nS ∧ bk j 0 = nI i) (o : Nat) (g : Nat → Int64) : xL l D cy sa yL_foresee wsL_foresee ({ frames := 7, cells := 10, slots := 60, locals := 203 } : Room) [.ref h, .int (nI n), .int (nI k), .ref o] ((xw cy h ad nS nB st bk gate nu (av 0) (tw cy av tS tB ts tb tg tn)) ++ [(o, .inl (cy 4, 1, .inr (.inl g)))]) (fun _ : (Nat → Nat) × TS => some (.int 0)) (fun u => True) (fun u => (xw cy h ad nS nB st bk gate nu (u.1 0) (tw cy u.1 nS nB u.2.1 u.2.2.1 gate u.2.2.2)) ++ [(o, .inl (cy 4, 1, .inr (.inl (vp_updL g 0 ((fsF nS nB (unf nS nB hq gate (st, bk, nu) n) (hrs nS nB hq gate (st, bk, nu) n) k).toInt64)))))]) := by
  refine xL.of cL_foresee 5 (some .int) [(0, 10, 13, 13), (0, 10, 17, 19)] RL (by decide +kernel) rfl rfl (Nat.le_of_ble_eq_true rfl) ?_
  intro p e s m below meth c A ls hx hb hr hts hown hlocks hml hK hA hP hD hS hV hZ hNc htb hl
  have hl : lv_has ls 5 [(0, .ref h), (1, .int (nI n)), (2, .int (nI k)), (3, .ref o)] := hl
  refine lv_aload_n hx hb dL_foresee_0 rfl (lv_at hl 3 rfl) ?_
  refine lv_iconst (v := 0) hx hb dL_foresee_1 (by decide) ?_
  refine lv_aload_n hx hb dL_foresee_2 rfl (lv_at hl 0 rfl) ?_
  refine lv_iload_n hx hb dL_foresee_3 rfl (lv_at hl 1 rfl) ?_
  refine lv_iload_n hx hb dL_foresee_4 rfl (lv_at hl 2 rfl) ?_
  refine xcV (As := [.int (nI n), .int (nI k)]) (rest := [.int 0, .ref o]) ⟨hx, hb, hml, hown, hts⟩ (c_X3_foresee l D cy h ad av nS nB tS tB st bk ts tb gate nu tg tn hSM hBM hcS hcB hb7 hq n k eh hn1 hn2 hh hk hof) (cwV 2 hts gL_foresee_X3_foresee rfl rfl rfl (by decide +kernel) ⟨Nat.le_of_ble_eq_true rfl, Nat.le_of_ble_eq_true rfl⟩) hK hP hD hS hA rfl rfl rfl (xE_l) rfl hl.1 rfl (Nat.le_of_ble_eq_true rfl) dL_foresee_5 ⟨Nat.le_of_ble_eq_true rfl, Nat.le_of_ble_eq_true rfl⟩ (fun u H locs hu hP hD hS => ?_)
  have hP : va_P D vwCl ((xw cy h ad nS nB st bk gate nu (u.1 0) (tw cy u.1 nS nB u.2.1 u.2.2.1 gate u.2.2.2)) ++ [(o, .inl (cy 4, 1, .inr (.inl g)))]) H := hP
  have hD : va_D A ((xw cy h ad nS nB st bk gate nu (u.1 0) (tw cy u.1 nS nB u.2.1 u.2.2.1 gate u.2.2.2)) ++ [(o, .inl (cy 4, 1, .inr (.inl g)))]) := hD
  refine W.eq (g2 := F0 m 8 ls [.int (fsF nS nB (unf nS nB hq gate (st, bk, nu) n) (hrs nS nB hq gate (st, bk, nu) n) k), .int 0, .ref o]) rfl ?_
  refine lv_i2l (v := (fsF nS nB (unf nS nB hq gate (st, bk, nu) n) (hrs nS nB hq gate (st, bk, nu) n) k).toInt64) hx hb dL_foresee_8 rfl ?_
  refine va_last hx hb hK.1 hP hD hS _ 4 last_at rfl (vp_in_nI (n := 0) (by decide) (by decide)) dL_foresee_9 (fun H locs hP hD hS => ?_)
  rw [set_last] at hP hD
  have hP : va_P D vwCl ((xw cy h ad nS nB st bk gate nu (u.1 0) (tw cy u.1 nS nB u.2.1 u.2.2.1 gate u.2.2.2)) ++ [(o, .inl (cy 4, 1, .inr (.inl (vp_updL g 0 ((fsF nS nB (unf nS nB hq gate (st, bk, nu) n) (hrs nS nB hq gate (st, bk, nu) n) k).toInt64)))))]) H := hP
  have hD : va_D A ((xw cy h ad nS nB st bk gate nu (u.1 0) (tw cy u.1 nS nB u.2.1 u.2.2.1 gate u.2.2.2)) ++ [(o, .inl (cy 4, 1, .inr (.inl (vp_updL g 0 ((fsF nS nB (unf nS nB hq gate (st, bk, nu) n) (hrs nS nB hq gate (st, bk, nu) n) k).toInt64)))))]) := hD
  refine lv_goto (tgt := 21) hx hb dL_foresee_10 (by decide) ?_
  refine lv_iconst (v := 0) hx hb dL_foresee_21 (by decide) ?_
  exact xri u hx hb hr hlocks hS (Nat.le_of_ble_eq_true rfl) (Nat.le_of_ble_eq_true rfl) dL_foresee_22 hP hD rfl hu

set_option maxHeartbeats 4000000 in
set_option maxRecDepth 100000 in
/-- law: foresee -/
theorem c_L_foresee_1 (l : Launch) (hst : l.stackTraces = false) (D : va_G) (cy : Nat → ClassId) (sa : Nat → Nat) (h : Nat) (ad : Nat → Nat) (nS nB : Nat) (st bk : Nat → Iu) (gate nu : Iu) (bt : Nat) (wt : va_W) (p0 p1 : Int32) (h1 : ¬ ((1 : Int32) ≤ p0 ∧ p0 ≤ 240)) (o : Nat) (g : Nat → Int64) : xL l D cy sa yL_foresee wsL_foresee ({ frames := 7, cells := 10, slots := 60, locals := 203 } : Room) [.ref h, .int p0, .int p1, .ref o] ((xw cy h ad nS nB st bk gate nu bt wt) ++ [(o, .inl (cy 4, 1, .inr (.inl g)))]) (fun _ : Unit => some (.int 1)) (fun _ => True) (fun _ => (xw cy h ad nS nB st bk gate nu bt wt) ++ [(o, .inl (cy 4, 1, .inr (.inl g)))]) := by
  refine xL.of cL_foresee 5 (some .int) [(0, 10, 13, 13), (0, 10, 17, 19)] RL (by decide +kernel) rfl rfl (Nat.le_of_ble_eq_true rfl) ?_
  intro p e s m below meth c A ls hx hb hr hts hown hlocks hml hK hA hP hD hS hV hZ hNc htb hl
  have hl : lv_has ls 5 [(0, .ref h), (1, .int p0), (2, .int p1), (3, .ref o)] := hl
  refine lv_aload_n hx hb dL_foresee_0 rfl (lv_at hl 3 rfl) ?_
  refine lv_iconst (v := 0) hx hb dL_foresee_1 (by decide) ?_
  refine lv_aload_n hx hb dL_foresee_2 rfl (lv_at hl 0 rfl) ?_
  refine lv_iload_n hx hb dL_foresee_3 rfl (lv_at hl 1 rfl) ?_
  refine lv_iload_n hx hb dL_foresee_4 rfl (lv_at hl 2 rfl) ?_
  refine xcT (E := E_A) (As := [.int p0, .int p1]) (rest := [.int 0, .ref o]) ⟨hx, hb, hml, hown, hts⟩ (c_X3_foresee_1 l hst D cy sa h ad nS nB st bk gate nu bt wt p0 p1 h1) (cwV 2 hts gL_foresee_X3_foresee rfl rfl rfl (by decide +kernel) ⟨Nat.le_of_ble_eq_true rfl, Nat.le_of_ble_eq_true rfl⟩) hK hV hZ hP hD hS hA rfl rfl rfl (xE_l) rfl hl.1 rfl (Nat.le_of_ble_eq_true rfl) dL_foresee_5 ⟨Nat.le_of_ble_eq_true rfl, Nat.le_of_ble_eq_true rfl⟩ (fun q9 ce H locs hce hcv hcl hP hD hS => ?_)
  refine vx_catch hown [] ({ startPc := 0, endPc := 10, handlerPc := 13, catchType := 13 } : ExceptionTableEntry) [({ startPc := 0, endPc := 10, handlerPc := 17, catchType := 19 } : ExceptionTableEntry)] (htb.trans rfl) (fun z hz => absurd hz List.not_mem_nil) (by decide) (by decide) (hts (.classLink RL 13 "java/lang/IllegalArgumentException") (List.mem_of_getElem? (i := 1) rfl)) (xBw_at hV _ (List.mem_of_getElem? (i := 3) rfl)) hce hcv hcl ?_
  refine W.eq (g2 := F0 m 13 ls [.ref q9]) rfl ?_
  refine lv_astore (lv' := [(4, .ref q9), (0, .ref h), (1, .int p0), (2, .int p1), (3, .ref o)]) hx hb dL_foresee_13 hl (by decide) rfl (fun ls hl => ?_)
  refine lv_iconst (v := 1) hx hb dL_foresee_15 (by decide) ?_
  exact xri () hx hb hr hlocks hS (Nat.le_of_ble_eq_true rfl) (Nat.le_of_ble_eq_true rfl) dL_foresee_16 hP hD rfl trivial

set_option maxHeartbeats 4000000 in
set_option maxRecDepth 100000 in
/-- law: foresee -/
theorem c_L_foresee_2 (l : Launch) (hst : l.stackTraces = false) (D : va_G) (cy : Nat → ClassId) (sa : Nat → Nat) (h : Nat) (ad : Nat → Nat) (nS nB : Nat) (st bk : Nat → Iu) (gate nu : Iu) (bt : Nat) (wt : va_W) (p0 p1 : Int32) (h1 : (1 : Int32) ≤ p0 ∧ p0 ≤ 240) (h2 : ¬ ((0 : Int32) ≤ p1 ∧ p1 ≤ 3)) (o : Nat) (g : Nat → Int64) : xL l D cy sa yL_foresee wsL_foresee ({ frames := 7, cells := 10, slots := 60, locals := 203 } : Room) [.ref h, .int p0, .int p1, .ref o] ((xw cy h ad nS nB st bk gate nu bt wt) ++ [(o, .inl (cy 4, 1, .inr (.inl g)))]) (fun _ : Unit => some (.int 2)) (fun _ => True) (fun _ => (xw cy h ad nS nB st bk gate nu bt wt) ++ [(o, .inl (cy 4, 1, .inr (.inl g)))]) := by
  refine xL.of cL_foresee 5 (some .int) [(0, 10, 13, 13), (0, 10, 17, 19)] RL (by decide +kernel) rfl rfl (Nat.le_of_ble_eq_true rfl) ?_
  intro p e s m below meth c A ls hx hb hr hts hown hlocks hml hK hA hP hD hS hV hZ hNc htb hl
  have hl : lv_has ls 5 [(0, .ref h), (1, .int p0), (2, .int p1), (3, .ref o)] := hl
  refine lv_aload_n hx hb dL_foresee_0 rfl (lv_at hl 3 rfl) ?_
  refine lv_iconst (v := 0) hx hb dL_foresee_1 (by decide) ?_
  refine lv_aload_n hx hb dL_foresee_2 rfl (lv_at hl 0 rfl) ?_
  refine lv_iload_n hx hb dL_foresee_3 rfl (lv_at hl 1 rfl) ?_
  refine lv_iload_n hx hb dL_foresee_4 rfl (lv_at hl 2 rfl) ?_
  refine xcT (E := E_I) (As := [.int p0, .int p1]) (rest := [.int 0, .ref o]) ⟨hx, hb, hml, hown, hts⟩ (c_X3_foresee_2 l hst D cy sa h ad nS nB st bk gate nu bt wt p0 p1 h1 h2) (cwV 2 hts gL_foresee_X3_foresee rfl rfl rfl (by decide +kernel) ⟨Nat.le_of_ble_eq_true rfl, Nat.le_of_ble_eq_true rfl⟩) hK hV hZ hP hD hS hA rfl rfl rfl (xE_l) rfl hl.1 rfl (Nat.le_of_ble_eq_true rfl) dL_foresee_5 ⟨Nat.le_of_ble_eq_true rfl, Nat.le_of_ble_eq_true rfl⟩ (fun q9 ce H locs hce hcv hcl hP hD hS => ?_)
  refine vx_catch hown [({ startPc := 0, endPc := 10, handlerPc := 13, catchType := 13 } : ExceptionTableEntry)] ({ startPc := 0, endPc := 10, handlerPc := 17, catchType := 19 } : ExceptionTableEntry) [] (htb.trans rfl) (fun z hz => by rcases List.mem_singleton.mp hz with rfl; exact Or.inr ⟨by decide, E_A, (hts (.classLink RL 13 "java/lang/IllegalArgumentException") (List.mem_of_getElem? (i := 1) rfl)), hNc.2.2.2⟩) (by decide) (by decide) (hts (.classLink RL 19 "java/lang/IndexOutOfBoundsException") (List.mem_of_getElem? (i := 2) rfl)) (xBw_at hV _ (List.mem_of_getElem? (i := 5) rfl)) hce hcv hcl ?_
  refine W.eq (g2 := F0 m 17 ls [.ref q9]) rfl ?_
  refine lv_astore (lv' := [(4, .ref q9), (0, .ref h), (1, .int p0), (2, .int p1), (3, .ref o)]) hx hb dL_foresee_17 hl (by decide) rfl (fun ls hl => ?_)
  refine lv_iconst (v := 2) hx hb dL_foresee_19 (by decide) ?_
  exact xri () hx hb hr hlocks hS (Nat.le_of_ble_eq_true rfl) (Nat.le_of_ble_eq_true rfl) dL_foresee_20 hP hD rfl trivial

set_option maxHeartbeats 4000000 in
set_option maxRecDepth 100000 in
/-- law: advise -/
theorem c_L_advise (l : Launch) (D : va_G) (cy : Nat → ClassId) (sa : Nat → Nat) (h : Nat) (ad av : Nat → Nat) (nS nB tS tB : Nat) (st bk ts tb : Nat → Iu) (gate nu tg tn : Iu) (hSM : tS ≤ nS) (hBM : tB ≤ nB) (hcS : nS ≤ 4) (hcB : nB ≤ 6) (hb7 : ∀ j, j < nB → bk j 7 = 0 ∨ bk j 7 = 1) (hq n j : Nat) (eh : nu 0 = nI hq) (hn1 : 1 ≤ n) (hn2 : n ≤ 96) (hh : hq + n < 2 ^ 31) (hj : j < nB) (hof : ∀ j, j < nB → ∃ i, i < nS ∧ bk j 0 = nI i) (o : Nat) (g : Nat → Int64) : xL l D cy sa yL_advise wsL_advise ({ frames := 8, cells := 100, slots := 600, locals := 256 } : Room) [.ref h, .int (nI j), .int (nI n), .ref o] ((xw cy h ad nS nB st bk gate nu (av 0) (tw cy av tS tB ts tb tg tn)) ++ [(o, .inl (cy 4, 1, .inr (.inl g)))]) (fun _ : (Nat → Nat) × TS => some (.int 0)) (fun u => True) (fun u => (xw cy h ad nS nB st bk gate nu (u.1 0) (tw cy u.1 nS nB u.2.1 u.2.2.1 gate u.2.2.2)) ++ [(o, .inl (cy 4, 1, .inr (.inl (vp_updL g 0 ((nI (10 * (advN (fun k => unf nS nB hq gate (st, rat bk j k, nu) n) 9).1)).toInt64)))))]) := by
  refine xL.of cL_advise 5 (some .int) [(0, 10, 13, 19), (0, 10, 17, 13)] RL (by decide +kernel) rfl rfl (Nat.le_of_ble_eq_true rfl) ?_
  intro p e s m below meth c A ls hx hb hr hts hown hlocks hml hK hA hP hD hS hV hZ hNc htb hl
  have hl : lv_has ls 5 [(0, .ref h), (1, .int (nI j)), (2, .int (nI n)), (3, .ref o)] := hl
  refine lv_aload_n hx hb dL_advise_0 rfl (lv_at hl 3 rfl) ?_
  refine lv_iconst (v := 0) hx hb dL_advise_1 (by decide) ?_
  refine lv_aload_n hx hb dL_advise_2 rfl (lv_at hl 0 rfl) ?_
  refine lv_iload_n hx hb dL_advise_3 rfl (lv_at hl 1 rfl) ?_
  refine lv_iload_n hx hb dL_advise_4 rfl (lv_at hl 2 rfl) ?_
  refine xcV (As := [.int (nI j), .int (nI n)]) (rest := [.int 0, .ref o]) ⟨hx, hb, hml, hown, hts⟩ (c_X3_advise l D cy h ad av nS nB tS tB st bk ts tb gate nu tg tn hSM hBM hcS hcB hb7 hq n j eh hn1 hn2 hh hj hof) (cwV 2 hts gL_advise_X3_advise rfl rfl rfl (by decide +kernel) ⟨Nat.le_of_ble_eq_true rfl, Nat.le_of_ble_eq_true rfl⟩) hK hP hD hS hA rfl rfl rfl (xE_l) rfl hl.1 rfl (Nat.le_of_ble_eq_true rfl) dL_advise_5 ⟨Nat.le_of_ble_eq_true rfl, Nat.le_of_ble_eq_true rfl⟩ (fun u H locs hu hP hD hS => ?_)
  have hP : va_P D vwCl ((xw cy h ad nS nB st bk gate nu (u.1 0) (tw cy u.1 nS nB u.2.1 u.2.2.1 gate u.2.2.2)) ++ [(o, .inl (cy 4, 1, .inr (.inl g)))]) H := hP
  have hD : va_D A ((xw cy h ad nS nB st bk gate nu (u.1 0) (tw cy u.1 nS nB u.2.1 u.2.2.1 gate u.2.2.2)) ++ [(o, .inl (cy 4, 1, .inr (.inl g)))]) := hD
  refine W.eq (g2 := F0 m 8 ls [.int (nI (10 * (advN (fun k => unf nS nB hq gate (st, rat bk j k, nu) n) 9).1)), .int 0, .ref o]) rfl ?_
  refine lv_i2l (v := (nI (10 * (advN (fun k => unf nS nB hq gate (st, rat bk j k, nu) n) 9).1)).toInt64) hx hb dL_advise_8 rfl ?_
  refine va_last hx hb hK.1 hP hD hS _ 4 last_at rfl (vp_in_nI (n := 0) (by decide) (by decide)) dL_advise_9 (fun H locs hP hD hS => ?_)
  rw [set_last] at hP hD
  have hP : va_P D vwCl ((xw cy h ad nS nB st bk gate nu (u.1 0) (tw cy u.1 nS nB u.2.1 u.2.2.1 gate u.2.2.2)) ++ [(o, .inl (cy 4, 1, .inr (.inl (vp_updL g 0 ((nI (10 * (advN (fun k => unf nS nB hq gate (st, rat bk j k, nu) n) 9).1)).toInt64)))))]) H := hP
  have hD : va_D A ((xw cy h ad nS nB st bk gate nu (u.1 0) (tw cy u.1 nS nB u.2.1 u.2.2.1 gate u.2.2.2)) ++ [(o, .inl (cy 4, 1, .inr (.inl (vp_updL g 0 ((nI (10 * (advN (fun k => unf nS nB hq gate (st, rat bk j k, nu) n) 9).1)).toInt64)))))]) := hD
  refine lv_goto (tgt := 21) hx hb dL_advise_10 (by decide) ?_
  refine lv_iconst (v := 0) hx hb dL_advise_21 (by decide) ?_
  exact xri u hx hb hr hlocks hS (Nat.le_of_ble_eq_true rfl) (Nat.le_of_ble_eq_true rfl) dL_advise_22 hP hD rfl hu

set_option maxHeartbeats 4000000 in
set_option maxRecDepth 100000 in
/-- law: advise -/
theorem c_L_advise_1 (l : Launch) (hst : l.stackTraces = false) (D : va_G) (cy : Nat → ClassId) (sa : Nat → Nat) (h : Nat) (ad : Nat → Nat) (nS nB : Nat) (st bk : Nat → Iu) (gate nu : Iu) (bt : Nat) (wt : va_W) (p0 p1 : Int32) (hv : ¬ vp_in p0 nB) (hcS : nS ≤ 4) (hcB : nB ≤ 6) (o : Nat) (g : Nat → Int64) : xL l D cy sa yL_advise wsL_advise ({ frames := 8, cells := 100, slots := 600, locals := 256 } : Room) [.ref h, .int p0, .int p1, .ref o] ((xw cy h ad nS nB st bk gate nu bt wt) ++ [(o, .inl (cy 4, 1, .inr (.inl g)))]) (fun _ : Unit => some (.int 1)) (fun _ => True) (fun _ => (xw cy h ad nS nB st bk gate nu bt wt) ++ [(o, .inl (cy 4, 1, .inr (.inl g)))]) := by
  refine xL.of cL_advise 5 (some .int) [(0, 10, 13, 19), (0, 10, 17, 13)] RL (by decide +kernel) rfl rfl (Nat.le_of_ble_eq_true rfl) ?_
  intro p e s m below meth c A ls hx hb hr hts hown hlocks hml hK hA hP hD hS hV hZ hNc htb hl
  have hl : lv_has ls 5 [(0, .ref h), (1, .int p0), (2, .int p1), (3, .ref o)] := hl
  refine lv_aload_n hx hb dL_advise_0 rfl (lv_at hl 3 rfl) ?_
  refine lv_iconst (v := 0) hx hb dL_advise_1 (by decide) ?_
  refine lv_aload_n hx hb dL_advise_2 rfl (lv_at hl 0 rfl) ?_
  refine lv_iload_n hx hb dL_advise_3 rfl (lv_at hl 1 rfl) ?_
  refine lv_iload_n hx hb dL_advise_4 rfl (lv_at hl 2 rfl) ?_
  refine xcT (E := E_I) (As := [.int p0, .int p1]) (rest := [.int 0, .ref o]) ⟨hx, hb, hml, hown, hts⟩ (c_X3_advise_1 l hst D cy sa h ad nS nB st bk gate nu bt wt p0 p1 hv hcS hcB) (cwV 2 hts gL_advise_X3_advise rfl rfl rfl (by decide +kernel) ⟨Nat.le_of_ble_eq_true rfl, Nat.le_of_ble_eq_true rfl⟩) hK hV hZ hP hD hS hA rfl rfl rfl (xE_l) rfl hl.1 rfl (Nat.le_of_ble_eq_true rfl) dL_advise_5 ⟨Nat.le_of_ble_eq_true rfl, Nat.le_of_ble_eq_true rfl⟩ (fun q9 ce H locs hce hcv hcl hP hD hS => ?_)
  refine vx_catch hown [] ({ startPc := 0, endPc := 10, handlerPc := 13, catchType := 19 } : ExceptionTableEntry) [({ startPc := 0, endPc := 10, handlerPc := 17, catchType := 13 } : ExceptionTableEntry)] (htb.trans rfl) (fun z hz => absurd hz List.not_mem_nil) (by decide) (by decide) (hts (.classLink RL 19 "java/lang/IndexOutOfBoundsException") (List.mem_of_getElem? (i := 1) rfl)) (xBw_at hV _ (List.mem_of_getElem? (i := 5) rfl)) hce hcv hcl ?_
  refine W.eq (g2 := F0 m 13 ls [.ref q9]) rfl ?_
  refine lv_astore (lv' := [(4, .ref q9), (0, .ref h), (1, .int p0), (2, .int p1), (3, .ref o)]) hx hb dL_advise_13 hl (by decide) rfl (fun ls hl => ?_)
  refine lv_iconst (v := 1) hx hb dL_advise_15 (by decide) ?_
  exact xri () hx hb hr hlocks hS (Nat.le_of_ble_eq_true rfl) (Nat.le_of_ble_eq_true rfl) dL_advise_16 hP hD rfl trivial

set_option maxHeartbeats 4000000 in
set_option maxRecDepth 100000 in
/-- law: advise -/
theorem c_L_advise_2 (l : Launch) (hst : l.stackTraces = false) (D : va_G) (cy : Nat → ClassId) (sa : Nat → Nat) (h : Nat) (ad : Nat → Nat) (nS nB : Nat) (st bk : Nat → Iu) (gate nu : Iu) (bt : Nat) (wt : va_W) (j : Nat) (hj : j < nB) (p1 : Int32) (h2 : ¬ ((1 : Int32) ≤ p1 ∧ p1 ≤ 96)) (hcS : nS ≤ 4) (hcB : nB ≤ 6) (o : Nat) (g : Nat → Int64) : xL l D cy sa yL_advise wsL_advise ({ frames := 8, cells := 100, slots := 600, locals := 256 } : Room) [.ref h, .int (nI j), .int p1, .ref o] ((xw cy h ad nS nB st bk gate nu bt wt) ++ [(o, .inl (cy 4, 1, .inr (.inl g)))]) (fun _ : Unit => some (.int 2)) (fun _ => True) (fun _ => (xw cy h ad nS nB st bk gate nu bt wt) ++ [(o, .inl (cy 4, 1, .inr (.inl g)))]) := by
  refine xL.of cL_advise 5 (some .int) [(0, 10, 13, 19), (0, 10, 17, 13)] RL (by decide +kernel) rfl rfl (Nat.le_of_ble_eq_true rfl) ?_
  intro p e s m below meth c A ls hx hb hr hts hown hlocks hml hK hA hP hD hS hV hZ hNc htb hl
  have hl : lv_has ls 5 [(0, .ref h), (1, .int (nI j)), (2, .int p1), (3, .ref o)] := hl
  refine lv_aload_n hx hb dL_advise_0 rfl (lv_at hl 3 rfl) ?_
  refine lv_iconst (v := 0) hx hb dL_advise_1 (by decide) ?_
  refine lv_aload_n hx hb dL_advise_2 rfl (lv_at hl 0 rfl) ?_
  refine lv_iload_n hx hb dL_advise_3 rfl (lv_at hl 1 rfl) ?_
  refine lv_iload_n hx hb dL_advise_4 rfl (lv_at hl 2 rfl) ?_
  refine xcT (E := E_A) (As := [.int (nI j), .int p1]) (rest := [.int 0, .ref o]) ⟨hx, hb, hml, hown, hts⟩ (c_X3_advise_2 l hst D cy sa h ad nS nB st bk gate nu bt wt j hj p1 h2 hcS hcB) (cwV 2 hts gL_advise_X3_advise rfl rfl rfl (by decide +kernel) ⟨Nat.le_of_ble_eq_true rfl, Nat.le_of_ble_eq_true rfl⟩) hK hV hZ hP hD hS hA rfl rfl rfl (xE_l) rfl hl.1 rfl (Nat.le_of_ble_eq_true rfl) dL_advise_5 ⟨Nat.le_of_ble_eq_true rfl, Nat.le_of_ble_eq_true rfl⟩ (fun q9 ce H locs hce hcv hcl hP hD hS => ?_)
  refine vx_catch hown [({ startPc := 0, endPc := 10, handlerPc := 13, catchType := 19 } : ExceptionTableEntry)] ({ startPc := 0, endPc := 10, handlerPc := 17, catchType := 13 } : ExceptionTableEntry) [] (htb.trans rfl) (fun z hz => by rcases List.mem_singleton.mp hz with rfl; exact Or.inr ⟨by decide, E_I, (hts (.classLink RL 19 "java/lang/IndexOutOfBoundsException") (List.mem_of_getElem? (i := 1) rfl)), hNc.1⟩) (by decide) (by decide) (hts (.classLink RL 13 "java/lang/IllegalArgumentException") (List.mem_of_getElem? (i := 2) rfl)) (xBw_at hV _ (List.mem_of_getElem? (i := 3) rfl)) hce hcv hcl ?_
  refine W.eq (g2 := F0 m 17 ls [.ref q9]) rfl ?_
  refine lv_astore (lv' := [(4, .ref q9), (0, .ref h), (1, .int (nI j)), (2, .int p1), (3, .ref o)]) hx hb dL_advise_17 hl (by decide) rfl (fun ls hl => ?_)
  refine lv_iconst (v := 2) hx hb dL_advise_19 (by decide) ?_
  exact xri () hx hb hr hlocks hS (Nat.le_of_ble_eq_true rfl) (Nat.le_of_ble_eq_true rfl) dL_advise_20 hP hD rfl trivial
