/-! ===== LoafMarks: its start, share (laid by gen24.py) ===== -/
/-- a contract with one more premise on the state -/
def xMx {S : Type} (X : State → Prop) (l : Launch) (D : va_G) (cy : Nat → ClassId) (y : MethodName) (wd : List Cond) (rm : Room) (av : List Value) (w0 : va_W) (rv : S → Option Value) (P : S → Prop) (w1 : S → va_W) : Prop :=
  ∀ sz : Nat, Met l y wd rm (va_Pc av (fun U => xPre D cy w0 sz U ∧ X U)) (xQ D (va_A w0 sz) rv P w1) rm.cells rm.slots (va_A w0 sz)
theorem xMx.of {S : Type} {X : State → Prop} {l : Launch} {D : va_G} {cy : Nat → ClassId} {y : MethodName} {wd wd' : List Cond} {rm : Room} {av : List Value} {w0 : va_W} {rv : S → Option Value} {P : S → Prop} {w1 : S → va_W} (cc : ByteArray) (maxL : Nat) (ret : Option FieldType) (own : String)
    (hy : plainName y.cls = true) (ho : y.cls = own) (hw : wd = .code y cc maxL ret :: wd') (hlen : (lg_sl av).length ≤ maxL)
    (body : ∀ (p : Program) (e : Env) (s : State) (m : MethodId) (below : List Frame) (meth : Method) (c : Code) (A : Nat → Prop) (ls : Array Slot), p.tables.exec = Jvm.exec → c.code = cc → meth.sig.returnType = ret → (∀ w ∈ wd, w.before av.toArray s = true) → s.vm.findClass own = some m.cls → meth.locks = false → c.maxLocals = maxL → meth.name = y.name → XK D cy s →
      (∀ q : Nat, s.heap.size ≤ q → A q) → va_P D vwCl w0 s.heap → va_D A w0 → va_S A s.heap s.heap [] → X s → lv_has ls maxL (lv_args 0 av) →
      W p l e rm s m av.toArray below meth c s.heap [] 0 0 (MQ below (xQ D A rv P w1) av.toArray s rm.cells rm.slots A) (F0 m 0 ls [])) : xMx X l D cy y wd rm av w0 rv P w1 := by
  intro sz
  refine Met.ofW (cc := cc) (maxL := maxL) (ret := ret) hy hw ?_
  intro p e s m args below meth c s₁ B hml hv
  obtain ⟨rfl, ⟨hsz, hP, hK, hD0⟩, hX⟩ := hv
  subst hsz
  have hts := atoms_spec (ws := wd) B.pre
  have hl := lv_entry av hlen
  rw [lg_entry_eq]
  exact body p e s m below meth c (va_A w0 s.heap.size) _ B.exec B.bytes B.returns hts (by rw [← ho]; exact findClass_of_methodNamed B.named) B.notSynchronized hml (name_of_methodNamed B.named B.method).1 hK (fun q h => Or.inr h) hP hD0.self va_S.rf hX hl
section XNEST
variable {S : Type} {p : Program} {l : Launch} {e : Env} {R : Room} {s : State} {m : MethodId} {args : Array Value} {below : List Frame} {meth : Method} {c : Code} {H H0 : Heap} {locs : List Loc} {cells slots : Nat} {Q : State → Prop} {cc : ByteArray} {pc : Nat} {ls : Array Slot} {D : va_G} {cy : Nat → ClassId} {A : Nat → Prop} {rv : S → Option Value} {P : S → Prop} {w0 ws : va_W} {w1 out : S → va_W} {rm : Room} {Ts wd : List Cond} {own host : String} {y : MethodName} {nL maxL index n : Nat} {bytes : ByteArray} {b : Addr} {As rest st : List Value}
theorem xcIN (F : CallFix p m c cc nL s args Ts own) (hM : xM l D cy y wd rm (.ref b :: As) w0 rv P w1) (cw : va_CN R s args own index y host bytes maxL none wd rm rm.cells rm.slots n ∧ y.name = "<init>" ∧ (Cond.instanceMethod y).before args s = true)
    (hK : XK D cy s) (hP : va_P D vwCl ws H) (hD : va_D A ws) (hS : va_S A H0 H locs) (hA : ∀ q : Nat, H0.size ≤ q → A q) (hE : xE ws w0 w1 out)
    (hn : As.length = n) (hsize : ls.size = nL) (hst : st = As.reverse ++ .ref b :: rest) (hrest : (rest.map fun v => v.category).sum ≤ 8) (hdg : decode cc pc = .ok (.invokespecial index, 3)) (hf : cells + rm.cells ≤ R.cells ∧ slots + rm.slots ≤ R.slots)
    (kk : ∀ (u : S) (H1 : Heap) (locs1 : List Loc), P u → va_P D vwCl (out u) H1 → va_D A (out u) → va_S A H0 H1 locs1 → W p l e R s m args below meth c H1 locs1 (cells + rm.cells) (slots + rm.slots) Q (F0 m (pc + 3) ls ((rv u).toList ++ rest))) : W p l e R s m args below meth c H locs cells slots Q (F0 m pc ls st) := by
  subst hst
  have hPw : va_P D vwCl w0 H := by
    obtain ⟨wr, g1, -⟩ := hE
    exact (xP_app.mp (xP_perm g1 hP)).1
  have hDw : va_D (fun _ => True) w0 := by
    obtain ⟨wr, g1, -⟩ := hE
    have h := xD_iff.mp (xD_perm g1 hD)
    rw [List.map_append, List.nodup_append] at h
    exact xD_iff.mpr ⟨h.1.1, fun _ _ => trivial⟩
  refine xgo (va_runIN (As := As) (rest := rest) F (hM H.size) cw ⟨xblind, fun U hU hW => ⟨rfl, by rw [hU], by rw [hU]; exact hPw, hK.warmed hW, hDw⟩⟩ rfl hn hsize rfl (lv_room hrest) hdg hf) hP hD hS hA hE kk
end XNEST
set_option maxHeartbeats 4000000 in
set_option maxRecDepth 100000 in
/-- LoafMarks() -/
theorem c_X3_init (l : Launch) (D : va_G) (cy : Nat → ClassId) (h : Nat) : xMx (va_Nw (.methodLinkNest RX3 9 yX2_init "LoafMarks")) l D cy yX3_init wsX3_init ({ frames := 2, cells := 8, slots := 86, locals := 40 } : Room) [.ref h] ([(h, .inr (3, [.null, .null]))]) (fun _ : (Nat → Nat) × (Nat → Nat) => none) (fun _ => True) (fun q => xw cy h q.1 0 0 (fun _ _ => 0) (fun _ _ => 0) (fun _ => 0) nu0 (q.2 0) (tw cy q.2 0 0 (fun _ _ => 0) (fun _ _ => 0) (fun _ => 0) nu0)) := by
  refine xMx.of cX3_init 1 none RX3 (by decide +kernel) rfl rfl (Nat.le_of_ble_eq_true rfl) ?_
  intro p e s m below meth c A ls hx hb hr hts hown hlocks hml hin hK hA hP hD hS hN hl
  have hl : lv_has ls 1 [(0, .ref h)] := hl
  have hinX2 : ∀ w ∈ wsX20, w ∈ wsX3_init := fun _ h => List.mem_cons_of_mem _ (List.mem_append_left _ (List.mem_append_right _ h))
  have hinX3 : ∀ w ∈ wsX30, w ∈ wsX3_init := fun _ h => List.mem_cons_of_mem _ (List.mem_append_right _ h)
  refine lv_aload_n hx hb dX3_init_0 rfl (lv_at hl 0 rfl) ?_
  refine W.objInit hx hb hown (hts (.methodLink RX3 1 objectInit) (List.mem_of_getElem? (i := 1) rfl)) (hts (.instanceMethod objectInit) (List.mem_of_getElem? (i := 2) rfl)) (hts (.code objectInit ⟨#[0xb1]⟩ 1 none) (List.mem_of_getElem? (i := 3) rfl)) rfl (by rw [hml]; exact hl.1) rfl dX3_init_1 (Nat.le_of_ble_eq_true rfl) (Nat.le_of_ble_eq_true rfl) ?_
  refine W.eq (g2 := F0 m 4 ls []) rfl ?_
  refine lv_aload_n hx hb dX3_init_4 rfl (lv_at hl 0 rfl) ?_
  refine va_new (ci := 2) (fs := [.null, .null, .null, .int 0, .int 0, .int 0, .int 0, .int 0, .int 0]) (C := RX2) (T := TX2) (N := 9) hx hb hts hinX2 tyX2 tyX2_ok hown (hts (.classLink RX3 7 RX2) (List.mem_of_getElem? (i := 4) rfl)) (hts (.instantiable RX2 9) (List.mem_of_getElem? (i := 5) rfl)) (hts (.initialized RX2) (List.mem_of_getElem? (i := 6) rfl)) hK.1 hP hD hS hA rfl (fun j hj => by rcases (show j = 0 ∨ j = 1 ∨ j = 2 ∨ j = 3 ∨ j = 4 ∨ j = 5 ∨ j = 6 ∨ j = 7 ∨ j = 8 by omega) with rfl | rfl | rfl | rfl | rfl | rfl | rfl | rfl | rfl <;> rfl) (Nat.le_of_ble_eq_true rfl) (Nat.le_of_ble_eq_true rfl) dX3_init_5 (fun q5 H hP hD hS => ?_)
  have hP : va_P D vwCl (([(h, .inr (3, [.null, .null]))]) ++ ([(q5, .inr (2, [.null, .null, .null, .int 0, .int 0, .int 0, .int 0, .int 0, .int 0]))])) H := hP
  have hD : va_D A (([(h, .inr (3, [.null, .null]))]) ++ ([(q5, .inr (2, [.null, .null, .null, .int 0, .int 0, .int 0, .int 0, .int 0, .int 0]))])) := hD
  refine lv_dup hx hb dX3_init_8 rfl ?_
  refine xcIN (As := []) (rest := [.ref q5, .ref h]) ⟨hx, hb, hml, hown, hts⟩ (c_X2_init l D cy q5) (⟨va_cnB 0 hts gX3_init_X2_init_n9 rfl rfl rfl hN (hts (.initialized RX2) (List.mem_of_getElem? (i := 6) rfl)) (by decide +kernel) ⟨Nat.le_of_ble_eq_true rfl, Nat.le_of_ble_eq_true rfl⟩, rfl, (hts (.instanceMethod yX2_init) (List.mem_of_getElem? (i := 9) rfl))⟩) hK hP hD hS hA (xE_r) rfl hl.1 rfl (Nat.le_of_ble_eq_true rfl) dX3_init_9 ⟨Nat.le_of_ble_eq_true rfl, Nat.le_of_ble_eq_true rfl⟩ (fun a1 H locs hu hP hD hS => ?_)
  have hP : va_P D vwCl (([(h, .inr (3, [.null, .null]))]) ++ (tw cy a1 0 0 (fun _ _ => 0) (fun _ _ => 0) (fun _ => 0) nu0)) H := hP
  have hD : va_D A (([(h, .inr (3, [.null, .null]))]) ++ (tw cy a1 0 0 (fun _ _ => 0) (fun _ _ => 0) (fun _ => 0) nu0)) := hD
  refine W.eq (g2 := F0 m 12 ls [.ref (a1 0), .ref h]) (by first | (rw [hu]; done) | (rw [hu]; rfl)) ?_
  refine va_putF (D := D) (ci := 3) (v := .ref (a1 0)) (ty := .object "LoafMarks$Town") (C := RX3) (T := TX3) (N := 2) hx hb hts hinX3 tyX3 tyX3_ok nmX3 hown hK.1 hP hD hS 0 rfl rfl 0 (by decide) (hts (.fieldLink RX3 10 "LoafMarks" "town" "LLoafMarks$Town;") (List.mem_of_getElem? (i := 7) rfl)) (fun _ h9 => h9) rfl hin rfl (by decide +kernel) rfl rfl (Nat.le_of_ble_eq_true rfl) dX3_init_12 (fun H locs hP hD hS => ?_)
  have hP : va_P D vwCl (([(h, .inr (3, [.ref (a1 0), .null]))]) ++ (tw cy a1 0 0 (fun _ _ => 0) (fun _ _ => 0) (fun _ => 0) nu0)) H := hP
  have hD : va_D A (([(h, .inr (3, [.ref (a1 0), .null]))]) ++ (tw cy a1 0 0 (fun _ _ => 0) (fun _ _ => 0) (fun _ => 0) nu0)) := hD
  refine lv_aload_n hx hb dX3_init_15 rfl (lv_at hl 0 rfl) ?_
  refine va_new (ci := 2) (fs := [.null, .null, .null, .int 0, .int 0, .int 0, .int 0, .int 0, .int 0]) (C := RX2) (T := TX2) (N := 9) hx hb hts hinX2 tyX2 tyX2_ok hown (hts (.classLink RX3 7 RX2) (List.mem_of_getElem? (i := 4) rfl)) (hts (.instantiable RX2 9) (List.mem_of_getElem? (i := 5) rfl)) (hts (.initialized RX2) (List.mem_of_getElem? (i := 6) rfl)) hK.1 hP hD hS hA rfl (fun j hj => by rcases (show j = 0 ∨ j = 1 ∨ j = 2 ∨ j = 3 ∨ j = 4 ∨ j = 5 ∨ j = 6 ∨ j = 7 ∨ j = 8 by omega) with rfl | rfl | rfl | rfl | rfl | rfl | rfl | rfl | rfl <;> rfl) (Nat.le_of_ble_eq_true rfl) (Nat.le_of_ble_eq_true rfl) dX3_init_16 (fun q16 H hP hD hS => ?_)
  have hP : va_P D vwCl ((([(h, .inr (3, [.ref (a1 0), .null]))]) ++ (tw cy a1 0 0 (fun _ _ => 0) (fun _ _ => 0) (fun _ => 0) nu0)) ++ ([(q16, .inr (2, [.null, .null, .null, .int 0, .int 0, .int 0, .int 0, .int 0, .int 0]))])) H := hP
  have hD : va_D A ((([(h, .inr (3, [.ref (a1 0), .null]))]) ++ (tw cy a1 0 0 (fun _ _ => 0) (fun _ _ => 0) (fun _ => 0) nu0)) ++ ([(q16, .inr (2, [.null, .null, .null, .int 0, .int 0, .int 0, .int 0, .int 0, .int 0]))])) := hD
  refine lv_dup hx hb dX3_init_19 rfl ?_
  refine xcIN (As := []) (rest := [.ref q16, .ref h]) ⟨hx, hb, hml, hown, hts⟩ (c_X2_init l D cy q16) (⟨va_cnB 0 hts gX3_init_X2_init_n9 rfl rfl rfl hN (hts (.initialized RX2) (List.mem_of_getElem? (i := 6) rfl)) (by decide +kernel) ⟨Nat.le_of_ble_eq_true rfl, Nat.le_of_ble_eq_true rfl⟩, rfl, (hts (.instanceMethod yX2_init) (List.mem_of_getElem? (i := 9) rfl))⟩) hK hP hD hS hA (xE_r) rfl hl.1 rfl (Nat.le_of_ble_eq_true rfl) dX3_init_20 ⟨Nat.le_of_ble_eq_true rfl, Nat.le_of_ble_eq_true rfl⟩ (fun a2 H locs hu hP hD hS => ?_)
  have hP : va_P D vwCl ((([(h, .inr (3, [.ref (a1 0), .null]))]) ++ (tw cy a1 0 0 (fun _ _ => 0) (fun _ _ => 0) (fun _ => 0) nu0)) ++ (tw cy a2 0 0 (fun _ _ => 0) (fun _ _ => 0) (fun _ => 0) nu0)) H := hP
  have hD : va_D A ((([(h, .inr (3, [.ref (a1 0), .null]))]) ++ (tw cy a1 0 0 (fun _ _ => 0) (fun _ _ => 0) (fun _ => 0) nu0)) ++ (tw cy a2 0 0 (fun _ _ => 0) (fun _ _ => 0) (fun _ => 0) nu0)) := hD
  refine W.eq (g2 := F0 m 23 ls [.ref (a2 0), .ref h]) (by first | (rw [hu]; done) | (rw [hu]; rfl)) ?_
  refine va_putF (D := D) (ci := 3) (v := .ref (a2 0)) (ty := .object "LoafMarks$Town") (C := RX3) (T := TX3) (N := 2) hx hb hts hinX3 tyX3 tyX3_ok nmX3 hown hK.1 hP hD hS 0 rfl rfl 1 (by decide) (hts (.fieldLink RX3 16 "LoafMarks" "trial" "LLoafMarks$Town;") (List.mem_of_getElem? (i := 8) rfl)) (fun _ h9 => h9) rfl hin rfl (by decide +kernel) rfl rfl (Nat.le_of_ble_eq_true rfl) dX3_init_23 (fun H locs hP hD hS => ?_)
  have hP : va_P D vwCl ((([(h, .inr (3, [.ref (a1 0), .ref (a2 0)]))]) ++ (tw cy a1 0 0 (fun _ _ => 0) (fun _ _ => 0) (fun _ => 0) nu0)) ++ (tw cy a2 0 0 (fun _ _ => 0) (fun _ _ => 0) (fun _ => 0) nu0)) H := hP
  have hD : va_D A ((([(h, .inr (3, [.ref (a1 0), .ref (a2 0)]))]) ++ (tw cy a1 0 0 (fun _ _ => 0) (fun _ _ => 0) (fun _ => 0) nu0)) ++ (tw cy a2 0 0 (fun _ _ => 0) (fun _ _ => 0) (fun _ => 0) nu0)) := hD
  exact xrv (a1, a2) hx hb hr hlocks hS (Nat.le_of_ble_eq_true rfl) (Nat.le_of_ble_eq_true rfl) dX3_init_26 hP hD rfl trivial

/-- share's number: a quotient, or nothing sold -/
def shV (nu : Iu) : UInt64 := if nu 2 = 0 then FP.dconst0 else FP.ddiv (FP.i2d (nu 3)) (FP.i2d (nu 2))
def xMD {S : Type} (l : Launch) (D : va_G) (cy : Nat → ClassId) (y : MethodName) (wd : List Cond) (rm : Room) (av : List Value) (w0 : va_W) (rv : S → Option Value) (P : S → Prop) (w1 : S → va_W) : Prop :=
  ∀ sz : Nat, MetD lw_cs l y wd rm (va_Pc av (xPre D cy w0 sz)) (xQ D (va_A w0 sz) rv P w1) rm.cells rm.slots (va_A w0 sz)
theorem xMD.of {S : Type} {l : Launch} {D : va_G} {cy : Nat → ClassId} {y : MethodName} {wd wd' : List Cond} {rm : Room} {av : List Value} {w0 : va_W} {rv : S → Option Value} {P : S → Prop} {w1 : S → va_W} (cc : ByteArray) (maxL : Nat) (ret : Option FieldType) (own : String)
    (hy : plainName y.cls = true) (ho : y.cls = own) (hw : wd = .code y cc maxL ret :: wd') (hlen : (lg_sl av).length ≤ maxL)
    (body : ∀ (p : Program) (e : Env) (s : State) (m : MethodId) (below : List Frame) (meth : Method) (c : Code) (A : Nat → Prop) (ls : Array Slot), p.tables.exec = Jvm.exec → c.code = cc → meth.sig.returnType = ret → (∀ w ∈ wd, w.before av.toArray s = true) → s.vm.findClass own = some m.cls → meth.locks = false → c.maxLocals = maxL → meth.name = y.name → XK D cy s →
      (∀ q : Nat, s.heap.size ≤ q → A q) → va_P D vwCl w0 s.heap → va_D A w0 → va_S A s.heap s.heap [] → s.drawn.sameBut s.drawn lw_cs → lv_has ls maxL (lv_args 0 av) →
      W p l e rm (s.setDrawn s.drawn) m av.toArray below meth c s.heap [] 0 0 (MQD lw_cs below (xQ D A rv P w1) av.toArray s rm.cells rm.slots A) (F0 m 0 ls [])) : xMD l D cy y wd rm av w0 rv P w1 := by
  intro sz
  refine MetD.ofW (cc := cc) (maxL := maxL) (ret := ret) hy hw ?_
  intro p e s m args below meth c s₁ B hml hv hd0
  obtain ⟨rfl, hsz, hP, hK, hD0⟩ := hv
  subst hsz
  have hts := atoms_spec (ws := wd) B.pre
  have hl := lv_entry av hlen
  rw [lg_entry_eq]
  exact body p e s m below meth c (va_A w0 s.heap.size) _ B.exec B.bytes B.returns hts (by rw [← ho]; exact findClass_of_methodNamed B.named) B.notSynchronized hml (name_of_methodNamed B.named B.method).1 hK (fun q h => Or.inr h) hP hD0.self va_S.rf hd0 hl
theorem xrd {S : Type} {p : Program} {l : Launch} {e : Env} {R : Room} {s : State} {m : MethodId} {args : Array Value} {below : List Frame} {meth : Method} {c : Code} {H : Heap} {locs : List Loc} {cells slots mc ms : Nat} {cc : ByteArray} {pc : Nat} {ls : Array Slot} {D : va_G} {A : Nat → Prop} {rv : S → Option Value} {P : S → Prop} {w1 : S → va_W}
    (u : S) {v : UInt64} (hx : p.tables.exec = Jvm.exec) (hb : c.code = cc) (hr : meth.sig.returnType = some .double) (hlocks : meth.locks = false) (hS : va_S A s.heap H locs) (hc : cells ≤ mc) (hs : slots ≤ ms) (hdg : decode cc pc = .ok (.dreturn, 1)) (hP : va_P D vwCl (w1 u) H) (hD : va_D A (w1 u)) (hv : rv u = some (.double v)) (hu : P u) :
    W p l e R s m args below meth c H locs cells slots (MQ below (xQ D A rv P w1) args s mc ms A) (F0 m pc ls [.double v]) :=
  W.widen hc hs (W.dret (v := v) hx hb hr (fun t ht hW => ⟨⟨u, by rw [hv], hu, by rw [ht]; exact hP, hD⟩, hS.F ht⟩) hS.2.2 hdg hlocks)
set_option maxHeartbeats 4000000 in
set_option maxRecDepth 100000 in
/-- share -/
theorem c_X3_share (l : Launch) (D : va_G) (cy : Nat → ClassId) (h : Nat) (ad : Nat → Nat) (nS nB : Nat) (st bk : Nat → Iu) (gate nu : Iu) (bt : Nat) (wt : va_W) : xMD l D cy yX3_share wsX3_share ({ frames := 0, cells := 0, slots := 0, locals := 0 } : Room) [.ref h] (xw cy h ad nS nB st bk gate nu bt wt) (fun r : UInt64 => some (.double r)) (fun r => alike64 r (shV nu) = true) (fun _ => xw cy h ad nS nB st bk gate nu bt wt) := by
  refine xMD.of cX3_share 1 (some .double) RX3 (by decide +kernel) rfl rfl (Nat.le_of_ble_eq_true rfl) ?_
  intro p e s m below meth c A ls hx hb hr hts0 hown hlocks hml hin hK hA hP hD hS hd0 hl
  have hts := dr_words hts0 s.drawn
  have hl : lv_has ls 1 [(0, .ref h)] := hl
  have hinX2 : ∀ w ∈ wsX20, w ∈ wsX3_share := fun _ h => List.mem_cons_of_mem _ (List.mem_append_right _ h)
  have hinX3 : ∀ w ∈ wsX30, w ∈ wsX3_share := fun _ h => List.mem_cons_of_mem _ (List.mem_append_left _ (List.mem_append_right _ h))
  refine lv_aload_n hx hb dX3_share_0 rfl (lv_at hl 0 rfl) ?_
  refine va_get (D := D) (ci := 3) (v := .ref (ad 0)) (C := RX3) (T := TX3) (N := 2) hx hb hts hinX3 hown hK.1 hP 0 rfl rfl 0 (by decide) (hts (.fieldLink RX3 10 "LoafMarks" "town" "LLoafMarks$Town;") (List.mem_of_getElem? (i := 1) rfl)) (fun _ h9 => h9) rfl dX3_share_1 ?_
  refine va_get (D := D) (ci := 2) (v := .int (nu 2)) (C := RX2) (T := TX2) (N := 9) hx hb hts hinX2 hown hK.1 hP 1 rfl rfl 5 (by decide) (hts (.fieldLink RX3 150 "LoafMarks$Town" "bought" "I") (List.mem_of_getElem? (i := 2) rfl)) (fun _ h9 => h9) rfl dX3_share_4 ?_
  refine lv_if_ne (tgt := 12) hx hb dX3_share_7 (by decide) (fun c7 => ?_) (fun c7 => ?_)
  · refine lv_aload_n hx hb dX3_share_12 rfl (lv_at hl 0 rfl) ?_
    refine va_get (D := D) (ci := 3) (v := .ref (ad 0)) (C := RX3) (T := TX3) (N := 2) hx hb hts hinX3 hown hK.1 hP 0 rfl rfl 0 (by decide) (hts (.fieldLink RX3 10 "LoafMarks" "town" "LLoafMarks$Town;") (List.mem_of_getElem? (i := 1) rfl)) (fun _ h9 => h9) rfl dX3_share_13 ?_
    refine va_get (D := D) (ci := 2) (v := .int (nu 3)) (C := RX2) (T := TX2) (N := 9) hx hb hts hinX2 hown hK.1 hP 1 rfl rfl 6 (by decide) (hts (.fieldLink RX3 153 "LoafMarks$Town" "light" "I") (List.mem_of_getElem? (i := 3) rfl)) (fun _ h9 => h9) rfl dX3_share_16 ?_
    refine lv_i2d hx hb dX3_share_19 ?_
    refine lv_aload_n hx hb dX3_share_20 rfl (lv_at hl 0 rfl) ?_
    refine va_get (D := D) (ci := 3) (v := .ref (ad 0)) (C := RX3) (T := TX3) (N := 2) hx hb hts hinX3 hown hK.1 hP 0 rfl rfl 0 (by decide) (hts (.fieldLink RX3 10 "LoafMarks" "town" "LLoafMarks$Town;") (List.mem_of_getElem? (i := 1) rfl)) (fun _ h9 => h9) rfl dX3_share_21 ?_
    refine va_get (D := D) (ci := 2) (v := .int (nu 2)) (C := RX2) (T := TX2) (N := 9) hx hb hts hinX2 hown hK.1 hP 1 rfl rfl 5 (by decide) (hts (.fieldLink RX3 150 "LoafMarks$Town" "bought" "I") (List.mem_of_getElem? (i := 2) rfl)) (fun _ h9 => h9) rfl dX3_share_24 ?_
    refine lv_i2d hx hb dX3_share_27 ?_
    refine lv_ddiv_any hd0 lw_bits hx hb dX3_share_28 (fun r d1 hal hd1 => ?_)
    refine W.endD hd1 ?_
    exact xrd r hx hb hr hlocks hS (Nat.le_of_ble_eq_true rfl) (Nat.le_of_ble_eq_true rfl) dX3_share_29 hP hD rfl (by show alike64 r (shV nu) = true; unfold shV; rw [if_neg c7]; exact hal)
  · refine lv_dconst0 hx hb dX3_share_10 ?_
    refine W.endD hd0 ?_
    exact xrd FP.dconst0 hx hb hr hlocks hS (Nat.le_of_ble_eq_true rfl) (Nat.le_of_ble_eq_true rfl) dX3_share_11 hP hD rfl (by show alike64 FP.dconst0 (shV nu) = true; unfold shV; rw [if_pos c7]; decide)
