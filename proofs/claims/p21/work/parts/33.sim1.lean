/-! ===== the law: its small methods (laid by g33.py) ===== -/
/-- a number below n, out of any -/
def blw (v : Int32) (n : Nat) : Nat := v.toBitVec.toNat % 2 ^ 31 % n
theorem blw_lt {v : Int32} {n : Nat} (h : 0 < n) : blw v n < n := Nat.mod_lt _ h
theorem blw_eq {v : Int32} {n : Nat} (h : 0 < n) (h2 : n < 2 ^ 31) : (v &&& 2147483647) - (v &&& 2147483647) / nI n * nI n = nI (blw v n) := by
  rw [pk_and v 31 (by decide)]
  exact pk_rem (Nat.mod_lt _ (by decide)) h h2
/-- a contract of a method that reads the script; with one more premise on the state -/
def xMs {S : Type} (X : State → Prop) (sb L : Nat) (xs : Nat → Int32) (l : Launch) (D : va_G) (cy : Nat → ClassId) (y : MethodName) (wd : List Cond) (rm : Room) (av : List Value) (w0 : va_W) (rv : S → Option Value) (P : S → Prop) (w1 : S → va_W) : Prop :=
  ∀ sz : Nat, Met l y wd rm (va_Pc av (fun U => xPre D cy w0 sz U ∧ X U ∧ va_X sb L xs U U.heap ∧ sb < U.heap.size ∧ ¬ va_A w0 sz sb)) (xQ D (va_A w0 sz) rv P w1) rm.cells rm.slots (va_A w0 sz)
theorem xMs.of {S : Type} {X : State → Prop} {sb L : Nat} {xs : Nat → Int32} {l : Launch} {D : va_G} {cy : Nat → ClassId} {y : MethodName} {wd wd' : List Cond} {rm : Room} {av : List Value} {w0 : va_W} {rv : S → Option Value} {P : S → Prop} {w1 : S → va_W} (cc : ByteArray) (maxL : Nat) (ret : Option FieldType) (own : String)
    (hy : plainName y.cls = true) (ho : y.cls = own) (hw : wd = .code y cc maxL ret :: wd') (hlen : (lg_sl av).length ≤ maxL)
    (body : ∀ (p : Program) (e : Env) (s : State) (m : MethodId) (below : List Frame) (meth : Method) (c : Code) (A : Nat → Prop) (ls : Array Slot), p.tables.exec = Jvm.exec → c.code = cc → meth.sig.returnType = ret → (∀ w ∈ wd, w.before av.toArray s = true) → s.vm.findClass own = some m.cls → meth.locks = false → c.maxLocals = maxL → meth.name = y.name → XK D cy s →
      (∀ q : Nat, s.heap.size ≤ q → A q) → va_P D vwCl w0 s.heap → va_D A w0 → va_S A s.heap s.heap [] → X s → va_X sb L xs s s.heap → sb < s.heap.size → ¬ A sb → lv_has ls maxL (lv_args 0 av) →
      W p l e rm s m av.toArray below meth c s.heap [] 0 0 (MQ below (xQ D A rv P w1) av.toArray s rm.cells rm.slots A) (F0 m 0 ls [])) : xMs X sb L xs l D cy y wd rm av w0 rv P w1 := by
  intro sz
  refine Met.ofW (cc := cc) (maxL := maxL) (ret := ret) hy hw ?_
  intro p e s m args below meth c s₁ B hml hv
  obtain ⟨rfl, ⟨hsz, hP, hK, hD0⟩, hN, hX, hbl, hbA⟩ := hv
  subst hsz
  have hts := atoms_spec (ws := wd) B.pre
  have hl := lv_entry av hlen
  rw [lg_entry_eq]
  exact body p e s m below meth c (va_A w0 s.heap.size) _ B.exec B.bytes B.returns hts (by rw [← ho]; exact findClass_of_methodNamed B.named) B.notSynchronized hml (name_of_methodNamed B.named B.method).1 hK (fun q h => Or.inr h) hP hD0.self va_S.rf hN hX hbl hbA hl
section XCSS
variable {S : Type} {p : Program} {l : Launch} {e : Env} {R : Room} {s : State} {m : MethodId} {args : Array Value} {below : List Frame} {meth : Method} {c : Code} {H : Heap} {locs : List Loc} {cells slots : Nat} {Q : State → Prop} {cc : ByteArray} {pc : Nat} {ls : Array Slot} {D : va_G} {cy : Nat → ClassId} {A : Nat → Prop} {rv : S → Option Value} {P : S → Prop} {w0 ws : va_W} {w1 out : S → va_W} {rm : Room} {Ts wd : List Cond} {own : String} {y : MethodName} {nL maxL index n : Nat} {bytes : ByteArray} {ret : Option FieldType} {As rest st : List Value}
theorem xE_fr (hE : xE ws w0 w1 out) (hP : va_P D vwCl ws H) (hD : va_D A ws) : va_P D vwCl w0 H ∧ va_D (fun _ => True) w0 := by
  obtain ⟨wr, g1, -⟩ := hE
  refine ⟨(xP_app.mp (xP_perm g1 hP)).1, ?_⟩
  have h := xD_iff.mp (xD_perm g1 hD)
  rw [List.map_append, List.nodup_append] at h
  exact xD_iff.mpr ⟨h.1.1, fun _ _ => trivial⟩
theorem xE_in {H0 : Heap} (hE : xE ws w0 w1 out) (hD : va_D A ws) (hS : va_S A H0 H locs) (hA : ∀ q : Nat, H0.size ≤ q → A q) : ∀ q, va_A w0 H.size q → A q := by
  obtain ⟨wr, g1, -⟩ := hE
  intro q h
  rcases xA_mem.mp h with ⟨x, h⟩ | h
  · exact (xD_iff.mp hD).2 (q, x) (g1.mem_iff.mpr (List.mem_append_left _ h))
  · exact hA q (Nat.le_trans hS.1 h)
theorem xcSs {X : State → Prop} {sb L : Nat} {xs : Nat → Int32} (F : CallFix p m c cc nL s args Ts own) (hM : xMs X sb L xs l D cy y wd rm As w0 rv P w1) (cw : CallB R s args own index y bytes maxL ret wd rm rm.cells rm.slots n ∧ (Cond.static y).before args s = true)
    (hN : ∀ U : State, s.WarmedH U.vm → X U) (hNb : ∀ U g mk a, X U → X (State.calling U g mk a)) (hX : va_X sb L xs s s.heap) (hbl : sb < s.heap.size) (hbA : ¬ A sb)
    (hK : XK D cy s) (hP : va_P D vwCl ws H) (hD : va_D A ws) (hS : va_S A s.heap H locs) (hA : ∀ q : Nat, s.heap.size ≤ q → A q) (hE : xE ws w0 w1 out)
    (hn : As.length = n) (hsize : ls.size = nL) (hst : st = As.reverse ++ rest) (hrest : (rest.map fun v => v.category).sum ≤ 8) (hdg : decode cc pc = .ok (.invokestatic index, 3)) (hf : cells + rm.cells ≤ R.cells ∧ slots + rm.slots ≤ R.slots)
    (kk : ∀ (u : S) (H1 : Heap) (locs1 : List Loc), P u → va_P D vwCl (out u) H1 → va_D A (out u) → va_S A s.heap H1 locs1 → W p l e R s m args below meth c H1 locs1 (cells + rm.cells) (slots + rm.slots) Q (F0 m (pc + 3) ls ((rv u).toList ++ rest))) : W p l e R s m args below meth c H locs cells slots Q (F0 m pc ls st) := by
  subst hst
  obtain ⟨hPw, hDw⟩ := xE_fr hE hP hD
  have hXH : va_X sb L xs s H := hX.kept (hS.2.1 sb hbl hbA)
  have hbH : sb < H.size := Nat.lt_of_lt_of_le hbl hS.1
  have hbw : ¬ va_A w0 H.size sb := fun z => hbA (xE_in hE hD hS hA sb z)
  have hblind : FrameBlind (va_Pc As (fun U => xPre D cy w0 H.size U ∧ X U ∧ va_X sb L xs U U.heap ∧ sb < U.heap.size ∧ ¬ va_A w0 H.size sb)) := fun a U g mk q => by
    obtain ⟨q0, ⟨q1, qP, qK, qD⟩, qN, qX, qb, qA⟩ := q
    exact ⟨q0, ⟨q1, qP, XK.same rfl qK, qD⟩, hNb _ _ _ _ qN, va_X.moved (Vm.Alike.refl _) qX, qb, qA⟩
  refine xgo (va_runS (As := As) (rest := rest) F (hM H.size) cw ⟨hblind, fun U hU hW => ⟨rfl, ⟨by rw [hU], by rw [hU]; exact hPw, hK.warmed hW, hDw⟩, hN U hW, by rw [hU]; exact hXH.moved hW.alike, by rw [hU]; exact hbH, hbw⟩⟩ rfl hn hsize rfl (lv_room hrest) hdg hf) hP hD hS hA hE kk
end XCSS
set_option maxHeartbeats 4000000 in
set_option maxRecDepth 100000 in
/-- below -/
theorem c_L_below (l : Launch) (D : va_G) (cy : Nat → ClassId) (v : Int32) (n : Nat) (hn : 0 < n) (hn2 : n < 2 ^ 31) : xM l D cy yL_below wsL_below ({ frames := 0, cells := 0, slots := 0, locals := 0 } : Room) [.int v, .int (nI n)] (([] : va_W)) (fun _ : Unit => some (.int (nI (blw v n)))) (fun _ => True) (fun _ => ([] : va_W)) := by
  refine xM.of cL_below 2 (some .int) RL (by decide +kernel) rfl rfl (Nat.le_of_ble_eq_true rfl) ?_
  intro p e s m below meth c A ls hx hb hr hts hown hlocks hml hin hK hA hP hD hS hl
  have hl : lv_has ls 2 [(0, .int v), (1, .int (nI n))] := hl
  refine lv_iload_n hx hb dL_below_0 rfl (lv_at hl 0 rfl) ?_
  refine lv_ldc hx hb hown (hts (.constant RL 7 (2147483647)) (List.mem_of_getElem? (i := 1) rfl)) dL_below_1 ?_
  refine lv_iand hx hb dL_below_3 ?_
  refine lv_iload_n hx hb dL_below_4 rfl (lv_at hl 1 rfl) ?_
  refine lv_irem hx hb dL_below_5 (nI_ne0 hn hn2) ?_
  exact xri () hx hb hr hlocks hS (Nat.le_of_ble_eq_true rfl) (Nat.le_of_ble_eq_true rfl) dL_below_6 hP hD (by show some (Value.int (nI (blw v n))) = _; rw [← blw_eq hn hn2]) trivial

set_option maxHeartbeats 4000000 in
set_option maxRecDepth 100000 in
/-- cell -/
theorem c_L_cell (l : Launch) (D : va_G) (cy : Nat → ClassId) (sb L : Nat) (xs : Nat → Int32) (hL : L < 2 ^ 31) (k : Nat) (hk : k < 1000) : xMs (fun _ => True) sb L xs l D cy yL_cell wsL_cell ({ frames := 0, cells := 0, slots := 0, locals := 0 } : Room) [.ref sb, .int (nI k)] (([] : va_W)) (fun u : Int32 => some (.int u)) (fun _ => True) (fun _ => ([] : va_W)) := by
  refine xMs.of cL_cell 2 (some .int) RL (by decide +kernel) rfl rfl (Nat.le_of_ble_eq_true rfl) ?_
  intro p e s m below meth c A ls hx hb hr hts hown hlocks hml hin hK hA hP hD hS hN hX hbl hbA hl
  have hl : lv_has ls 2 [(0, .ref sb), (1, .int (nI k))] := hl
  refine lv_iload_n hx hb dL_cell_0 rfl (lv_at hl 1 rfl) ?_
  refine lv_aload_n hx hb dL_cell_1 rfl (lv_at hl 0 rfl) ?_
  refine va_slen hx hb hX hbl hbA hS dL_cell_2 ?_
  refine W.eq (g2 := F0 m 3 ls [.int (nI L), .int (nI k)]) rfl ?_
  refine lv_icmp_ge (tgt := 12) hx hb dL_cell_3 (by decide) (fun c3 => ?_) (fun c3 => ?_)
  · refine lv_ldc hx hb hown (hts (.constant RL 8 (790386105)) (List.mem_of_getElem? (i := 1) rfl)) dL_cell_12 ?_
    refine lv_iload_n hx hb dL_cell_14 rfl (lv_at hl 1 rfl) ?_
    refine lv_iconst (v := 3) hx hb dL_cell_15 (by decide) ?_
    refine lv_iadd hx hb dL_cell_16 ?_
    refine lv_imul hx hb dL_cell_17 ?_
    exact xri (790386105 * ((nI k) + 3)) hx hb hr hlocks hS (Nat.le_of_ble_eq_true rfl) (Nat.le_of_ble_eq_true rfl) dL_cell_18 hP hD rfl trivial
  · refine lv_aload_n hx hb dL_cell_6 rfl (lv_at hl 0 rfl) ?_
    refine lv_iload_n hx hb dL_cell_7 rfl (lv_at hl 1 rfl) ?_
    refine va_sld hx hb hX hbl hbA hS (i := nI k) (vp_in_nI ((nI_ltI (b := L) (by omega) hL).mp (Int32.not_le.mp c3)) hL) dL_cell_8 ?_
    refine lv_goto (tgt := 18) hx hb dL_cell_9 (by decide) ?_
    exact xri (xs (nI k).toNatClampNeg) hx hb hr hlocks hS (Nat.le_of_ble_eq_true rfl) (Nat.le_of_ble_eq_true rfl) dL_cell_18 hP hD rfl trivial

set_option maxHeartbeats 4000000 in
set_option maxRecDepth 100000 in
/-- stored -/
theorem c_X4_stored (l : Launch) (D : va_G) (cy : Nat → ClassId) (am : Nat → Nat) (nS nB : Nat) (st bk : Nat → Iu) (gate nu : Iu) (k : Nat) (hk : k < 3) (hcS : nS ≤ 4) (hcB : nB ≤ 6) : xM l D cy yX4_stored wsX4_stored ({ frames := 0, cells := 0, slots := 0, locals := 0 } : Room) [.ref (am 0), .int (nI k)] (sw cy am nS nB st bk gate nu []) (fun _ : Unit => some (.int (sm (fun i => st i k) nS))) (fun _ => True) (fun _ => sw cy am nS nB st bk gate nu []) := by
  refine xM.of cX4_stored 7 (some .int) RX4 (by decide +kernel) rfl rfl (Nat.le_of_ble_eq_true rfl) ?_
  intro p e s m below meth c A ls hx hb hr hts hown hlocks hml hin hK hA hP hD hS hl
  have hl : lv_has ls 7 [(0, .ref (am 0)), (1, .int (nI k))] := hl
  have hinX4 : ∀ w ∈ wsX40, w ∈ wsX4_stored := fun _ h => List.mem_cons_of_mem _ (List.mem_append_right _ h)
  refine lv_iconst (v := 0) hx hb dX4_stored_0 (by decide) ?_
  refine lv_istore_n (lv' := [(2, .int 0), (0, .ref (am 0)), (1, .int (nI k))]) hx hb dX4_stored_1 rfl hl (by decide) rfl (fun ls hl => ?_)
  refine lv_aload_n hx hb dX4_stored_2 rfl (lv_at hl 1 rfl) ?_
  refine va_get (D := D) (ci := 4) (v := .ref (am 2)) (C := RX4) (T := TX4) (N := 9) hx hb hts hinX4 hown hK.1 hP 0 rfl rfl 2 (by decide) (hts (.fieldLink RX4 18 "LoafMarksLaw$Sim" "stores" "[[I") (List.mem_of_getElem? (i := 1) rfl)) (fun _ h9 => h9) rfl dX4_stored_3 ?_
  refine lv_astore_n (lv' := [(3, .ref (am 2)), (2, .int 0), (0, .ref (am 0)), (1, .int (nI k))]) hx hb dX4_stored_6 rfl hl (by decide) rfl (fun ls hl => ?_)
  refine lv_aload_n hx hb dX4_stored_7 rfl (lv_at hl 0 rfl) ?_
  refine va_alen hx hb hK.1 hP (2) 3 rfl rfl (v := nI nS) rfl dX4_stored_8 ?_
  refine lv_istore (lv' := [(4, .int (nI nS)), (3, .ref (am 2)), (2, .int 0), (0, .ref (am 0)), (1, .int (nI k))]) hx hb dX4_stored_9 hl (by decide) rfl (fun ls hl => ?_)
  refine lv_iconst (v := 0) hx hb dX4_stored_11 (by decide) ?_
  refine lv_istore (lv' := [(5, .int 0), (4, .int (nI nS)), (3, .ref (am 2)), (2, .int 0), (0, .ref (am 0)), (1, .int (nI k))]) hx hb dX4_stored_12 hl (by decide) rfl (fun ls hl => ?_)
  have loop : ∀ (n i : Nat)  (H : Heap) (locs : List Loc) (ls : Array Slot), i + n = nS → va_P D vwCl (sw cy am nS nB st bk gate nu []) H → va_D A (sw cy am nS nB st bk gate nu []) → va_S A s.heap H locs → lv_has ls 7 [(0, .ref (am 0)), (1, .int (nI k)), (2, .int (sm (fun i => st i k) i)), (3, .ref (am 2)), (4, .int (nI nS)), (5, .int (nI i))] → W p l e ({ frames := 0, cells := 0, slots := 0, locals := 0 } : Room) s m ([.ref (am 0), .int (nI k)] : List Value).toArray below meth c H locs 0 0 (MQ below (xQ D A (fun _ : Unit => some (.int (sm (fun i => st i k) nS))) (fun _ => True) (fun _ => sw cy am nS nB st bk gate nu [])) ([.ref (am 0), .int (nI k)] : List Value).toArray s 0 0 A) (F0 m 14 ls []) := by
    intro n
    induction n with
    | zero =>
      intro i  H locs ls hns hP hD hS hl
      have hii : i = nS := by omega
      refine lv_iload hx hb dX4_stored_14 (lv_at hl 5 rfl) ?_
      refine lv_iload hx hb dX4_stored_16 (lv_at hl 4 rfl) ?_
      refine lv_icmp_ge (tgt := 40) hx hb dX4_stored_18 (by decide) (fun _ => ?_) (fun h => absurd (by rw [hii]; exact Int32.le_refl _) h)
      refine lv_iload_n hx hb dX4_stored_40 rfl (lv_at hl 2 rfl) ?_
      exact xri () hx hb hr hlocks hS (Nat.le_of_ble_eq_true rfl) (Nat.le_of_ble_eq_true rfl) dX4_stored_41 hP hD (by rw [hii]) trivial
    | succ n ih =>
      intro i  H locs ls hns hP hD hS hl
      have hlt : i < nS := by omega
      refine lv_iload hx hb dX4_stored_14 (lv_at hl 5 rfl) ?_
      refine lv_iload hx hb dX4_stored_16 (lv_at hl 4 rfl) ?_
      refine lv_icmp_ge (tgt := 40) hx hb dX4_stored_18 (by decide) (fun h => absurd h (nI_ge (b := nS) hlt (by omega))) (fun _ => ?_)
      refine lv_aload_n hx hb dX4_stored_21 rfl (lv_at hl 3 rfl) ?_
      refine lv_iload hx hb dX4_stored_22 (lv_at hl 5 rfl) ?_
      refine xaldS hx hb hK hP (2) (am := am) rfl i rfl (by omega) hcS dX4_stored_24 ?_
      refine lv_astore (lv' := [(6, .ref (am (4 + i))), (0, .ref (am 0)), (1, .int (nI k)), (2, .int (sm (fun i => st i k) i)), (3, .ref (am 2)), (4, .int (nI nS)), (5, .int (nI i))]) hx hb dX4_stored_25 hl (by decide) rfl (fun ls hl => ?_)
      refine lv_iload_n hx hb dX4_stored_27 rfl (lv_at hl 3 rfl) ?_
      refine lv_aload hx hb dX4_stored_28 (lv_at hl 0 rfl) ?_
      refine lv_iload_n hx hb dX4_stored_30 rfl (lv_at hl 2 rfl) ?_
      refine xiald hx hb hK hP (4 + i) (ww_st (by omega)) k rfl (by omega) (by decide) dX4_stored_31 ?_
      refine lv_iadd hx hb dX4_stored_32 ?_
      refine lv_istore_n (lv' := [(2, .int ((sm (fun i => st i k) i) + (st i k))), (6, .ref (am (4 + i))), (0, .ref (am 0)), (1, .int (nI k)), (3, .ref (am 2)), (4, .int (nI nS)), (5, .int (nI i))]) hx hb dX4_stored_33 rfl hl (by decide) rfl (fun ls hl => ?_)
      refine lv_iinc (v := (nI (i + 1))) (lv' := [(5, .int (nI (i + 1))), (2, .int ((sm (fun i => st i k) i) + (st i k))), (6, .ref (am (4 + i))), (0, .ref (am 0)), (1, .int (nI k)), (3, .ref (am 2)), (4, .int (nI nS))]) hx hb dX4_stored_34 hl (k := 6) rfl ((nI_1 i)) (by decide) rfl (fun ls hl => ?_)
      refine lv_goto (tgt := 14) hx hb dX4_stored_37 (by decide) ?_
      exact ih (i + 1)  _ _ _ (by omega) hP hD hS (lv_sub hl [3, 4, 1, 5, 6, 0] rfl)
  exact loop nS 0  _ _ _ (by omega) hP hD hS (lv_sub hl [4, 5, 3, 2, 1, 0] rfl)

set_option maxHeartbeats 4000000 in
set_option maxRecDepth 100000 in
/-- baked -/
theorem c_X4_baked (l : Launch) (D : va_G) (cy : Nat → ClassId) (am : Nat → Nat) (nS nB : Nat) (st bk : Nat → Iu) (gate nu : Iu) (k : Nat) (hk : k < 8) (hcS : nS ≤ 4) (hcB : nB ≤ 6) : xM l D cy yX4_baked wsX4_baked ({ frames := 0, cells := 0, slots := 0, locals := 0 } : Room) [.ref (am 0), .int (nI k)] (sw cy am nS nB st bk gate nu []) (fun _ : Unit => some (.int (sm (fun i => bk i k) nB))) (fun _ => True) (fun _ => sw cy am nS nB st bk gate nu []) := by
  refine xM.of cX4_baked 7 (some .int) RX4 (by decide +kernel) rfl rfl (Nat.le_of_ble_eq_true rfl) ?_
  intro p e s m below meth c A ls hx hb hr hts hown hlocks hml hin hK hA hP hD hS hl
  have hl : lv_has ls 7 [(0, .ref (am 0)), (1, .int (nI k))] := hl
  have hinX4 : ∀ w ∈ wsX40, w ∈ wsX4_baked := fun _ h => List.mem_cons_of_mem _ (List.mem_append_right _ h)
  refine lv_iconst (v := 0) hx hb dX4_baked_0 (by decide) ?_
  refine lv_istore_n (lv' := [(2, .int 0), (0, .ref (am 0)), (1, .int (nI k))]) hx hb dX4_baked_1 rfl hl (by decide) rfl (fun ls hl => ?_)
  refine lv_aload_n hx hb dX4_baked_2 rfl (lv_at hl 1 rfl) ?_
  refine va_get (D := D) (ci := 4) (v := .ref (am 3)) (C := RX4) (T := TX4) (N := 9) hx hb hts hinX4 hown hK.1 hP 0 rfl rfl 3 (by decide) (hts (.fieldLink RX4 22 "LoafMarksLaw$Sim" "bakers" "[[I") (List.mem_of_getElem? (i := 1) rfl)) (fun _ h9 => h9) rfl dX4_baked_3 ?_
  refine lv_astore_n (lv' := [(3, .ref (am 3)), (2, .int 0), (0, .ref (am 0)), (1, .int (nI k))]) hx hb dX4_baked_6 rfl hl (by decide) rfl (fun ls hl => ?_)
  refine lv_aload_n hx hb dX4_baked_7 rfl (lv_at hl 0 rfl) ?_
  refine va_alen hx hb hK.1 hP (3) 3 rfl rfl (v := nI nB) rfl dX4_baked_8 ?_
  refine lv_istore (lv' := [(4, .int (nI nB)), (3, .ref (am 3)), (2, .int 0), (0, .ref (am 0)), (1, .int (nI k))]) hx hb dX4_baked_9 hl (by decide) rfl (fun ls hl => ?_)
  refine lv_iconst (v := 0) hx hb dX4_baked_11 (by decide) ?_
  refine lv_istore (lv' := [(5, .int 0), (4, .int (nI nB)), (3, .ref (am 3)), (2, .int 0), (0, .ref (am 0)), (1, .int (nI k))]) hx hb dX4_baked_12 hl (by decide) rfl (fun ls hl => ?_)
  have loop : ∀ (n i : Nat)  (H : Heap) (locs : List Loc) (ls : Array Slot), i + n = nB → va_P D vwCl (sw cy am nS nB st bk gate nu []) H → va_D A (sw cy am nS nB st bk gate nu []) → va_S A s.heap H locs → lv_has ls 7 [(0, .ref (am 0)), (1, .int (nI k)), (2, .int (sm (fun i => bk i k) i)), (3, .ref (am 3)), (4, .int (nI nB)), (5, .int (nI i))] → W p l e ({ frames := 0, cells := 0, slots := 0, locals := 0 } : Room) s m ([.ref (am 0), .int (nI k)] : List Value).toArray below meth c H locs 0 0 (MQ below (xQ D A (fun _ : Unit => some (.int (sm (fun i => bk i k) nB))) (fun _ => True) (fun _ => sw cy am nS nB st bk gate nu [])) ([.ref (am 0), .int (nI k)] : List Value).toArray s 0 0 A) (F0 m 14 ls []) := by
    intro n
    induction n with
    | zero =>
      intro i  H locs ls hns hP hD hS hl
      have hii : i = nB := by omega
      refine lv_iload hx hb dX4_baked_14 (lv_at hl 5 rfl) ?_
      refine lv_iload hx hb dX4_baked_16 (lv_at hl 4 rfl) ?_
      refine lv_icmp_ge (tgt := 40) hx hb dX4_baked_18 (by decide) (fun _ => ?_) (fun h => absurd (by rw [hii]; exact Int32.le_refl _) h)
      refine lv_iload_n hx hb dX4_baked_40 rfl (lv_at hl 2 rfl) ?_
      exact xri () hx hb hr hlocks hS (Nat.le_of_ble_eq_true rfl) (Nat.le_of_ble_eq_true rfl) dX4_baked_41 hP hD (by rw [hii]) trivial
    | succ n ih =>
      intro i  H locs ls hns hP hD hS hl
      have hlt : i < nB := by omega
      refine lv_iload hx hb dX4_baked_14 (lv_at hl 5 rfl) ?_
      refine lv_iload hx hb dX4_baked_16 (lv_at hl 4 rfl) ?_
      refine lv_icmp_ge (tgt := 40) hx hb dX4_baked_18 (by decide) (fun h => absurd h (nI_ge (b := nB) hlt (by omega))) (fun _ => ?_)
      refine lv_aload_n hx hb dX4_baked_21 rfl (lv_at hl 3 rfl) ?_
      refine lv_iload hx hb dX4_baked_22 (lv_at hl 5 rfl) ?_
      refine xaldB hx hb hK hP (3) (am := am) rfl i rfl (by omega) hcB dX4_baked_24 ?_
      refine lv_astore (lv' := [(6, .ref (am (8 + i))), (0, .ref (am 0)), (1, .int (nI k)), (2, .int (sm (fun i => bk i k) i)), (3, .ref (am 3)), (4, .int (nI nB)), (5, .int (nI i))]) hx hb dX4_baked_25 hl (by decide) rfl (fun ls hl => ?_)
      refine lv_iload_n hx hb dX4_baked_27 rfl (lv_at hl 3 rfl) ?_
      refine lv_aload hx hb dX4_baked_28 (lv_at hl 0 rfl) ?_
      refine lv_iload_n hx hb dX4_baked_30 rfl (lv_at hl 2 rfl) ?_
      refine xiald hx hb hK hP (4 + nS + i) (ww_bk (by omega)) k rfl (by omega) (by decide) dX4_baked_31 ?_
      refine lv_iadd hx hb dX4_baked_32 ?_
      refine lv_istore_n (lv' := [(2, .int ((sm (fun i => bk i k) i) + (bk i k))), (6, .ref (am (8 + i))), (0, .ref (am 0)), (1, .int (nI k)), (3, .ref (am 3)), (4, .int (nI nB)), (5, .int (nI i))]) hx hb dX4_baked_33 rfl hl (by decide) rfl (fun ls hl => ?_)
      refine lv_iinc (v := (nI (i + 1))) (lv' := [(5, .int (nI (i + 1))), (2, .int ((sm (fun i => bk i k) i) + (bk i k))), (6, .ref (am (8 + i))), (0, .ref (am 0)), (1, .int (nI k)), (3, .ref (am 3)), (4, .int (nI nB))]) hx hb dX4_baked_34 hl (k := 6) rfl ((nI_1 i)) (by decide) rfl (fun ls hl => ?_)
      refine lv_goto (tgt := 14) hx hb dX4_baked_37 (by decide) ?_
      exact ih (i + 1)  _ _ _ (by omega) hP hD hS (lv_sub hl [3, 4, 1, 5, 6, 0] rfl)
  exact loop nB 0  _ _ _ (by omega) hP hD hS (lv_sub hl [4, 5, 3, 2, 1, 0] rfl)

set_option maxHeartbeats 4000000 in
set_option maxRecDepth 100000 in
/-- owner -/
theorem c_X4_owner (l : Launch) (D : va_G) (cy : Nat → ClassId) (am : Nat → Nat) (nS nB : Nat) (st bk : Nat → Iu) (gate nu : Iu) (mk : Int32) (hcS : nS ≤ 4) (hcB : nB ≤ 6) : xM l D cy yX4_owner wsX4_owner ({ frames := 0, cells := 0, slots := 0, locals := 0 } : Room) [.ref (am 0), .int mk] (sw cy am nS nB st bk gate nu []) (fun _ : Unit => some (.int (ownF bk mk nB 0))) (fun _ => True) (fun _ => sw cy am nS nB st bk gate nu []) := by
  refine xM.of cX4_owner 3 (some .int) RX4 (by decide +kernel) rfl rfl (Nat.le_of_ble_eq_true rfl) ?_
  intro p e s m below meth c A ls hx hb hr hts hown hlocks hml hin hK hA hP hD hS hl
  have hl : lv_has ls 3 [(0, .ref (am 0)), (1, .int mk)] := hl
  have hinX4 : ∀ w ∈ wsX40, w ∈ wsX4_owner := fun _ h => List.mem_cons_of_mem _ (List.mem_append_right _ h)
  refine lv_iconst (v := 0) hx hb dX4_owner_0 (by decide) ?_
  refine lv_istore_n (lv' := [(2, .int 0), (0, .ref (am 0)), (1, .int mk)]) hx hb dX4_owner_1 rfl hl (by decide) rfl (fun ls hl => ?_)
  have loop : ∀ (n j : Nat)  (H : Heap) (locs : List Loc) (ls : Array Slot), j + n = nB → (ownF bk mk nB 0 = ownF bk mk (nB - j) j) → va_P D vwCl (sw cy am nS nB st bk gate nu []) H → va_D A (sw cy am nS nB st bk gate nu []) → va_S A s.heap H locs → lv_has ls 3 [(0, .ref (am 0)), (1, .int mk), (2, .int (nI j))] → W p l e ({ frames := 0, cells := 0, slots := 0, locals := 0 } : Room) s m ([.ref (am 0), .int mk] : List Value).toArray below meth c H locs 0 0 (MQ below (xQ D A (fun _ : Unit => some (.int (ownF bk mk nB 0))) (fun _ => True) (fun _ => sw cy am nS nB st bk gate nu [])) ([.ref (am 0), .int mk] : List Value).toArray s 0 0 A) (F0 m 2 ls []) := by
    intro n
    induction n with
    | zero =>
      intro j  H locs ls hns hinv hP hD hS hl
      have hij : j = nB := by omega
      refine lv_iload_n hx hb dX4_owner_2 rfl (lv_at hl 2 rfl) ?_
      refine lv_aload_n hx hb dX4_owner_3 rfl (lv_at hl 0 rfl) ?_
      refine va_get (D := D) (ci := 4) (v := .ref (am 3)) (C := RX4) (T := TX4) (N := 9) hx hb hts hinX4 hown hK.1 hP 0 rfl rfl 3 (by decide) (hts (.fieldLink RX4 22 "LoafMarksLaw$Sim" "bakers" "[[I") (List.mem_of_getElem? (i := 1) rfl)) (fun _ h9 => h9) rfl dX4_owner_4 ?_
      refine va_alen hx hb hK.1 hP (3) 3 rfl rfl (v := nI nB) rfl dX4_owner_7 ?_
      refine lv_icmp_ge (tgt := 31) hx hb dX4_owner_8 (by decide) (fun _ => ?_) (fun h => absurd (by rw [hij]; exact Int32.le_refl _) h)
      refine lv_iconst (v := (-1)) hx hb dX4_owner_31 (by decide) ?_
      exact xri () hx hb hr hlocks hS (Nat.le_of_ble_eq_true rfl) (Nat.le_of_ble_eq_true rfl) dX4_owner_32 hP hD (by show some (Value.int (ownF bk mk nB 0)) = _; rw [hinv, hij, Nat.sub_self]; rfl) trivial
    | succ n ih =>
      intro j  H locs ls hns hinv hP hD hS hl
      have hlt : j < nB := by omega
      refine lv_iload_n hx hb dX4_owner_2 rfl (lv_at hl 2 rfl) ?_
      refine lv_aload_n hx hb dX4_owner_3 rfl (lv_at hl 0 rfl) ?_
      refine va_get (D := D) (ci := 4) (v := .ref (am 3)) (C := RX4) (T := TX4) (N := 9) hx hb hts hinX4 hown hK.1 hP 0 rfl rfl 3 (by decide) (hts (.fieldLink RX4 22 "LoafMarksLaw$Sim" "bakers" "[[I") (List.mem_of_getElem? (i := 1) rfl)) (fun _ h9 => h9) rfl dX4_owner_4 ?_
      refine va_alen hx hb hK.1 hP (3) 3 rfl rfl (v := nI nB) rfl dX4_owner_7 ?_
      refine lv_icmp_ge (tgt := 31) hx hb dX4_owner_8 (by decide) (fun h => absurd h (nI_ge (b := nB) hlt (by omega))) (fun _ => ?_)
      refine lv_aload_n hx hb dX4_owner_11 rfl (lv_at hl 0 rfl) ?_
      refine va_get (D := D) (ci := 4) (v := .ref (am 3)) (C := RX4) (T := TX4) (N := 9) hx hb hts hinX4 hown hK.1 hP 0 rfl rfl 3 (by decide) (hts (.fieldLink RX4 22 "LoafMarksLaw$Sim" "bakers" "[[I") (List.mem_of_getElem? (i := 1) rfl)) (fun _ h9 => h9) rfl dX4_owner_12 ?_
      refine lv_iload_n hx hb dX4_owner_15 rfl (lv_at hl 2 rfl) ?_
      refine xaldB hx hb hK hP (3) (am := am) rfl j rfl (by omega) hcB dX4_owner_16 ?_
      refine lv_iconst (v := 1) hx hb dX4_owner_17 (by decide) ?_
      refine xiald hx hb hK hP (4 + nS + j) (ww_bk (by omega)) 1 (by decide) (by decide) (by decide) dX4_owner_18 ?_
      refine lv_iload_n hx hb dX4_owner_19 rfl (lv_at hl 1 rfl) ?_
      refine lv_icmp_ne (tgt := 25) hx hb dX4_owner_20 (by decide) (fun c20 => ?_) (fun c20 => ?_)
      · refine lv_iinc (v := (nI (j + 1))) (lv' := [(2, .int (nI (j + 1))), (0, .ref (am 0)), (1, .int mk)]) hx hb dX4_owner_25 hl (k := 2) rfl ((nI_1 j)) (by decide) rfl (fun ls hl => ?_)
        refine lv_goto (tgt := 2) hx hb dX4_owner_28 (by decide) ?_
        exact ih (j + 1)  _ _ _ (by omega) (by rw [hinv, show nB - j = (nB - (j + 1)) + 1 by omega]; show (if _ then _ else _) = _; rw [if_neg c20]) hP hD hS (lv_sub hl [1, 2, 0] rfl)
      · refine lv_iload_n hx hb dX4_owner_23 rfl (lv_at hl 2 rfl) ?_
        exact xri () hx hb hr hlocks hS (Nat.le_of_ble_eq_true rfl) (Nat.le_of_ble_eq_true rfl) dX4_owner_24 hP hD (by show some (Value.int (ownF bk mk nB 0)) = _; rw [hinv, show nB - j = (nB - (j + 1)) + 1 by omega]; show some (Value.int (if _ then _ else _)) = _; rw [if_pos c20]) trivial
  exact loop nB 0  _ _ _ (by omega) rfl hP hD hS (lv_sub hl [1, 2, 0] rfl)
