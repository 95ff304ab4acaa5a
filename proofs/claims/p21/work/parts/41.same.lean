/-! ===== the law: isSame (laid by g41.py) ===== -/
theorem nan_dcmp {a b : UInt64} (h : isNaN64 a = true) : FP.dcmp a b = none := by
  show Jvm.FP.Core.dcmp a b = none
  have h1 : 0x7ff0000000000000 < a.toNat &&& 0x7fffffffffffffff := by
    simp only [isNaN64, decide_eq_true_eq, gt_iff_lt, UInt64.lt_iff_toNat_lt, UInt64.toNat_and] at h
    exact h
  have e : a.toNat &&& 0x7fffffffffffffff = a.toNat % 2 ^ 63 := Nat.and_two_pow_sub_one_eq_mod a.toNat 63
  rw [e] at h1
  have hE : Jvm.FP.Core.fieldE Jvm.FP.Core.b64 a.toNat = Jvm.FP.Core.b64.exps - 1 := by
    show a.toNat / 4503599627370496 % 2048 = 2047
    omega
  have hT : ¬ Jvm.FP.Core.fieldT Jvm.FP.Core.b64 a.toNat = 0 := by
    show ¬ a.toNat % 4503599627370496 = 0
    omega
  have hd : Jvm.FP.Core.decode Jvm.FP.Core.b64 a.toNat = .nan := by
    unfold Jvm.FP.Core.decode
    rw [if_pos hE, if_neg hT]
  unfold Jvm.FP.Core.dcmp Jvm.FP.Core.cmp
  rw [hd]
  rfl
theorem al_eq {r v : UInt64} (h : alike64 r v = true) (g : isNaN64 v = false) : r = v := by
  unfold alike64 at h
  rw [g, Bool.and_false, Bool.or_false, decide_eq_true_eq] at h
  exact h
theorem no_nan {x : UInt64} (h : FP.dcmp x x = some .eq) : isNaN64 x = false := by
  rcases Bool.eq_false_or_eq_true (isNaN64 x) with g | g
  · rw [nan_dcmp g] at h; cases h
  · exact g
theorem sh_eq {a b : Int32} (h : ¬ b = 0) : FP.dcmp (FP.ddiv (FP.i2d a) (FP.i2d b)) (FP.ddiv (FP.i2d a) (FP.i2d b)) = some .eq := by
  have h1 : Jvm.FP.Core.dIsNaN (Jvm.FP.Core.ddiv (Jvm.FP.Core.i2d a) (Jvm.FP.Core.i2d b)) = false := Jvm.FP.Core.ddiv_out ((Jvm.FP.Core.notNaN_iff _).mpr (Jvm.FP.Core.i2d_fin a).ne_nan) (Jvm.FP.Core.i2d_fin b) (fun z => Jvm.FP.Core.i2d_ne_zero h ((Jvm.FP.Core.zero_bits2 _).mp z))
  exact Jvm.FP.Core.dcmp_self ((Jvm.FP.Core.notNaN_iff _).mp h1)
theorem sh_0 {nu : Iu} {r : UInt64} (h : nu 2 = 0) (g : alike64 r (shV nu) = true) : Op.cmpValue (FP.dcmp r FP.dconst0) CmpOp.l = 0 := by
  unfold shV at g
  rw [if_pos h] at g
  rw [al_eq g (by decide)]
  decide
theorem sh_1 {nu : Iu} {r q : UInt64} (h : ¬ nu 2 = 0) (g : alike64 r (shV nu) = true) (g2 : alike64 q (FP.ddiv (FP.i2d (nu 3)) (FP.i2d (nu 2))) = true) : Op.cmpValue (FP.dcmp r q) CmpOp.l = 0 := by
  unfold shV at g
  rw [if_neg h] at g
  have e := sh_eq (a := nu 3) h
  rw [al_eq g (no_nan e), al_eq g2 (no_nan e), e]
  rfl
section SWW
variable {S : Type} {D : va_G} {A : Nat → Prop} {H : Heap} {cy : Nat → ClassId} {am : Nat → Nat} {nS nB : Nat} {st bk : Nat → Iu} {gate nu : Iu} {wr y w0 : va_W} {w1 : S → va_W}
theorem sw_snoc : sw cy am nS nB st bk gate nu wr ++ y = sw cy am nS nB st bk gate nu (wr ++ y) := by
  rw [sw_app, sw_app (wr := wr ++ y), List.append_assoc]
theorem xE_wrl : xE (sw cy am nS nB st bk gate nu (w0 ++ y)) w0 w1 (fun u => sw cy am nS nB st bk gate nu (w1 u ++ y)) := by
  refine ⟨sw cy am nS nB st bk gate nu [] ++ y, ?_, fun u => ?_⟩
  · rw [sw_app, ← List.append_assoc, ← List.append_assoc]
    exact List.perm_append_comm.append_right _
  · show List.Perm _ (sw cy am nS nB st bk gate nu (w1 u ++ y))
    rw [sw_app (wr := w1 u ++ y), ← List.append_assoc, ← List.append_assoc]
    exact List.perm_append_comm.append_right _
theorem sw_dropP (hP : va_P D vwCl (sw cy am nS nB st bk gate nu (wr ++ y)) H) : va_P D vwCl (sw cy am nS nB st bk gate nu wr) H := by
  rw [← sw_snoc] at hP
  exact (xP_app.mp hP).1
theorem sw_dropD (hD : va_D A (sw cy am nS nB st bk gate nu (wr ++ y))) : va_D A (sw cy am nS nB st bk gate nu wr) := by
  rw [← sw_snoc] at hD
  exact mD_app hD
end SWW
theorem told_eq {st bk : Nat → Iu} {nB i k : Nat} (hk : k < 4) : stFact st bk nB i k = upd (upd (upd (upd (fun _ => 0) 0 (st i 0)) 1 (st i 1)) 2 (sm (fun q => if bk q 0 = nI i then 1 else 0) nB)) 3 (st i 2) k := by
  rcases (show k = 0 ∨ k = 1 ∨ k = 2 ∨ k = 3 by omega) with rfl | rfl | rfl | rfl <;> rfl
theorem cnt_eq {st bk : Nat → Iu} {nS nB hq k : Nat} {nu : Iu} (hk : k < 10) (hb7 : ∀ j, j < nB → bk j 7 = 0 ∨ bk j 7 = 1) : tFact nS nB st bk nu hq k = upd (upd (upd (upd (upd (upd (upd (upd (upd (upd (fun _ => 0) 0 (nu 0)) 1 (nI (hq % 24))) 2 (nu 1)) 3 (sm (fun i => st i 0) nS)) 4 (sm (fun i => bk i 5) nB)) 5 (nu 2)) 6 (nu 3)) 7 (nu 4)) 8 (sm (fun i => bk i 7) nB)) 9 (nu 5) k := by
  rcases (show k = 0 ∨ k = 1 ∨ k = 2 ∨ k = 3 ∨ k = 4 ∨ k = 5 ∨ k = 6 ∨ k = 7 ∨ k = 8 ∨ k = 9 by omega) with rfl | rfl | rfl | rfl | rfl | rfl | rfl | rfl | rfl | rfl
  · rfl
  · rfl
  · rfl
  · rfl
  · rfl
  · rfl
  · rfl
  · rfl
  · exact (sm_bar hb7).symm
  · rfl
section XLCD
variable {S : Type} {p : Program} {l : Launch} {e : Env} {R : Room} {s : State} {m : MethodId} {args : Array Value} {below : List Frame} {meth : Method} {c : Code} {H : Heap} {locs : List Loc} {cells slots : Nat} {Q : State → Prop} {cc : ByteArray} {pc : Nat} {ls : Array Slot} {D : va_G} {cy : Nat → ClassId} {sa : Nat → Nat} {A : Nat → Prop} {rv : S → Option Value} {P : S → Prop} {w0 ws : va_W} {w1 out : S → va_W} {rm : Room}
variable {Ts wd : List Cond} {own C : String} {y : MethodName} {nL maxL index n : Nat} {bytes : ByteArray} {ret : Option FieldType} {hh : List (Nat × Nat × Nat × Nat)} {b : Addr} {As rest st : List Value}
/-- a call that may draw -/
theorem xcVD {d0 : Drawn} {ci : Nat} {fs : List Value} {qc : vw_C} (hd0 : s.drawn.sameBut d0 lw_cs) (F : CallFix p m c cc nL (s.setDrawn d0) args Ts own) (hM : xMD l D cy y wd rm (.ref b :: As) w0 rv P w1) (cw : CallW R (s.setDrawn d0) args own C index y bytes maxL ret wd rm rm.cells rm.slots n)
    (hK : XK D cy (s.setDrawn d0)) (hP : va_P D vwCl ws H) (hD : va_D A ws) (hS : va_S A s.heap H locs) (hA : ∀ q : Nat, s.heap.size ≤ q → A q) (hrec : w0[0]? = some (b, .inr (ci, fs))) (hci : vwCl[ci]? = some qc) (hC : qc.1 = C) (hE : xE ws w0 w1 out)
    (hn : As.length = n) (hsize : ls.size = nL) (hst : st = As.reverse ++ .ref b :: rest) (hrest : (rest.map fun v => v.category).sum ≤ 8) (hdg : decode cc pc = .ok (.invokevirtual index, 3)) (hf : cells + rm.cells ≤ R.cells ∧ slots + rm.slots ≤ R.slots)
    (kk : ∀ (u : S) (H1 : Heap) (locs1 : List Loc) (d1 : Drawn), s.drawn.sameBut d1 lw_cs → P u → va_P D vwCl (out u) H1 → va_D A (out u) → va_S A s.heap H1 locs1 → W p l e R (s.setDrawn d1) m args below meth c H1 locs1 (cells + rm.cells) (slots + rm.slots) Q (F0 m (pc + 3) ls ((rv u).toList ++ rest))) : W p l e R (s.setDrawn d0) m args below meth c H locs cells slots Q (F0 m pc ls st) := by
  subst hst
  subst hC
  obtain ⟨hPw, hDw⟩ := xE_fr hE hP hD
  have hF := xE_in hE hD hS hA
  have hr := va_runV_D (e := e) (below := below) (meth := meth) (locs := locs) (cs := lw_cs) (As := As) (rest := rest) (g := F0 m pc ls (As.reverse ++ .ref b :: rest)) F (hM H.size) cw ⟨xblind, va_recv hK.1 hPw hci hrec, fun U hU hW => ⟨rfl, by rw [hU], by rw [hU]; exact hPw, hK.warmed hW, hDw⟩⟩ rfl hn hsize rfl (lv_room hrest) hdg hf
  intro T hT X
  obtain ⟨v, st₀, t, T', L, d', hd', h0, X', hL, e1, e2, ⟨⟨u, hv, hp, hPb, hDb⟩, hz, hk⟩, st⟩ := hr T hT X
  cases hv
  rw [h0] at hz hk
  obtain ⟨wr, g1, g2⟩ := hE
  obtain ⟨j1, j2⟩ := xjoin hP hD g1 hk (fun q h => hA q (Nat.le_trans hS.1 h)) hPb hDb
  obtain ⟨t2, a1, b1⟩ := kk u T'.heap (locs ++ L) d' (hd0.trans hd') hp (by rw [e1]; exact xP_perm (g2 u) j1) (xD_perm (g2 u) j2)
    ⟨Nat.le_trans hS.1 (by rw [e1]; exact hz), fun q h1 h2 => by rw [e1, hk q (Nat.lt_of_lt_of_le h1 hS.1) (fun z => h2 (hF q z))]; exact hS.2.1 q h1 h2, fun q hq => by
      rcases List.mem_append.mp hq with h | h
      · exact hS.2.2 q h
      · exact hF _ (hL q h)⟩ T' rfl X'
  exact ⟨t2, st t2 a1, b1⟩

end XLCD
set_option maxHeartbeats 4000000 in
set_option maxRecDepth 100000 in
/-- isSame -/
theorem c_X4_isSame (l : Launch) (D : va_G) (cy : Nat → ClassId) (h : Nat) (am ad : Nat → Nat) (nS nB : Nat) (st bk : Nat → Iu) (gate nu : Iu) (bt : Nat) (wt : va_W) (hq : Nat) (hI : jInv nS nB gate hq (st, bk, nu)) (hq1 : hq ≤ 200000) (hcS : nS ≤ 4) (hcB : nB ≤ 6) : xMD l D cy yX4_isSame wsX4_isSame ({ frames := 7, cells := 80, slots := 480, locals := 200 } : Room) [.ref (am 0), .ref h] (sw cy am nS nB st bk gate nu (xw cy h ad nS nB st bk gate nu bt wt)) (fun _ : Unit => some (.int 1)) (fun _ => True) (fun _ => sw cy am nS nB st bk gate nu (xw cy h ad nS nB st bk gate nu bt wt)) := by
  refine xMD.of cX4_isSame 8 (some .boolean) RX4 (by decide +kernel) rfl rfl (Nat.le_of_ble_eq_true rfl) ?_
  intro p e s m below meth c A ls hx hb hr hts0 hown hlocks hml hin hK hA hP hD hS hd0 hl
  have hts := dr_words hts0 s.drawn
  have hK := XK.same (s := s) (U := s.setDrawn s.drawn) rfl hK
  have hl : lv_has ls 8 [(0, .ref (am 0)), (1, .ref h)] := hl
  have hb7 : ∀ j, j < nB → bk j 7 = 0 ∨ bk j 7 = 1 := fun j hj => (hI.1.2.1 j hj).2.1
  have hinX4 : ∀ w ∈ wsX40, w ∈ wsX4_isSame := fun _ h => List.mem_cons_of_mem _ (List.mem_append_left _ (List.mem_append_left _ (List.mem_append_left _ (List.mem_append_left _ (List.mem_append_left _ (List.mem_append_right _ h))))))
  refine lv_iconst (v := 0) hx hb dX4_isSame_0 (by decide) ?_
  refine lv_istore_n (lv' := [(2, .int 0), (0, .ref (am 0)), (1, .ref h)]) hx hb dX4_isSame_1 rfl hl (by decide) rfl (fun ls hl => ?_)
  refine W.cs (cells' := 5 * 0) (slots' := 30 * 0) (by first | rfl | omega) (by first | rfl | omega) ?_
  have loop1 : ∀ (n i : Nat)  (H : Heap) (locs : List Loc) (ls : Array Slot), i + n = nS → va_P D vwCl (sw cy am nS nB st bk gate nu (xw cy h ad nS nB st bk gate nu bt wt)) H → va_D A (sw cy am nS nB st bk gate nu (xw cy h ad nS nB st bk gate nu bt wt)) → va_S A s.heap H locs → lv_has ls 8 [(0, .ref (am 0)), (1, .ref h), (2, .int (nI i))] → W p l e ({ frames := 7, cells := 80, slots := 480, locals := 200 } : Room) (s.setDrawn s.drawn) m ([.ref (am 0), .ref h] : List Value).toArray below meth c H locs (5 * i) (30 * i) (MQD lw_cs below (xQ D A (fun _ : Unit => some (.int 1)) (fun _ => True) (fun _ => sw cy am nS nB st bk gate nu (xw cy h ad nS nB st bk gate nu bt wt))) ([.ref (am 0), .ref h] : List Value).toArray s 80 480 A) (F0 m 2 ls []) := by
    intro n
    induction n with
    | zero =>
      intro i  H locs ls hns hP hD hS hl
      have hii : i = nS := by omega
      refine lv_iload_n hx hb dX4_isSame_2 rfl (lv_at hl 2 rfl) ?_
      refine lv_aload_n hx hb dX4_isSame_3 rfl (lv_at hl 0 rfl) ?_
      refine va_get (D := D) (ci := 4) (v := .ref (am 2)) (C := RX4) (T := TX4) (N := 9) hx hb hts hinX4 hown hK.1 hP 0 rfl rfl 2 (by decide) (hts (.fieldLink RX4 18 "LoafMarksLaw$Sim" "stores" "[[I") (List.mem_of_getElem? (i := 1) rfl)) (fun _ h9 => h9) rfl dX4_isSame_4 ?_
      refine va_alen hx hb hK.1 hP (2) 3 rfl rfl (v := nI nS) rfl dX4_isSame_7 ?_
      refine lv_icmp_ge (tgt := 143) hx hb dX4_isSame_8 (by decide) (fun _ => ?_) (fun h => absurd (by rw [hii]; exact Int32.le_refl _) h)
      refine W.widen (k := 20) (n := 120) (by omega) (by omega) ?_
      refine lv_iconst (v := 0) hx hb dX4_isSame_143 (by decide) ?_
      refine lv_istore_n (lv' := [(2, .int 0), (0, .ref (am 0)), (1, .ref h)]) hx hb dX4_isSame_144 rfl hl (by decide) rfl (fun ls hl => ?_)
      refine W.cs (cells' := 20 + 8 * 0) (slots' := 120 + 48 * 0) (by first | rfl | omega) (by first | rfl | omega) ?_
      have loop4 : ∀ (n j : Nat)  (H : Heap) (locs : List Loc) (ls : Array Slot), j + n = nB → va_P D vwCl (sw cy am nS nB st bk gate nu (xw cy h ad nS nB st bk gate nu bt wt)) H → va_D A (sw cy am nS nB st bk gate nu (xw cy h ad nS nB st bk gate nu bt wt)) → va_S A s.heap H locs → lv_has ls 8 [(0, .ref (am 0)), (1, .ref h), (2, .int (nI j))] → W p l e ({ frames := 7, cells := 80, slots := 480, locals := 200 } : Room) (s.setDrawn s.drawn) m ([.ref (am 0), .ref h] : List Value).toArray below meth c H locs (20 + 8 * j) (120 + 48 * j) (MQD lw_cs below (xQ D A (fun _ : Unit => some (.int 1)) (fun _ => True) (fun _ => sw cy am nS nB st bk gate nu (xw cy h ad nS nB st bk gate nu bt wt))) ([.ref (am 0), .ref h] : List Value).toArray s 80 480 A) (F0 m 145 ls []) := by
        intro n
        induction n with
        | zero =>
          intro j  H locs ls hns hP hD hS hl
          have hij : j = nB := by omega
          refine lv_iload_n hx hb dX4_isSame_145 rfl (lv_at hl 2 rfl) ?_
          refine lv_aload_n hx hb dX4_isSame_146 rfl (lv_at hl 0 rfl) ?_
          refine va_get (D := D) (ci := 4) (v := .ref (am 3)) (C := RX4) (T := TX4) (N := 9) hx hb hts hinX4 hown hK.1 hP 0 rfl rfl 3 (by decide) (hts (.fieldLink RX4 22 "LoafMarksLaw$Sim" "bakers" "[[I") (List.mem_of_getElem? (i := 2) rfl)) (fun _ h9 => h9) rfl dX4_isSame_147 ?_
          refine va_alen hx hb hK.1 hP (3) 3 rfl rfl (v := nI nB) rfl dX4_isSame_150 ?_
          refine lv_icmp_ge (tgt := 193) hx hb dX4_isSame_151 (by decide) (fun _ => ?_) (fun h => absurd (by rw [hij]; exact Int32.le_refl _) h)
          refine W.widen (k := 68) (n := 408) (by omega) (by omega) ?_
          refine lv_bipush (v := 10) hx hb dX4_isSame_193 (by decide) ?_
          refine va_newa (atype := .int) (N' := 10) (a0 := (10, .inl (fun _ => 0))) hx hb (hts (.arrayClass .int) (List.mem_of_getElem? (i := 3) rfl)) rfl hK.1 hP hD hS hA (fun _ => rfl) (by decide) (by decide) (by decide) (by show 68 + 1 ≤ 80; omega) (by show 408 + 10 ≤ 480; omega) dX4_isSame_195 (fun q195 cA H hK1 hP hD hS => ?_)
          obtain rfl : cA = cy 0 := x_cA hK.1 hK1 (i := 0) rfl rfl
          rw [sw_snoc] at hP hD
          have hP : va_P D vwCl (sw cy am nS nB st bk gate nu (xw cy h ad nS nB st bk gate nu bt wt ++ [(q195, .inl (cy 0, 10, .inl ((fun _ => 0))))])) H := hP
          have hD : va_D A (sw cy am nS nB st bk gate nu (xw cy h ad nS nB st bk gate nu bt wt ++ [(q195, .inl (cy 0, 10, .inl ((fun _ => 0))))])) := hD
          refine W.cs (cells' := 68 + 1) (slots' := 408 + 10) (by first | rfl | omega) (by first | rfl | omega) ?_
          refine lv_dup hx hb dX4_isSame_197 rfl ?_
          refine lv_iconst (v := 0) hx hb dX4_isSame_198 (by decide) ?_
          refine lv_aload_n hx hb dX4_isSame_199 rfl (lv_at hl 0 rfl) ?_
          refine va_get (D := D) (ci := 4) (v := .int (nu 0)) (C := RX4) (T := TX4) (N := 9) hx hb hts hinX4 hown hK.1 hP 0 rfl rfl 4 (by decide) (hts (.fieldLink RX4 30 "LoafMarksLaw$Sim" "hour" "I") (List.mem_of_getElem? (i := 4) rfl)) (fun _ h9 => h9) rfl dX4_isSame_200 ?_
          refine xiast hx hb hK hP hD hS (4 + nS + nB + ((xw cy h ad nS nB st bk gate nu bt wt).length + 0)) (ww_wr (at_r (k := 0) rfl)) 0 (by decide) (by decide) (by decide) dX4_isSame_203 (fun H locs hP hD hS => ?_)
          have hP : va_P D vwCl (sw cy am nS nB st bk gate nu (xw cy h ad nS nB st bk gate nu bt wt ++ [(q195, .inl (cy 0, 10, .inl (upd (fun _ => 0) 0 (nu 0))))])) H := by rw [ww_set_wr, set_last0] at hP; exact hP
          have hD : va_D A (sw cy am nS nB st bk gate nu (xw cy h ad nS nB st bk gate nu bt wt ++ [(q195, .inl (cy 0, 10, .inl (upd (fun _ => 0) 0 (nu 0))))])) := by rw [ww_set_wr, set_last0] at hD; exact hD
          refine lv_dup hx hb dX4_isSame_204 rfl ?_
          refine lv_iconst (v := 1) hx hb dX4_isSame_205 (by decide) ?_
          refine lv_aload_n hx hb dX4_isSame_206 rfl (lv_at hl 0 rfl) ?_
          refine va_get (D := D) (ci := 4) (v := .int (nu 0)) (C := RX4) (T := TX4) (N := 9) hx hb hts hinX4 hown hK.1 hP 0 rfl rfl 4 (by decide) (hts (.fieldLink RX4 30 "LoafMarksLaw$Sim" "hour" "I") (List.mem_of_getElem? (i := 4) rfl)) (fun _ h9 => h9) rfl dX4_isSame_207 ?_
          refine lv_bipush (v := 24) hx hb dX4_isSame_210 (by decide) ?_
          refine lv_irem hx hb dX4_isSame_212 (by decide) ?_
          have eh : nu 0 = nI hq := hI.1.2.2.2.2.1
          have er : nI hq - nI hq / 24 * 24 = nI (hq % 24) := pk_rem (d := 24) (by omega) (by decide) (by decide)
          refine W.eq (g2 := F0 m 213 ls [.int (nI (hq % 24)), .int 1, .ref q195, .ref q195]) (by first | (rw [eh, er]; done) | (rw [eh, er]; rfl)) ?_
          refine xiast hx hb hK hP hD hS (4 + nS + nB + ((xw cy h ad nS nB st bk gate nu bt wt).length + 0)) (ww_wr (at_r (k := 0) rfl)) 1 (by decide) (by decide) (by decide) dX4_isSame_213 (fun H locs hP hD hS => ?_)
          have hP : va_P D vwCl (sw cy am nS nB st bk gate nu (xw cy h ad nS nB st bk gate nu bt wt ++ [(q195, .inl (cy 0, 10, .inl (upd (upd (fun _ => 0) 0 (nu 0)) 1 (nI (hq % 24)))))])) H := by rw [ww_set_wr, set_last0] at hP; exact hP
          have hD : va_D A (sw cy am nS nB st bk gate nu (xw cy h ad nS nB st bk gate nu bt wt ++ [(q195, .inl (cy 0, 10, .inl (upd (upd (fun _ => 0) 0 (nu 0)) 1 (nI (hq % 24)))))])) := by rw [ww_set_wr, set_last0] at hD; exact hD
          refine lv_dup hx hb dX4_isSame_214 rfl ?_
          refine lv_iconst (v := 2) hx hb dX4_isSame_215 (by decide) ?_
          refine lv_aload_n hx hb dX4_isSame_216 rfl (lv_at hl 0 rfl) ?_
          refine va_get (D := D) (ci := 4) (v := .int (nu 1)) (C := RX4) (T := TX4) (N := 9) hx hb hts hinX4 hown hK.1 hP 0 rfl rfl 0 (by decide) (hts (.fieldLink RX4 7 "LoafMarksLaw$Sim" "people" "I") (List.mem_of_getElem? (i := 5) rfl)) (fun _ h9 => h9) rfl dX4_isSame_217 ?_
          refine xiast hx hb hK hP hD hS (4 + nS + nB + ((xw cy h ad nS nB st bk gate nu bt wt).length + 0)) (ww_wr (at_r (k := 0) rfl)) 2 (by decide) (by decide) (by decide) dX4_isSame_220 (fun H locs hP hD hS => ?_)
          have hP : va_P D vwCl (sw cy am nS nB st bk gate nu (xw cy h ad nS nB st bk gate nu bt wt ++ [(q195, .inl (cy 0, 10, .inl (upd (upd (upd (fun _ => 0) 0 (nu 0)) 1 (nI (hq % 24))) 2 (nu 1))))])) H := by rw [ww_set_wr, set_last0] at hP; exact hP
          have hD : va_D A (sw cy am nS nB st bk gate nu (xw cy h ad nS nB st bk gate nu bt wt ++ [(q195, .inl (cy 0, 10, .inl (upd (upd (upd (fun _ => 0) 0 (nu 0)) 1 (nI (hq % 24))) 2 (nu 1))))])) := by rw [ww_set_wr, set_last0] at hD; exact hD
          refine lv_dup hx hb dX4_isSame_221 rfl ?_
          refine lv_iconst (v := 3) hx hb dX4_isSame_222 (by decide) ?_
          refine lv_aload_n hx hb dX4_isSame_223 rfl (lv_at hl 0 rfl) ?_
          refine lv_iconst (v := 0) hx hb dX4_isSame_224 (by decide) ?_
          refine xcV (As := [.int 0]) (rest := [.int 3, .ref q195, .ref q195]) ⟨hx, hb, hml, hown, hts⟩ (c_X4_stored l D cy am nS nB st bk gate nu 0 (by omega) hcS hcB) (cwV 1 hts gX4_isSame_X4_stored rfl rfl rfl (by decide +kernel) ⟨Nat.le_of_ble_eq_true rfl, Nat.le_of_ble_eq_true rfl⟩) hK hP hD hS hA rfl rfl rfl (xE_sw) rfl hl.1 rfl (Nat.le_of_ble_eq_true rfl) dX4_isSame_225 ⟨by show 68 + 1 + 0 ≤ 80; omega, by show 408 + 10 + 0 ≤ 480; omega⟩ (fun _ H locs _ hP hD hS => ?_)
          have hP : va_P D vwCl (sw cy am nS nB st bk gate nu (xw cy h ad nS nB st bk gate nu bt wt ++ [(q195, .inl (cy 0, 10, .inl (upd (upd (upd (fun _ => 0) 0 (nu 0)) 1 (nI (hq % 24))) 2 (nu 1))))])) H := hP
          have hD : va_D A (sw cy am nS nB st bk gate nu (xw cy h ad nS nB st bk gate nu bt wt ++ [(q195, .inl (cy 0, 10, .inl (upd (upd (upd (fun _ => 0) 0 (nu 0)) 1 (nI (hq % 24))) 2 (nu 1))))])) := hD
          refine W.eq (g2 := F0 m 228 ls [.int (sm (fun i => st i 0) nS), .int 3, .ref q195, .ref q195]) rfl ?_
          refine W.cs (cells' := 68 + 1) (slots' := 408 + 10) (by first | rfl | omega) (by first | rfl | omega) ?_
          refine xiast hx hb hK hP hD hS (4 + nS + nB + ((xw cy h ad nS nB st bk gate nu bt wt).length + 0)) (ww_wr (at_r (k := 0) rfl)) 3 (by decide) (by decide) (by decide) dX4_isSame_228 (fun H locs hP hD hS => ?_)
          have hP : va_P D vwCl (sw cy am nS nB st bk gate nu (xw cy h ad nS nB st bk gate nu bt wt ++ [(q195, .inl (cy 0, 10, .inl (upd (upd (upd (upd (fun _ => 0) 0 (nu 0)) 1 (nI (hq % 24))) 2 (nu 1)) 3 (sm (fun i => st i 0) nS))))])) H := by rw [ww_set_wr, set_last0] at hP; exact hP
          have hD : va_D A (sw cy am nS nB st bk gate nu (xw cy h ad nS nB st bk gate nu bt wt ++ [(q195, .inl (cy 0, 10, .inl (upd (upd (upd (upd (fun _ => 0) 0 (nu 0)) 1 (nI (hq % 24))) 2 (nu 1)) 3 (sm (fun i => st i 0) nS))))])) := by rw [ww_set_wr, set_last0] at hD; exact hD
          refine lv_dup hx hb dX4_isSame_229 rfl ?_
          refine lv_iconst (v := 4) hx hb dX4_isSame_230 (by decide) ?_
          refine lv_aload_n hx hb dX4_isSame_231 rfl (lv_at hl 0 rfl) ?_
          refine lv_iconst (v := 5) hx hb dX4_isSame_232 (by decide) ?_
          refine xcV (As := [.int 5]) (rest := [.int 4, .ref q195, .ref q195]) ⟨hx, hb, hml, hown, hts⟩ (c_X4_baked l D cy am nS nB st bk gate nu 5 (by omega) hcS hcB) (cwV 1 hts gX4_isSame_X4_baked rfl rfl rfl (by decide +kernel) ⟨Nat.le_of_ble_eq_true rfl, Nat.le_of_ble_eq_true rfl⟩) hK hP hD hS hA rfl rfl rfl (xE_sw) rfl hl.1 rfl (Nat.le_of_ble_eq_true rfl) dX4_isSame_233 ⟨by show 68 + 1 + 0 ≤ 80; omega, by show 408 + 10 + 0 ≤ 480; omega⟩ (fun _ H locs _ hP hD hS => ?_)
          have hP : va_P D vwCl (sw cy am nS nB st bk gate nu (xw cy h ad nS nB st bk gate nu bt wt ++ [(q195, .inl (cy 0, 10, .inl (upd (upd (upd (upd (fun _ => 0) 0 (nu 0)) 1 (nI (hq % 24))) 2 (nu 1)) 3 (sm (fun i => st i 0) nS))))])) H := hP
          have hD : va_D A (sw cy am nS nB st bk gate nu (xw cy h ad nS nB st bk gate nu bt wt ++ [(q195, .inl (cy 0, 10, .inl (upd (upd (upd (upd (fun _ => 0) 0 (nu 0)) 1 (nI (hq % 24))) 2 (nu 1)) 3 (sm (fun i => st i 0) nS))))])) := hD
          refine W.eq (g2 := F0 m 236 ls [.int (sm (fun i => bk i 5) nB), .int 4, .ref q195, .ref q195]) rfl ?_
          refine W.cs (cells' := 68 + 1) (slots' := 408 + 10) (by first | rfl | omega) (by first | rfl | omega) ?_
          refine xiast hx hb hK hP hD hS (4 + nS + nB + ((xw cy h ad nS nB st bk gate nu bt wt).length + 0)) (ww_wr (at_r (k := 0) rfl)) 4 (by decide) (by decide) (by decide) dX4_isSame_236 (fun H locs hP hD hS => ?_)
          have hP : va_P D vwCl (sw cy am nS nB st bk gate nu (xw cy h ad nS nB st bk gate nu bt wt ++ [(q195, .inl (cy 0, 10, .inl (upd (upd (upd (upd (upd (fun _ => 0) 0 (nu 0)) 1 (nI (hq % 24))) 2 (nu 1)) 3 (sm (fun i => st i 0) nS)) 4 (sm (fun i => bk i 5) nB))))])) H := by rw [ww_set_wr, set_last0] at hP; exact hP
          have hD : va_D A (sw cy am nS nB st bk gate nu (xw cy h ad nS nB st bk gate nu bt wt ++ [(q195, .inl (cy 0, 10, .inl (upd (upd (upd (upd (upd (fun _ => 0) 0 (nu 0)) 1 (nI (hq % 24))) 2 (nu 1)) 3 (sm (fun i => st i 0) nS)) 4 (sm (fun i => bk i 5) nB))))])) := by rw [ww_set_wr, set_last0] at hD; exact hD
          refine lv_dup hx hb dX4_isSame_237 rfl ?_
          refine lv_iconst (v := 5) hx hb dX4_isSame_238 (by decide) ?_
          refine lv_aload_n hx hb dX4_isSame_239 rfl (lv_at hl 0 rfl) ?_
          refine va_get (D := D) (ci := 4) (v := .int (nu 2)) (C := RX4) (T := TX4) (N := 9) hx hb hts hinX4 hown hK.1 hP 0 rfl rfl 5 (by decide) (hts (.fieldLink RX4 36 "LoafMarksLaw$Sim" "all" "I") (List.mem_of_getElem? (i := 6) rfl)) (fun _ h9 => h9) rfl dX4_isSame_240 ?_
          refine xiast hx hb hK hP hD hS (4 + nS + nB + ((xw cy h ad nS nB st bk gate nu bt wt).length + 0)) (ww_wr (at_r (k := 0) rfl)) 5 (by decide) (by decide) (by decide) dX4_isSame_243 (fun H locs hP hD hS => ?_)
          have hP : va_P D vwCl (sw cy am nS nB st bk gate nu (xw cy h ad nS nB st bk gate nu bt wt ++ [(q195, .inl (cy 0, 10, .inl (upd (upd (upd (upd (upd (upd (fun _ => 0) 0 (nu 0)) 1 (nI (hq % 24))) 2 (nu 1)) 3 (sm (fun i => st i 0) nS)) 4 (sm (fun i => bk i 5) nB)) 5 (nu 2))))])) H := by rw [ww_set_wr, set_last0] at hP; exact hP
          have hD : va_D A (sw cy am nS nB st bk gate nu (xw cy h ad nS nB st bk gate nu bt wt ++ [(q195, .inl (cy 0, 10, .inl (upd (upd (upd (upd (upd (upd (fun _ => 0) 0 (nu 0)) 1 (nI (hq % 24))) 2 (nu 1)) 3 (sm (fun i => st i 0) nS)) 4 (sm (fun i => bk i 5) nB)) 5 (nu 2))))])) := by rw [ww_set_wr, set_last0] at hD; exact hD
          refine lv_dup hx hb dX4_isSame_244 rfl ?_
          refine lv_bipush (v := 6) hx hb dX4_isSame_245 (by decide) ?_
          refine lv_aload_n hx hb dX4_isSame_247 rfl (lv_at hl 0 rfl) ?_
          refine va_get (D := D) (ci := 4) (v := .int (nu 3)) (C := RX4) (T := TX4) (N := 9) hx hb hts hinX4 hown hK.1 hP 0 rfl rfl 6 (by decide) (hts (.fieldLink RX4 39 "LoafMarksLaw$Sim" "light" "I") (List.mem_of_getElem? (i := 7) rfl)) (fun _ h9 => h9) rfl dX4_isSame_248 ?_
          refine xiast hx hb hK hP hD hS (4 + nS + nB + ((xw cy h ad nS nB st bk gate nu bt wt).length + 0)) (ww_wr (at_r (k := 0) rfl)) 6 (by decide) (by decide) (by decide) dX4_isSame_251 (fun H locs hP hD hS => ?_)
          have hP : va_P D vwCl (sw cy am nS nB st bk gate nu (xw cy h ad nS nB st bk gate nu bt wt ++ [(q195, .inl (cy 0, 10, .inl (upd (upd (upd (upd (upd (upd (upd (fun _ => 0) 0 (nu 0)) 1 (nI (hq % 24))) 2 (nu 1)) 3 (sm (fun i => st i 0) nS)) 4 (sm (fun i => bk i 5) nB)) 5 (nu 2)) 6 (nu 3))))])) H := by rw [ww_set_wr, set_last0] at hP; exact hP
          have hD : va_D A (sw cy am nS nB st bk gate nu (xw cy h ad nS nB st bk gate nu bt wt ++ [(q195, .inl (cy 0, 10, .inl (upd (upd (upd (upd (upd (upd (upd (fun _ => 0) 0 (nu 0)) 1 (nI (hq % 24))) 2 (nu 1)) 3 (sm (fun i => st i 0) nS)) 4 (sm (fun i => bk i 5) nB)) 5 (nu 2)) 6 (nu 3))))])) := by rw [ww_set_wr, set_last0] at hD; exact hD
          refine lv_dup hx hb dX4_isSame_252 rfl ?_
          refine lv_bipush (v := 7) hx hb dX4_isSame_253 (by decide) ?_
          refine lv_aload_n hx hb dX4_isSame_255 rfl (lv_at hl 0 rfl) ?_
          refine va_get (D := D) (ci := 4) (v := .int (nu 4)) (C := RX4) (T := TX4) (N := 9) hx hb hts hinX4 hown hK.1 hP 0 rfl rfl 7 (by decide) (hts (.fieldLink RX4 42 "LoafMarksLaw$Sim" "hungry" "I") (List.mem_of_getElem? (i := 8) rfl)) (fun _ h9 => h9) rfl dX4_isSame_256 ?_
          refine xiast hx hb hK hP hD hS (4 + nS + nB + ((xw cy h ad nS nB st bk gate nu bt wt).length + 0)) (ww_wr (at_r (k := 0) rfl)) 7 (by decide) (by decide) (by decide) dX4_isSame_259 (fun H locs hP hD hS => ?_)
          have hP : va_P D vwCl (sw cy am nS nB st bk gate nu (xw cy h ad nS nB st bk gate nu bt wt ++ [(q195, .inl (cy 0, 10, .inl (upd (upd (upd (upd (upd (upd (upd (upd (fun _ => 0) 0 (nu 0)) 1 (nI (hq % 24))) 2 (nu 1)) 3 (sm (fun i => st i 0) nS)) 4 (sm (fun i => bk i 5) nB)) 5 (nu 2)) 6 (nu 3)) 7 (nu 4))))])) H := by rw [ww_set_wr, set_last0] at hP; exact hP
          have hD : va_D A (sw cy am nS nB st bk gate nu (xw cy h ad nS nB st bk gate nu bt wt ++ [(q195, .inl (cy 0, 10, .inl (upd (upd (upd (upd (upd (upd (upd (upd (fun _ => 0) 0 (nu 0)) 1 (nI (hq % 24))) 2 (nu 1)) 3 (sm (fun i => st i 0) nS)) 4 (sm (fun i => bk i 5) nB)) 5 (nu 2)) 6 (nu 3)) 7 (nu 4))))])) := by rw [ww_set_wr, set_last0] at hD; exact hD
          refine lv_dup hx hb dX4_isSame_260 rfl ?_
          refine lv_bipush (v := 8) hx hb dX4_isSame_261 (by decide) ?_
          refine lv_aload_n hx hb dX4_isSame_263 rfl (lv_at hl 0 rfl) ?_
          refine lv_bipush (v := 7) hx hb dX4_isSame_264 (by decide) ?_
          refine xcV (As := [.int 7]) (rest := [.int 8, .ref q195, .ref q195]) ⟨hx, hb, hml, hown, hts⟩ (c_X4_baked l D cy am nS nB st bk gate nu 7 (by omega) hcS hcB) (cwV 1 hts gX4_isSame_X4_baked rfl rfl rfl (by decide +kernel) ⟨Nat.le_of_ble_eq_true rfl, Nat.le_of_ble_eq_true rfl⟩) hK hP hD hS hA rfl rfl rfl (xE_sw) rfl hl.1 rfl (Nat.le_of_ble_eq_true rfl) dX4_isSame_266 ⟨by show 68 + 1 + 0 ≤ 80; omega, by show 408 + 10 + 0 ≤ 480; omega⟩ (fun _ H locs _ hP hD hS => ?_)
          have hP : va_P D vwCl (sw cy am nS nB st bk gate nu (xw cy h ad nS nB st bk gate nu bt wt ++ [(q195, .inl (cy 0, 10, .inl (upd (upd (upd (upd (upd (upd (upd (upd (fun _ => 0) 0 (nu 0)) 1 (nI (hq % 24))) 2 (nu 1)) 3 (sm (fun i => st i 0) nS)) 4 (sm (fun i => bk i 5) nB)) 5 (nu 2)) 6 (nu 3)) 7 (nu 4))))])) H := hP
          have hD : va_D A (sw cy am nS nB st bk gate nu (xw cy h ad nS nB st bk gate nu bt wt ++ [(q195, .inl (cy 0, 10, .inl (upd (upd (upd (upd (upd (upd (upd (upd (fun _ => 0) 0 (nu 0)) 1 (nI (hq % 24))) 2 (nu 1)) 3 (sm (fun i => st i 0) nS)) 4 (sm (fun i => bk i 5) nB)) 5 (nu 2)) 6 (nu 3)) 7 (nu 4))))])) := hD
          refine W.eq (g2 := F0 m 269 ls [.int (sm (fun i => bk i 7) nB), .int 8, .ref q195, .ref q195]) rfl ?_
          refine W.cs (cells' := 68 + 1) (slots' := 408 + 10) (by first | rfl | omega) (by first | rfl | omega) ?_
          refine xiast hx hb hK hP hD hS (4 + nS + nB + ((xw cy h ad nS nB st bk gate nu bt wt).length + 0)) (ww_wr (at_r (k := 0) rfl)) 8 (by decide) (by decide) (by decide) dX4_isSame_269 (fun H locs hP hD hS => ?_)
          have hP : va_P D vwCl (sw cy am nS nB st bk gate nu (xw cy h ad nS nB st bk gate nu bt wt ++ [(q195, .inl (cy 0, 10, .inl (upd (upd (upd (upd (upd (upd (upd (upd (upd (fun _ => 0) 0 (nu 0)) 1 (nI (hq % 24))) 2 (nu 1)) 3 (sm (fun i => st i 0) nS)) 4 (sm (fun i => bk i 5) nB)) 5 (nu 2)) 6 (nu 3)) 7 (nu 4)) 8 (sm (fun i => bk i 7) nB))))])) H := by rw [ww_set_wr, set_last0] at hP; exact hP
          have hD : va_D A (sw cy am nS nB st bk gate nu (xw cy h ad nS nB st bk gate nu bt wt ++ [(q195, .inl (cy 0, 10, .inl (upd (upd (upd (upd (upd (upd (upd (upd (upd (fun _ => 0) 0 (nu 0)) 1 (nI (hq % 24))) 2 (nu 1)) 3 (sm (fun i => st i 0) nS)) 4 (sm (fun i => bk i 5) nB)) 5 (nu 2)) 6 (nu 3)) 7 (nu 4)) 8 (sm (fun i => bk i 7) nB))))])) := by rw [ww_set_wr, set_last0] at hD; exact hD
          refine lv_dup hx hb dX4_isSame_270 rfl ?_
          refine lv_bipush (v := 9) hx hb dX4_isSame_271 (by decide) ?_
          refine lv_aload_n hx hb dX4_isSame_273 rfl (lv_at hl 0 rfl) ?_
          refine va_get (D := D) (ci := 4) (v := .int (nu 5)) (C := RX4) (T := TX4) (N := 9) hx hb hts hinX4 hown hK.1 hP 0 rfl rfl 8 (by decide) (hts (.fieldLink RX4 33 "LoafMarksLaw$Sim" "lost" "I") (List.mem_of_getElem? (i := 9) rfl)) (fun _ h9 => h9) rfl dX4_isSame_274 ?_
          refine xiast hx hb hK hP hD hS (4 + nS + nB + ((xw cy h ad nS nB st bk gate nu bt wt).length + 0)) (ww_wr (at_r (k := 0) rfl)) 9 (by decide) (by decide) (by decide) dX4_isSame_277 (fun H locs hP hD hS => ?_)
          have hP : va_P D vwCl (sw cy am nS nB st bk gate nu (xw cy h ad nS nB st bk gate nu bt wt ++ [(q195, .inl (cy 0, 10, .inl (upd (upd (upd (upd (upd (upd (upd (upd (upd (upd (fun _ => 0) 0 (nu 0)) 1 (nI (hq % 24))) 2 (nu 1)) 3 (sm (fun i => st i 0) nS)) 4 (sm (fun i => bk i 5) nB)) 5 (nu 2)) 6 (nu 3)) 7 (nu 4)) 8 (sm (fun i => bk i 7) nB)) 9 (nu 5))))])) H := by rw [ww_set_wr, set_last0] at hP; exact hP
          have hD : va_D A (sw cy am nS nB st bk gate nu (xw cy h ad nS nB st bk gate nu bt wt ++ [(q195, .inl (cy 0, 10, .inl (upd (upd (upd (upd (upd (upd (upd (upd (upd (upd (fun _ => 0) 0 (nu 0)) 1 (nI (hq % 24))) 2 (nu 1)) 3 (sm (fun i => st i 0) nS)) 4 (sm (fun i => bk i 5) nB)) 5 (nu 2)) 6 (nu 3)) 7 (nu 4)) 8 (sm (fun i => bk i 7) nB)) 9 (nu 5))))])) := by rw [ww_set_wr, set_last0] at hD; exact hD
          refine lv_astore_n (lv' := [(2, .ref q195), (0, .ref (am 0)), (1, .ref h)]) hx hb dX4_isSame_278 rfl hl (by decide) rfl (fun ls hl => ?_)
          refine lv_iconst (v := 0) hx hb dX4_isSame_279 (by decide) ?_
          refine lv_istore_n (lv' := [(3, .int 0), (2, .ref q195), (0, .ref (am 0)), (1, .ref h)]) hx hb dX4_isSame_280 rfl hl (by decide) rfl (fun ls hl => ?_)
          refine W.cs (cells' := 69 + 0) (slots' := 418 + 6 * 0) (by first | rfl | omega) (by first | rfl | omega) ?_
          have loop6 : ∀ (n k : Nat)  (H : Heap) (locs : List Loc) (ls : Array Slot), k + n = 10 → va_P D vwCl (sw cy am nS nB st bk gate nu (xw cy h ad nS nB st bk gate nu bt wt ++ [(q195, .inl (cy 0, 10, .inl (upd (upd (upd (upd (upd (upd (upd (upd (upd (upd (fun _ => 0) 0 (nu 0)) 1 (nI (hq % 24))) 2 (nu 1)) 3 (sm (fun i => st i 0) nS)) 4 (sm (fun i => bk i 5) nB)) 5 (nu 2)) 6 (nu 3)) 7 (nu 4)) 8 (sm (fun i => bk i 7) nB)) 9 (nu 5))))])) H → va_D A (sw cy am nS nB st bk gate nu (xw cy h ad nS nB st bk gate nu bt wt ++ [(q195, .inl (cy 0, 10, .inl (upd (upd (upd (upd (upd (upd (upd (upd (upd (upd (fun _ => 0) 0 (nu 0)) 1 (nI (hq % 24))) 2 (nu 1)) 3 (sm (fun i => st i 0) nS)) 4 (sm (fun i => bk i 5) nB)) 5 (nu 2)) 6 (nu 3)) 7 (nu 4)) 8 (sm (fun i => bk i 7) nB)) 9 (nu 5))))])) → va_S A s.heap H locs → lv_has ls 8 [(0, .ref (am 0)), (1, .ref h), (2, .ref q195), (3, .int (nI k))] → W p l e ({ frames := 7, cells := 80, slots := 480, locals := 200 } : Room) (s.setDrawn s.drawn) m ([.ref (am 0), .ref h] : List Value).toArray below meth c H locs (69 + k) (418 + 6 * k) (MQD lw_cs below (xQ D A (fun _ : Unit => some (.int 1)) (fun _ => True) (fun _ => sw cy am nS nB st bk gate nu (xw cy h ad nS nB st bk gate nu bt wt))) ([.ref (am 0), .ref h] : List Value).toArray s 80 480 A) (F0 m 281 ls []) := by
            intro n
            induction n with
            | zero =>
              intro k  H locs ls hns hP hD hS hl
              have hik : k = 10 := by omega
              refine lv_iload_n hx hb dX4_isSame_281 rfl (lv_at hl 3 rfl) ?_
              refine lv_bipush (v := 10) hx hb dX4_isSame_282 (by decide) ?_
              refine lv_icmp_ge (tgt := 306) hx hb dX4_isSame_284 (by decide) (fun _ => ?_) (fun h => absurd (by rw [hik]; exact Int32.le_refl _) h)
              refine lv_aload_n hx hb dX4_isSame_306 rfl (lv_at hl 1 rfl) ?_
              refine xcVD (As := []) (rest := []) hd0 ⟨hx, hb, hml, hown, hts⟩ (c_X3_share l D cy h ad nS nB st bk gate nu bt wt) (cwV 0 hts gX4_isSame_X3_share rfl rfl rfl (by decide +kernel) ⟨Nat.le_of_ble_eq_true rfl, Nat.le_of_ble_eq_true rfl⟩) hK hP hD hS hA rfl rfl rfl (xE_wrl) rfl hl.1 rfl (Nat.le_of_ble_eq_true rfl) dX4_isSame_307 ⟨by show 69 + k + 0 ≤ 80; omega, by show 418 + 6 * k + 0 ≤ 480; omega⟩ (fun r1 H locs d1 hd1 hr1 hP hD hS => ?_)
              have hts := dr_words hts0 d1
              have hK := XK.same (s := s) (U := s.setDrawn d1) rfl hK
              have hP : va_P D vwCl (sw cy am nS nB st bk gate nu (xw cy h ad nS nB st bk gate nu bt wt ++ [(q195, .inl (cy 0, 10, .inl (upd (upd (upd (upd (upd (upd (upd (upd (upd (upd (fun _ => 0) 0 (nu 0)) 1 (nI (hq % 24))) 2 (nu 1)) 3 (sm (fun i => st i 0) nS)) 4 (sm (fun i => bk i 5) nB)) 5 (nu 2)) 6 (nu 3)) 7 (nu 4)) 8 (sm (fun i => bk i 7) nB)) 9 (nu 5))))])) H := hP
              have hD : va_D A (sw cy am nS nB st bk gate nu (xw cy h ad nS nB st bk gate nu bt wt ++ [(q195, .inl (cy 0, 10, .inl (upd (upd (upd (upd (upd (upd (upd (upd (upd (upd (fun _ => 0) 0 (nu 0)) 1 (nI (hq % 24))) 2 (nu 1)) 3 (sm (fun i => st i 0) nS)) 4 (sm (fun i => bk i 5) nB)) 5 (nu 2)) 6 (nu 3)) 7 (nu 4)) 8 (sm (fun i => bk i 7) nB)) 9 (nu 5))))])) := hD
              refine W.eq (g2 := F0 m 310 ls [.double r1]) rfl ?_
              refine W.cs (cells' := 69 + k) (slots' := 418 + 6 * k) (by first | rfl | omega) (by first | rfl | omega) ?_
              refine lv_aload_n hx hb dX4_isSame_310 rfl (lv_at hl 0 rfl) ?_
              refine va_get (D := D) (ci := 4) (v := .int (nu 2)) (C := RX4) (T := TX4) (N := 9) hx hb hts hinX4 hown hK.1 hP 0 rfl rfl 5 (by decide) (hts (.fieldLink RX4 36 "LoafMarksLaw$Sim" "all" "I") (List.mem_of_getElem? (i := 6) rfl)) (fun _ h9 => h9) rfl dX4_isSame_311 ?_
              refine lv_if_ne (tgt := 321) hx hb dX4_isSame_314 (by decide) (fun c314 => ?_) (fun c314 => ?_)
              · refine lv_aload_n hx hb dX4_isSame_321 rfl (lv_at hl 0 rfl) ?_
                refine va_get (D := D) (ci := 4) (v := .int (nu 3)) (C := RX4) (T := TX4) (N := 9) hx hb hts hinX4 hown hK.1 hP 0 rfl rfl 6 (by decide) (hts (.fieldLink RX4 39 "LoafMarksLaw$Sim" "light" "I") (List.mem_of_getElem? (i := 7) rfl)) (fun _ h9 => h9) rfl dX4_isSame_322 ?_
                refine lv_i2d hx hb dX4_isSame_325 ?_
                refine lv_aload_n hx hb dX4_isSame_326 rfl (lv_at hl 0 rfl) ?_
                refine va_get (D := D) (ci := 4) (v := .int (nu 2)) (C := RX4) (T := TX4) (N := 9) hx hb hts hinX4 hown hK.1 hP 0 rfl rfl 5 (by decide) (hts (.fieldLink RX4 36 "LoafMarksLaw$Sim" "all" "I") (List.mem_of_getElem? (i := 6) rfl)) (fun _ h9 => h9) rfl dX4_isSame_327 ?_
                refine lv_i2d hx hb dX4_isSame_330 ?_
                refine lv_ddiv_any hd1 lw_bits hx hb dX4_isSame_331 (fun r2 d2 hal hd2 => ?_)
                refine lv_dcmp hx hb dX4_isSame_332 ?_
                refine lv_if_ne (tgt := 340) hx hb dX4_isSame_333 (by decide) (fun z => absurd (sh_1 c314 hr1 hal) z) (fun _ => ?_)
                refine lv_iconst (v := 1) hx hb dX4_isSame_336 (by decide) ?_
                refine lv_goto (tgt := 341) hx hb dX4_isSame_337 (by decide) ?_
                refine W.endD hd2 ?_
                exact xrz () hx hb hr hlocks hS (by omega) (by omega) dX4_isSame_341 (by decide) (sw_dropP hP) (sw_dropD hD) rfl trivial
              · refine lv_dconst0 hx hb dX4_isSame_317 ?_
                refine lv_goto (tgt := 332) hx hb dX4_isSame_318 (by decide) ?_
                refine lv_dcmp hx hb dX4_isSame_332 ?_
                refine lv_if_ne (tgt := 340) hx hb dX4_isSame_333 (by decide) (fun z => absurd (sh_0 c314 hr1) z) (fun _ => ?_)
                refine lv_iconst (v := 1) hx hb dX4_isSame_336 (by decide) ?_
                refine lv_goto (tgt := 341) hx hb dX4_isSame_337 (by decide) ?_
                refine W.endD hd1 ?_
                exact xrz () hx hb hr hlocks hS (by omega) (by omega) dX4_isSame_341 (by decide) (sw_dropP hP) (sw_dropD hD) rfl trivial
            | succ n ih6 =>
              intro k  H locs ls hns hP hD hS hl
              have hlt : k < 10 := by omega
              refine lv_iload_n hx hb dX4_isSame_281 rfl (lv_at hl 3 rfl) ?_
              refine lv_bipush (v := 10) hx hb dX4_isSame_282 (by decide) ?_
              refine lv_icmp_ge (tgt := 306) hx hb dX4_isSame_284 (by decide) (fun h => absurd h (nI_ge (b := 10) hlt (by omega))) (fun _ => ?_)
              refine lv_aload_n hx hb dX4_isSame_287 rfl (lv_at hl 1 rfl) ?_
              refine lv_iload_n hx hb dX4_isSame_288 rfl (lv_at hl 3 rfl) ?_
              refine xcV (As := [.int (nI k)]) (rest := []) ⟨hx, hb, hml, hown, hts⟩ (c_X3_count l D cy h ad nS nB st bk gate nu bt wt hq k hI.1.2.2.2.2.1 (by omega) (by omega) hcS hcB) (cwV 1 hts gX4_isSame_X3_count rfl rfl rfl (by decide +kernel) ⟨Nat.le_of_ble_eq_true rfl, Nat.le_of_ble_eq_true rfl⟩) hK hP hD hS hA rfl rfl rfl (xE_wrl) rfl hl.1 rfl (Nat.le_of_ble_eq_true rfl) dX4_isSame_289 ⟨by show 69 + k + 1 ≤ 80; omega, by show 418 + 6 * k + 6 ≤ 480; omega⟩ (fun _ H locs _ hP hD hS => ?_)
              have hP : va_P D vwCl (sw cy am nS nB st bk gate nu (xw cy h ad nS nB st bk gate nu bt wt ++ [(q195, .inl (cy 0, 10, .inl (upd (upd (upd (upd (upd (upd (upd (upd (upd (upd (fun _ => 0) 0 (nu 0)) 1 (nI (hq % 24))) 2 (nu 1)) 3 (sm (fun i => st i 0) nS)) 4 (sm (fun i => bk i 5) nB)) 5 (nu 2)) 6 (nu 3)) 7 (nu 4)) 8 (sm (fun i => bk i 7) nB)) 9 (nu 5))))])) H := hP
              have hD : va_D A (sw cy am nS nB st bk gate nu (xw cy h ad nS nB st bk gate nu bt wt ++ [(q195, .inl (cy 0, 10, .inl (upd (upd (upd (upd (upd (upd (upd (upd (upd (upd (fun _ => 0) 0 (nu 0)) 1 (nI (hq % 24))) 2 (nu 1)) 3 (sm (fun i => st i 0) nS)) 4 (sm (fun i => bk i 5) nB)) 5 (nu 2)) 6 (nu 3)) 7 (nu 4)) 8 (sm (fun i => bk i 7) nB)) 9 (nu 5))))])) := hD
              refine W.eq (g2 := F0 m 292 ls [.int (tFact nS nB st bk nu hq k)]) rfl ?_
              refine W.cs (cells' := 69 + (k + 1)) (slots' := 418 + 6 * (k + 1)) (by first | rfl | omega) (by first | rfl | omega) ?_
              refine lv_aload_n hx hb dX4_isSame_292 rfl (lv_at hl 2 rfl) ?_
              refine lv_iload_n hx hb dX4_isSame_293 rfl (lv_at hl 3 rfl) ?_
              refine xiald hx hb hK hP (4 + nS + nB + ((xw cy h ad nS nB st bk gate nu bt wt).length + 0)) (ww_wr (at_r (k := 0) rfl)) k rfl (by omega) (by decide) dX4_isSame_294 ?_
              refine lv_icmp_eq (tgt := 300) hx hb dX4_isSame_295 (by decide) (fun _ => ?_) (fun z => absurd (cnt_eq hlt hb7) z)
              refine lv_iinc (v := (nI (k + 1))) (lv' := [(3, .int (nI (k + 1))), (0, .ref (am 0)), (1, .ref h), (2, .ref q195)]) hx hb dX4_isSame_300 hl (k := 3) rfl ((nI_1 k)) (by decide) rfl (fun ls hl => ?_)
              refine lv_goto (tgt := 281) hx hb dX4_isSame_303 (by decide) ?_
              exact ih6 (k + 1)  _ _ _ (by omega) hP hD hS (lv_sub hl [1, 2, 3, 0] rfl)
          exact loop6 10 0  _ _ _ (by omega) hP hD hS (lv_sub hl [2, 3, 1, 0] rfl)
        | succ n ih4 =>
          intro j  H locs ls hns hP hD hS hl
          have hlt : j < nB := by omega
          have hltj := hlt
          refine lv_iload_n hx hb dX4_isSame_145 rfl (lv_at hl 2 rfl) ?_
          refine lv_aload_n hx hb dX4_isSame_146 rfl (lv_at hl 0 rfl) ?_
          refine va_get (D := D) (ci := 4) (v := .ref (am 3)) (C := RX4) (T := TX4) (N := 9) hx hb hts hinX4 hown hK.1 hP 0 rfl rfl 3 (by decide) (hts (.fieldLink RX4 22 "LoafMarksLaw$Sim" "bakers" "[[I") (List.mem_of_getElem? (i := 2) rfl)) (fun _ h9 => h9) rfl dX4_isSame_147 ?_
          refine va_alen hx hb hK.1 hP (3) 3 rfl rfl (v := nI nB) rfl dX4_isSame_150 ?_
          refine lv_icmp_ge (tgt := 193) hx hb dX4_isSame_151 (by decide) (fun h => absurd h (nI_ge (b := nB) hlt (by omega))) (fun _ => ?_)
          refine lv_iconst (v := 0) hx hb dX4_isSame_154 (by decide) ?_
          refine lv_istore_n (lv' := [(3, .int 0), (0, .ref (am 0)), (1, .ref h), (2, .int (nI j))]) hx hb dX4_isSame_155 rfl hl (by decide) rfl (fun ls hl => ?_)
          refine W.cs (cells' := 20 + 8 * j + 0) (slots' := 120 + 48 * j + 6 * 0) (by first | rfl | omega) (by first | rfl | omega) ?_
          have loop5 : ∀ (n k : Nat)  (H : Heap) (locs : List Loc) (ls : Array Slot), k + n = 8 → va_P D vwCl (sw cy am nS nB st bk gate nu (xw cy h ad nS nB st bk gate nu bt wt)) H → va_D A (sw cy am nS nB st bk gate nu (xw cy h ad nS nB st bk gate nu bt wt)) → va_S A s.heap H locs → lv_has ls 8 [(0, .ref (am 0)), (1, .ref h), (2, .int (nI j)), (3, .int (nI k))] → W p l e ({ frames := 7, cells := 80, slots := 480, locals := 200 } : Room) (s.setDrawn s.drawn) m ([.ref (am 0), .ref h] : List Value).toArray below meth c H locs (20 + 8 * j + k) (120 + 48 * j + 6 * k) (MQD lw_cs below (xQ D A (fun _ : Unit => some (.int 1)) (fun _ => True) (fun _ => sw cy am nS nB st bk gate nu (xw cy h ad nS nB st bk gate nu bt wt))) ([.ref (am 0), .ref h] : List Value).toArray s 80 480 A) (F0 m 156 ls []) := by
            intro n
            induction n with
            | zero =>
              intro k  H locs ls hns hP hD hS hl
              have hik : k = 8 := by omega
              refine lv_iload_n hx hb dX4_isSame_156 rfl (lv_at hl 3 rfl) ?_
              refine lv_bipush (v := 8) hx hb dX4_isSame_157 (by decide) ?_
              refine lv_icmp_ge (tgt := 187) hx hb dX4_isSame_159 (by decide) (fun _ => ?_) (fun h => absurd (by rw [hik]; exact Int32.le_refl _) h)
              refine W.widen (k := 20 + 8 * (j + 1)) (n := 120 + 48 * (j + 1)) (by omega) (by omega) ?_
              refine lv_iinc (v := (nI (j + 1))) (lv' := [(2, .int (nI (j + 1))), (0, .ref (am 0)), (1, .ref h), (3, .int (nI k))]) hx hb dX4_isSame_187 hl (k := 2) rfl ((nI_1 j)) (by decide) rfl (fun ls hl => ?_)
              refine lv_goto (tgt := 145) hx hb dX4_isSame_190 (by decide) ?_
              exact ih4 (j + 1)  _ _ _ (by omega) hP hD hS (lv_sub hl [1, 2, 0] rfl)
            | succ n ih5 =>
              intro k  H locs ls hns hP hD hS hl
              have hlt : k < 8 := by omega
              refine lv_iload_n hx hb dX4_isSame_156 rfl (lv_at hl 3 rfl) ?_
              refine lv_bipush (v := 8) hx hb dX4_isSame_157 (by decide) ?_
              refine lv_icmp_ge (tgt := 187) hx hb dX4_isSame_159 (by decide) (fun h => absurd h (nI_ge (b := 8) hlt (by omega))) (fun _ => ?_)
              refine lv_aload_n hx hb dX4_isSame_162 rfl (lv_at hl 1 rfl) ?_
              refine lv_iload_n hx hb dX4_isSame_163 rfl (lv_at hl 2 rfl) ?_
              refine lv_iload_n hx hb dX4_isSame_164 rfl (lv_at hl 3 rfl) ?_
              refine xcV (As := [.int (nI j), .int (nI k)]) (rest := []) ⟨hx, hb, hml, hown, hts⟩ (c_X3_baker l D cy h ad nS nB st bk gate nu bt wt j hltj k (by omega) hcS hcB) (cwV 2 hts gX4_isSame_X3_baker rfl rfl rfl (by decide +kernel) ⟨Nat.le_of_ble_eq_true rfl, Nat.le_of_ble_eq_true rfl⟩) hK hP hD hS hA rfl rfl rfl (xE_wr) rfl hl.1 rfl (Nat.le_of_ble_eq_true rfl) dX4_isSame_165 ⟨by show 20 + 8 * j + k + 1 ≤ 80; omega, by show 120 + 48 * j + 6 * k + 6 ≤ 480; omega⟩ (fun _ H locs _ hP hD hS => ?_)
              have hP : va_P D vwCl (sw cy am nS nB st bk gate nu (xw cy h ad nS nB st bk gate nu bt wt)) H := hP
              have hD : va_D A (sw cy am nS nB st bk gate nu (xw cy h ad nS nB st bk gate nu bt wt)) := hD
              refine W.eq (g2 := F0 m 168 ls [.int (bFact (bk j) k)]) rfl ?_
              refine W.cs (cells' := 20 + 8 * j + (k + 1)) (slots' := 120 + 48 * j + 6 * (k + 1)) (by first | rfl | omega) (by first | rfl | omega) ?_
              refine lv_aload_n hx hb dX4_isSame_168 rfl (lv_at hl 0 rfl) ?_
              refine va_get (D := D) (ci := 4) (v := .ref (am 3)) (C := RX4) (T := TX4) (N := 9) hx hb hts hinX4 hown hK.1 hP 0 rfl rfl 3 (by decide) (hts (.fieldLink RX4 22 "LoafMarksLaw$Sim" "bakers" "[[I") (List.mem_of_getElem? (i := 2) rfl)) (fun _ h9 => h9) rfl dX4_isSame_169 ?_
              refine lv_iload_n hx hb dX4_isSame_172 rfl (lv_at hl 2 rfl) ?_
              refine xaldB hx hb hK hP (3) (am := am) rfl j rfl (by omega) hcB dX4_isSame_173 ?_
              refine lv_iload_n hx hb dX4_isSame_174 rfl (lv_at hl 3 rfl) ?_
              refine xiald hx hb hK hP (4 + nS + j) (ww_bk hltj) k rfl (by omega) (by decide) dX4_isSame_175 ?_
              refine lv_icmp_eq (tgt := 181) hx hb dX4_isSame_176 (by decide) (fun _ => ?_) (fun z => absurd (bFact_eq (hb7 j hltj)) z)
              refine lv_iinc (v := (nI (k + 1))) (lv' := [(3, .int (nI (k + 1))), (0, .ref (am 0)), (1, .ref h), (2, .int (nI j))]) hx hb dX4_isSame_181 hl (k := 3) rfl ((nI_1 k)) (by decide) rfl (fun ls hl => ?_)
              refine lv_goto (tgt := 156) hx hb dX4_isSame_184 (by decide) ?_
              exact ih5 (k + 1)  _ _ _ (by omega) hP hD hS (lv_sub hl [1, 2, 3, 0] rfl)
          exact loop5 8 0  _ _ _ (by omega) hP hD hS (lv_sub hl [1, 2, 3, 0] rfl)
      exact loop4 nB 0  _ _ _ (by omega) hP hD hS (lv_sub hl [1, 2, 0] rfl)
    | succ n ih1 =>
      intro i  H locs ls hns hP hD hS hl
      have hlt : i < nS := by omega
      have hlti := hlt
      refine lv_iload_n hx hb dX4_isSame_2 rfl (lv_at hl 2 rfl) ?_
      refine lv_aload_n hx hb dX4_isSame_3 rfl (lv_at hl 0 rfl) ?_
      refine va_get (D := D) (ci := 4) (v := .ref (am 2)) (C := RX4) (T := TX4) (N := 9) hx hb hts hinX4 hown hK.1 hP 0 rfl rfl 2 (by decide) (hts (.fieldLink RX4 18 "LoafMarksLaw$Sim" "stores" "[[I") (List.mem_of_getElem? (i := 1) rfl)) (fun _ h9 => h9) rfl dX4_isSame_4 ?_
      refine va_alen hx hb hK.1 hP (2) 3 rfl rfl (v := nI nS) rfl dX4_isSame_7 ?_
      refine lv_icmp_ge (tgt := 143) hx hb dX4_isSame_8 (by decide) (fun h => absurd h (nI_ge (b := nS) hlt (by omega))) (fun _ => ?_)
      refine lv_iconst (v := 0) hx hb dX4_isSame_11 (by decide) ?_
      refine lv_istore_n (lv' := [(3, .int 0), (0, .ref (am 0)), (1, .ref h), (2, .int (nI i))]) hx hb dX4_isSame_12 rfl hl (by decide) rfl (fun ls hl => ?_)
      refine lv_aload_n hx hb dX4_isSame_13 rfl (lv_at hl 1 rfl) ?_
      refine va_get (D := D) (ci := 4) (v := .ref (am 3)) (C := RX4) (T := TX4) (N := 9) hx hb hts hinX4 hown hK.1 hP 0 rfl rfl 3 (by decide) (hts (.fieldLink RX4 22 "LoafMarksLaw$Sim" "bakers" "[[I") (List.mem_of_getElem? (i := 2) rfl)) (fun _ h9 => h9) rfl dX4_isSame_14 ?_
      refine lv_astore (lv' := [(4, .ref (am 3)), (3, .int 0), (0, .ref (am 0)), (1, .ref h), (2, .int (nI i))]) hx hb dX4_isSame_17 hl (by decide) rfl (fun ls hl => ?_)
      refine lv_aload hx hb dX4_isSame_19 (lv_at hl 0 rfl) ?_
      refine va_alen hx hb hK.1 hP (3) 3 rfl rfl (v := nI nB) rfl dX4_isSame_21 ?_
      refine lv_istore (lv' := [(5, .int (nI nB)), (4, .ref (am 3)), (3, .int 0), (0, .ref (am 0)), (1, .ref h), (2, .int (nI i))]) hx hb dX4_isSame_22 hl (by decide) rfl (fun ls hl => ?_)
      refine lv_iconst (v := 0) hx hb dX4_isSame_24 (by decide) ?_
      refine lv_istore (lv' := [(6, .int 0), (5, .int (nI nB)), (4, .ref (am 3)), (3, .int 0), (0, .ref (am 0)), (1, .ref h), (2, .int (nI i))]) hx hb dX4_isSame_25 hl (by decide) rfl (fun ls hl => ?_)
      refine W.cs (cells' := 5 * i) (slots' := 30 * i) (by first | rfl | omega) (by first | rfl | omega) ?_
      have loop2 : ∀ (n j : Nat)  (H : Heap) (locs : List Loc) (ls : Array Slot), j + n = nB → va_P D vwCl (sw cy am nS nB st bk gate nu (xw cy h ad nS nB st bk gate nu bt wt)) H → va_D A (sw cy am nS nB st bk gate nu (xw cy h ad nS nB st bk gate nu bt wt)) → va_S A s.heap H locs → lv_has ls 8 [(0, .ref (am 0)), (1, .ref h), (2, .int (nI i)), (3, .int (sm (fun q => if bk q 0 = nI i then 1 else 0) j)), (4, .ref (am 3)), (5, .int (nI nB)), (6, .int (nI j))] → W p l e ({ frames := 7, cells := 80, slots := 480, locals := 200 } : Room) (s.setDrawn s.drawn) m ([.ref (am 0), .ref h] : List Value).toArray below meth c H locs (5 * i) (30 * i) (MQD lw_cs below (xQ D A (fun _ : Unit => some (.int 1)) (fun _ => True) (fun _ => sw cy am nS nB st bk gate nu (xw cy h ad nS nB st bk gate nu bt wt))) ([.ref (am 0), .ref h] : List Value).toArray s 80 480 A) (F0 m 27 ls []) := by
        intro n
        induction n with
        | zero =>
          intro j  H locs ls hns hP hD hS hl
          have hij : j = nB := by omega
          refine lv_iload hx hb dX4_isSame_27 (lv_at hl 6 rfl) ?_
          refine lv_iload hx hb dX4_isSame_29 (lv_at hl 5 rfl) ?_
          refine lv_icmp_ge (tgt := 63) hx hb dX4_isSame_31 (by decide) (fun _ => ?_) (fun h => absurd (by rw [hij]; exact Int32.le_refl _) h)
          rw [hij] at hl
          refine lv_iconst (v := 4) hx hb dX4_isSame_63 (by decide) ?_
          refine va_newa (atype := .int) (N' := 4) (a0 := (4, .inl (fun _ => 0))) hx hb (hts (.arrayClass .int) (List.mem_of_getElem? (i := 3) rfl)) rfl hK.1 hP hD hS hA (fun _ => rfl) (by decide) (by decide) (by decide) (by show 5 * i + 1 ≤ 80; omega) (by show 30 * i + 4 ≤ 480; omega) dX4_isSame_64 (fun q64 cA H hK1 hP hD hS => ?_)
          obtain rfl : cA = cy 0 := x_cA hK.1 hK1 (i := 0) rfl rfl
          rw [sw_snoc] at hP hD
          have hP : va_P D vwCl (sw cy am nS nB st bk gate nu (xw cy h ad nS nB st bk gate nu bt wt ++ [(q64, .inl (cy 0, 4, .inl ((fun _ => 0))))])) H := hP
          have hD : va_D A (sw cy am nS nB st bk gate nu (xw cy h ad nS nB st bk gate nu bt wt ++ [(q64, .inl (cy 0, 4, .inl ((fun _ => 0))))])) := hD
          refine W.cs (cells' := 5 * i + 1) (slots' := 30 * i + 4) (by first | rfl | omega) (by first | rfl | omega) ?_
          refine lv_dup hx hb dX4_isSame_66 rfl ?_
          refine lv_iconst (v := 0) hx hb dX4_isSame_67 (by decide) ?_
          refine lv_aload_n hx hb dX4_isSame_68 rfl (lv_at hl 0 rfl) ?_
          refine va_get (D := D) (ci := 4) (v := .ref (am 2)) (C := RX4) (T := TX4) (N := 9) hx hb hts hinX4 hown hK.1 hP 0 rfl rfl 2 (by decide) (hts (.fieldLink RX4 18 "LoafMarksLaw$Sim" "stores" "[[I") (List.mem_of_getElem? (i := 1) rfl)) (fun _ h9 => h9) rfl dX4_isSame_69 ?_
          refine lv_iload_n hx hb dX4_isSame_72 rfl (lv_at hl 2 rfl) ?_
          refine xaldS hx hb hK hP (2) (am := am) rfl i rfl (by omega) hcS dX4_isSame_73 ?_
          refine lv_iconst (v := 0) hx hb dX4_isSame_74 (by decide) ?_
          refine xiald hx hb hK hP (4 + i) (ww_st hlti) 0 (by decide) (by decide) (by decide) dX4_isSame_75 ?_
          refine xiast hx hb hK hP hD hS (4 + nS + nB + ((xw cy h ad nS nB st bk gate nu bt wt).length + 0)) (ww_wr (at_r (k := 0) rfl)) 0 (by decide) (by decide) (by decide) dX4_isSame_76 (fun H locs hP hD hS => ?_)
          have hP : va_P D vwCl (sw cy am nS nB st bk gate nu (xw cy h ad nS nB st bk gate nu bt wt ++ [(q64, .inl (cy 0, 4, .inl (upd (fun _ => 0) 0 (st i 0))))])) H := by rw [ww_set_wr, set_last0] at hP; exact hP
          have hD : va_D A (sw cy am nS nB st bk gate nu (xw cy h ad nS nB st bk gate nu bt wt ++ [(q64, .inl (cy 0, 4, .inl (upd (fun _ => 0) 0 (st i 0))))])) := by rw [ww_set_wr, set_last0] at hD; exact hD
          refine lv_dup hx hb dX4_isSame_77 rfl ?_
          refine lv_iconst (v := 1) hx hb dX4_isSame_78 (by decide) ?_
          refine lv_aload_n hx hb dX4_isSame_79 rfl (lv_at hl 0 rfl) ?_
          refine va_get (D := D) (ci := 4) (v := .ref (am 2)) (C := RX4) (T := TX4) (N := 9) hx hb hts hinX4 hown hK.1 hP 0 rfl rfl 2 (by decide) (hts (.fieldLink RX4 18 "LoafMarksLaw$Sim" "stores" "[[I") (List.mem_of_getElem? (i := 1) rfl)) (fun _ h9 => h9) rfl dX4_isSame_80 ?_
          refine lv_iload_n hx hb dX4_isSame_83 rfl (lv_at hl 2 rfl) ?_
          refine xaldS hx hb hK hP (2) (am := am) rfl i rfl (by omega) hcS dX4_isSame_84 ?_
          refine lv_iconst (v := 1) hx hb dX4_isSame_85 (by decide) ?_
          refine xiald hx hb hK hP (4 + i) (ww_st hlti) 1 (by decide) (by decide) (by decide) dX4_isSame_86 ?_
          refine xiast hx hb hK hP hD hS (4 + nS + nB + ((xw cy h ad nS nB st bk gate nu bt wt).length + 0)) (ww_wr (at_r (k := 0) rfl)) 1 (by decide) (by decide) (by decide) dX4_isSame_87 (fun H locs hP hD hS => ?_)
          have hP : va_P D vwCl (sw cy am nS nB st bk gate nu (xw cy h ad nS nB st bk gate nu bt wt ++ [(q64, .inl (cy 0, 4, .inl (upd (upd (fun _ => 0) 0 (st i 0)) 1 (st i 1))))])) H := by rw [ww_set_wr, set_last0] at hP; exact hP
          have hD : va_D A (sw cy am nS nB st bk gate nu (xw cy h ad nS nB st bk gate nu bt wt ++ [(q64, .inl (cy 0, 4, .inl (upd (upd (fun _ => 0) 0 (st i 0)) 1 (st i 1))))])) := by rw [ww_set_wr, set_last0] at hD; exact hD
          refine lv_dup hx hb dX4_isSame_88 rfl ?_
          refine lv_iconst (v := 2) hx hb dX4_isSame_89 (by decide) ?_
          refine lv_iload_n hx hb dX4_isSame_90 rfl (lv_at hl 3 rfl) ?_
          refine xiast hx hb hK hP hD hS (4 + nS + nB + ((xw cy h ad nS nB st bk gate nu bt wt).length + 0)) (ww_wr (at_r (k := 0) rfl)) 2 (by decide) (by decide) (by decide) dX4_isSame_91 (fun H locs hP hD hS => ?_)
          have hP : va_P D vwCl (sw cy am nS nB st bk gate nu (xw cy h ad nS nB st bk gate nu bt wt ++ [(q64, .inl (cy 0, 4, .inl (upd (upd (upd (fun _ => 0) 0 (st i 0)) 1 (st i 1)) 2 (sm (fun q => if bk q 0 = nI i then 1 else 0) nB))))])) H := by rw [ww_set_wr, set_last0] at hP; exact hP
          have hD : va_D A (sw cy am nS nB st bk gate nu (xw cy h ad nS nB st bk gate nu bt wt ++ [(q64, .inl (cy 0, 4, .inl (upd (upd (upd (fun _ => 0) 0 (st i 0)) 1 (st i 1)) 2 (sm (fun q => if bk q 0 = nI i then 1 else 0) nB))))])) := by rw [ww_set_wr, set_last0] at hD; exact hD
          refine lv_dup hx hb dX4_isSame_92 rfl ?_
          refine lv_iconst (v := 3) hx hb dX4_isSame_93 (by decide) ?_
          refine lv_aload_n hx hb dX4_isSame_94 rfl (lv_at hl 0 rfl) ?_
          refine va_get (D := D) (ci := 4) (v := .ref (am 2)) (C := RX4) (T := TX4) (N := 9) hx hb hts hinX4 hown hK.1 hP 0 rfl rfl 2 (by decide) (hts (.fieldLink RX4 18 "LoafMarksLaw$Sim" "stores" "[[I") (List.mem_of_getElem? (i := 1) rfl)) (fun _ h9 => h9) rfl dX4_isSame_95 ?_
          refine lv_iload_n hx hb dX4_isSame_98 rfl (lv_at hl 2 rfl) ?_
          refine xaldS hx hb hK hP (2) (am := am) rfl i rfl (by omega) hcS dX4_isSame_99 ?_
          refine lv_iconst (v := 2) hx hb dX4_isSame_100 (by decide) ?_
          refine xiald hx hb hK hP (4 + i) (ww_st hlti) 2 (by decide) (by decide) (by decide) dX4_isSame_101 ?_
          refine xiast hx hb hK hP hD hS (4 + nS + nB + ((xw cy h ad nS nB st bk gate nu bt wt).length + 0)) (ww_wr (at_r (k := 0) rfl)) 3 (by decide) (by decide) (by decide) dX4_isSame_102 (fun H locs hP hD hS => ?_)
          have hP : va_P D vwCl (sw cy am nS nB st bk gate nu (xw cy h ad nS nB st bk gate nu bt wt ++ [(q64, .inl (cy 0, 4, .inl (upd (upd (upd (upd (fun _ => 0) 0 (st i 0)) 1 (st i 1)) 2 (sm (fun q => if bk q 0 = nI i then 1 else 0) nB)) 3 (st i 2))))])) H := by rw [ww_set_wr, set_last0] at hP; exact hP
          have hD : va_D A (sw cy am nS nB st bk gate nu (xw cy h ad nS nB st bk gate nu bt wt ++ [(q64, .inl (cy 0, 4, .inl (upd (upd (upd (upd (fun _ => 0) 0 (st i 0)) 1 (st i 1)) 2 (sm (fun q => if bk q 0 = nI i then 1 else 0) nB)) 3 (st i 2))))])) := by rw [ww_set_wr, set_last0] at hD; exact hD
          refine lv_astore (lv' := [(4, .ref q64), (0, .ref (am 0)), (1, .ref h), (2, .int (nI i)), (3, .int (sm (fun q => if bk q 0 = nI i then 1 else 0) nB)), (5, .int (nI nB)), (6, .int (nI nB))]) hx hb dX4_isSame_103 hl (by decide) rfl (fun ls hl => ?_)
          refine lv_iconst (v := 0) hx hb dX4_isSame_105 (by decide) ?_
          refine lv_istore (lv' := [(5, .int 0), (4, .ref q64), (0, .ref (am 0)), (1, .ref h), (2, .int (nI i)), (3, .int (sm (fun q => if bk q 0 = nI i then 1 else 0) nB)), (6, .int (nI nB))]) hx hb dX4_isSame_106 hl (by decide) rfl (fun ls hl => ?_)
          refine W.cs (cells' := 5 * i + 1 + 0) (slots' := 30 * i + 4 + 6 * 0) (by first | rfl | omega) (by first | rfl | omega) ?_
          have loop3 : ∀ (n k : Nat)  (H : Heap) (locs : List Loc) (ls : Array Slot), k + n = 4 → va_P D vwCl (sw cy am nS nB st bk gate nu (xw cy h ad nS nB st bk gate nu bt wt ++ [(q64, .inl (cy 0, 4, .inl (upd (upd (upd (upd (fun _ => 0) 0 (st i 0)) 1 (st i 1)) 2 (sm (fun q => if bk q 0 = nI i then 1 else 0) nB)) 3 (st i 2))))])) H → va_D A (sw cy am nS nB st bk gate nu (xw cy h ad nS nB st bk gate nu bt wt ++ [(q64, .inl (cy 0, 4, .inl (upd (upd (upd (upd (fun _ => 0) 0 (st i 0)) 1 (st i 1)) 2 (sm (fun q => if bk q 0 = nI i then 1 else 0) nB)) 3 (st i 2))))])) → va_S A s.heap H locs → lv_has ls 8 [(0, .ref (am 0)), (1, .ref h), (2, .int (nI i)), (4, .ref q64), (5, .int (nI k))] → W p l e ({ frames := 7, cells := 80, slots := 480, locals := 200 } : Room) (s.setDrawn s.drawn) m ([.ref (am 0), .ref h] : List Value).toArray below meth c H locs (5 * i + 1 + k) (30 * i + 4 + 6 * k) (MQD lw_cs below (xQ D A (fun _ : Unit => some (.int 1)) (fun _ => True) (fun _ => sw cy am nS nB st bk gate nu (xw cy h ad nS nB st bk gate nu bt wt))) ([.ref (am 0), .ref h] : List Value).toArray s 80 480 A) (F0 m 108 ls []) := by
            intro n
            induction n with
            | zero =>
              intro k  H locs ls hns hP hD hS hl
              have hik : k = 4 := by omega
              refine lv_iload hx hb dX4_isSame_108 (lv_at hl 4 rfl) ?_
              refine lv_iconst (v := 4) hx hb dX4_isSame_110 (by decide) ?_
              refine lv_icmp_ge (tgt := 137) hx hb dX4_isSame_111 (by decide) (fun _ => ?_) (fun h => absurd (by rw [hik]; exact Int32.le_refl _) h)
              refine W.widen (k := 5 * (i + 1)) (n := 30 * (i + 1)) (by omega) (by omega) ?_
              refine lv_iinc (v := (nI (i + 1))) (lv' := [(2, .int (nI (i + 1))), (0, .ref (am 0)), (1, .ref h), (4, .ref q64), (5, .int (nI k))]) hx hb dX4_isSame_137 hl (k := 2) rfl ((nI_1 i)) (by decide) rfl (fun ls hl => ?_)
              refine lv_goto (tgt := 2) hx hb dX4_isSame_140 (by decide) ?_
              exact ih1 (i + 1)  _ _ _ (by omega) (sw_dropP hP) (sw_dropD hD) hS (lv_sub hl [1, 2, 0] rfl)
            | succ n ih3 =>
              intro k  H locs ls hns hP hD hS hl
              have hlt : k < 4 := by omega
              refine lv_iload hx hb dX4_isSame_108 (lv_at hl 4 rfl) ?_
              refine lv_iconst (v := 4) hx hb dX4_isSame_110 (by decide) ?_
              refine lv_icmp_ge (tgt := 137) hx hb dX4_isSame_111 (by decide) (fun h => absurd h (nI_ge (b := 4) hlt (by omega))) (fun _ => ?_)
              refine lv_aload_n hx hb dX4_isSame_114 rfl (lv_at hl 1 rfl) ?_
              refine lv_iload_n hx hb dX4_isSame_115 rfl (lv_at hl 2 rfl) ?_
              refine lv_iload hx hb dX4_isSame_116 (lv_at hl 4 rfl) ?_
              refine xcV (As := [.int (nI i), .int (nI k)]) (rest := []) ⟨hx, hb, hml, hown, hts⟩ (c_X3_store l D cy h ad nS nB st bk gate nu bt wt i hlti k (by omega) hcS hcB) (cwV 2 hts gX4_isSame_X3_store rfl rfl rfl (by decide +kernel) ⟨Nat.le_of_ble_eq_true rfl, Nat.le_of_ble_eq_true rfl⟩) hK hP hD hS hA rfl rfl rfl (xE_wrl) rfl hl.1 rfl (Nat.le_of_ble_eq_true rfl) dX4_isSame_118 ⟨by show 5 * i + 1 + k + 1 ≤ 80; omega, by show 30 * i + 4 + 6 * k + 6 ≤ 480; omega⟩ (fun _ H locs _ hP hD hS => ?_)
              have hP : va_P D vwCl (sw cy am nS nB st bk gate nu (xw cy h ad nS nB st bk gate nu bt wt ++ [(q64, .inl (cy 0, 4, .inl (upd (upd (upd (upd (fun _ => 0) 0 (st i 0)) 1 (st i 1)) 2 (sm (fun q => if bk q 0 = nI i then 1 else 0) nB)) 3 (st i 2))))])) H := hP
              have hD : va_D A (sw cy am nS nB st bk gate nu (xw cy h ad nS nB st bk gate nu bt wt ++ [(q64, .inl (cy 0, 4, .inl (upd (upd (upd (upd (fun _ => 0) 0 (st i 0)) 1 (st i 1)) 2 (sm (fun q => if bk q 0 = nI i then 1 else 0) nB)) 3 (st i 2))))])) := hD
              refine W.eq (g2 := F0 m 121 ls [.int (stFact st bk nB i k)]) rfl ?_
              refine W.cs (cells' := 5 * i + 1 + (k + 1)) (slots' := 30 * i + 4 + 6 * (k + 1)) (by first | rfl | omega) (by first | rfl | omega) ?_
              refine lv_aload hx hb dX4_isSame_121 (lv_at hl 3 rfl) ?_
              refine lv_iload hx hb dX4_isSame_123 (lv_at hl 4 rfl) ?_
              refine xiald hx hb hK hP (4 + nS + nB + ((xw cy h ad nS nB st bk gate nu bt wt).length + 0)) (ww_wr (at_r (k := 0) rfl)) k rfl (by omega) (by decide) dX4_isSame_125 ?_
              refine lv_icmp_eq (tgt := 131) hx hb dX4_isSame_126 (by decide) (fun _ => ?_) (fun z => absurd (told_eq hlt) z)
              refine lv_iinc (v := (nI (k + 1))) (lv' := [(5, .int (nI (k + 1))), (0, .ref (am 0)), (1, .ref h), (2, .int (nI i)), (4, .ref q64)]) hx hb dX4_isSame_131 hl (k := 4) rfl ((nI_1 k)) (by decide) rfl (fun ls hl => ?_)
              refine lv_goto (tgt := 108) hx hb dX4_isSame_134 (by decide) ?_
              exact ih3 (k + 1)  _ _ _ (by omega) hP hD hS (lv_sub hl [1, 2, 3, 4, 0] rfl)
          exact loop3 4 0  _ _ _ (by omega) hP hD hS (lv_sub hl [2, 3, 4, 1, 0] rfl)
        | succ n ih2 =>
          intro j  H locs ls hns hP hD hS hl
          have hlt : j < nB := by omega
          refine lv_iload hx hb dX4_isSame_27 (lv_at hl 6 rfl) ?_
          refine lv_iload hx hb dX4_isSame_29 (lv_at hl 5 rfl) ?_
          refine lv_icmp_ge (tgt := 63) hx hb dX4_isSame_31 (by decide) (fun h => absurd h (nI_ge (b := nB) hlt (by omega))) (fun _ => ?_)
          refine lv_aload hx hb dX4_isSame_34 (lv_at hl 4 rfl) ?_
          refine lv_iload hx hb dX4_isSame_36 (lv_at hl 6 rfl) ?_
          refine xaldB hx hb hK hP (3) (am := am) rfl j rfl (by omega) hcB dX4_isSame_38 ?_
          refine lv_astore (lv' := [(7, .ref (am (8 + j))), (0, .ref (am 0)), (1, .ref h), (2, .int (nI i)), (3, .int (sm (fun q => if bk q 0 = nI i then 1 else 0) j)), (4, .ref (am 3)), (5, .int (nI nB)), (6, .int (nI j))]) hx hb dX4_isSame_39 hl (by decide) rfl (fun ls hl => ?_)
          refine lv_iload_n hx hb dX4_isSame_41 rfl (lv_at hl 4 rfl) ?_
          refine lv_aload hx hb dX4_isSame_42 (lv_at hl 0 rfl) ?_
          refine lv_iconst (v := 0) hx hb dX4_isSame_44 (by decide) ?_
          refine xiald hx hb hK hP (4 + nS + j) (ww_bk hlt) 0 (by decide) (by decide) (by decide) dX4_isSame_45 ?_
          refine lv_iload_n hx hb dX4_isSame_46 rfl (lv_at hl 3 rfl) ?_
          refine lv_icmp_ne (tgt := 54) hx hb dX4_isSame_47 (by decide) (fun c47 => ?_) (fun c47 => ?_)
          · refine lv_iconst (v := 0) hx hb dX4_isSame_54 (by decide) ?_
            refine lv_iadd hx hb dX4_isSame_55 ?_
            refine lv_istore_n (lv' := [(3, .int ((sm (fun q => if bk q 0 = nI i then 1 else 0) j) + 0)), (7, .ref (am (8 + j))), (0, .ref (am 0)), (1, .ref h), (2, .int (nI i)), (4, .ref (am 3)), (5, .int (nI nB)), (6, .int (nI j))]) hx hb dX4_isSame_56 rfl hl (by decide) rfl (fun ls hl => ?_)
            refine lv_iinc (v := (nI (j + 1))) (lv' := [(6, .int (nI (j + 1))), (3, .int ((sm (fun q => if bk q 0 = nI i then 1 else 0) j) + 0)), (7, .ref (am (8 + j))), (0, .ref (am 0)), (1, .ref h), (2, .int (nI i)), (4, .ref (am 3)), (5, .int (nI nB))]) hx hb dX4_isSame_57 hl (k := 7) rfl ((nI_1 j)) (by decide) rfl (fun ls hl => ?_)
            refine lv_goto (tgt := 27) hx hb dX4_isSame_60 (by decide) ?_
            have es : sm (fun q => if bk q 0 = nI i then 1 else 0) (j + 1) = sm (fun q => if bk q 0 = nI i then 1 else 0) j + 0 := by show sm _ j + (if _ then _ else _) = _; rw [if_neg c47]
            exact ih2 (j + 1)  _ _ _ (by omega) hP hD hS (lv_sub hl [3, 4, 5, 1, 6, 7, 0] (by rw [es]; rfl))
          · refine lv_iconst (v := 1) hx hb dX4_isSame_50 (by decide) ?_
            refine lv_goto (tgt := 55) hx hb dX4_isSame_51 (by decide) ?_
            refine lv_iadd hx hb dX4_isSame_55 ?_
            refine lv_istore_n (lv' := [(3, .int ((sm (fun q => if bk q 0 = nI i then 1 else 0) j) + 1)), (7, .ref (am (8 + j))), (0, .ref (am 0)), (1, .ref h), (2, .int (nI i)), (4, .ref (am 3)), (5, .int (nI nB)), (6, .int (nI j))]) hx hb dX4_isSame_56 rfl hl (by decide) rfl (fun ls hl => ?_)
            refine lv_iinc (v := (nI (j + 1))) (lv' := [(6, .int (nI (j + 1))), (3, .int ((sm (fun q => if bk q 0 = nI i then 1 else 0) j) + 1)), (7, .ref (am (8 + j))), (0, .ref (am 0)), (1, .ref h), (2, .int (nI i)), (4, .ref (am 3)), (5, .int (nI nB))]) hx hb dX4_isSame_57 hl (k := 7) rfl ((nI_1 j)) (by decide) rfl (fun ls hl => ?_)
            refine lv_goto (tgt := 27) hx hb dX4_isSame_60 (by decide) ?_
            have es : sm (fun q => if bk q 0 = nI i then 1 else 0) (j + 1) = sm (fun q => if bk q 0 = nI i then 1 else 0) j + 1 := by show sm _ j + (if _ then _ else _) = _; rw [if_pos c47]
            exact ih2 (j + 1)  _ _ _ (by omega) hP hD hS (lv_sub hl [3, 4, 5, 1, 6, 7, 0] (by rw [es]; rfl))
      exact loop2 nB 0  _ _ _ (by omega) hP hD hS (lv_sub hl [4, 5, 6, 3, 2, 1, 0] rfl)
  exact loop1 nS 0  _ _ _ (by omega) hP hD hS (lv_sub hl [1, 2, 0] rfl)
