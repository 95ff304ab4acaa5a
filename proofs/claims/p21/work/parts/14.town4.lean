/-! ===== the town: facts, new stores and bakers (laid by gen14.py) ===== -/
theorem x_cA {D : va_G} {cl : List vw_C} {t1 : List (ClassId × FieldType)} {cA cB : ClassId} {ty : FieldType} {U : State} (h : va_K D cl t1 U) (h1 : va_K D cl (t1 ++ [(cA, ty)]) U) {i : Nat} (hi : t1[i]? = some (cB, ty)) (hl : t1.length = 5) : cA = cB := by
  have e1 := (h.2 i _ hi).2
  have e2 := (h1.2 5 (cA, ty) (by rw [List.getElem?_append_right (by omega), hl]; rfl)).2
  have key : ∀ (c : ClassId), va_RA U c ty → U.vm.findClass ("[" ++ ty.toString) = some c := by
    intro c hc
    cases ty with
    | object C => obtain ⟨-, -, -, -, -, h4⟩ := hc; exact h4
    | _ => exact hc
  exact Option.some.inj ((key _ e2).symm.trans (key _ e1))
theorem xE_r {S : Type} {pre w0 : va_W} {w1 : S → va_W} : xE (pre ++ w0) w0 w1 (fun u => pre ++ w1 u) := ⟨pre, List.perm_append_comm, fun u => List.perm_append_comm⟩
theorem xE_l {S : Type} {post w0 : va_W} {w1 : S → va_W} : xE (w0 ++ post) w0 w1 (fun u => w1 u ++ post) := ⟨post, List.Perm.refl _, fun u => List.Perm.refl _⟩
def stFact (st bk : Nat → Iu) (nB i w : Nat) : Int32 := if w = 2 then sm (fun j => if bk j 0 = nI i then 1 else 0) nB else st i (if w = 3 then 2 else w)
def tFact (nS nB : Nat) (st bk : Nat → Iu) (nu : Iu) (h w : Nat) : Int32 :=
  if w = 0 then nu 0 else if w = 1 then nI (h % 24) else if w = 2 then nu 1 else if w = 3 then sm (fun i => st i 0) nS else if w = 4 then sm (fun i => bk i 5) nB else if w = 5 then nu 2 else if w = 6 then nu 3 else if w = 7 then nu 4 else if w = 8 then sm (fun i => if bk i 7 = 0 then 0 else 1) nB else nu 5

theorem xastq {p : Program} {l : Launch} {e : Env} {R : Room} {s : State} {m : MethodId} {args : Array Value} {below : List Frame} {meth : Method} {c : Code} {H H0 : Heap} {locs : List Loc} {cells slots : Nat} {Q : State → Prop} {cc : ByteArray} {pc : Nat} {ls : Array Slot} {rest : List Value} {D : va_G} {cy : Nat → ClassId} {A : Nat → Prop} {ws : va_W} {a n : Nat}
    (hx : p.tables.exec = Jvm.exec) (hb : c.code = cc) (hK : XK D cy s) (hP : va_P D vwCl ws H) (hD : va_D A ws) (hS : va_S A H0 H locs) (q0 t0 qk ci : Nat) {cA : ClassId} {r : vw_C} {v : Nat} {vs : List Value} {f : Nat → Option Nat} (ha : ws[q0]? = some (a, .inl (cA, n, .inr (.inr (.inr (.inr f)))))) (ht : (xt cy)[t0]? = some (cA, .object r.1)) (hv : ws[qk]? = some (v, .inr (ci, vs))) (hc : vwCl[ci]? = some r) (j : Nat) {i : Int32} (hi : i = nI j) (hj : j < n) (hn : n < 2 ^ 31) (hdg : decode cc pc = .ok (.aastore, 1))
    (kk : ∀ (H1 : Heap) (locs1 : List Loc), va_P D vwCl (ws.set q0 (a, .inl (cA, n, .inr (.inr (.inr (.inr (va_up f j (some v)))))))) H1 → va_D A (ws.set q0 (a, .inl (cA, n, .inr (.inr (.inr (.inr (va_up f j (some v)))))))) → va_S A H0 H1 locs1 → W p l e R s m args below meth c H1 locs1 cells slots Q (F0 m (pc + 1) ls rest)) : W p l e R s m args below meth c H locs cells slots Q (F0 m pc ls (.ref v :: .int i :: .ref a :: rest)) := by
  subst hi
  refine va_astq hx hb hK.1 hP hD hS q0 t0 qk ci ha ht hv hc (vp_in_nI hj hn) hdg ?_
  rw [nI_clamp (by omega)]
  exact kk
theorem xastqN {p : Program} {l : Launch} {e : Env} {R : Room} {s : State} {m : MethodId} {args : Array Value} {below : List Frame} {meth : Method} {c : Code} {H H0 : Heap} {locs : List Loc} {cells slots : Nat} {Q : State → Prop} {cc : ByteArray} {pc : Nat} {ls : Array Slot} {rest : List Value} {D : va_G} {cy : Nat → ClassId} {A : Nat → Prop} {ws : va_W} {a n : Nat}
    (hx : p.tables.exec = Jvm.exec) (hb : c.code = cc) (hK : XK D cy s) (hP : va_P D vwCl ws H) (hD : va_D A ws) (hS : va_S A H0 H locs) (q0 t0 : Nat) {cA : ClassId} {C : String} {f : Nat → Option Nat} (ha : ws[q0]? = some (a, .inl (cA, n, .inr (.inr (.inr (.inr f)))))) (ht : (xt cy)[t0]? = some (cA, .object C)) (j : Nat) {i : Int32} (hi : i = nI j) (hj : j < n) (hn : n < 2 ^ 31) (hdg : decode cc pc = .ok (.aastore, 1))
    (kk : ∀ (H1 : Heap) (locs1 : List Loc), va_P D vwCl (ws.set q0 (a, .inl (cA, n, .inr (.inr (.inr (.inr (va_up f j none))))))) H1 → va_D A (ws.set q0 (a, .inl (cA, n, .inr (.inr (.inr (.inr (va_up f j none))))))) → va_S A H0 H1 locs1 → W p l e R s m args below meth c H1 locs1 cells slots Q (F0 m (pc + 1) ls rest)) : W p l e R s m args below meth c H locs cells slots Q (F0 m pc ls (.null :: .int i :: .ref a :: rest)) := by
  subst hi
  refine va_astqN hx hb hK.1 hP hD hS q0 t0 ha ht (vp_in_nI hj hn) hdg ?_
  rw [nI_clamp (by omega)]
  exact kk
theorem zS_cong {a b : Nat → Nat} {n : Nat} {f g : Nat → Iu} (h1 : ∀ i, i < n → a (4 + i) = b (4 + i)) (h2 : ∀ i, i < n → f i = g i) : zS a n f = zS b n g := by
  unfold zS
  apply List.map_congr_left
  intro i hi
  rw [List.mem_range] at hi
  rw [h1 i hi, h2 i hi]
theorem zB_cong {a b : Nat → Nat} {n : Nat} {f g : Nat → Iu} (h1 : ∀ i, i < n → a (8 + i) = b (8 + i)) (h2 : ∀ i, i < n → f i = g i) : zB a n f = zB b n g := by
  unfold zB
  apply List.map_congr_left
  intro i hi
  rw [List.mem_range] at hi
  rw [h1 i hi, h2 i hi]
theorem rS_push {ad : Nat → Nat} {n q : Nat} : va_up (rS ad n) n (some q) = rS (va_up ad (4 + n) q) (n + 1) := by
  funext k
  unfold va_up rS
  by_cases h : k = n
  · subst h; simp
  · by_cases h2 : k < n
    · simp [h, h2, Nat.lt_succ_of_lt h2] <;> omega
    · simp [h, h2] <;> omega
theorem rB_push {ad : Nat → Nat} {n q : Nat} : va_up (rB ad n) n (some q) = rB (va_up ad (8 + n) q) (n + 1) := by
  funext k
  unfold va_up rB
  by_cases h : k = n
  · subst h; simp
  · by_cases h2 : k < n
    · simp [h, h2, Nat.lt_succ_of_lt h2] <;> omega
    · simp [h, h2] <;> omega
theorem rS_keep {a b : Nat → Nat} {n : Nat} (h : ∀ i, i < n → a (4 + i) = b (4 + i)) : rS a n = rS b n := by
  funext k
  unfold rS
  split
  · rw [h k (by assumption)]
  · rfl
theorem rB_keep {a b : Nat → Nat} {n : Nat} (h : ∀ i, i < n → a (8 + i) = b (8 + i)) : rB a n = rB b n := by
  funext k
  unfold rB
  split
  · rw [h k (by assumption)]
  · rfl
/-- a new store behind the others -/
theorem tw_push_st {cy : Nat → ClassId} {ad : Nat → Nat} {nS nB : Nat} {st bk : Nat → Iu} {gate nu : Iu} {q : Nat} {x : Iu} (hn : nS < 4) : List.Perm (((tw cy ad nS nB st bk gate nu) ++ [(q, cSt x)]).set 2 (ad 2, .inl (cy 1, 4, .inr (.inr (.inr (.inr (va_up (rS ad nS) nS (some q)))))))) (tw cy (va_up ad (4 + nS) q) (nS + 1) nB (va_up st nS x) bk gate nu) := by
  have e1 : zS (va_up ad (4 + nS) q) (nS + 1) (va_up st nS x) = zS ad nS st ++ [(q, cSt x)] := by
    have : zS (va_up ad (4 + nS) q) (nS + 1) (va_up st nS x) = zS (va_up ad (4 + nS) q) nS (va_up st nS x) ++ [((va_up ad (4 + nS) q) (4 + nS), cSt ((va_up st nS x) nS))] := by
      unfold zS; rw [List.range_succ, List.map_append]; rfl
    rw [this, up_at, up_at, zS_cong (b := ad) (g := st) (fun i hi => up_ne (by omega)) (fun i hi => up_ne (by omega))]
  have e2 : zB (va_up ad (4 + nS) q) nB bk = zB ad nB bk := zB_cong (fun i hi => up_ne (by omega)) (fun i hi => rfl)
  have e3 : rB (va_up ad (4 + nS) q) nB = rB ad nB := rB_keep (fun i hi => up_ne (by omega))
  have f0 : va_up ad (4 + nS) q 0 = ad 0 := up_ne (by omega)
  have f1 : va_up ad (4 + nS) q 1 = ad 1 := up_ne (by omega)
  have f2 : va_up ad (4 + nS) q 2 = ad 2 := up_ne (by omega)
  have f3 : va_up ad (4 + nS) q 3 = ad 3 := up_ne (by omega)
  unfold tw
  rw [e1, e2]
  unfold tw4 cTn
  rw [f0, f1, f2, f3, e3, ← rS_push]
  show List.Perm (([_, _, _, _] ++ (zS ad nS st ++ zB ad nB bk)) ++ [(q, cSt x)]) _
  rw [List.append_assoc, List.append_assoc, List.append_assoc]
  exact (List.perm_append_comm.append_left _).append_left _
/-- a new baker behind the others -/
theorem tw_push_bk {cy : Nat → ClassId} {ad : Nat → Nat} {nS nB : Nat} {st bk : Nat → Iu} {gate nu : Iu} {q : Nat} {x : Iu} (hS : nS ≤ 4) : List.Perm (((tw cy ad nS nB st bk gate nu) ++ [(q, cBk x)]).set 3 (ad 3, .inl (cy 2, 6, .inr (.inr (.inr (.inr (va_up (rB ad nB) nB (some q)))))))) (tw cy (va_up ad (8 + nB) q) nS (nB + 1) st (va_up bk nB x) gate nu) := by
  have e1 : zB (va_up ad (8 + nB) q) (nB + 1) (va_up bk nB x) = zB ad nB bk ++ [(q, cBk x)] := by
    have : zB (va_up ad (8 + nB) q) (nB + 1) (va_up bk nB x) = zB (va_up ad (8 + nB) q) nB (va_up bk nB x) ++ [((va_up ad (8 + nB) q) (8 + nB), cBk ((va_up bk nB x) nB))] := by
      unfold zB; rw [List.range_succ, List.map_append]; rfl
    rw [this, up_at, up_at, zB_cong (b := ad) (g := bk) (fun i hi => up_ne (by omega)) (fun i hi => up_ne (by omega))]
  have e2 : zS (va_up ad (8 + nB) q) nS st = zS ad nS st := zS_cong (fun i hi => up_ne (by omega)) (fun i hi => rfl)
  have e3 : rS (va_up ad (8 + nB) q) nS = rS ad nS := rS_keep (fun i hi => up_ne (by omega))
  have f0 : va_up ad (8 + nB) q 0 = ad 0 := up_ne (by omega)
  have f1 : va_up ad (8 + nB) q 1 = ad 1 := up_ne (by omega)
  have f2 : va_up ad (8 + nB) q 2 = ad 2 := up_ne (by omega)
  have f3 : va_up ad (8 + nB) q 3 = ad 3 := up_ne (by omega)
  unfold tw
  rw [e1, e2]
  unfold tw4 cTn
  rw [f0, f1, f2, f3, e3, ← rB_push]
  show List.Perm (([_, _, _, _] ++ (zS ad nS st ++ zB ad nB bk)) ++ [(q, cBk x)]) _
  rw [List.append_assoc, List.append_assoc]
theorem last_at {ws : va_W} {x : Nat × va_E} : (ws ++ [x])[ws.length]? = some x := by simp
def newS (f w : Int32) : Iu := upd (upd (fun _ => 0) 0 f) 1 w
def newB (s k g r : Int32) : Iu := upd (upd (upd (upd (fun _ => 0) 0 s) 1 k) 4 g) 2 r
set_option maxHeartbeats 4000000 in
set_option maxRecDepth 100000 in
/-- storeFact -/
theorem c_X2_storeFact (l : Launch) (D : va_G) (cy : Nat → ClassId) (ad : Nat → Nat) (nS nB : Nat) (st bk : Nat → Iu) (gate nu : Iu) (i k : Nat) (hi : i < nS) (hk : k < 4) (hcS : nS ≤ 4) (hcB : nB ≤ 6) : xM l D cy yX2_storeFact wsX2_storeFact ({ frames := 1, cells := 0, slots := 0, locals := 40 } : Room) [.ref (ad 0), .int (nI i), .int (nI k)] (tw cy ad nS nB st bk gate nu) (fun _ : Unit => some (.int (stFact st bk nB i k))) (fun _ => True) (fun _ => tw cy ad nS nB st bk gate nu) := by
  refine xM.of cX2_storeFact 4 (some .int) RX2 (by decide +kernel) rfl rfl (Nat.le_of_ble_eq_true rfl) ?_
  intro p e s m below meth c A ls hx hb hr hts hown hlocks hml hin hK hA hP hD hS hl
  have hl : lv_has ls 4 [(0, .ref (ad 0)), (1, .int (nI i)), (2, .int (nI k))] := hl
  have hinX1 : ∀ w ∈ wsX10, w ∈ wsX2_storeFact := fun _ h => List.mem_cons_of_mem _ (List.mem_append_left _ (List.mem_append_left _ (List.mem_append_right _ h)))
  refine lv_aload_n hx hb dX2_storeFact_0 rfl (lv_at hl 0 rfl) ?_
  refine lv_iload_n hx hb dX2_storeFact_1 rfl (lv_at hl 1 rfl) ?_
  refine xcV (As := [.int (nI i)]) (rest := []) ⟨hx, hb, hml, hown, hts⟩ (c_X2_storeAt l D cy ad nS nB st bk gate nu (nI i) (by omega)) (cwV 1 hts gX2_storeFact_X2_storeAt rfl rfl rfl (by decide +kernel) ⟨Nat.le_of_ble_eq_true rfl, Nat.le_of_ble_eq_true rfl⟩) hK hP hD hS hA rfl rfl rfl (xE_all) rfl hl.1 rfl (Nat.le_of_ble_eq_true rfl) dX2_storeFact_2 ⟨Nat.le_of_ble_eq_true rfl, Nat.le_of_ble_eq_true rfl⟩ (fun _ H locs _ hP hD hS => ?_)
  have hP : va_P D vwCl (tw cy ad nS nB st bk gate nu) H := hP
  have hD : va_D A (tw cy ad nS nB st bk gate nu) := hD
  refine W.eq (g2 := F0 m 5 ls [va_rf (sAt ad nS (nI i))]) rfl ?_
  refine W.eq (g2 := F0 m 5 ls [.ref (ad (4 + i))]) (by show F0 m 5 ls (va_rf (sAt ad nS (nI i)) :: _) = _; rw [sAt_nI hi hcS]) ?_
  refine lv_astore_n (lv' := [(3, .ref (ad (4 + i))), (0, .ref (ad 0)), (1, .int (nI i)), (2, .int (nI k))]) hx hb dX2_storeFact_5 rfl hl (by decide) rfl (fun ls hl => ?_)
  refine lv_aload_n hx hb dX2_storeFact_6 rfl (lv_at hl 0 rfl) ?_
  refine lv_ifnonnull (tgt := 12) hx hb dX2_storeFact_7 (by decide) ?_
  refine lv_iload_n hx hb dX2_storeFact_12 rfl (lv_at hl 3 rfl) ?_
  have hcase : k = 0 ∨ k = 1 ∨ k = 2 ∨ k = 3 := by omega
  rcases hcase with rfl | rfl | rfl | rfl
  · refine lv_tableIn (off := 27) (tgt := 40) hx hb dX2_storeFact_13 (by decide) (by decide) (by rfl) (by decide) ?_
    refine lv_aload_n hx hb dX2_storeFact_40 rfl (lv_at hl 0 rfl) ?_
    refine va_get (D := D) (ci := 1) (v := .int (st i 0)) (C := RX1) (T := TX1) (N := 3) hx hb hts hinX1 hown hK.1 hP (4 + i) (tw_st hi) rfl 0 (by decide) (hts (.fieldLink RX2 117 "LoafMarks$Store" "flour" "I") (List.mem_of_getElem? (i := 1) rfl)) (fun _ h9 => h9) rfl dX2_storeFact_41 ?_
    exact xri () hx hb hr hlocks hS (Nat.le_of_ble_eq_true rfl) (Nat.le_of_ble_eq_true rfl) dX2_storeFact_44 hP hD rfl trivial
  · refine lv_tableIn (off := 32) (tgt := 45) hx hb dX2_storeFact_13 (by decide) (by decide) (by rfl) (by decide) ?_
    refine lv_aload_n hx hb dX2_storeFact_45 rfl (lv_at hl 0 rfl) ?_
    refine va_get (D := D) (ci := 1) (v := .int (st i 1)) (C := RX1) (T := TX1) (N := 3) hx hb hts hinX1 hown hK.1 hP (4 + i) (tw_st hi) rfl 1 (by decide) (hts (.fieldLink RX2 149 "LoafMarks$Store" "weevils" "I") (List.mem_of_getElem? (i := 2) rfl)) (fun _ h9 => h9) rfl dX2_storeFact_46 ?_
    exact xri () hx hb hr hlocks hS (Nat.le_of_ble_eq_true rfl) (Nat.le_of_ble_eq_true rfl) dX2_storeFact_49 hP hD rfl trivial
  · refine lv_tableIn (off := 37) (tgt := 50) hx hb dX2_storeFact_13 (by decide) (by decide) (by rfl) (by decide) ?_
    refine lv_aload_n hx hb dX2_storeFact_50 rfl (lv_at hl 1 rfl) ?_
    refine lv_iload_n hx hb dX2_storeFact_51 rfl (lv_at hl 2 rfl) ?_
    refine xcV (As := [.int (nI i)]) (rest := []) ⟨hx, hb, hml, hown, hts⟩ (c_X2_bakersOfStore l D cy ad nS nB st bk gate nu (nI i) (by omega)) (cwV 1 hts gX2_storeFact_X2_bakersOfStore rfl rfl rfl (by decide +kernel) ⟨Nat.le_of_ble_eq_true rfl, Nat.le_of_ble_eq_true rfl⟩) hK hP hD hS hA rfl rfl rfl (xE_all) rfl hl.1 rfl (Nat.le_of_ble_eq_true rfl) dX2_storeFact_52 ⟨Nat.le_of_ble_eq_true rfl, Nat.le_of_ble_eq_true rfl⟩ (fun _ H locs _ hP hD hS => ?_)
    have hP : va_P D vwCl (tw cy ad nS nB st bk gate nu) H := hP
    have hD : va_D A (tw cy ad nS nB st bk gate nu) := hD
    refine W.eq (g2 := F0 m 55 ls [.int (sm (fun j => if bk j 0 = (nI i) then 1 else 0) nB)]) rfl ?_
    exact xri () hx hb hr hlocks hS (Nat.le_of_ble_eq_true rfl) (Nat.le_of_ble_eq_true rfl) dX2_storeFact_55 hP hD rfl trivial
  · refine lv_tableOut (tgt := 56) hx hb dX2_storeFact_13 (by decide) (by decide) ?_
    refine lv_aload_n hx hb dX2_storeFact_56 rfl (lv_at hl 0 rfl) ?_
    refine va_get (D := D) (ci := 1) (v := .int (st i 2)) (C := RX1) (T := TX1) (N := 3) hx hb hts hinX1 hown hK.1 hP (4 + i) (tw_st hi) rfl 2 (by decide) (hts (.fieldLink RX2 158 "LoafMarks$Store" "eaten" "I") (List.mem_of_getElem? (i := 3) rfl)) (fun _ h9 => h9) rfl dX2_storeFact_57 ?_
    exact xri () hx hb hr hlocks hS (Nat.le_of_ble_eq_true rfl) (Nat.le_of_ble_eq_true rfl) dX2_storeFact_60 hP hD rfl trivial

set_option maxHeartbeats 4000000 in
set_option maxRecDepth 100000 in
/-- fact -/
theorem c_X2_fact (l : Launch) (D : va_G) (cy : Nat → ClassId) (ad : Nat → Nat) (nS nB : Nat) (st bk : Nat → Iu) (gate nu : Iu) (h k : Nat) (eh : nu 0 = nI h) (hh : h < 2 ^ 31) (hk : k < 10) (hcS : nS ≤ 4) (hcB : nB ≤ 6) : xM l D cy yX2_fact wsX2_fact ({ frames := 2, cells := 0, slots := 0, locals := 60 } : Room) [.ref (ad 0), .int (nI k)] (tw cy ad nS nB st bk gate nu) (fun _ : Unit => some (.int (tFact nS nB st bk nu h k))) (fun _ => True) (fun _ => tw cy ad nS nB st bk gate nu) := by
  refine xM.of cX2_fact 2 (some .int) RX2 (by decide +kernel) rfl rfl (Nat.le_of_ble_eq_true rfl) ?_
  intro p e s m below meth c A ls hx hb hr hts hown hlocks hml hin hK hA hP hD hS hl
  have hl : lv_has ls 2 [(0, .ref (ad 0)), (1, .int (nI k))] := hl
  have hinX2 : ∀ w ∈ wsX20, w ∈ wsX2_fact := fun _ h => List.mem_cons_of_mem _ (List.mem_append_left _ (List.mem_append_left _ (List.mem_append_right _ h)))
  refine lv_iload_n hx hb dX2_fact_0 rfl (lv_at hl 1 rfl) ?_
  have hcase : k = 0 ∨ k = 1 ∨ k = 2 ∨ k = 3 ∨ k = 4 ∨ k = 5 ∨ k = 6 ∨ k = 7 ∨ k = 8 ∨ k = 9 := by omega
  rcases hcase with rfl | rfl | rfl | rfl | rfl | rfl | rfl | rfl | rfl | rfl
  · refine lv_tableIn (off := 51) (tgt := 52) hx hb dX2_fact_1 (by decide) (by decide) (by rfl) (by decide) ?_
    refine lv_aload_n hx hb dX2_fact_52 rfl (lv_at hl 0 rfl) ?_
    refine va_get (D := D) (ci := 2) (v := .int (nu 0)) (C := RX2) (T := TX2) (N := 9) hx hb hts hinX2 hown hK.1 hP 0 rfl rfl 3 (by decide) (hts (.fieldLink RX2 31 "LoafMarks$Town" "hour" "I") (List.mem_of_getElem? (i := 1) rfl)) (fun _ h9 => h9) rfl dX2_fact_53 ?_
    exact xri () hx hb hr hlocks hS (Nat.le_of_ble_eq_true rfl) (Nat.le_of_ble_eq_true rfl) dX2_fact_56 hP hD rfl trivial
  · refine lv_tableIn (off := 56) (tgt := 57) hx hb dX2_fact_1 (by decide) (by decide) (by rfl) (by decide) ?_
    refine lv_aload_n hx hb dX2_fact_57 rfl (lv_at hl 0 rfl) ?_
    refine xcV (As := []) (rest := []) ⟨hx, hb, hml, hown, hts⟩ (c_X2_hourOfDay l D cy ad nS nB st bk gate nu h eh hh) (cwV 0 hts gX2_fact_X2_hourOfDay rfl rfl rfl (by decide +kernel) ⟨Nat.le_of_ble_eq_true rfl, Nat.le_of_ble_eq_true rfl⟩) hK hP hD hS hA rfl rfl rfl (xE_all) rfl hl.1 rfl (Nat.le_of_ble_eq_true rfl) dX2_fact_58 ⟨Nat.le_of_ble_eq_true rfl, Nat.le_of_ble_eq_true rfl⟩ (fun _ H locs _ hP hD hS => ?_)
    have hP : va_P D vwCl (tw cy ad nS nB st bk gate nu) H := hP
    have hD : va_D A (tw cy ad nS nB st bk gate nu) := hD
    refine W.eq (g2 := F0 m 61 ls [.int (nI (h % 24))]) rfl ?_
    exact xri () hx hb hr hlocks hS (Nat.le_of_ble_eq_true rfl) (Nat.le_of_ble_eq_true rfl) dX2_fact_61 hP hD rfl trivial
  · refine lv_tableIn (off := 61) (tgt := 62) hx hb dX2_fact_1 (by decide) (by decide) (by rfl) (by decide) ?_
    refine lv_aload_n hx hb dX2_fact_62 rfl (lv_at hl 0 rfl) ?_
    refine va_get (D := D) (ci := 2) (v := .int (nu 1)) (C := RX2) (T := TX2) (N := 9) hx hb hts hinX2 hown hK.1 hP 0 rfl rfl 4 (by decide) (hts (.fieldLink RX2 27 "LoafMarks$Town" "people" "I") (List.mem_of_getElem? (i := 2) rfl)) (fun _ h9 => h9) rfl dX2_fact_63 ?_
    exact xri () hx hb hr hlocks hS (Nat.le_of_ble_eq_true rfl) (Nat.le_of_ble_eq_true rfl) dX2_fact_66 hP hD rfl trivial
  · refine lv_tableIn (off := 66) (tgt := 67) hx hb dX2_fact_1 (by decide) (by decide) (by rfl) (by decide) ?_
    refine lv_aload_n hx hb dX2_fact_67 rfl (lv_at hl 0 rfl) ?_
    refine xcV (As := []) (rest := []) ⟨hx, hb, hml, hown, hts⟩ (c_X2_flourOfAll l D cy ad nS nB st bk gate nu (by omega)) (cwV 0 hts gX2_fact_X2_flourOfAll rfl rfl rfl (by decide +kernel) ⟨Nat.le_of_ble_eq_true rfl, Nat.le_of_ble_eq_true rfl⟩) hK hP hD hS hA rfl rfl rfl (xE_all) rfl hl.1 rfl (Nat.le_of_ble_eq_true rfl) dX2_fact_68 ⟨Nat.le_of_ble_eq_true rfl, Nat.le_of_ble_eq_true rfl⟩ (fun _ H locs _ hP hD hS => ?_)
    have hP : va_P D vwCl (tw cy ad nS nB st bk gate nu) H := hP
    have hD : va_D A (tw cy ad nS nB st bk gate nu) := hD
    refine W.eq (g2 := F0 m 71 ls [.int (sm (fun i => st i 0) nS)]) rfl ?_
    exact xri () hx hb hr hlocks hS (Nat.le_of_ble_eq_true rfl) (Nat.le_of_ble_eq_true rfl) dX2_fact_71 hP hD rfl trivial
  · refine lv_tableIn (off := 71) (tgt := 72) hx hb dX2_fact_1 (by decide) (by decide) (by rfl) (by decide) ?_
    refine lv_aload_n hx hb dX2_fact_72 rfl (lv_at hl 0 rfl) ?_
    refine xcV (As := []) (rest := []) ⟨hx, hb, hml, hown, hts⟩ (c_X2_loavesOfAll l D cy ad nS nB st bk gate nu (by omega)) (cwV 0 hts gX2_fact_X2_loavesOfAll rfl rfl rfl (by decide +kernel) ⟨Nat.le_of_ble_eq_true rfl, Nat.le_of_ble_eq_true rfl⟩) hK hP hD hS hA rfl rfl rfl (xE_all) rfl hl.1 rfl (Nat.le_of_ble_eq_true rfl) dX2_fact_73 ⟨Nat.le_of_ble_eq_true rfl, Nat.le_of_ble_eq_true rfl⟩ (fun _ H locs _ hP hD hS => ?_)
    have hP : va_P D vwCl (tw cy ad nS nB st bk gate nu) H := hP
    have hD : va_D A (tw cy ad nS nB st bk gate nu) := hD
    refine W.eq (g2 := F0 m 76 ls [.int (sm (fun i => bk i 5) nB)]) rfl ?_
    exact xri () hx hb hr hlocks hS (Nat.le_of_ble_eq_true rfl) (Nat.le_of_ble_eq_true rfl) dX2_fact_76 hP hD rfl trivial
  · refine lv_tableIn (off := 76) (tgt := 77) hx hb dX2_fact_1 (by decide) (by decide) (by rfl) (by decide) ?_
    refine lv_aload_n hx hb dX2_fact_77 rfl (lv_at hl 0 rfl) ?_
    refine va_get (D := D) (ci := 2) (v := .int (nu 2)) (C := RX2) (T := TX2) (N := 9) hx hb hts hinX2 hown hK.1 hP 0 rfl rfl 5 (by decide) (hts (.fieldLink RX2 34 "LoafMarks$Town" "bought" "I") (List.mem_of_getElem? (i := 3) rfl)) (fun _ h9 => h9) rfl dX2_fact_78 ?_
    exact xri () hx hb hr hlocks hS (Nat.le_of_ble_eq_true rfl) (Nat.le_of_ble_eq_true rfl) dX2_fact_81 hP hD rfl trivial
  · refine lv_tableIn (off := 81) (tgt := 82) hx hb dX2_fact_1 (by decide) (by decide) (by rfl) (by decide) ?_
    refine lv_aload_n hx hb dX2_fact_82 rfl (lv_at hl 0 rfl) ?_
    refine va_get (D := D) (ci := 2) (v := .int (nu 3)) (C := RX2) (T := TX2) (N := 9) hx hb hts hinX2 hown hK.1 hP 0 rfl rfl 6 (by decide) (hts (.fieldLink RX2 37 "LoafMarks$Town" "light" "I") (List.mem_of_getElem? (i := 4) rfl)) (fun _ h9 => h9) rfl dX2_fact_83 ?_
    exact xri () hx hb hr hlocks hS (Nat.le_of_ble_eq_true rfl) (Nat.le_of_ble_eq_true rfl) dX2_fact_86 hP hD rfl trivial
  · refine lv_tableIn (off := 86) (tgt := 87) hx hb dX2_fact_1 (by decide) (by decide) (by rfl) (by decide) ?_
    refine lv_aload_n hx hb dX2_fact_87 rfl (lv_at hl 0 rfl) ?_
    refine va_get (D := D) (ci := 2) (v := .int (nu 4)) (C := RX2) (T := TX2) (N := 9) hx hb hts hinX2 hown hK.1 hP 0 rfl rfl 7 (by decide) (hts (.fieldLink RX2 40 "LoafMarks$Town" "hungry" "I") (List.mem_of_getElem? (i := 5) rfl)) (fun _ h9 => h9) rfl dX2_fact_88 ?_
    exact xri () hx hb hr hlocks hS (Nat.le_of_ble_eq_true rfl) (Nat.le_of_ble_eq_true rfl) dX2_fact_91 hP hD rfl trivial
  · refine lv_tableIn (off := 91) (tgt := 92) hx hb dX2_fact_1 (by decide) (by decide) (by rfl) (by decide) ?_
    refine lv_aload_n hx hb dX2_fact_92 rfl (lv_at hl 0 rfl) ?_
    refine xcV (As := []) (rest := []) ⟨hx, hb, hml, hown, hts⟩ (c_X2_barredBakers l D cy ad nS nB st bk gate nu (by omega)) (cwV 0 hts gX2_fact_X2_barredBakers rfl rfl rfl (by decide +kernel) ⟨Nat.le_of_ble_eq_true rfl, Nat.le_of_ble_eq_true rfl⟩) hK hP hD hS hA rfl rfl rfl (xE_all) rfl hl.1 rfl (Nat.le_of_ble_eq_true rfl) dX2_fact_93 ⟨Nat.le_of_ble_eq_true rfl, Nat.le_of_ble_eq_true rfl⟩ (fun _ H locs _ hP hD hS => ?_)
    have hP : va_P D vwCl (tw cy ad nS nB st bk gate nu) H := hP
    have hD : va_D A (tw cy ad nS nB st bk gate nu) := hD
    refine W.eq (g2 := F0 m 96 ls [.int (sm (fun i => if bk i 7 = 0 then 0 else 1) nB)]) rfl ?_
    exact xri () hx hb hr hlocks hS (Nat.le_of_ble_eq_true rfl) (Nat.le_of_ble_eq_true rfl) dX2_fact_96 hP hD rfl trivial
  · refine lv_tableOut (tgt := 97) hx hb dX2_fact_1 (by decide) (by decide) ?_
    refine lv_aload_n hx hb dX2_fact_97 rfl (lv_at hl 0 rfl) ?_
    refine va_get (D := D) (ci := 2) (v := .int (nu 5)) (C := RX2) (T := TX2) (N := 9) hx hb hts hinX2 hown hK.1 hP 0 rfl rfl 8 (by decide) (hts (.fieldLink RX2 43 "LoafMarks$Town" "lost" "I") (List.mem_of_getElem? (i := 6) rfl)) (fun _ h9 => h9) rfl dX2_fact_98 ?_
    exact xri () hx hb hr hlocks hS (Nat.le_of_ble_eq_true rfl) (Nat.le_of_ble_eq_true rfl) dX2_fact_101 hP hD rfl trivial

set_option maxHeartbeats 4000000 in
set_option maxRecDepth 100000 in
/-- addStore -/
theorem c_X2_addStore (l : Launch) (D : va_G) (cy : Nat → ClassId) (ad : Nat → Nat) (nS nB : Nat) (st bk : Nat → Iu) (gate nu : Iu) (p0 p1 : Int32) (hroom : nS < 4) : xM l D cy yX2_addStore wsX2_addStore ({ frames := 2, cells := 1, slots := 3, locals := 40 } : Room) [.ref (ad 0), .int p0, .int p1] (tw cy ad nS nB st bk gate nu) (fun _ : Nat => some (.int (nI nS))) (fun _ => True) (fun q => tw cy (va_up ad (4 + nS) q) (nS + 1) nB (va_up st nS (newS p0 p1)) bk gate nu) := by
  refine xM.of cX2_addStore 4 (some .int) RX2 (by decide +kernel) rfl rfl (Nat.le_of_ble_eq_true rfl) ?_
  intro p e s m below meth c A ls hx hb hr hts hown hlocks hml hin hK hA hP hD hS hl
  have hl : lv_has ls 4 [(0, .ref (ad 0)), (1, .int p0), (2, .int p1)] := hl
  have hinX1 : ∀ w ∈ wsX10, w ∈ wsX2_addStore := fun _ h => List.mem_cons_of_mem _ (List.mem_append_right _ h)
  have hinX2 : ∀ w ∈ wsX20, w ∈ wsX2_addStore := fun _ h => List.mem_cons_of_mem _ (List.mem_append_left _ (List.mem_append_right _ h))
  refine lv_iconst (v := 0) hx hb dX2_addStore_0 (by decide) ?_
  refine lv_istore_n (lv' := [(3, .int 0), (0, .ref (ad 0)), (1, .int p0), (2, .int p1)]) hx hb dX2_addStore_1 rfl hl (by decide) rfl (fun ls hl => ?_)
  have loop : ∀ (n i : Nat)  (H : Heap) (locs : List Loc) (ls : Array Slot), i + n = 4 → (i ≤ nS) → va_P D vwCl (tw cy ad nS nB st bk gate nu) H → va_D A (tw cy ad nS nB st bk gate nu) → va_S A s.heap H locs → lv_has ls 4 [(0, .ref (ad 0)), (1, .int p0), (2, .int p1), (3, .int (nI i))] → W p l e ({ frames := 2, cells := 1, slots := 3, locals := 40 } : Room) s m ([.ref (ad 0), .int p0, .int p1] : List Value).toArray below meth c H locs 0 0 (MQ below (xQ D A (fun _ : Nat => some (.int (nI nS))) (fun _ => True) (fun q => tw cy (va_up ad (4 + nS) q) (nS + 1) nB (va_up st nS (newS p0 p1)) bk gate nu)) ([.ref (ad 0), .int p0, .int p1] : List Value).toArray s 1 3 A) (F0 m 2 ls []) := by
    intro n
    induction n with
    | zero =>
      intro i  H locs ls hns hinv hP hD hS hl
      have hii : i = 4 := by omega
      refine lv_iload_n hx hb dX2_addStore_2 rfl (lv_at hl 3 rfl) ?_
      refine lv_aload_n hx hb dX2_addStore_3 rfl (lv_at hl 0 rfl) ?_
      refine va_get (D := D) (ci := 2) (v := .ref (ad 2)) (C := RX2) (T := TX2) (N := 9) hx hb hts hinX2 hown hK.1 hP 0 rfl rfl 1 (by decide) (hts (.fieldLink RX2 17 "LoafMarks$Town" "stores" "[LLoafMarks$Store;") (List.mem_of_getElem? (i := 1) rfl)) (fun _ h9 => h9) rfl dX2_addStore_4 ?_
      refine va_alen hx hb hK.1 hP 2 1 rfl rfl (v := 4) rfl dX2_addStore_7 ?_
      refine lv_icmp_ge (tgt := 43) hx hb dX2_addStore_8 (by decide) (fun _ => ?_) (fun h => absurd (by rw [hii]; exact Int32.le_refl _) h)
      exact absurd hinv (by omega)
    | succ n ih =>
      intro i  H locs ls hns hinv hP hD hS hl
      have hlt : i < 4 := by omega
      refine lv_iload_n hx hb dX2_addStore_2 rfl (lv_at hl 3 rfl) ?_
      refine lv_aload_n hx hb dX2_addStore_3 rfl (lv_at hl 0 rfl) ?_
      refine va_get (D := D) (ci := 2) (v := .ref (ad 2)) (C := RX2) (T := TX2) (N := 9) hx hb hts hinX2 hown hK.1 hP 0 rfl rfl 1 (by decide) (hts (.fieldLink RX2 17 "LoafMarks$Town" "stores" "[LLoafMarks$Store;") (List.mem_of_getElem? (i := 1) rfl)) (fun _ h9 => h9) rfl dX2_addStore_4 ?_
      refine va_alen hx hb hK.1 hP 2 1 rfl rfl (v := 4) rfl dX2_addStore_7 ?_
      refine lv_icmp_ge (tgt := 43) hx hb dX2_addStore_8 (by decide) (fun h => absurd h (nI_ge (b := 4) hlt (by omega))) (fun _ => ?_)
      refine lv_aload_n hx hb dX2_addStore_11 rfl (lv_at hl 0 rfl) ?_
      refine va_get (D := D) (ci := 2) (v := .ref (ad 2)) (C := RX2) (T := TX2) (N := 9) hx hb hts hinX2 hown hK.1 hP 0 rfl rfl 1 (by decide) (hts (.fieldLink RX2 17 "LoafMarks$Town" "stores" "[LLoafMarks$Store;") (List.mem_of_getElem? (i := 1) rfl)) (fun _ h9 => h9) rfl dX2_addStore_12 ?_
      refine lv_iload_n hx hb dX2_addStore_15 rfl (lv_at hl 3 rfl) ?_
      refine xaldq hx hb hK hP 2 1 rfl rfl i rfl (by omega) (by decide) dX2_addStore_16 ?_
      rcases Nat.lt_or_ge i nS with hi | hi
      · refine W.eq (g2 := F0 m 17 ls [.ref (ad (4 + i))]) (by rw [rS_lt hi]) ?_
        refine lv_ifnonnull (tgt := 37) hx hb dX2_addStore_17 (by decide) ?_
        refine lv_iinc (v := (nI (i + 1))) (lv' := [(3, .int (nI (i + 1))), (0, .ref (ad 0)), (1, .int p0), (2, .int p1)]) hx hb dX2_addStore_37 hl (k := 3) rfl ((nI_1 i)) (by decide) rfl (fun ls hl => ?_)
        refine lv_goto (tgt := 2) hx hb dX2_addStore_40 (by decide) ?_
        exact ih (i + 1)  _ _ _ (by omega) (by omega) hP hD hS (lv_sub hl [1, 2, 3, 0] rfl)
      · refine W.eq (g2 := F0 m 17 ls [.null]) (by rw [rS_ge hi]) ?_
        refine lv_ifnonnullN hx hb dX2_addStore_17 ?_
        have hin0 : nS = i := by omega
        subst hin0
        refine lv_aload_n hx hb dX2_addStore_20 rfl (lv_at hl 0 rfl) ?_
        refine va_get (D := D) (ci := 2) (v := .ref (ad 2)) (C := RX2) (T := TX2) (N := 9) hx hb hts hinX2 hown hK.1 hP 0 rfl rfl 1 (by decide) (hts (.fieldLink RX2 17 "LoafMarks$Town" "stores" "[LLoafMarks$Store;") (List.mem_of_getElem? (i := 1) rfl)) (fun _ h9 => h9) rfl dX2_addStore_21 ?_
        refine lv_iload_n hx hb dX2_addStore_24 rfl (lv_at hl 3 rfl) ?_
        refine va_new (ci := 1) (fs := [.int 0, .int 0, .int 0]) (C := RX1) (T := TX1) (N := 3) hx hb hts hinX1 tyX1 tyX1_ok hown (hts (.classLink RX2 15 RX1) (List.mem_of_getElem? (i := 2) rfl)) (hts (.instantiable RX1 3) (List.mem_of_getElem? (i := 3) rfl)) (hts (.initialized RX1) (List.mem_of_getElem? (i := 4) rfl)) hK.1 hP hD hS hA rfl (fun j hj => by rcases (show j = 0 ∨ j = 1 ∨ j = 2 by omega) with rfl | rfl | rfl <;> rfl) (Nat.le_of_ble_eq_true rfl) (Nat.le_of_ble_eq_true rfl) dX2_addStore_25 (fun q25 H hP hD hS => ?_)
        have hP : va_P D vwCl ((tw cy ad nS nB st bk gate nu) ++ [(q25, cSt (fun _ => 0))]) H := hP
        have hD : va_D A ((tw cy ad nS nB st bk gate nu) ++ [(q25, cSt (fun _ => 0))]) := hD
        refine lv_dup hx hb dX2_addStore_28 rfl ?_
        refine lv_iload_n hx hb dX2_addStore_29 rfl (lv_at hl 1 rfl) ?_
        refine lv_iload_n hx hb dX2_addStore_30 rfl (lv_at hl 2 rfl) ?_
        refine xcI (As := [.int p0, .int p1]) (rest := [.ref q25, .int (nI nS), .ref (ad 2)]) ⟨hx, hb, hml, hown, hts⟩ (c_X1_init l D cy q25 p0 p1) (cwI 2 hts gX2_addStore_X1_init rfl rfl rfl (hts (.initialized RX1) (List.mem_of_getElem? (i := 4) rfl)) (hts (.methodLink RX2 61 yX1_init) (List.mem_of_getElem? (i := 5) rfl)) (hts (.instanceMethod yX1_init) (List.mem_of_getElem? (i := 6) rfl)) rfl (by decide +kernel) ⟨Nat.le_of_ble_eq_true rfl, Nat.le_of_ble_eq_true rfl⟩) hK hP hD hS hA (xE_r) rfl hl.1 rfl (Nat.le_of_ble_eq_true rfl) dX2_addStore_31 ⟨Nat.le_of_ble_eq_true rfl, Nat.le_of_ble_eq_true rfl⟩ (fun _ H locs _ hP hD hS => ?_)
        have hP : va_P D vwCl ((tw cy ad nS nB st bk gate nu) ++ [(q25, cSt (newS p0 p1))]) H := hP
        have hD : va_D A ((tw cy ad nS nB st bk gate nu) ++ [(q25, cSt (newS p0 p1))]) := hD
        refine W.eq (g2 := F0 m 34 ls [.ref q25, .int (nI nS), .ref (ad 2)]) rfl ?_
        refine xastq hx hb hK hP hD hS 2 1 (tw cy ad nS nB st bk gate nu).length 1 rfl rfl last_at rfl nS rfl (by omega) (by decide) dX2_addStore_34 (fun H locs hP hD hS => ?_)
        have hP := xP_perm (tw_push_st hroom) hP
        have hD := xD_perm (tw_push_st hroom) hD
        refine lv_iload_n hx hb dX2_addStore_35 rfl (lv_at hl 3 rfl) ?_
        exact xri q25 hx hb hr hlocks hS (Nat.le_of_ble_eq_true rfl) (Nat.le_of_ble_eq_true rfl) dX2_addStore_36 hP hD rfl trivial
  exact loop 4 0  _ _ _ (by omega) (Nat.zero_le _) hP hD hS (lv_sub hl [1, 2, 3, 0] rfl)

set_option maxHeartbeats 4000000 in
set_option maxRecDepth 100000 in
/-- addStore, none free -/
theorem c_X2_addStore_full (l : Launch) (D : va_G) (cy : Nat → ClassId) (ad : Nat → Nat) (nS nB : Nat) (st bk : Nat → Iu) (gate nu : Iu) (p0 p1 : Int32) (hfull : nS = 4) : xM l D cy yX2_addStore wsX2_addStore ({ frames := 2, cells := 1, slots := 3, locals := 40 } : Room) [.ref (ad 0), .int p0, .int p1] (tw cy ad nS nB st bk gate nu) (fun _ : Unit => some (.int (-1))) (fun _ => True) (fun _ => tw cy ad nS nB st bk gate nu) := by
  refine xM.of cX2_addStore 4 (some .int) RX2 (by decide +kernel) rfl rfl (Nat.le_of_ble_eq_true rfl) ?_
  intro p e s m below meth c A ls hx hb hr hts hown hlocks hml hin hK hA hP hD hS hl
  have hl : lv_has ls 4 [(0, .ref (ad 0)), (1, .int p0), (2, .int p1)] := hl
  have hinX2 : ∀ w ∈ wsX20, w ∈ wsX2_addStore := fun _ h => List.mem_cons_of_mem _ (List.mem_append_left _ (List.mem_append_right _ h))
  refine lv_iconst (v := 0) hx hb dX2_addStore_0 (by decide) ?_
  refine lv_istore_n (lv' := [(3, .int 0), (0, .ref (ad 0)), (1, .int p0), (2, .int p1)]) hx hb dX2_addStore_1 rfl hl (by decide) rfl (fun ls hl => ?_)
  have loop : ∀ (n i : Nat)  (H : Heap) (locs : List Loc) (ls : Array Slot), i + n = 4 → (i ≤ nS) → va_P D vwCl (tw cy ad nS nB st bk gate nu) H → va_D A (tw cy ad nS nB st bk gate nu) → va_S A s.heap H locs → lv_has ls 4 [(0, .ref (ad 0)), (1, .int p0), (2, .int p1), (3, .int (nI i))] → W p l e ({ frames := 2, cells := 1, slots := 3, locals := 40 } : Room) s m ([.ref (ad 0), .int p0, .int p1] : List Value).toArray below meth c H locs 0 0 (MQ below (xQ D A (fun _ : Unit => some (.int (-1))) (fun _ => True) (fun _ => tw cy ad nS nB st bk gate nu)) ([.ref (ad 0), .int p0, .int p1] : List Value).toArray s 1 3 A) (F0 m 2 ls []) := by
    intro n
    induction n with
    | zero =>
      intro i  H locs ls hns hinv hP hD hS hl
      have hii : i = 4 := by omega
      refine lv_iload_n hx hb dX2_addStore_2 rfl (lv_at hl 3 rfl) ?_
      refine lv_aload_n hx hb dX2_addStore_3 rfl (lv_at hl 0 rfl) ?_
      refine va_get (D := D) (ci := 2) (v := .ref (ad 2)) (C := RX2) (T := TX2) (N := 9) hx hb hts hinX2 hown hK.1 hP 0 rfl rfl 1 (by decide) (hts (.fieldLink RX2 17 "LoafMarks$Town" "stores" "[LLoafMarks$Store;") (List.mem_of_getElem? (i := 1) rfl)) (fun _ h9 => h9) rfl dX2_addStore_4 ?_
      refine va_alen hx hb hK.1 hP 2 1 rfl rfl (v := 4) rfl dX2_addStore_7 ?_
      refine lv_icmp_ge (tgt := 43) hx hb dX2_addStore_8 (by decide) (fun _ => ?_) (fun h => absurd (by rw [hii]; exact Int32.le_refl _) h)
      refine lv_iconst (v := (-1)) hx hb dX2_addStore_43 (by decide) ?_
      exact xri () hx hb hr hlocks hS (Nat.le_of_ble_eq_true rfl) (Nat.le_of_ble_eq_true rfl) dX2_addStore_44 hP hD rfl trivial
    | succ n ih =>
      intro i  H locs ls hns hinv hP hD hS hl
      have hlt : i < 4 := by omega
      refine lv_iload_n hx hb dX2_addStore_2 rfl (lv_at hl 3 rfl) ?_
      refine lv_aload_n hx hb dX2_addStore_3 rfl (lv_at hl 0 rfl) ?_
      refine va_get (D := D) (ci := 2) (v := .ref (ad 2)) (C := RX2) (T := TX2) (N := 9) hx hb hts hinX2 hown hK.1 hP 0 rfl rfl 1 (by decide) (hts (.fieldLink RX2 17 "LoafMarks$Town" "stores" "[LLoafMarks$Store;") (List.mem_of_getElem? (i := 1) rfl)) (fun _ h9 => h9) rfl dX2_addStore_4 ?_
      refine va_alen hx hb hK.1 hP 2 1 rfl rfl (v := 4) rfl dX2_addStore_7 ?_
      refine lv_icmp_ge (tgt := 43) hx hb dX2_addStore_8 (by decide) (fun h => absurd h (nI_ge (b := 4) hlt (by omega))) (fun _ => ?_)
      refine lv_aload_n hx hb dX2_addStore_11 rfl (lv_at hl 0 rfl) ?_
      refine va_get (D := D) (ci := 2) (v := .ref (ad 2)) (C := RX2) (T := TX2) (N := 9) hx hb hts hinX2 hown hK.1 hP 0 rfl rfl 1 (by decide) (hts (.fieldLink RX2 17 "LoafMarks$Town" "stores" "[LLoafMarks$Store;") (List.mem_of_getElem? (i := 1) rfl)) (fun _ h9 => h9) rfl dX2_addStore_12 ?_
      refine lv_iload_n hx hb dX2_addStore_15 rfl (lv_at hl 3 rfl) ?_
      refine xaldq hx hb hK hP 2 1 rfl rfl i rfl (by omega) (by decide) dX2_addStore_16 ?_
      rcases Nat.lt_or_ge i nS with hi | hi
      · refine W.eq (g2 := F0 m 17 ls [.ref (ad (4 + i))]) (by rw [rS_lt hi]) ?_
        refine lv_ifnonnull (tgt := 37) hx hb dX2_addStore_17 (by decide) ?_
        refine lv_iinc (v := (nI (i + 1))) (lv' := [(3, .int (nI (i + 1))), (0, .ref (ad 0)), (1, .int p0), (2, .int p1)]) hx hb dX2_addStore_37 hl (k := 3) rfl ((nI_1 i)) (by decide) rfl (fun ls hl => ?_)
        refine lv_goto (tgt := 2) hx hb dX2_addStore_40 (by decide) ?_
        exact ih (i + 1)  _ _ _ (by omega) (by omega) hP hD hS (lv_sub hl [1, 2, 3, 0] rfl)
      · refine W.eq (g2 := F0 m 17 ls [.null]) (by rw [rS_ge hi]) ?_
        refine lv_ifnonnullN hx hb dX2_addStore_17 ?_
        exact absurd hi (by omega)
  exact loop 4 0  _ _ _ (by omega) (Nat.zero_le _) hP hD hS (lv_sub hl [1, 2, 3, 0] rfl)

set_option maxHeartbeats 4000000 in
set_option maxRecDepth 100000 in
/-- addBaker -/
theorem c_X2_addBaker (l : Launch) (D : va_G) (cy : Nat → ClassId) (ad : Nat → Nat) (nS nB : Nat) (st bk : Nat → Iu) (gate nu : Iu) (p0 p1 p2 p3 : Int32) (hroom : nB < 6) (hcS : nS ≤ 4) : xM l D cy yX2_addBaker wsX2_addBaker ({ frames := 2, cells := 1, slots := 8, locals := 40 } : Room) [.ref (ad 0), .int p0, .int p1, .int p2, .int p3] (tw cy ad nS nB st bk gate nu) (fun _ : Nat => some (.int (nI nB))) (fun _ => True) (fun q => tw cy (va_up ad (8 + nB) q) nS (nB + 1) st (va_up bk nB (newB p0 p1 p2 p3)) gate nu) := by
  refine xM.of cX2_addBaker 6 (some .int) RX2 (by decide +kernel) rfl rfl (Nat.le_of_ble_eq_true rfl) ?_
  intro p e s m below meth c A ls hx hb hr hts hown hlocks hml hin hK hA hP hD hS hl
  have hl : lv_has ls 6 [(0, .ref (ad 0)), (1, .int p0), (2, .int p1), (3, .int p2), (4, .int p3)] := hl
  have hinX0 : ∀ w ∈ wsX00, w ∈ wsX2_addBaker := fun _ h => List.mem_cons_of_mem _ (List.mem_append_right _ h)
  have hinX2 : ∀ w ∈ wsX20, w ∈ wsX2_addBaker := fun _ h => List.mem_cons_of_mem _ (List.mem_append_left _ (List.mem_append_right _ h))
  refine lv_iconst (v := 0) hx hb dX2_addBaker_0 (by decide) ?_
  refine lv_istore (lv' := [(5, .int 0), (0, .ref (ad 0)), (1, .int p0), (2, .int p1), (3, .int p2), (4, .int p3)]) hx hb dX2_addBaker_1 hl (by decide) rfl (fun ls hl => ?_)
  have loop : ∀ (n i : Nat)  (H : Heap) (locs : List Loc) (ls : Array Slot), i + n = 6 → (i ≤ nB) → va_P D vwCl (tw cy ad nS nB st bk gate nu) H → va_D A (tw cy ad nS nB st bk gate nu) → va_S A s.heap H locs → lv_has ls 6 [(0, .ref (ad 0)), (1, .int p0), (2, .int p1), (3, .int p2), (4, .int p3), (5, .int (nI i))] → W p l e ({ frames := 2, cells := 1, slots := 8, locals := 40 } : Room) s m ([.ref (ad 0), .int p0, .int p1, .int p2, .int p3] : List Value).toArray below meth c H locs 0 0 (MQ below (xQ D A (fun _ : Nat => some (.int (nI nB))) (fun _ => True) (fun q => tw cy (va_up ad (8 + nB) q) nS (nB + 1) st (va_up bk nB (newB p0 p1 p2 p3)) gate nu)) ([.ref (ad 0), .int p0, .int p1, .int p2, .int p3] : List Value).toArray s 1 8 A) (F0 m 3 ls []) := by
    intro n
    induction n with
    | zero =>
      intro i  H locs ls hns hinv hP hD hS hl
      have hii : i = 6 := by omega
      refine lv_iload hx hb dX2_addBaker_3 (lv_at hl 5 rfl) ?_
      refine lv_aload_n hx hb dX2_addBaker_5 rfl (lv_at hl 0 rfl) ?_
      refine va_get (D := D) (ci := 2) (v := .ref (ad 3)) (C := RX2) (T := TX2) (N := 9) hx hb hts hinX2 hown hK.1 hP 0 rfl rfl 2 (by decide) (hts (.fieldLink RX2 23 "LoafMarks$Town" "bakers" "[LLoafMarks$Baker;") (List.mem_of_getElem? (i := 1) rfl)) (fun _ h9 => h9) rfl dX2_addBaker_6 ?_
      refine va_alen hx hb hK.1 hP 3 2 rfl rfl (v := 6) rfl dX2_addBaker_9 ?_
      refine lv_icmp_ge (tgt := 51) hx hb dX2_addBaker_10 (by decide) (fun _ => ?_) (fun h => absurd (by rw [hii]; exact Int32.le_refl _) h)
      exact absurd hinv (by omega)
    | succ n ih =>
      intro i  H locs ls hns hinv hP hD hS hl
      have hlt : i < 6 := by omega
      refine lv_iload hx hb dX2_addBaker_3 (lv_at hl 5 rfl) ?_
      refine lv_aload_n hx hb dX2_addBaker_5 rfl (lv_at hl 0 rfl) ?_
      refine va_get (D := D) (ci := 2) (v := .ref (ad 3)) (C := RX2) (T := TX2) (N := 9) hx hb hts hinX2 hown hK.1 hP 0 rfl rfl 2 (by decide) (hts (.fieldLink RX2 23 "LoafMarks$Town" "bakers" "[LLoafMarks$Baker;") (List.mem_of_getElem? (i := 1) rfl)) (fun _ h9 => h9) rfl dX2_addBaker_6 ?_
      refine va_alen hx hb hK.1 hP 3 2 rfl rfl (v := 6) rfl dX2_addBaker_9 ?_
      refine lv_icmp_ge (tgt := 51) hx hb dX2_addBaker_10 (by decide) (fun h => absurd h (nI_ge (b := 6) hlt (by omega))) (fun _ => ?_)
      refine lv_aload_n hx hb dX2_addBaker_13 rfl (lv_at hl 0 rfl) ?_
      refine va_get (D := D) (ci := 2) (v := .ref (ad 3)) (C := RX2) (T := TX2) (N := 9) hx hb hts hinX2 hown hK.1 hP 0 rfl rfl 2 (by decide) (hts (.fieldLink RX2 23 "LoafMarks$Town" "bakers" "[LLoafMarks$Baker;") (List.mem_of_getElem? (i := 1) rfl)) (fun _ h9 => h9) rfl dX2_addBaker_14 ?_
      refine lv_iload hx hb dX2_addBaker_17 (lv_at hl 5 rfl) ?_
      refine xaldq hx hb hK hP 3 2 rfl rfl i rfl (by omega) (by decide) dX2_addBaker_19 ?_
      rcases Nat.lt_or_ge i nB with hi | hi
      · refine W.eq (g2 := F0 m 20 ls [.ref (ad (8 + i))]) (by rw [rB_lt hi]) ?_
        refine lv_ifnonnull (tgt := 45) hx hb dX2_addBaker_20 (by decide) ?_
        refine lv_iinc (v := (nI (i + 1))) (lv' := [(5, .int (nI (i + 1))), (0, .ref (ad 0)), (1, .int p0), (2, .int p1), (3, .int p2), (4, .int p3)]) hx hb dX2_addBaker_45 hl (k := 5) rfl ((nI_1 i)) (by decide) rfl (fun ls hl => ?_)
        refine lv_goto (tgt := 3) hx hb dX2_addBaker_48 (by decide) ?_
        exact ih (i + 1)  _ _ _ (by omega) (by omega) hP hD hS (lv_sub hl [1, 2, 3, 4, 5, 0] rfl)
      · refine W.eq (g2 := F0 m 20 ls [.null]) (by rw [rB_ge hi]) ?_
        refine lv_ifnonnullN hx hb dX2_addBaker_20 ?_
        have hin0 : nB = i := by omega
        subst hin0
        refine lv_aload_n hx hb dX2_addBaker_23 rfl (lv_at hl 0 rfl) ?_
        refine va_get (D := D) (ci := 2) (v := .ref (ad 3)) (C := RX2) (T := TX2) (N := 9) hx hb hts hinX2 hown hK.1 hP 0 rfl rfl 2 (by decide) (hts (.fieldLink RX2 23 "LoafMarks$Town" "bakers" "[LLoafMarks$Baker;") (List.mem_of_getElem? (i := 1) rfl)) (fun _ h9 => h9) rfl dX2_addBaker_24 ?_
        refine lv_iload hx hb dX2_addBaker_27 (lv_at hl 5 rfl) ?_
        refine va_new (ci := 0) (fs := [.int 0, .int 0, .int 0, .int 0, .int 0, .int 0, .int 0, .int 0]) (C := RX0) (T := TX0) (N := 8) hx hb hts hinX0 tyX0 tyX0_ok hown (hts (.classLink RX2 21 RX0) (List.mem_of_getElem? (i := 2) rfl)) (hts (.instantiable RX0 8) (List.mem_of_getElem? (i := 3) rfl)) (hts (.initialized RX0) (List.mem_of_getElem? (i := 4) rfl)) hK.1 hP hD hS hA rfl (fun j hj => by rcases (show j = 0 ∨ j = 1 ∨ j = 2 ∨ j = 3 ∨ j = 4 ∨ j = 5 ∨ j = 6 ∨ j = 7 by omega) with rfl | rfl | rfl | rfl | rfl | rfl | rfl | rfl <;> rfl) (Nat.le_of_ble_eq_true rfl) (Nat.le_of_ble_eq_true rfl) dX2_addBaker_29 (fun q29 H hP hD hS => ?_)
        have hP : va_P D vwCl ((tw cy ad nS nB st bk gate nu) ++ [(q29, cBk (fun _ => 0))]) H := hP
        have hD : va_D A ((tw cy ad nS nB st bk gate nu) ++ [(q29, cBk (fun _ => 0))]) := hD
        refine lv_dup hx hb dX2_addBaker_32 rfl ?_
        refine lv_iload_n hx hb dX2_addBaker_33 rfl (lv_at hl 1 rfl) ?_
        refine lv_iload_n hx hb dX2_addBaker_34 rfl (lv_at hl 2 rfl) ?_
        refine lv_iload_n hx hb dX2_addBaker_35 rfl (lv_at hl 3 rfl) ?_
        refine lv_iload hx hb dX2_addBaker_36 (lv_at hl 4 rfl) ?_
        refine xcI (As := [.int p0, .int p1, .int p2, .int p3]) (rest := [.ref q29, .int (nI nB), .ref (ad 3)]) ⟨hx, hb, hml, hown, hts⟩ (c_X0_init l D cy q29 p0 p1 p2 p3) (cwI 4 hts gX2_addBaker_X0_init rfl rfl rfl (hts (.initialized RX0) (List.mem_of_getElem? (i := 4) rfl)) (hts (.methodLink RX2 72 yX0_init) (List.mem_of_getElem? (i := 5) rfl)) (hts (.instanceMethod yX0_init) (List.mem_of_getElem? (i := 6) rfl)) rfl (by decide +kernel) ⟨Nat.le_of_ble_eq_true rfl, Nat.le_of_ble_eq_true rfl⟩) hK hP hD hS hA (xE_r) rfl hl.1 rfl (Nat.le_of_ble_eq_true rfl) dX2_addBaker_38 ⟨Nat.le_of_ble_eq_true rfl, Nat.le_of_ble_eq_true rfl⟩ (fun _ H locs _ hP hD hS => ?_)
        have hP : va_P D vwCl ((tw cy ad nS nB st bk gate nu) ++ [(q29, cBk (newB p0 p1 p2 p3))]) H := hP
        have hD : va_D A ((tw cy ad nS nB st bk gate nu) ++ [(q29, cBk (newB p0 p1 p2 p3))]) := hD
        refine W.eq (g2 := F0 m 41 ls [.ref q29, .int (nI nB), .ref (ad 3)]) rfl ?_
        refine xastq hx hb hK hP hD hS 3 2 (tw cy ad nS nB st bk gate nu).length 0 rfl rfl last_at rfl nB rfl (by omega) (by decide) dX2_addBaker_41 (fun H locs hP hD hS => ?_)
        have hP := xP_perm (tw_push_bk hcS) hP
        have hD := xD_perm (tw_push_bk hcS) hD
        refine lv_iload hx hb dX2_addBaker_42 (lv_at hl 5 rfl) ?_
        exact xri q29 hx hb hr hlocks hS (Nat.le_of_ble_eq_true rfl) (Nat.le_of_ble_eq_true rfl) dX2_addBaker_44 hP hD rfl trivial
  exact loop 6 0  _ _ _ (by omega) (Nat.zero_le _) hP hD hS (lv_sub hl [1, 2, 3, 4, 5, 0] rfl)

set_option maxHeartbeats 4000000 in
set_option maxRecDepth 100000 in
/-- addBaker, none free -/
theorem c_X2_addBaker_full (l : Launch) (D : va_G) (cy : Nat → ClassId) (ad : Nat → Nat) (nS nB : Nat) (st bk : Nat → Iu) (gate nu : Iu) (p0 p1 p2 p3 : Int32) (hfull : nB = 6) : xM l D cy yX2_addBaker wsX2_addBaker ({ frames := 2, cells := 1, slots := 8, locals := 40 } : Room) [.ref (ad 0), .int p0, .int p1, .int p2, .int p3] (tw cy ad nS nB st bk gate nu) (fun _ : Unit => some (.int (-1))) (fun _ => True) (fun _ => tw cy ad nS nB st bk gate nu) := by
  refine xM.of cX2_addBaker 6 (some .int) RX2 (by decide +kernel) rfl rfl (Nat.le_of_ble_eq_true rfl) ?_
  intro p e s m below meth c A ls hx hb hr hts hown hlocks hml hin hK hA hP hD hS hl
  have hl : lv_has ls 6 [(0, .ref (ad 0)), (1, .int p0), (2, .int p1), (3, .int p2), (4, .int p3)] := hl
  have hinX2 : ∀ w ∈ wsX20, w ∈ wsX2_addBaker := fun _ h => List.mem_cons_of_mem _ (List.mem_append_left _ (List.mem_append_right _ h))
  refine lv_iconst (v := 0) hx hb dX2_addBaker_0 (by decide) ?_
  refine lv_istore (lv' := [(5, .int 0), (0, .ref (ad 0)), (1, .int p0), (2, .int p1), (3, .int p2), (4, .int p3)]) hx hb dX2_addBaker_1 hl (by decide) rfl (fun ls hl => ?_)
  have loop : ∀ (n i : Nat)  (H : Heap) (locs : List Loc) (ls : Array Slot), i + n = 6 → (i ≤ nB) → va_P D vwCl (tw cy ad nS nB st bk gate nu) H → va_D A (tw cy ad nS nB st bk gate nu) → va_S A s.heap H locs → lv_has ls 6 [(0, .ref (ad 0)), (1, .int p0), (2, .int p1), (3, .int p2), (4, .int p3), (5, .int (nI i))] → W p l e ({ frames := 2, cells := 1, slots := 8, locals := 40 } : Room) s m ([.ref (ad 0), .int p0, .int p1, .int p2, .int p3] : List Value).toArray below meth c H locs 0 0 (MQ below (xQ D A (fun _ : Unit => some (.int (-1))) (fun _ => True) (fun _ => tw cy ad nS nB st bk gate nu)) ([.ref (ad 0), .int p0, .int p1, .int p2, .int p3] : List Value).toArray s 1 8 A) (F0 m 3 ls []) := by
    intro n
    induction n with
    | zero =>
      intro i  H locs ls hns hinv hP hD hS hl
      have hii : i = 6 := by omega
      refine lv_iload hx hb dX2_addBaker_3 (lv_at hl 5 rfl) ?_
      refine lv_aload_n hx hb dX2_addBaker_5 rfl (lv_at hl 0 rfl) ?_
      refine va_get (D := D) (ci := 2) (v := .ref (ad 3)) (C := RX2) (T := TX2) (N := 9) hx hb hts hinX2 hown hK.1 hP 0 rfl rfl 2 (by decide) (hts (.fieldLink RX2 23 "LoafMarks$Town" "bakers" "[LLoafMarks$Baker;") (List.mem_of_getElem? (i := 1) rfl)) (fun _ h9 => h9) rfl dX2_addBaker_6 ?_
      refine va_alen hx hb hK.1 hP 3 2 rfl rfl (v := 6) rfl dX2_addBaker_9 ?_
      refine lv_icmp_ge (tgt := 51) hx hb dX2_addBaker_10 (by decide) (fun _ => ?_) (fun h => absurd (by rw [hii]; exact Int32.le_refl _) h)
      refine lv_iconst (v := (-1)) hx hb dX2_addBaker_51 (by decide) ?_
      exact xri () hx hb hr hlocks hS (Nat.le_of_ble_eq_true rfl) (Nat.le_of_ble_eq_true rfl) dX2_addBaker_52 hP hD rfl trivial
    | succ n ih =>
      intro i  H locs ls hns hinv hP hD hS hl
      have hlt : i < 6 := by omega
      refine lv_iload hx hb dX2_addBaker_3 (lv_at hl 5 rfl) ?_
      refine lv_aload_n hx hb dX2_addBaker_5 rfl (lv_at hl 0 rfl) ?_
      refine va_get (D := D) (ci := 2) (v := .ref (ad 3)) (C := RX2) (T := TX2) (N := 9) hx hb hts hinX2 hown hK.1 hP 0 rfl rfl 2 (by decide) (hts (.fieldLink RX2 23 "LoafMarks$Town" "bakers" "[LLoafMarks$Baker;") (List.mem_of_getElem? (i := 1) rfl)) (fun _ h9 => h9) rfl dX2_addBaker_6 ?_
      refine va_alen hx hb hK.1 hP 3 2 rfl rfl (v := 6) rfl dX2_addBaker_9 ?_
      refine lv_icmp_ge (tgt := 51) hx hb dX2_addBaker_10 (by decide) (fun h => absurd h (nI_ge (b := 6) hlt (by omega))) (fun _ => ?_)
      refine lv_aload_n hx hb dX2_addBaker_13 rfl (lv_at hl 0 rfl) ?_
      refine va_get (D := D) (ci := 2) (v := .ref (ad 3)) (C := RX2) (T := TX2) (N := 9) hx hb hts hinX2 hown hK.1 hP 0 rfl rfl 2 (by decide) (hts (.fieldLink RX2 23 "LoafMarks$Town" "bakers" "[LLoafMarks$Baker;") (List.mem_of_getElem? (i := 1) rfl)) (fun _ h9 => h9) rfl dX2_addBaker_14 ?_
      refine lv_iload hx hb dX2_addBaker_17 (lv_at hl 5 rfl) ?_
      refine xaldq hx hb hK hP 3 2 rfl rfl i rfl (by omega) (by decide) dX2_addBaker_19 ?_
      rcases Nat.lt_or_ge i nB with hi | hi
      · refine W.eq (g2 := F0 m 20 ls [.ref (ad (8 + i))]) (by rw [rB_lt hi]) ?_
        refine lv_ifnonnull (tgt := 45) hx hb dX2_addBaker_20 (by decide) ?_
        refine lv_iinc (v := (nI (i + 1))) (lv' := [(5, .int (nI (i + 1))), (0, .ref (ad 0)), (1, .int p0), (2, .int p1), (3, .int p2), (4, .int p3)]) hx hb dX2_addBaker_45 hl (k := 5) rfl ((nI_1 i)) (by decide) rfl (fun ls hl => ?_)
        refine lv_goto (tgt := 3) hx hb dX2_addBaker_48 (by decide) ?_
        exact ih (i + 1)  _ _ _ (by omega) (by omega) hP hD hS (lv_sub hl [1, 2, 3, 4, 5, 0] rfl)
      · refine W.eq (g2 := F0 m 20 ls [.null]) (by rw [rB_ge hi]) ?_
        refine lv_ifnonnullN hx hb dX2_addBaker_20 ?_
        exact absurd hi (by omega)
  exact loop 6 0  _ _ _ (by omega) (Nat.zero_le _) hP hD hS (lv_sub hl [1, 2, 3, 4, 5, 0] rfl)
