/-! ===== the town: what an hour does (laid by gen12.py) ===== -/
theorem xM.ofF {S : Type} {l : Launch} {D : va_G} {cy : Nat → ClassId} {y : MethodName} {wd wd' : List Cond} {rm : Room} {av : List Value} {w0 : va_W} {rv : S → Option Value} {P : S → Prop} {w1 : S → va_W} (cc : ByteArray) (maxL : Nat) (ret : Option FieldType) (own : String)
    (hy : plainFor y = true) (ho : y.cls = own) (hw : wd = .code y cc maxL ret :: wd') (hlen : (lg_sl av).length ≤ maxL)
    (body : ∀ (p : Program) (e : Env) (s : State) (m : MethodId) (below : List Frame) (meth : Method) (c : Code) (A : Nat → Prop) (ls : Array Slot), p.tables.exec = Jvm.exec → c.code = cc → meth.sig.returnType = ret → (∀ w ∈ wd, w.before av.toArray s = true) → s.vm.findClass own = some m.cls → meth.locks = false → c.maxLocals = maxL → meth.name = y.name → XK D cy s →
      (∀ q : Nat, s.heap.size ≤ q → A q) → va_P D vwCl w0 s.heap → va_D A w0 → va_S A s.heap s.heap [] → lv_has ls maxL (lv_args 0 av) →
      W p l e rm s m av.toArray below meth c s.heap [] 0 0 (MQ below (xQ D A rv P w1) av.toArray s rm.cells rm.slots A) (F0 m 0 ls [])) : xM l D cy y wd rm av w0 rv P w1 := by
  intro sz
  refine va_MetF (cc := cc) (maxL := maxL) (ret := ret) hy hw ?_
  intro p e s m args below meth c s₁ B hml hv
  obtain ⟨rfl, hsz, hP, hK, hD0⟩ := hv
  subst hsz
  have hts := atoms_spec (ws := wd) B.pre
  have hl := lv_entry av hlen
  rw [lg_entry_eq]
  exact body p e s m below meth c (va_A w0 s.heap.size) _ B.exec B.bytes B.returns hts (by rw [← ho]; exact findClass_of_methodNamed B.named) B.notSynchronized hml (name_of_methodNamed B.named B.method).1 hK (fun q h => Or.inr h) hP hD0.self va_S.rf hl
theorem nI_xor (a b : Nat) : nI a ^^^ nI b = nI (a ^^^ b) := by
  apply Int32.toBitVec_inj.mp
  rw [Int32.toBitVec_xor]
  show BitVec.ofNat 32 a ^^^ BitVec.ofNat 32 b = BitVec.ofNat 32 (a ^^^ b)
  apply BitVec.eq_of_toNat_eq
  simp only [BitVec.toNat_xor, BitVec.toNat_ofNat]
  exact (Nat.xor_mod_two_pow).symm
theorem nI_xor24 {a : Nat} (h : a < 2 ^ 31) : (0 : Int32) ≤ nI a ^^^ 24 := by
  rw [show (24 : Int32) = nI 24 from rfl, nI_xor]
  exact nI_pos' (Nat.xor_lt_two_pow h (by decide))
theorem emp_lt {st : Nat → Iu} : ∀ {n : Nat}, 0 < n → emp st n < n
  | 0, h => absurd h (Nat.lt_irrefl 0)
  | n + 1, _ => by
    show (if n = 0 then 0 else if st n 0 < st (emp st n) 0 then n else emp st n) < n + 1
    split
    · omega
    · split
      · omega
      · have := emp_lt (st := st) (n := n) (by omega); omega
theorem upd_ne {f : Iu} {k j : Nat} {x : Int32} (h : j ≠ k) : upd f k x j = f j := if_neg h
theorem upd_at {f : Iu} {k : Nat} {x : Int32} : upd f k x k = x := if_pos rfl
theorem dlN_0 (u : T2) (j : Nat) : ∀ n, (dlN u n).2 j 0 = u.2 j 0
  | 0 => rfl
  | n + 1 => by
    show (dlStep (dlN u n) n _).2 j 0 = _
    unfold dlStep
    split
    · show va_up (dlN u n).2 n _ j 0 = _
      by_cases h : j = n
      · subst h; rw [up_at, upd_ne (by decide)]; exact dlN_0 u j j
      · rw [up_ne h]; exact dlN_0 u j n
    · exact dlN_0 u j n
theorem bBake_ne (b : Iu) {k : Nat} (h3 : k ≠ 3) (h5 : k ≠ 5) : bBake b k = b k := by
  unfold bBake
  split
  · rw [upd_ne h5, upd_ne h3]
  · rfl
theorem bakeN_ne (bk : Nat → Iu) (j : Nat) {k : Nat} (h3 : k ≠ 3) (h5 : k ≠ 5) : ∀ n, bakeN bk n j k = bk j k
  | 0 => rfl
  | n + 1 => by
    show va_up (bakeN bk n) n _ j k = _
    by_cases h : j = n
    · subst h; rw [up_at, bBake_ne _ h3 h5]; exact bakeN_ne bk j h3 h5 j
    · rw [up_ne h]; exact bakeN_ne bk j h3 h5 n
theorem slN_ne (u : TL) (j : Nat) {k : Nat} (h5 : k ≠ 5) (h6 : k ≠ 6) : ∀ n, (slN u n).2.1 j k = u.2.1 j k
  | 0 => rfl
  | n + 1 => by
    show va_up (slN u n).2.1 n _ j k = _
    by_cases h : j = n
    · subst h; rw [up_at]; unfold bSell; rw [upd_ne h6, upd_ne h5]; exact slN_ne u j h5 h6 j
    · rw [up_ne h]; exact slN_ne u j h5 h6 n
theorem slN_nu (u : TL) {k : Nat} (h2 : k ≠ 2) (h3 : k ≠ 3) : ∀ n, (slN u n).2.2 k = u.2.2 k
  | 0 => rfl
  | n + 1 => by
    show (slStep (slN u n) n).2.2 k = _
    unfold slStep
    show (if _ then _ else _ : Iu) k = _
    split
    · rw [upd_ne h3, upd_ne h2]; exact slN_nu u h2 h3 n
    · rw [upd_ne h2]; exact slN_nu u h2 h3 n
theorem hCart_bk (nS : Nat) (x : Int32) (u : TS) : (hCart nS x u).2.1 = u.2.1 := by unfold hCart; split <;> rfl
theorem hCart_nu (nS : Nat) (x : Int32) (u : TS) {k : Nat} (h : k ≠ 5) : (hCart nS x u).2.2 k = u.2.2 k := by
  unfold hCart
  split
  · rfl
  · exact upd_ne h
theorem hMorn_0 (nS nB k : Nat) (gate : Iu) (u : TS) (j : Nat) : (hMorn nS nB k gate u).2.1 j 0 = u.2.1 j 0 := by
  unfold hMorn hBake
  show bakeN _ nB j 0 = _
  rw [bakeN_ne _ _ (by decide) (by decide)]
  split
  · show (dlN _ nB).2 j 0 = _
    rw [dlN_0]
    show (hCart nS (gate k) u).2.1 j 0 = _
    rw [hCart_bk]
  · rw [hCart_bk]
theorem hMorn_nu (nS nB k : Nat) (gate : Iu) (u : TS) {q : Nat} (h : q ≠ 5) : (hMorn nS nB k gate u).2.2 q = u.2.2 q := by
  unfold hMorn hBake
  show (if k = 0 then hNight nS nB (hCart nS (gate k) u) else hCart nS (gate k) u).2.2 q = _
  split
  · exact hCart_nu nS _ u h
  · exact hCart_nu nS _ u h
theorem hNoon_nu (nB : Nat) (u : TS) {q : Nat} (h : q ≠ 4) : (hNoon nB u).2.2 q = (slN (u.2.2 1, u.2.1, u.2.2) nB).2.2 q := by
  unfold hNoon
  exact upd_ne h
theorem hr_of (nS nB k : Nat) (gate : Iu) (u : TS) (j : Nat) : (hour1 nS nB k gate u).2.1 j 0 = u.2.1 j 0 := by
  unfold hour1 hTick hSale
  show (if k = 12 then hNoon nB (hMorn nS nB k gate u) else hMorn nS nB k gate u).2.1 j 0 = _
  split
  · show (slN _ nB).2.1 j 0 = _
    rw [slN_ne _ _ (by decide) (by decide)]
    exact hMorn_0 nS nB k gate u j
  · exact hMorn_0 nS nB k gate u j
theorem hr_hour (nS nB k : Nat) (gate : Iu) (u : TS) : (hour1 nS nB k gate u).2.2 0 = u.2.2 0 + 1 := by
  unfold hour1 hTick hSale
  show (if k = 12 then hNoon nB (hMorn nS nB k gate u) else hMorn nS nB k gate u).2.2 0 + 1 = _
  split
  · rw [hNoon_nu _ _ (by decide), slN_nu _ (by decide) (by decide)]
    show (hMorn nS nB k gate u).2.2 0 + 1 = _
    rw [hMorn_nu _ _ _ _ _ (by decide)]
  · rw [hMorn_nu _ _ _ _ _ (by decide)]
theorem hrs_of (nS nB h : Nat) (gate : Iu) (u : TS) (j : Nat) : ∀ n, (hrs nS nB h gate u n).2.1 j 0 = u.2.1 j 0
  | 0 => rfl
  | n + 1 => (hr_of _ _ _ _ _ j).trans (hrs_of nS nB h gate u j n)
theorem hrs_hour (nS nB h : Nat) (gate : Iu) (u : TS) (e : u.2.2 0 = nI h) : ∀ n, (hrs nS nB h gate u n).2.2 0 = nI (h + n)
  | 0 => e
  | n + 1 => (hr_hour _ _ _ _ _).trans (by rw [hrs_hour nS nB h gate u e n]; exact nI_1 _)
set_option maxHeartbeats 4000000 in
set_option maxRecDepth 100000 in
/-- floorMod of a number by 24 -/
theorem c_J9_floorMod (l : Launch) (D : va_G) (cy : Nat → ClassId) (a : Nat) (ha : a < 2 ^ 31) : xM l D cy yJ9_floorMod_7cf53 wsJ9_floorMod_7cf53 ({ frames := 0, cells := 0, slots := 0, locals := 0 } : Room) [.int (nI a), .int 24] (([] : va_W)) (fun _ : Unit => some (.int (nI (a % 24)))) (fun _ => True) (fun _ => ([] : va_W)) := by
  refine xM.ofF cJ9_floorMod_7cf53 3 (some .int) RJ9 (by decide +kernel) rfl rfl (Nat.le_of_ble_eq_true rfl) ?_
  intro p e s m below meth c A ls hx hb hr hts hown hlocks hml hin hK hA hP hD hS hl
  have hl : lv_has ls 3 [(0, .int (nI a)), (1, .int 24)] := hl
  refine lv_iload_n hx hb dJ9_floorMod_7cf53_0 rfl (lv_at hl 0 rfl) ?_
  refine lv_iload_n hx hb dJ9_floorMod_7cf53_1 rfl (lv_at hl 1 rfl) ?_
  refine lv_irem hx hb dJ9_floorMod_7cf53_2 (by decide) ?_
  refine lv_istore_n (lv' := [(2, .int ((nI a) - (nI a) / 24 * 24)), (0, .int (nI a)), (1, .int 24)]) hx hb dJ9_floorMod_7cf53_3 rfl hl (by decide) rfl (fun ls hl => ?_)
  refine lv_iload_n hx hb dJ9_floorMod_7cf53_4 rfl (lv_at hl 1 rfl) ?_
  refine lv_iload_n hx hb dJ9_floorMod_7cf53_5 rfl (lv_at hl 2 rfl) ?_
  refine lv_ixor hx hb dJ9_floorMod_7cf53_6 ?_
  refine lv_if_ge (tgt := 18) hx hb dJ9_floorMod_7cf53_7 (by decide) (fun _ => ?_) (fun h => absurd (nI_xor24 ha) h)
  refine lv_iload_n hx hb dJ9_floorMod_7cf53_18 rfl (lv_at hl 0 rfl) ?_
  exact xri () hx hb hr hlocks hS (Nat.le_of_ble_eq_true rfl) (Nat.le_of_ble_eq_true rfl) dJ9_floorMod_7cf53_19 hP hD (congrArg (fun z => some (Value.int z)) (pk_rem (d := 24) ha (by decide) (by decide)).symm) trivial

set_option maxHeartbeats 4000000 in
set_option maxRecDepth 100000 in
/-- hourOfDay -/
theorem c_X2_hourOfDay (l : Launch) (D : va_G) (cy : Nat → ClassId) (ad : Nat → Nat) (nS nB : Nat) (st bk : Nat → Iu) (gate nu : Iu) (h : Nat) (eh : nu 0 = nI h) (hh : h < 2 ^ 31) : xM l D cy yX2_hourOfDay wsX2_hourOfDay ({ frames := 1, cells := 0, slots := 0, locals := 30 } : Room) [.ref (ad 0)] (tw cy ad nS nB st bk gate nu) (fun _ : Unit => some (.int (nI (h % 24)))) (fun _ => True) (fun _ => tw cy ad nS nB st bk gate nu) := by
  refine xM.of cX2_hourOfDay 1 (some .int) RX2 (by decide +kernel) rfl rfl (Nat.le_of_ble_eq_true rfl) ?_
  intro p e s m below meth c A ls hx hb hr hts hown hlocks hml hin hK hA hP hD hS hl
  have hl : lv_has ls 1 [(0, .ref (ad 0))] := hl
  have hinX2 : ∀ w ∈ wsX20, w ∈ wsX2_hourOfDay := fun _ h => List.mem_cons_of_mem _ (List.mem_append_right _ h)
  refine lv_aload_n hx hb dX2_hourOfDay_0 rfl (lv_at hl 0 rfl) ?_
  refine va_get (D := D) (ci := 2) (v := .int (nu 0)) (C := RX2) (T := TX2) (N := 9) hx hb hts hinX2 hown hK.1 hP 0 rfl rfl 3 (by decide) (hts (.fieldLink RX2 31 "LoafMarks$Town" "hour" "I") (List.mem_of_getElem? (i := 1) rfl)) (fun _ h9 => h9) rfl dX2_hourOfDay_1 ?_
  refine W.eq (g2 := F0 m 4 ls [.int (nI h)]) (by rw [eh]) ?_
  refine lv_bipush (v := 24) hx hb dX2_hourOfDay_4 (by decide) ?_
  refine xcS (As := [.int (nI h), .int 24]) (rest := []) ⟨hx, hb, hml, hown, hts⟩ (c_J9_floorMod l D cy h (by omega)) (va_cwS 2 hts gX2_hourOfDay_J9_floorMod_7cf53 rfl rfl rfl (by decide +kernel) ⟨Nat.le_of_ble_eq_true rfl, Nat.le_of_ble_eq_true rfl⟩) hK hP hD hS hA (xE_nil) rfl hl.1 rfl (Nat.le_of_ble_eq_true rfl) dX2_hourOfDay_6 ⟨Nat.le_of_ble_eq_true rfl, Nat.le_of_ble_eq_true rfl⟩ (fun _ H locs _ hP hD hS => ?_)
  have hP : va_P D vwCl (tw cy ad nS nB st bk gate nu) H := hP
  have hD : va_D A (tw cy ad nS nB st bk gate nu) := hD
  refine W.eq (g2 := F0 m 9 ls [.int (nI (h % 24))]) rfl ?_
  exact xri () hx hb hr hlocks hS (Nat.le_of_ble_eq_true rfl) (Nat.le_of_ble_eq_true rfl) dX2_hourOfDay_9 hP hD rfl trivial

set_option maxHeartbeats 4000000 in
set_option maxRecDepth 100000 in
/-- feedAllWeevils -/
theorem c_X2_feedAllWeevils (l : Launch) (D : va_G) (cy : Nat → ClassId) (ad : Nat → Nat) (nS nB : Nat) (st bk : Nat → Iu) (gate nu : Iu) (hcap : nS ≤ 4) : xM l D cy yX2_feedAllWeevils wsX2_feedAllWeevils ({ frames := 3, cells := 0, slots := 0, locals := 80 } : Room) [.ref (ad 0)] (tw cy ad nS nB st bk gate nu) (fun _ : Unit => none) (fun _ => True) (fun _ => tw cy ad nS nB (feedN st nS) bk gate nu) := by
  refine xM.of cX2_feedAllWeevils 5 none RX2 (by decide +kernel) rfl rfl (Nat.le_of_ble_eq_true rfl) ?_
  intro p e s m below meth c A ls hx hb hr hts hown hlocks hml hin hK hA hP hD hS hl
  have hl : lv_has ls 5 [(0, .ref (ad 0))] := hl
  have hinX2 : ∀ w ∈ wsX20, w ∈ wsX2_feedAllWeevils := fun _ h => List.mem_cons_of_mem _ (List.mem_append_left _ (List.mem_append_right _ h))
  refine lv_aload_n hx hb dX2_feedAllWeevils_0 rfl (lv_at hl 0 rfl) ?_
  refine va_get (D := D) (ci := 2) (v := .ref (ad 2)) (C := RX2) (T := TX2) (N := 9) hx hb hts hinX2 hown hK.1 hP 0 rfl rfl 1 (by decide) (hts (.fieldLink RX2 17 "LoafMarks$Town" "stores" "[LLoafMarks$Store;") (List.mem_of_getElem? (i := 1) rfl)) (fun _ h9 => h9) rfl dX2_feedAllWeevils_1 ?_
  refine lv_astore_n (lv' := [(1, .ref (ad 2)), (0, .ref (ad 0))]) hx hb dX2_feedAllWeevils_4 rfl hl (by decide) rfl (fun ls hl => ?_)
  refine lv_aload_n hx hb dX2_feedAllWeevils_5 rfl (lv_at hl 0 rfl) ?_
  refine va_alen hx hb hK.1 hP 2 1 rfl rfl (v := 4) rfl dX2_feedAllWeevils_6 ?_
  refine lv_istore_n (lv' := [(2, .int 4), (1, .ref (ad 2)), (0, .ref (ad 0))]) hx hb dX2_feedAllWeevils_7 rfl hl (by decide) rfl (fun ls hl => ?_)
  refine lv_iconst (v := 0) hx hb dX2_feedAllWeevils_8 (by decide) ?_
  refine lv_istore_n (lv' := [(3, .int 0), (2, .int 4), (1, .ref (ad 2)), (0, .ref (ad 0))]) hx hb dX2_feedAllWeevils_9 rfl hl (by decide) rfl (fun ls hl => ?_)
  have loop : ∀ (n i : Nat) (z : Nat → Iu) (H : Heap) (locs : List Loc) (ls : Array Slot), i + n = 4 → (z = feedN st (min i nS)) → va_P D vwCl (tw cy ad nS nB z bk gate nu) H → va_D A (tw cy ad nS nB z bk gate nu) → va_S A s.heap H locs → lv_has ls 5 [(0, .ref (ad 0)), (1, .ref (ad 2)), (2, .int 4), (3, .int (nI i))] → W p l e ({ frames := 3, cells := 0, slots := 0, locals := 80 } : Room) s m ([.ref (ad 0)] : List Value).toArray below meth c H locs 0 0 (MQ below (xQ D A (fun _ : Unit => none) (fun _ => True) (fun _ => tw cy ad nS nB (feedN st nS) bk gate nu)) ([.ref (ad 0)] : List Value).toArray s 0 0 A) (F0 m 10 ls []) := by
    intro n
    induction n with
    | zero =>
      intro i z H locs ls hns hinv hP hD hS hl
      have hii : i = 4 := by omega
      refine lv_iload_n hx hb dX2_feedAllWeevils_10 rfl (lv_at hl 3 rfl) ?_
      refine lv_iload_n hx hb dX2_feedAllWeevils_11 rfl (lv_at hl 2 rfl) ?_
      refine lv_icmp_ge (tgt := 36) hx hb dX2_feedAllWeevils_12 (by decide) (fun _ => ?_) (fun h => absurd (by rw [hii]; exact Int32.le_refl _) h)
      have e : z = feedN st nS := by rw [hinv, hii, Nat.min_eq_right hcap]
      exact xrv () hx hb hr hlocks hS (Nat.le_of_ble_eq_true rfl) (Nat.le_of_ble_eq_true rfl) dX2_feedAllWeevils_36 (by rw [← e]; exact hP) (by rw [← e]; exact hD) rfl trivial
    | succ n ih =>
      intro i z H locs ls hns hinv hP hD hS hl
      have hlt : i < 4 := by omega
      refine lv_iload_n hx hb dX2_feedAllWeevils_10 rfl (lv_at hl 3 rfl) ?_
      refine lv_iload_n hx hb dX2_feedAllWeevils_11 rfl (lv_at hl 2 rfl) ?_
      refine lv_icmp_ge (tgt := 36) hx hb dX2_feedAllWeevils_12 (by decide) (fun h => absurd h (nI_ge (b := 4) hlt (by omega))) (fun _ => ?_)
      refine lv_aload_n hx hb dX2_feedAllWeevils_15 rfl (lv_at hl 1 rfl) ?_
      refine lv_iload_n hx hb dX2_feedAllWeevils_16 rfl (lv_at hl 3 rfl) ?_
      refine xaldq hx hb hK hP 2 1 rfl rfl i rfl (by omega) (by decide) dX2_feedAllWeevils_17 ?_
      rcases Nat.lt_or_ge i nS with hi | hi
      · refine W.eq (g2 := F0 m 18 ls [.ref (ad (4 + i))]) (by rw [rS_lt hi]) ?_
        refine lv_astore (lv' := [(4, .ref (ad (4 + i))), (0, .ref (ad 0)), (1, .ref (ad 2)), (2, .int 4), (3, .int (nI i))]) hx hb dX2_feedAllWeevils_18 hl (by decide) rfl (fun ls hl => ?_)
        refine lv_aload hx hb dX2_feedAllWeevils_20 (lv_at hl 0 rfl) ?_
        refine lv_ifnull hx hb dX2_feedAllWeevils_22 ?_
        refine lv_aload hx hb dX2_feedAllWeevils_25 (lv_at hl 0 rfl) ?_
        refine xcV (As := []) (rest := []) ⟨hx, hb, hml, hown, hts⟩ (c_X1_feedWeevils l D cy (ad (4 + i)) (z i) ) (cwV 0 hts gX2_feedAllWeevils_X1_feedWeevils rfl rfl rfl (by decide +kernel) ⟨Nat.le_of_ble_eq_true rfl, Nat.le_of_ble_eq_true rfl⟩) hK hP hD hS hA rfl rfl rfl (xE_st (sFeed (z i)) hi) rfl hl.1 rfl (Nat.le_of_ble_eq_true rfl) dX2_feedAllWeevils_27 ⟨Nat.le_of_ble_eq_true rfl, Nat.le_of_ble_eq_true rfl⟩ (fun _ H locs _ hP hD hS => ?_)
        have hP : va_P D vwCl (tw cy ad nS nB (va_up z i (sFeed (z i))) bk gate nu) H := hP
        have hD : va_D A (tw cy ad nS nB (va_up z i (sFeed (z i))) bk gate nu) := hD
        refine W.eq (g2 := F0 m 30 ls []) rfl ?_
        refine lv_iinc (v := (nI (i + 1))) (lv' := [(3, .int (nI (i + 1))), (4, .ref (ad (4 + i))), (0, .ref (ad 0)), (1, .ref (ad 2)), (2, .int 4)]) hx hb dX2_feedAllWeevils_30 hl (k := 4) rfl ((nI_1 i)) (by decide) rfl (fun ls hl => ?_)
        refine lv_goto (tgt := 10) hx hb dX2_feedAllWeevils_33 (by decide) ?_
        exact ih (i + 1) (va_up z i (sFeed (z i))) _ _ _ (by omega) (by rw [min_s hi, hinv, min_l hi]; rfl) hP hD hS (lv_sub hl [2, 3, 4, 0] rfl)
      · refine W.eq (g2 := F0 m 18 ls [.null]) (by rw [rS_ge hi]) ?_
        refine lv_astoreN (lv' := [(4, .null), (0, .ref (ad 0)), (1, .ref (ad 2)), (2, .int 4), (3, .int (nI i))]) hx hb dX2_feedAllWeevils_18 hl (by decide) rfl (fun ls hl => ?_)
        refine lv_aloadN hx hb dX2_feedAllWeevils_20 (lv_at hl 0 rfl) ?_
        refine lv_ifnullN (tgt := 30) hx hb dX2_feedAllWeevils_22 (by decide) ?_
        refine lv_iinc (v := (nI (i + 1))) (lv' := [(3, .int (nI (i + 1))), (4, .null), (0, .ref (ad 0)), (1, .ref (ad 2)), (2, .int 4)]) hx hb dX2_feedAllWeevils_30 hl (k := 4) rfl ((nI_1 i)) (by decide) rfl (fun ls hl => ?_)
        refine lv_goto (tgt := 10) hx hb dX2_feedAllWeevils_33 (by decide) ?_
        exact ih (i + 1) z _ _ _ (by omega) (by rw [min_g hi]; exact hinv) hP hD hS (lv_sub hl [2, 3, 4, 0] rfl)
  exact loop 4 0 st _ _ _ (by omega) (by rw [Nat.zero_min]; rfl) hP hD hS (lv_sub hl [3, 2, 1, 0] rfl)

set_option maxHeartbeats 4000000 in
set_option maxRecDepth 100000 in
/-- bakeAll -/
theorem c_X2_bakeAll (l : Launch) (D : va_G) (cy : Nat → ClassId) (ad : Nat → Nat) (nS nB : Nat) (st bk : Nat → Iu) (gate nu : Iu) (hcap : nB ≤ 6) : xM l D cy yX2_bakeAll wsX2_bakeAll ({ frames := 2, cells := 0, slots := 0, locals := 60 } : Room) [.ref (ad 0)] (tw cy ad nS nB st bk gate nu) (fun _ : Unit => none) (fun _ => True) (fun _ => tw cy ad nS nB st (bakeN bk nB) gate nu) := by
  refine xM.of cX2_bakeAll 5 none RX2 (by decide +kernel) rfl rfl (Nat.le_of_ble_eq_true rfl) ?_
  intro p e s m below meth c A ls hx hb hr hts hown hlocks hml hin hK hA hP hD hS hl
  have hl : lv_has ls 5 [(0, .ref (ad 0))] := hl
  have hinX2 : ∀ w ∈ wsX20, w ∈ wsX2_bakeAll := fun _ h => List.mem_cons_of_mem _ (List.mem_append_left _ (List.mem_append_right _ h))
  refine lv_aload_n hx hb dX2_bakeAll_0 rfl (lv_at hl 0 rfl) ?_
  refine va_get (D := D) (ci := 2) (v := .ref (ad 3)) (C := RX2) (T := TX2) (N := 9) hx hb hts hinX2 hown hK.1 hP 0 rfl rfl 2 (by decide) (hts (.fieldLink RX2 23 "LoafMarks$Town" "bakers" "[LLoafMarks$Baker;") (List.mem_of_getElem? (i := 1) rfl)) (fun _ h9 => h9) rfl dX2_bakeAll_1 ?_
  refine lv_astore_n (lv' := [(1, .ref (ad 3)), (0, .ref (ad 0))]) hx hb dX2_bakeAll_4 rfl hl (by decide) rfl (fun ls hl => ?_)
  refine lv_aload_n hx hb dX2_bakeAll_5 rfl (lv_at hl 0 rfl) ?_
  refine va_alen hx hb hK.1 hP 3 2 rfl rfl (v := 6) rfl dX2_bakeAll_6 ?_
  refine lv_istore_n (lv' := [(2, .int 6), (1, .ref (ad 3)), (0, .ref (ad 0))]) hx hb dX2_bakeAll_7 rfl hl (by decide) rfl (fun ls hl => ?_)
  refine lv_iconst (v := 0) hx hb dX2_bakeAll_8 (by decide) ?_
  refine lv_istore_n (lv' := [(3, .int 0), (2, .int 6), (1, .ref (ad 3)), (0, .ref (ad 0))]) hx hb dX2_bakeAll_9 rfl hl (by decide) rfl (fun ls hl => ?_)
  have loop : ∀ (n i : Nat) (z : Nat → Iu) (H : Heap) (locs : List Loc) (ls : Array Slot), i + n = 6 → (z = bakeN bk (min i nB)) → va_P D vwCl (tw cy ad nS nB st z gate nu) H → va_D A (tw cy ad nS nB st z gate nu) → va_S A s.heap H locs → lv_has ls 5 [(0, .ref (ad 0)), (1, .ref (ad 3)), (2, .int 6), (3, .int (nI i))] → W p l e ({ frames := 2, cells := 0, slots := 0, locals := 60 } : Room) s m ([.ref (ad 0)] : List Value).toArray below meth c H locs 0 0 (MQ below (xQ D A (fun _ : Unit => none) (fun _ => True) (fun _ => tw cy ad nS nB st (bakeN bk nB) gate nu)) ([.ref (ad 0)] : List Value).toArray s 0 0 A) (F0 m 10 ls []) := by
    intro n
    induction n with
    | zero =>
      intro i z H locs ls hns hinv hP hD hS hl
      have hii : i = 6 := by omega
      refine lv_iload_n hx hb dX2_bakeAll_10 rfl (lv_at hl 3 rfl) ?_
      refine lv_iload_n hx hb dX2_bakeAll_11 rfl (lv_at hl 2 rfl) ?_
      refine lv_icmp_ge (tgt := 36) hx hb dX2_bakeAll_12 (by decide) (fun _ => ?_) (fun h => absurd (by rw [hii]; exact Int32.le_refl _) h)
      have e : z = bakeN bk nB := by rw [hinv, hii, Nat.min_eq_right hcap]
      exact xrv () hx hb hr hlocks hS (Nat.le_of_ble_eq_true rfl) (Nat.le_of_ble_eq_true rfl) dX2_bakeAll_36 (by rw [← e]; exact hP) (by rw [← e]; exact hD) rfl trivial
    | succ n ih =>
      intro i z H locs ls hns hinv hP hD hS hl
      have hlt : i < 6 := by omega
      refine lv_iload_n hx hb dX2_bakeAll_10 rfl (lv_at hl 3 rfl) ?_
      refine lv_iload_n hx hb dX2_bakeAll_11 rfl (lv_at hl 2 rfl) ?_
      refine lv_icmp_ge (tgt := 36) hx hb dX2_bakeAll_12 (by decide) (fun h => absurd h (nI_ge (b := 6) hlt (by omega))) (fun _ => ?_)
      refine lv_aload_n hx hb dX2_bakeAll_15 rfl (lv_at hl 1 rfl) ?_
      refine lv_iload_n hx hb dX2_bakeAll_16 rfl (lv_at hl 3 rfl) ?_
      refine xaldq hx hb hK hP 3 2 rfl rfl i rfl (by omega) (by decide) dX2_bakeAll_17 ?_
      rcases Nat.lt_or_ge i nB with hi | hi
      · refine W.eq (g2 := F0 m 18 ls [.ref (ad (8 + i))]) (by rw [rB_lt hi]) ?_
        refine lv_astore (lv' := [(4, .ref (ad (8 + i))), (0, .ref (ad 0)), (1, .ref (ad 3)), (2, .int 6), (3, .int (nI i))]) hx hb dX2_bakeAll_18 hl (by decide) rfl (fun ls hl => ?_)
        refine lv_aload hx hb dX2_bakeAll_20 (lv_at hl 0 rfl) ?_
        refine lv_ifnull hx hb dX2_bakeAll_22 ?_
        refine lv_aload hx hb dX2_bakeAll_25 (lv_at hl 0 rfl) ?_
        refine xcV (As := []) (rest := []) ⟨hx, hb, hml, hown, hts⟩ (c_X0_bake l D cy (ad (8 + i)) (z i) ) (cwV 0 hts gX2_bakeAll_X0_bake rfl rfl rfl (by decide +kernel) ⟨Nat.le_of_ble_eq_true rfl, Nat.le_of_ble_eq_true rfl⟩) hK hP hD hS hA rfl rfl rfl (xE_bk (bBake (z i)) hi) rfl hl.1 rfl (Nat.le_of_ble_eq_true rfl) dX2_bakeAll_27 ⟨Nat.le_of_ble_eq_true rfl, Nat.le_of_ble_eq_true rfl⟩ (fun _ H locs _ hP hD hS => ?_)
        have hP : va_P D vwCl (tw cy ad nS nB st (va_up z i (bBake (z i))) gate nu) H := hP
        have hD : va_D A (tw cy ad nS nB st (va_up z i (bBake (z i))) gate nu) := hD
        refine W.eq (g2 := F0 m 30 ls []) rfl ?_
        refine lv_iinc (v := (nI (i + 1))) (lv' := [(3, .int (nI (i + 1))), (4, .ref (ad (8 + i))), (0, .ref (ad 0)), (1, .ref (ad 3)), (2, .int 6)]) hx hb dX2_bakeAll_30 hl (k := 4) rfl ((nI_1 i)) (by decide) rfl (fun ls hl => ?_)
        refine lv_goto (tgt := 10) hx hb dX2_bakeAll_33 (by decide) ?_
        exact ih (i + 1) (va_up z i (bBake (z i))) _ _ _ (by omega) (by rw [min_s hi, hinv, min_l hi]; rfl) hP hD hS (lv_sub hl [2, 3, 4, 0] rfl)
      · refine W.eq (g2 := F0 m 18 ls [.null]) (by rw [rB_ge hi]) ?_
        refine lv_astoreN (lv' := [(4, .null), (0, .ref (ad 0)), (1, .ref (ad 3)), (2, .int 6), (3, .int (nI i))]) hx hb dX2_bakeAll_18 hl (by decide) rfl (fun ls hl => ?_)
        refine lv_aloadN hx hb dX2_bakeAll_20 (lv_at hl 0 rfl) ?_
        refine lv_ifnullN (tgt := 30) hx hb dX2_bakeAll_22 (by decide) ?_
        refine lv_iinc (v := (nI (i + 1))) (lv' := [(3, .int (nI (i + 1))), (4, .null), (0, .ref (ad 0)), (1, .ref (ad 3)), (2, .int 6)]) hx hb dX2_bakeAll_30 hl (k := 4) rfl ((nI_1 i)) (by decide) rfl (fun ls hl => ?_)
        refine lv_goto (tgt := 10) hx hb dX2_bakeAll_33 (by decide) ?_
        exact ih (i + 1) z _ _ _ (by omega) (by rw [min_g hi]; exact hinv) hP hD hS (lv_sub hl [2, 3, 4, 0] rfl)
  exact loop 6 0 bk _ _ _ (by omega) (by rw [Nat.zero_min]; rfl) hP hD hS (lv_sub hl [3, 2, 1, 0] rfl)

set_option maxHeartbeats 4000000 in
set_option maxRecDepth 100000 in
/-- dealRations -/
theorem c_X2_dealRations (l : Launch) (D : va_G) (cy : Nat → ClassId) (ad : Nat → Nat) (nS nB : Nat) (st bk : Nat → Iu) (gate nu : Iu) (hcS : nS ≤ 4) (hcB : nB ≤ 6) (hof : ∀ j, j < nB → ∃ i, i < nS ∧ bk j 0 = nI i) : xM l D cy yX2_dealRations wsX2_dealRations ({ frames := 2, cells := 0, slots := 0, locals := 60 } : Room) [.ref (ad 0)] (tw cy ad nS nB st bk gate nu) (fun _ : Unit => none) (fun _ => True) (fun _ => tw cy ad nS nB (dlN (st, bk) nB).1 (dlN (st, bk) nB).2 gate nu) := by
  refine xM.of cX2_dealRations 6 none RX2 (by decide +kernel) rfl rfl (Nat.le_of_ble_eq_true rfl) ?_
  intro p e s m below meth c A ls hx hb hr hts hown hlocks hml hin hK hA hP hD hS hl
  have hl : lv_has ls 6 [(0, .ref (ad 0))] := hl
  have hinX0 : ∀ w ∈ wsX00, w ∈ wsX2_dealRations := fun _ h => List.mem_cons_of_mem _ (List.mem_append_left _ (List.mem_append_right _ h))
  have hinX2 : ∀ w ∈ wsX20, w ∈ wsX2_dealRations := fun _ h => List.mem_cons_of_mem _ (List.mem_append_left _ (List.mem_append_left _ (List.mem_append_right _ h)))
  refine lv_aload_n hx hb dX2_dealRations_0 rfl (lv_at hl 0 rfl) ?_
  refine va_get (D := D) (ci := 2) (v := .ref (ad 3)) (C := RX2) (T := TX2) (N := 9) hx hb hts hinX2 hown hK.1 hP 0 rfl rfl 2 (by decide) (hts (.fieldLink RX2 23 "LoafMarks$Town" "bakers" "[LLoafMarks$Baker;") (List.mem_of_getElem? (i := 1) rfl)) (fun _ h9 => h9) rfl dX2_dealRations_1 ?_
  refine lv_astore_n (lv' := [(1, .ref (ad 3)), (0, .ref (ad 0))]) hx hb dX2_dealRations_4 rfl hl (by decide) rfl (fun ls hl => ?_)
  refine lv_aload_n hx hb dX2_dealRations_5 rfl (lv_at hl 0 rfl) ?_
  refine va_alen hx hb hK.1 hP 3 2 rfl rfl (v := 6) rfl dX2_dealRations_6 ?_
  refine lv_istore_n (lv' := [(2, .int 6), (1, .ref (ad 3)), (0, .ref (ad 0))]) hx hb dX2_dealRations_7 rfl hl (by decide) rfl (fun ls hl => ?_)
  refine lv_iconst (v := 0) hx hb dX2_dealRations_8 (by decide) ?_
  refine lv_istore_n (lv' := [(3, .int 0), (2, .int 6), (1, .ref (ad 3)), (0, .ref (ad 0))]) hx hb dX2_dealRations_9 rfl hl (by decide) rfl (fun ls hl => ?_)
  have loop : ∀ (n i : Nat) (u : T2) (H : Heap) (locs : List Loc) (ls : Array Slot), i + n = 6 → (u = dlN (st, bk) (min i nB)) → va_P D vwCl (tw cy ad nS nB u.1 u.2 gate nu) H → va_D A (tw cy ad nS nB u.1 u.2 gate nu) → va_S A s.heap H locs → lv_has ls 6 [(0, .ref (ad 0)), (1, .ref (ad 3)), (2, .int 6), (3, .int (nI i))] → W p l e ({ frames := 2, cells := 0, slots := 0, locals := 60 } : Room) s m ([.ref (ad 0)] : List Value).toArray below meth c H locs 0 0 (MQ below (xQ D A (fun _ : Unit => none) (fun _ => True) (fun _ => tw cy ad nS nB (dlN (st, bk) nB).1 (dlN (st, bk) nB).2 gate nu)) ([.ref (ad 0)] : List Value).toArray s 0 0 A) (F0 m 10 ls []) := by
    intro n
    induction n with
    | zero =>
      intro i u H locs ls hns hinv hP hD hS hl
      have hii : i = 6 := by omega
      refine lv_iload_n hx hb dX2_dealRations_10 rfl (lv_at hl 3 rfl) ?_
      refine lv_iload_n hx hb dX2_dealRations_11 rfl (lv_at hl 2 rfl) ?_
      refine lv_icmp_ge (tgt := 75) hx hb dX2_dealRations_12 (by decide) (fun _ => ?_) (fun h => absurd (by rw [hii]; exact Int32.le_refl _) h)
      have e : u = dlN (st, bk) nB := by rw [hinv, hii, Nat.min_eq_right hcB]
      exact xrv () hx hb hr hlocks hS (Nat.le_of_ble_eq_true rfl) (Nat.le_of_ble_eq_true rfl) dX2_dealRations_75 (by rw [← e]; exact hP) (by rw [← e]; exact hD) rfl trivial
    | succ n ih =>
      intro i u H locs ls hns hinv hP hD hS hl
      have hlt : i < 6 := by omega
      refine lv_iload_n hx hb dX2_dealRations_10 rfl (lv_at hl 3 rfl) ?_
      refine lv_iload_n hx hb dX2_dealRations_11 rfl (lv_at hl 2 rfl) ?_
      refine lv_icmp_ge (tgt := 75) hx hb dX2_dealRations_12 (by decide) (fun h => absurd h (nI_ge (b := 6) hlt (by omega))) (fun _ => ?_)
      refine lv_aload_n hx hb dX2_dealRations_15 rfl (lv_at hl 1 rfl) ?_
      refine lv_iload_n hx hb dX2_dealRations_16 rfl (lv_at hl 3 rfl) ?_
      refine xaldq hx hb hK hP 3 2 rfl rfl i rfl (by omega) (by decide) dX2_dealRations_17 ?_
      rcases Nat.lt_or_ge i nB with hi | hi
      · refine W.eq (g2 := F0 m 18 ls [.ref (ad (8 + i))]) (by rw [rB_lt hi]) ?_
        refine lv_astore (lv' := [(4, .ref (ad (8 + i))), (0, .ref (ad 0)), (1, .ref (ad 3)), (2, .int 6), (3, .int (nI i))]) hx hb dX2_dealRations_18 hl (by decide) rfl (fun ls hl => ?_)
        refine lv_aload hx hb dX2_dealRations_20 (lv_at hl 0 rfl) ?_
        refine lv_ifnull hx hb dX2_dealRations_22 ?_
        refine lv_aload hx hb dX2_dealRations_25 (lv_at hl 0 rfl) ?_
        refine va_get (D := D) (ci := 0) (v := .int (u.2 i 7)) (C := RX0) (T := TX0) (N := 8) hx hb hts hinX0 hown hK.1 hP (4 + nS + i) (tw_bk hi) rfl 7 (by decide) (hts (.fieldLink RX2 120 "LoafMarks$Baker" "barred" "Z") (List.mem_of_getElem? (i := 2) rfl)) (fun _ h9 => h9) rfl dX2_dealRations_27 ?_
        refine lv_if_ne (tgt := 69) hx hb dX2_dealRations_30 (by decide) (fun c30 => ?_) (fun c30 => ?_)
        · have hq : u = dlN (st, bk) i := by rw [hinv, min_l hi]
          refine lv_iinc (v := (nI (i + 1))) (lv' := [(3, .int (nI (i + 1))), (4, .ref (ad (8 + i))), (0, .ref (ad 0)), (1, .ref (ad 3)), (2, .int 6)]) hx hb dX2_dealRations_69 hl (k := 4) rfl ((nI_1 i)) (by decide) rfl (fun ls hl => ?_)
          refine lv_goto (tgt := 10) hx hb dX2_dealRations_72 (by decide) ?_
          exact ih (i + 1) u _ _ _ (by omega) (by rw [min_s hi]; show _ = dlStep (dlN (st, bk) i) i _; rw [← hq]; unfold dlStep; rw [if_neg c30]) hP hD hS (lv_sub hl [2, 3, 4, 0] rfl)
        · have hq : u = dlN (st, bk) i := by rw [hinv, min_l hi]
          obtain ⟨si, hsi, esi⟩ := hof i hi
          have ei : u.2 i 0 = nI si := by rw [hq, dlN_0]; exact esi
          refine lv_aload_n hx hb dX2_dealRations_33 rfl (lv_at hl 1 rfl) ?_
          refine lv_aload hx hb dX2_dealRations_34 (lv_at hl 0 rfl) ?_
          refine va_get (D := D) (ci := 0) (v := .int (u.2 i 0)) (C := RX0) (T := TX0) (N := 8) hx hb hts hinX0 hown hK.1 hP (4 + nS + i) (tw_bk hi) rfl 0 (by decide) (hts (.fieldLink RX2 124 "LoafMarks$Baker" "storeNumber" "I") (List.mem_of_getElem? (i := 3) rfl)) (fun _ h9 => h9) rfl dX2_dealRations_36 ?_
          refine xcV (As := [.int (u.2 i 0)]) (rest := []) ⟨hx, hb, hml, hown, hts⟩ (c_X2_storeAt l D cy ad nS nB u.1 u.2 gate nu (u.2 i 0) (by omega)) (cwV 1 hts gX2_dealRations_X2_storeAt rfl rfl rfl (by decide +kernel) ⟨Nat.le_of_ble_eq_true rfl, Nat.le_of_ble_eq_true rfl⟩) hK hP hD hS hA rfl rfl rfl (xE_all) rfl hl.1 rfl (Nat.le_of_ble_eq_true rfl) dX2_dealRations_39 ⟨Nat.le_of_ble_eq_true rfl, Nat.le_of_ble_eq_true rfl⟩ (fun _ H locs _ hP hD hS => ?_)
          have hP : va_P D vwCl (tw cy ad nS nB u.1 u.2 gate nu) H := hP
          have hD : va_D A (tw cy ad nS nB u.1 u.2 gate nu) := hD
          refine W.eq (g2 := F0 m 42 ls [va_rf (sAt ad nS (u.2 i 0))]) rfl ?_
          refine W.eq (g2 := F0 m 42 ls [.ref (ad (4 + si))]) (by show F0 m 42 ls (va_rf (sAt ad nS (u.2 i 0)) :: _) = _; rw [ei, sAt_nI hsi hcS]) ?_
          refine lv_astore (lv' := [(5, .ref (ad (4 + si))), (4, .ref (ad (8 + i))), (0, .ref (ad 0)), (1, .ref (ad 3)), (2, .int 6), (3, .int (nI i))]) hx hb dX2_dealRations_42 hl (by decide) rfl (fun ls hl => ?_)
          refine lv_aload hx hb dX2_dealRations_44 (lv_at hl 0 rfl) ?_
          refine lv_ifnull hx hb dX2_dealRations_46 ?_
          refine lv_aload hx hb dX2_dealRations_49 (lv_at hl 1 rfl) ?_
          refine lv_dup hx hb dX2_dealRations_51 rfl ?_
          refine va_get (D := D) (ci := 0) (v := .int (u.2 i 3)) (C := RX0) (T := TX0) (N := 8) hx hb hts hinX0 hown hK.1 hP (4 + nS + i) (tw_bk hi) rfl 3 (by decide) (hts (.fieldLink RX2 127 "LoafMarks$Baker" "atHand" "I") (List.mem_of_getElem? (i := 4) rfl)) (fun _ h9 => h9) rfl dX2_dealRations_52 ?_
          refine lv_aload hx hb dX2_dealRations_55 (lv_at hl 0 rfl) ?_
          refine lv_aload hx hb dX2_dealRations_57 (lv_at hl 1 rfl) ?_
          refine va_get (D := D) (ci := 0) (v := .int (u.2 i 2)) (C := RX0) (T := TX0) (N := 8) hx hb hts hinX0 hown hK.1 hP (4 + nS + i) (tw_bk hi) rfl 2 (by decide) (hts (.fieldLink RX2 130 "LoafMarks$Baker" "ration" "I") (List.mem_of_getElem? (i := 5) rfl)) (fun _ h9 => h9) rfl dX2_dealRations_59 ?_
          refine xcV (As := [.int (u.2 i 2)]) (rest := [.int (u.2 i 3), .ref (ad (8 + i))]) ⟨hx, hb, hml, hown, hts⟩ (c_X1_giveOut l D cy (ad (4 + si)) (u.1 si) (u.2 i 2)) (cwV 1 hts gX2_dealRations_X1_giveOut rfl rfl rfl (by decide +kernel) ⟨Nat.le_of_ble_eq_true rfl, Nat.le_of_ble_eq_true rfl⟩) hK hP hD hS hA rfl rfl rfl (xE_st (sGive (u.1 si) (u.2 i 2)) hsi) rfl hl.1 rfl (Nat.le_of_ble_eq_true rfl) dX2_dealRations_62 ⟨Nat.le_of_ble_eq_true rfl, Nat.le_of_ble_eq_true rfl⟩ (fun _ H locs _ hP hD hS => ?_)
          have hP : va_P D vwCl (tw cy ad nS nB (va_up u.1 si (sGive (u.1 si) (u.2 i 2))) u.2 gate nu) H := hP
          have hD : va_D A (tw cy ad nS nB (va_up u.1 si (sGive (u.1 si) (u.2 i 2))) u.2 gate nu) := hD
          refine W.eq (g2 := F0 m 65 ls [.int (mn (u.2 i 2) ((u.1 si) 0)), .int (u.2 i 3), .ref (ad (8 + i))]) rfl ?_
          refine lv_iadd hx hb dX2_dealRations_65 ?_
          refine va_put (D := D) (ci := 0) (v := .int ((u.2 i 3) + (mn (u.2 i 2) ((u.1 si) 0)))) (ty := .int) (C := RX0) (T := TX0) (N := 8) hx hb hts hinX0 tyX0 tyX0_ok nmX0 hown hK.1 hP hD hS (4 + nS + i) (tw_bk hi) rfl 3 (by decide) (hts (.fieldLink RX2 127 "LoafMarks$Baker" "atHand" "I") (List.mem_of_getElem? (i := 4) rfl)) (fun _ h9 => h9) rfl (by decide +kernel) rfl rfl (Nat.le_of_ble_eq_true rfl) dX2_dealRations_66 (fun H locs hP hD hS => ?_)
          have hP : va_P D vwCl (tw cy ad nS nB (va_up u.1 si (sGive (u.1 si) (u.2 i 2))) (va_up u.2 i (upd (u.2 i) 3 ((u.2 i 3) + (mn (u.2 i 2) ((u.1 si) 0))))) gate nu) H := (tw_set_bk hi) ▸ hP
          have hD : va_D A (tw cy ad nS nB (va_up u.1 si (sGive (u.1 si) (u.2 i 2))) (va_up u.2 i (upd (u.2 i) 3 ((u.2 i 3) + (mn (u.2 i 2) ((u.1 si) 0))))) gate nu) := (tw_set_bk hi) ▸ hD
          refine lv_iinc (v := (nI (i + 1))) (lv' := [(3, .int (nI (i + 1))), (5, .ref (ad (4 + si))), (4, .ref (ad (8 + i))), (0, .ref (ad 0)), (1, .ref (ad 3)), (2, .int 6)]) hx hb dX2_dealRations_69 hl (k := 5) rfl ((nI_1 i)) (by decide) rfl (fun ls hl => ?_)
          refine lv_goto (tgt := 10) hx hb dX2_dealRations_72 (by decide) ?_
          exact ih (i + 1) (va_up u.1 si (sGive (u.1 si) (u.2 i 2)), va_up u.2 i (upd (u.2 i) 3 (u.2 i 3 + mn (u.2 i 2) (u.1 si 0)))) _ _ _ (by omega) (by rw [min_s hi]; show _ = dlStep (dlN (st, bk) i) i _; rw [← hq]; unfold dlStep; rw [if_pos c30, ei, nI_clamp (by omega)]) hP hD hS (lv_sub hl [3, 4, 5, 0] rfl)
      · refine W.eq (g2 := F0 m 18 ls [.null]) (by rw [rB_ge hi]) ?_
        refine lv_astoreN (lv' := [(4, .null), (0, .ref (ad 0)), (1, .ref (ad 3)), (2, .int 6), (3, .int (nI i))]) hx hb dX2_dealRations_18 hl (by decide) rfl (fun ls hl => ?_)
        refine lv_aloadN hx hb dX2_dealRations_20 (lv_at hl 0 rfl) ?_
        refine lv_ifnullN (tgt := 69) hx hb dX2_dealRations_22 (by decide) ?_
        refine lv_iinc (v := (nI (i + 1))) (lv' := [(3, .int (nI (i + 1))), (4, .null), (0, .ref (ad 0)), (1, .ref (ad 3)), (2, .int 6)]) hx hb dX2_dealRations_69 hl (k := 4) rfl ((nI_1 i)) (by decide) rfl (fun ls hl => ?_)
        refine lv_goto (tgt := 10) hx hb dX2_dealRations_72 (by decide) ?_
        exact ih (i + 1) u _ _ _ (by omega) (by rw [min_g hi]; exact hinv) hP hD hS (lv_sub hl [2, 3, 4, 0] rfl)
  exact loop 6 0 (st, bk) _ _ _ (by omega) (by rw [Nat.zero_min]; rfl) hP hD hS (lv_sub hl [3, 2, 1, 0] rfl)

set_option maxHeartbeats 4000000 in
set_option maxRecDepth 100000 in
/-- sellAtNoon -/
theorem c_X2_sellAtNoon (l : Launch) (D : va_G) (cy : Nat → ClassId) (ad : Nat → Nat) (nS nB : Nat) (st bk : Nat → Iu) (gate nu : Iu) (hcap : nB ≤ 6) : xM l D cy yX2_sellAtNoon wsX2_sellAtNoon ({ frames := 2, cells := 0, slots := 0, locals := 60 } : Room) [.ref (ad 0)] (tw cy ad nS nB st bk gate nu) (fun _ : Unit => some (.int (hLeft nB (st, bk, nu)))) (fun _ => True) (fun _ => tw cy ad nS nB st (hNoon nB (st, bk, nu)).2.1 gate (hNoon nB (st, bk, nu)).2.2) := by
  refine xM.of cX2_sellAtNoon 7 (some .int) RX2 (by decide +kernel) rfl rfl (Nat.le_of_ble_eq_true rfl) ?_
  intro p e s m below meth c A ls hx hb hr hts hown hlocks hml hin hK hA hP hD hS hl
  have hl : lv_has ls 7 [(0, .ref (ad 0))] := hl
  have hinX2 : ∀ w ∈ wsX20, w ∈ wsX2_sellAtNoon := fun _ h => List.mem_cons_of_mem _ (List.mem_append_left _ (List.mem_append_right _ h))
  refine lv_aload_n hx hb dX2_sellAtNoon_0 rfl (lv_at hl 0 rfl) ?_
  refine va_get (D := D) (ci := 2) (v := .int (nu 1)) (C := RX2) (T := TX2) (N := 9) hx hb hts hinX2 hown hK.1 hP 0 rfl rfl 4 (by decide) (hts (.fieldLink RX2 27 "LoafMarks$Town" "people" "I") (List.mem_of_getElem? (i := 1) rfl)) (fun _ h9 => h9) rfl dX2_sellAtNoon_1 ?_
  refine lv_istore_n (lv' := [(1, .int (nu 1)), (0, .ref (ad 0))]) hx hb dX2_sellAtNoon_4 rfl hl (by decide) rfl (fun ls hl => ?_)
  refine lv_aload_n hx hb dX2_sellAtNoon_5 rfl (lv_at hl 1 rfl) ?_
  refine va_get (D := D) (ci := 2) (v := .ref (ad 3)) (C := RX2) (T := TX2) (N := 9) hx hb hts hinX2 hown hK.1 hP 0 rfl rfl 2 (by decide) (hts (.fieldLink RX2 23 "LoafMarks$Town" "bakers" "[LLoafMarks$Baker;") (List.mem_of_getElem? (i := 2) rfl)) (fun _ h9 => h9) rfl dX2_sellAtNoon_6 ?_
  refine lv_astore_n (lv' := [(2, .ref (ad 3)), (1, .int (nu 1)), (0, .ref (ad 0))]) hx hb dX2_sellAtNoon_9 rfl hl (by decide) rfl (fun ls hl => ?_)
  refine lv_aload_n hx hb dX2_sellAtNoon_10 rfl (lv_at hl 0 rfl) ?_
  refine va_alen hx hb hK.1 hP 3 2 rfl rfl (v := 6) rfl dX2_sellAtNoon_11 ?_
  refine lv_istore_n (lv' := [(3, .int 6), (2, .ref (ad 3)), (1, .int (nu 1)), (0, .ref (ad 0))]) hx hb dX2_sellAtNoon_12 rfl hl (by decide) rfl (fun ls hl => ?_)
  refine lv_iconst (v := 0) hx hb dX2_sellAtNoon_13 (by decide) ?_
  refine lv_istore (lv' := [(4, .int 0), (3, .int 6), (2, .ref (ad 3)), (1, .int (nu 1)), (0, .ref (ad 0))]) hx hb dX2_sellAtNoon_14 hl (by decide) rfl (fun ls hl => ?_)
  have loop : ∀ (n i : Nat) (u : TL) (H : Heap) (locs : List Loc) (ls : Array Slot), i + n = 6 → (u = slN (nu 1, bk, nu) (min i nB)) → va_P D vwCl (tw cy ad nS nB st u.2.1 gate u.2.2) H → va_D A (tw cy ad nS nB st u.2.1 gate u.2.2) → va_S A s.heap H locs → lv_has ls 7 [(0, .ref (ad 0)), (1, .int u.1), (2, .ref (ad 3)), (3, .int 6), (4, .int (nI i))] → W p l e ({ frames := 2, cells := 0, slots := 0, locals := 60 } : Room) s m ([.ref (ad 0)] : List Value).toArray below meth c H locs 0 0 (MQ below (xQ D A (fun _ : Unit => some (.int (hLeft nB (st, bk, nu)))) (fun _ => True) (fun _ => tw cy ad nS nB st (hNoon nB (st, bk, nu)).2.1 gate (hNoon nB (st, bk, nu)).2.2)) ([.ref (ad 0)] : List Value).toArray s 0 0 A) (F0 m 16 ls []) := by
    intro n
    induction n with
    | zero =>
      intro i u H locs ls hns hinv hP hD hS hl
      have hii : i = 6 := by omega
      refine lv_iload hx hb dX2_sellAtNoon_16 (lv_at hl 4 rfl) ?_
      refine lv_iload_n hx hb dX2_sellAtNoon_18 rfl (lv_at hl 3 rfl) ?_
      refine lv_icmp_ge (tgt := 82) hx hb dX2_sellAtNoon_19 (by decide) (fun _ => ?_) (fun h => absurd (by rw [hii]; exact Int32.le_refl _) h)
      refine lv_aload_n hx hb dX2_sellAtNoon_82 rfl (lv_at hl 0 rfl) ?_
      refine lv_dup hx hb dX2_sellAtNoon_83 rfl ?_
      refine va_get (D := D) (ci := 2) (v := .int (u.2.2 4)) (C := RX2) (T := TX2) (N := 9) hx hb hts hinX2 hown hK.1 hP 0 rfl rfl 7 (by decide) (hts (.fieldLink RX2 40 "LoafMarks$Town" "hungry" "I") (List.mem_of_getElem? (i := 5) rfl)) (fun _ h9 => h9) rfl dX2_sellAtNoon_84 ?_
      refine lv_iload_n hx hb dX2_sellAtNoon_87 rfl (lv_at hl 1 rfl) ?_
      refine lv_iadd hx hb dX2_sellAtNoon_88 ?_
      refine va_put (D := D) (ci := 2) (v := .int ((u.2.2 4) + u.1)) (ty := .int) (C := RX2) (T := TX2) (N := 9) hx hb hts hinX2 tyX2 tyX2_ok nmX2 hown hK.1 hP hD hS 0 rfl rfl 7 (by decide) (hts (.fieldLink RX2 40 "LoafMarks$Town" "hungry" "I") (List.mem_of_getElem? (i := 5) rfl)) (fun _ h9 => h9) rfl (by decide +kernel) rfl rfl (Nat.le_of_ble_eq_true rfl) dX2_sellAtNoon_89 (fun H locs hP hD hS => ?_)
      have hP : va_P D vwCl (tw cy ad nS nB st u.2.1 gate (upd u.2.2 4 ((u.2.2 4) + u.1))) H := hP
      have hD : va_D A (tw cy ad nS nB st u.2.1 gate (upd u.2.2 4 ((u.2.2 4) + u.1))) := hD
      refine lv_iload_n hx hb dX2_sellAtNoon_92 rfl (lv_at hl 1 rfl) ?_
      have e : u = slN (nu 1, bk, nu) nB := by rw [hinv, hii, Nat.min_eq_right hcap]
      exact xri () hx hb hr hlocks hS (Nat.le_of_ble_eq_true rfl) (Nat.le_of_ble_eq_true rfl) dX2_sellAtNoon_93 (by unfold hNoon hLeft; show va_P D vwCl (tw cy ad nS nB st (slN (nu 1, bk, nu) nB).2.1 gate (upd (slN (nu 1, bk, nu) nB).2.2 4 ((slN (nu 1, bk, nu) nB).2.2 4 + (slN (nu 1, bk, nu) nB).1))) H; rw [← e]; exact hP) (by unfold hNoon hLeft; show va_D A (tw cy ad nS nB st (slN (nu 1, bk, nu) nB).2.1 gate (upd (slN (nu 1, bk, nu) nB).2.2 4 ((slN (nu 1, bk, nu) nB).2.2 4 + (slN (nu 1, bk, nu) nB).1))); rw [← e]; exact hD) (by show some (Value.int (slN (nu 1, bk, nu) nB).1) = _; rw [e]) trivial
    | succ n ih =>
      intro i u H locs ls hns hinv hP hD hS hl
      have hlt : i < 6 := by omega
      refine lv_iload hx hb dX2_sellAtNoon_16 (lv_at hl 4 rfl) ?_
      refine lv_iload_n hx hb dX2_sellAtNoon_18 rfl (lv_at hl 3 rfl) ?_
      refine lv_icmp_ge (tgt := 82) hx hb dX2_sellAtNoon_19 (by decide) (fun h => absurd h (nI_ge (b := 6) hlt (by omega))) (fun _ => ?_)
      refine lv_aload_n hx hb dX2_sellAtNoon_22 rfl (lv_at hl 2 rfl) ?_
      refine lv_iload hx hb dX2_sellAtNoon_23 (lv_at hl 4 rfl) ?_
      refine xaldq hx hb hK hP 3 2 rfl rfl i rfl (by omega) (by decide) dX2_sellAtNoon_25 ?_
      rcases Nat.lt_or_ge i nB with hi | hi
      · refine W.eq (g2 := F0 m 26 ls [.ref (ad (8 + i))]) (by rw [rB_lt hi]) ?_
        refine lv_astore (lv' := [(5, .ref (ad (8 + i))), (0, .ref (ad 0)), (1, .int u.1), (2, .ref (ad 3)), (3, .int 6), (4, .int (nI i))]) hx hb dX2_sellAtNoon_26 hl (by decide) rfl (fun ls hl => ?_)
        refine lv_aload hx hb dX2_sellAtNoon_28 (lv_at hl 0 rfl) ?_
        refine lv_ifnull hx hb dX2_sellAtNoon_30 ?_
        refine lv_aload hx hb dX2_sellAtNoon_33 (lv_at hl 0 rfl) ?_
        refine lv_iload_n hx hb dX2_sellAtNoon_35 rfl (lv_at hl 2 rfl) ?_
        refine xcV (As := [.int u.1]) (rest := []) ⟨hx, hb, hml, hown, hts⟩ (c_X0_sell l D cy (ad (8 + i)) (u.2.1 i) u.1) (cwV 1 hts gX2_sellAtNoon_X0_sell rfl rfl rfl (by decide +kernel) ⟨Nat.le_of_ble_eq_true rfl, Nat.le_of_ble_eq_true rfl⟩) hK hP hD hS hA rfl rfl rfl (xE_bk (bSell (u.2.1 i) u.1) hi) rfl hl.1 rfl (Nat.le_of_ble_eq_true rfl) dX2_sellAtNoon_36 ⟨Nat.le_of_ble_eq_true rfl, Nat.le_of_ble_eq_true rfl⟩ (fun _ H locs _ hP hD hS => ?_)
        have hP : va_P D vwCl (tw cy ad nS nB st (va_up u.2.1 i (bSell (u.2.1 i) u.1)) gate u.2.2) H := hP
        have hD : va_D A (tw cy ad nS nB st (va_up u.2.1 i (bSell (u.2.1 i) u.1)) gate u.2.2) := hD
        refine W.eq (g2 := F0 m 39 ls [.int (mn u.1 ((u.2.1 i) 5))]) rfl ?_
        refine lv_istore (lv' := [(6, .int (mn u.1 ((u.2.1 i) 5))), (5, .ref (ad (8 + i))), (0, .ref (ad 0)), (1, .int u.1), (2, .ref (ad 3)), (3, .int 6), (4, .int (nI i))]) hx hb dX2_sellAtNoon_39 hl (by decide) rfl (fun ls hl => ?_)
        refine lv_iload_n hx hb dX2_sellAtNoon_41 rfl (lv_at hl 3 rfl) ?_
        refine lv_iload hx hb dX2_sellAtNoon_42 (lv_at hl 0 rfl) ?_
        refine lv_isub hx hb dX2_sellAtNoon_44 ?_
        refine lv_istore_n (lv' := [(1, .int (u.1 - (mn u.1 ((u.2.1 i) 5)))), (6, .int (mn u.1 ((u.2.1 i) 5))), (5, .ref (ad (8 + i))), (0, .ref (ad 0)), (2, .ref (ad 3)), (3, .int 6), (4, .int (nI i))]) hx hb dX2_sellAtNoon_45 rfl hl (by decide) rfl (fun ls hl => ?_)
        refine lv_aload_n hx hb dX2_sellAtNoon_46 rfl (lv_at hl 3 rfl) ?_
        refine lv_dup hx hb dX2_sellAtNoon_47 rfl ?_
        refine va_get (D := D) (ci := 2) (v := .int (u.2.2 2)) (C := RX2) (T := TX2) (N := 9) hx hb hts hinX2 hown hK.1 hP 0 rfl rfl 5 (by decide) (hts (.fieldLink RX2 34 "LoafMarks$Town" "bought" "I") (List.mem_of_getElem? (i := 3) rfl)) (fun _ h9 => h9) rfl dX2_sellAtNoon_48 ?_
        refine lv_iload hx hb dX2_sellAtNoon_51 (lv_at hl 1 rfl) ?_
        refine lv_iadd hx hb dX2_sellAtNoon_53 ?_
        refine va_put (D := D) (ci := 2) (v := .int ((u.2.2 2) + (mn u.1 ((u.2.1 i) 5)))) (ty := .int) (C := RX2) (T := TX2) (N := 9) hx hb hts hinX2 tyX2 tyX2_ok nmX2 hown hK.1 hP hD hS 0 rfl rfl 5 (by decide) (hts (.fieldLink RX2 34 "LoafMarks$Town" "bought" "I") (List.mem_of_getElem? (i := 3) rfl)) (fun _ h9 => h9) rfl (by decide +kernel) rfl rfl (Nat.le_of_ble_eq_true rfl) dX2_sellAtNoon_54 (fun H locs hP hD hS => ?_)
        have hP : va_P D vwCl (tw cy ad nS nB st (va_up u.2.1 i (bSell (u.2.1 i) u.1)) gate (upd u.2.2 2 ((u.2.2 2) + (mn u.1 ((u.2.1 i) 5))))) H := hP
        have hD : va_D A (tw cy ad nS nB st (va_up u.2.1 i (bSell (u.2.1 i) u.1)) gate (upd u.2.2 2 ((u.2.2 2) + (mn u.1 ((u.2.1 i) 5))))) := hD
        refine lv_aload hx hb dX2_sellAtNoon_57 (lv_at hl 2 rfl) ?_
        refine xcV (As := []) (rest := []) ⟨hx, hb, hml, hown, hts⟩ (c_X0_bakesLight l D cy (ad (8 + i)) ((va_up u.2.1 i (bSell (u.2.1 i) u.1)) i)) (cwV 0 hts gX2_sellAtNoon_X0_bakesLight rfl rfl rfl (by decide +kernel) ⟨Nat.le_of_ble_eq_true rfl, Nat.le_of_ble_eq_true rfl⟩) hK hP hD hS hA rfl rfl rfl (xE_bk ((va_up u.2.1 i (bSell (u.2.1 i) u.1)) i) hi) rfl hl.1 rfl (Nat.le_of_ble_eq_true rfl) dX2_sellAtNoon_59 ⟨Nat.le_of_ble_eq_true rfl, Nat.le_of_ble_eq_true rfl⟩ (fun _ H locs _ hP hD hS => ?_)
        refine W.eq (g2 := F0 m 62 ls [.int (bLight ((va_up u.2.1 i (bSell (u.2.1 i) u.1)) i))]) rfl ?_
        rw [up_self] at hP hD
        refine lv_if_eq (tgt := 76) hx hb dX2_sellAtNoon_62 (by decide) (fun c62 => ?_) (fun c62 => ?_)
        · have hq : u = slN (nu 1, bk, nu) i := by rw [hinv, min_l hi]
          have c62 : ¬ u.2.1 i 4 < 10 := fun h => by rw [(show bLight (va_up u.2.1 i (bSell (u.2.1 i) u.1) i) = (if u.2.1 i 4 < 10 then 1 else 0) by unfold bLight; rw [up_at]; rfl), if_pos h] at c62; exact absurd c62 (by decide)
          refine lv_iinc (v := (nI (i + 1))) (lv' := [(4, .int (nI (i + 1))), (1, .int (u.1 - (mn u.1 ((u.2.1 i) 5)))), (6, .int (mn u.1 ((u.2.1 i) 5))), (5, .ref (ad (8 + i))), (0, .ref (ad 0)), (2, .ref (ad 3)), (3, .int 6)]) hx hb dX2_sellAtNoon_76 hl (k := 6) rfl ((nI_1 i)) (by decide) rfl (fun ls hl => ?_)
          refine lv_goto (tgt := 16) hx hb dX2_sellAtNoon_79 (by decide) ?_
          exact ih (i + 1) (u.1 - mn u.1 (u.2.1 i 5), va_up u.2.1 i (bSell (u.2.1 i) u.1), upd u.2.2 2 (u.2.2 2 + mn u.1 (u.2.1 i 5))) _ _ _ (by omega) (by rw [min_s hi]; show _ = slStep (slN (nu 1, bk, nu) i) i; rw [← hq]; unfold slStep; rw [if_neg c62]) hP hD hS (lv_sub hl [4, 1, 5, 6, 0] rfl)
        · have hq : u = slN (nu 1, bk, nu) i := by rw [hinv, min_l hi]
          have c62 : u.2.1 i 4 < 10 := Decidable.byContradiction fun h => c62 (by rw [(show bLight (va_up u.2.1 i (bSell (u.2.1 i) u.1) i) = (if u.2.1 i 4 < 10 then 1 else 0) by unfold bLight; rw [up_at]; rfl), if_neg h])
          refine lv_aload_n hx hb dX2_sellAtNoon_65 rfl (lv_at hl 3 rfl) ?_
          refine lv_dup hx hb dX2_sellAtNoon_66 rfl ?_
          refine va_get (D := D) (ci := 2) (v := .int (u.2.2 3)) (C := RX2) (T := TX2) (N := 9) hx hb hts hinX2 hown hK.1 hP 0 rfl rfl 6 (by decide) (hts (.fieldLink RX2 37 "LoafMarks$Town" "light" "I") (List.mem_of_getElem? (i := 4) rfl)) (fun _ h9 => h9) rfl dX2_sellAtNoon_67 ?_
          refine lv_iload hx hb dX2_sellAtNoon_70 (lv_at hl 1 rfl) ?_
          refine lv_iadd hx hb dX2_sellAtNoon_72 ?_
          refine va_put (D := D) (ci := 2) (v := .int ((u.2.2 3) + (mn u.1 ((u.2.1 i) 5)))) (ty := .int) (C := RX2) (T := TX2) (N := 9) hx hb hts hinX2 tyX2 tyX2_ok nmX2 hown hK.1 hP hD hS 0 rfl rfl 6 (by decide) (hts (.fieldLink RX2 37 "LoafMarks$Town" "light" "I") (List.mem_of_getElem? (i := 4) rfl)) (fun _ h9 => h9) rfl (by decide +kernel) rfl rfl (Nat.le_of_ble_eq_true rfl) dX2_sellAtNoon_73 (fun H locs hP hD hS => ?_)
          have hP : va_P D vwCl (tw cy ad nS nB st (va_up u.2.1 i (bSell (u.2.1 i) u.1)) gate (upd (upd u.2.2 2 ((u.2.2 2) + (mn u.1 ((u.2.1 i) 5)))) 3 ((u.2.2 3) + (mn u.1 ((u.2.1 i) 5))))) H := hP
          have hD : va_D A (tw cy ad nS nB st (va_up u.2.1 i (bSell (u.2.1 i) u.1)) gate (upd (upd u.2.2 2 ((u.2.2 2) + (mn u.1 ((u.2.1 i) 5)))) 3 ((u.2.2 3) + (mn u.1 ((u.2.1 i) 5))))) := hD
          refine lv_iinc (v := (nI (i + 1))) (lv' := [(4, .int (nI (i + 1))), (1, .int (u.1 - (mn u.1 ((u.2.1 i) 5)))), (6, .int (mn u.1 ((u.2.1 i) 5))), (5, .ref (ad (8 + i))), (0, .ref (ad 0)), (2, .ref (ad 3)), (3, .int 6)]) hx hb dX2_sellAtNoon_76 hl (k := 6) rfl ((nI_1 i)) (by decide) rfl (fun ls hl => ?_)
          refine lv_goto (tgt := 16) hx hb dX2_sellAtNoon_79 (by decide) ?_
          exact ih (i + 1) (u.1 - mn u.1 (u.2.1 i 5), va_up u.2.1 i (bSell (u.2.1 i) u.1), upd (upd u.2.2 2 (u.2.2 2 + mn u.1 (u.2.1 i 5))) 3 (u.2.2 3 + mn u.1 (u.2.1 i 5))) _ _ _ (by omega) (by rw [min_s hi]; show _ = slStep (slN (nu 1, bk, nu) i) i; rw [← hq]; unfold slStep; rw [if_pos c62]) hP hD hS (lv_sub hl [4, 1, 5, 6, 0] rfl)
      · refine W.eq (g2 := F0 m 26 ls [.null]) (by rw [rB_ge hi]) ?_
        refine lv_astoreN (lv' := [(5, .null), (0, .ref (ad 0)), (1, .int u.1), (2, .ref (ad 3)), (3, .int 6), (4, .int (nI i))]) hx hb dX2_sellAtNoon_26 hl (by decide) rfl (fun ls hl => ?_)
        refine lv_aloadN hx hb dX2_sellAtNoon_28 (lv_at hl 0 rfl) ?_
        refine lv_ifnullN (tgt := 76) hx hb dX2_sellAtNoon_30 (by decide) ?_
        refine lv_iinc (v := (nI (i + 1))) (lv' := [(4, .int (nI (i + 1))), (5, .null), (0, .ref (ad 0)), (1, .int u.1), (2, .ref (ad 3)), (3, .int 6)]) hx hb dX2_sellAtNoon_76 hl (k := 5) rfl ((nI_1 i)) (by decide) rfl (fun ls hl => ?_)
        refine lv_goto (tgt := 16) hx hb dX2_sellAtNoon_79 (by decide) ?_
        exact ih (i + 1) u _ _ _ (by omega) (by rw [min_g hi]; exact hinv) hP hD hS (lv_sub hl [2, 3, 4, 5, 0] rfl)
  exact loop 6 0 (nu 1, bk, nu) _ _ _ (by omega) (by rw [Nat.zero_min]; rfl) hP hD hS (lv_sub hl [4, 3, 2, 1, 0] rfl)

set_option maxHeartbeats 4000000 in
set_option maxRecDepth 100000 in
/-- emptiestStore -/
theorem c_X2_emptiestStore (l : Launch) (D : va_G) (cy : Nat → ClassId) (ad : Nat → Nat) (nS nB : Nat) (st bk : Nat → Iu) (gate nu : Iu) (hcap : nS ≤ 4) : xM l D cy yX2_emptiestStore wsX2_emptiestStore ({ frames := 0, cells := 0, slots := 0, locals := 0 } : Room) [.ref (ad 0)] (tw cy ad nS nB st bk gate nu) (fun _ : Unit => some (va_rf (if nS = 0 then none else some (ad (4 + emp st nS))))) (fun _ => True) (fun _ => tw cy ad nS nB st bk gate nu) := by
  refine xM.of cX2_emptiestStore 6 (some (.object "LoafMarks$Store")) RX2 (by decide +kernel) rfl rfl (Nat.le_of_ble_eq_true rfl) ?_
  intro p e s m below meth c A ls hx hb hr hts hown hlocks hml hin hK hA hP hD hS hl
  have hl : lv_has ls 6 [(0, .ref (ad 0))] := hl
  have hinX1 : ∀ w ∈ wsX10, w ∈ wsX2_emptiestStore := fun _ h => List.mem_cons_of_mem _ (List.mem_append_right _ h)
  have hinX2 : ∀ w ∈ wsX20, w ∈ wsX2_emptiestStore := fun _ h => List.mem_cons_of_mem _ (List.mem_append_left _ (List.mem_append_right _ h))
  refine lv_null hx hb dX2_emptiestStore_0 ?_
  refine lv_astore_nN (lv' := [(1, .null), (0, .ref (ad 0))]) hx hb dX2_emptiestStore_1 rfl hl (by decide) rfl (fun ls hl => ?_)
  refine lv_aload_n hx hb dX2_emptiestStore_2 rfl (lv_at hl 1 rfl) ?_
  refine va_get (D := D) (ci := 2) (v := .ref (ad 2)) (C := RX2) (T := TX2) (N := 9) hx hb hts hinX2 hown hK.1 hP 0 rfl rfl 1 (by decide) (hts (.fieldLink RX2 17 "LoafMarks$Town" "stores" "[LLoafMarks$Store;") (List.mem_of_getElem? (i := 1) rfl)) (fun _ h9 => h9) rfl dX2_emptiestStore_3 ?_
  refine lv_astore_n (lv' := [(2, .ref (ad 2)), (1, .null), (0, .ref (ad 0))]) hx hb dX2_emptiestStore_6 rfl hl (by decide) rfl (fun ls hl => ?_)
  refine lv_aload_n hx hb dX2_emptiestStore_7 rfl (lv_at hl 0 rfl) ?_
  refine va_alen hx hb hK.1 hP 2 1 rfl rfl (v := 4) rfl dX2_emptiestStore_8 ?_
  refine lv_istore_n (lv' := [(3, .int 4), (2, .ref (ad 2)), (1, .null), (0, .ref (ad 0))]) hx hb dX2_emptiestStore_9 rfl hl (by decide) rfl (fun ls hl => ?_)
  refine lv_iconst (v := 0) hx hb dX2_emptiestStore_10 (by decide) ?_
  refine lv_istore (lv' := [(4, .int 0), (3, .int 4), (2, .ref (ad 2)), (1, .null), (0, .ref (ad 0))]) hx hb dX2_emptiestStore_11 hl (by decide) rfl (fun ls hl => ?_)
  have loop : ∀ (n i : Nat) (r : Option Nat) (H : Heap) (locs : List Loc) (ls : Array Slot), i + n = 4 → (r = if min i nS = 0 then none else some (ad (4 + emp st (min i nS)))) → va_P D vwCl (tw cy ad nS nB st bk gate nu) H → va_D A (tw cy ad nS nB st bk gate nu) → va_S A s.heap H locs → lv_has ls 6 [(0, .ref (ad 0)), (1, va_rf r), (2, .ref (ad 2)), (3, .int 4), (4, .int (nI i))] → W p l e ({ frames := 0, cells := 0, slots := 0, locals := 0 } : Room) s m ([.ref (ad 0)] : List Value).toArray below meth c H locs 0 0 (MQ below (xQ D A (fun _ : Unit => some (va_rf (if nS = 0 then none else some (ad (4 + emp st nS))))) (fun _ => True) (fun _ => tw cy ad nS nB st bk gate nu)) ([.ref (ad 0)] : List Value).toArray s 0 0 A) (F0 m 13 ls []) := by
    intro n
    induction n with
    | zero =>
      intro i r H locs ls hns hinv hP hD hS hl
      have hii : i = 4 := by omega
      refine lv_iload hx hb dX2_emptiestStore_13 (lv_at hl 4 rfl) ?_
      refine lv_iload_n hx hb dX2_emptiestStore_15 rfl (lv_at hl 3 rfl) ?_
      refine lv_icmp_ge (tgt := 55) hx hb dX2_emptiestStore_16 (by decide) (fun _ => ?_) (fun h => absurd (by rw [hii]; exact Int32.le_refl _) h)
      rw [hii, Nat.min_eq_right hcap] at hinv
      rcases Nat.eq_zero_or_pos nS with h0 | h0
      · have hrn : r = none := by rw [hinv, if_pos h0]
        subst hrn
        have hl : lv_has ls 6 [(0, .ref (ad 0)), (1, .null), (2, .ref (ad 2)), (3, .int 4), (4, .int (nI i))] := hl
        refine lv_aload_nN hx hb dX2_emptiestStore_55 rfl (lv_at hl 1 rfl) ?_
        exact xra () hx hb hr (Or.inl ⟨_, rfl⟩) (Or.inl rfl) hlocks hS (Nat.le_of_ble_eq_true rfl) (Nat.le_of_ble_eq_true rfl) dX2_emptiestStore_56 hP hD (by show some (va_rf (if nS = 0 then none else some (ad (4 + emp st nS)))) = _; rw [if_pos h0]; rfl) trivial
      · have hrn : r = some (ad (4 + emp st nS)) := by rw [hinv, if_neg (by omega)]
        subst hrn
        have hl : lv_has ls 6 [(0, .ref (ad 0)), (1, .ref (ad (4 + emp st nS))), (2, .ref (ad 2)), (3, .int 4), (4, .int (nI i))] := hl
        refine lv_aload_n hx hb dX2_emptiestStore_55 rfl (lv_at hl 1 rfl) ?_
        exact xra () hx hb hr (Or.inl ⟨_, rfl⟩) (Or.inr ⟨_, rfl⟩) hlocks hS (Nat.le_of_ble_eq_true rfl) (Nat.le_of_ble_eq_true rfl) dX2_emptiestStore_56 hP hD (by show some (va_rf (if nS = 0 then none else some (ad (4 + emp st nS)))) = _; rw [if_neg (by omega)]; rfl) trivial
    | succ n ih =>
      intro i r H locs ls hns hinv hP hD hS hl
      have hlt : i < 4 := by omega
      refine lv_iload hx hb dX2_emptiestStore_13 (lv_at hl 4 rfl) ?_
      refine lv_iload_n hx hb dX2_emptiestStore_15 rfl (lv_at hl 3 rfl) ?_
      refine lv_icmp_ge (tgt := 55) hx hb dX2_emptiestStore_16 (by decide) (fun h => absurd h (nI_ge (b := 4) hlt (by omega))) (fun _ => ?_)
      refine lv_aload_n hx hb dX2_emptiestStore_19 rfl (lv_at hl 2 rfl) ?_
      refine lv_iload hx hb dX2_emptiestStore_20 (lv_at hl 4 rfl) ?_
      refine xaldq hx hb hK hP 2 1 rfl rfl i rfl (by omega) (by decide) dX2_emptiestStore_22 ?_
      rcases Nat.lt_or_ge i nS with hi | hi
      · refine W.eq (g2 := F0 m 23 ls [.ref (ad (4 + i))]) (by rw [rS_lt hi]) ?_
        refine lv_astore (lv' := [(5, .ref (ad (4 + i))), (0, .ref (ad 0)), (1, va_rf r), (2, .ref (ad 2)), (3, .int 4), (4, .int (nI i))]) hx hb dX2_emptiestStore_23 hl (by decide) rfl (fun ls hl => ?_)
        refine lv_aload hx hb dX2_emptiestStore_25 (lv_at hl 0 rfl) ?_
        refine lv_ifnull hx hb dX2_emptiestStore_27 ?_
        rw [min_l hi] at hinv
        rcases Nat.eq_zero_or_pos i with h0 | h0
        · have hrn : r = none := by rw [hinv, if_pos h0]
          subst hrn
          have hl : lv_has ls 6 [(5, .ref (ad (4 + i))), (0, .ref (ad 0)), (1, .null), (2, .ref (ad 2)), (3, .int 4), (4, .int (nI i))] := hl
          refine lv_aload_nN hx hb dX2_emptiestStore_30 rfl (lv_at hl 2 rfl) ?_
          refine lv_ifnullN (tgt := 46) hx hb dX2_emptiestStore_31 (by decide) ?_
          refine lv_aload hx hb dX2_emptiestStore_46 (lv_at hl 0 rfl) ?_
          refine lv_astore_n (lv' := [(1, .ref (ad (4 + i))), (5, .ref (ad (4 + i))), (0, .ref (ad 0)), (2, .ref (ad 2)), (3, .int 4), (4, .int (nI i))]) hx hb dX2_emptiestStore_48 rfl hl (by decide) rfl (fun ls hl => ?_)
          refine lv_iinc (v := (nI (i + 1))) (lv' := [(4, .int (nI (i + 1))), (1, .ref (ad (4 + i))), (5, .ref (ad (4 + i))), (0, .ref (ad 0)), (2, .ref (ad 2)), (3, .int 4)]) hx hb dX2_emptiestStore_49 hl (k := 5) rfl ((nI_1 i)) (by decide) rfl (fun ls hl => ?_)
          refine lv_goto (tgt := 13) hx hb dX2_emptiestStore_52 (by decide) ?_
          exact ih (i + 1) (some (ad (4 + i))) _ _ _ (by omega) (by rw [min_s hi, if_neg (Nat.succ_ne_zero i), show emp st (i + 1) = i from (if_pos h0).trans h0.symm]) hP hD hS (lv_sub hl [3, 1, 4, 5, 0] rfl)
        · have hrn : r = some (ad (4 + emp st i)) := by rw [hinv, if_neg (by omega)]
          subst hrn
          have hem := emp_lt (st := st) h0
          have hem2 : emp st i < nS := by omega
          have hl : lv_has ls 6 [(5, .ref (ad (4 + i))), (0, .ref (ad 0)), (1, .ref (ad (4 + emp st i))), (2, .ref (ad 2)), (3, .int 4), (4, .int (nI i))] := hl
          refine lv_aload_n hx hb dX2_emptiestStore_30 rfl (lv_at hl 2 rfl) ?_
          refine lv_ifnull hx hb dX2_emptiestStore_31 ?_
          refine lv_aload hx hb dX2_emptiestStore_34 (lv_at hl 0 rfl) ?_
          refine va_get (D := D) (ci := 1) (v := .int (st i 0)) (C := RX1) (T := TX1) (N := 3) hx hb hts hinX1 hown hK.1 hP (4 + i) (tw_st hi) rfl 0 (by decide) (hts (.fieldLink RX2 117 "LoafMarks$Store" "flour" "I") (List.mem_of_getElem? (i := 2) rfl)) (fun _ h9 => h9) rfl dX2_emptiestStore_36 ?_
          refine lv_aload_n hx hb dX2_emptiestStore_39 rfl (lv_at hl 2 rfl) ?_
          refine va_get (D := D) (ci := 1) (v := .int (st (emp st i) 0)) (C := RX1) (T := TX1) (N := 3) hx hb hts hinX1 hown hK.1 hP (4 + (emp st i)) (tw_st hem2) rfl 0 (by decide) (hts (.fieldLink RX2 117 "LoafMarks$Store" "flour" "I") (List.mem_of_getElem? (i := 2) rfl)) (fun _ h9 => h9) rfl dX2_emptiestStore_40 ?_
          refine lv_icmp_ge (tgt := 49) hx hb dX2_emptiestStore_43 (by decide) (fun c43 => ?_) (fun c43 => ?_)
          · refine lv_iinc (v := (nI (i + 1))) (lv' := [(4, .int (nI (i + 1))), (5, .ref (ad (4 + i))), (0, .ref (ad 0)), (1, .ref (ad (4 + emp st i))), (2, .ref (ad 2)), (3, .int 4)]) hx hb dX2_emptiestStore_49 hl (k := 5) rfl ((nI_1 i)) (by decide) rfl (fun ls hl => ?_)
            refine lv_goto (tgt := 13) hx hb dX2_emptiestStore_52 (by decide) ?_
            exact ih (i + 1) (some (ad (4 + emp st i))) _ _ _ (by omega) (by rw [min_s hi, if_neg (Nat.succ_ne_zero i), show emp st (i + 1) = emp st i from (if_neg (by omega)).trans (if_neg (Int32.not_lt.mpr c43))]) hP hD hS (lv_sub hl [2, 3, 4, 5, 0] rfl)
          · refine lv_aload hx hb dX2_emptiestStore_46 (lv_at hl 0 rfl) ?_
            refine lv_astore_n (lv' := [(1, .ref (ad (4 + i))), (5, .ref (ad (4 + i))), (0, .ref (ad 0)), (2, .ref (ad 2)), (3, .int 4), (4, .int (nI i))]) hx hb dX2_emptiestStore_48 rfl hl (by decide) rfl (fun ls hl => ?_)
            refine lv_iinc (v := (nI (i + 1))) (lv' := [(4, .int (nI (i + 1))), (1, .ref (ad (4 + i))), (5, .ref (ad (4 + i))), (0, .ref (ad 0)), (2, .ref (ad 2)), (3, .int 4)]) hx hb dX2_emptiestStore_49 hl (k := 5) rfl ((nI_1 i)) (by decide) rfl (fun ls hl => ?_)
            refine lv_goto (tgt := 13) hx hb dX2_emptiestStore_52 (by decide) ?_
            exact ih (i + 1) (some (ad (4 + i))) _ _ _ (by omega) (by rw [min_s hi, if_neg (Nat.succ_ne_zero i), show emp st (i + 1) = i from (if_neg (by omega)).trans (if_pos (Int32.not_le.mp c43))]) hP hD hS (lv_sub hl [3, 1, 4, 5, 0] rfl)
      · refine W.eq (g2 := F0 m 23 ls [.null]) (by rw [rS_ge hi]) ?_
        refine lv_astoreN (lv' := [(5, .null), (0, .ref (ad 0)), (1, va_rf r), (2, .ref (ad 2)), (3, .int 4), (4, .int (nI i))]) hx hb dX2_emptiestStore_23 hl (by decide) rfl (fun ls hl => ?_)
        refine lv_aloadN hx hb dX2_emptiestStore_25 (lv_at hl 0 rfl) ?_
        refine lv_ifnullN (tgt := 49) hx hb dX2_emptiestStore_27 (by decide) ?_
        refine lv_iinc (v := (nI (i + 1))) (lv' := [(4, .int (nI (i + 1))), (5, .null), (0, .ref (ad 0)), (1, va_rf r), (2, .ref (ad 2)), (3, .int 4)]) hx hb dX2_emptiestStore_49 hl (k := 5) rfl ((nI_1 i)) (by decide) rfl (fun ls hl => ?_)
        refine lv_goto (tgt := 13) hx hb dX2_emptiestStore_52 (by decide) ?_
        exact ih (i + 1) r _ _ _ (by omega) (by rw [min_g hi]; exact hinv) hP hD hS (lv_sub hl [2, 3, 4, 5, 0] rfl)
  exact loop 4 0 none _ _ _ (by omega) (by rw [Nat.zero_min]; rfl) hP hD hS (lv_sub hl [4, 3, 2, 1, 0] rfl)

set_option maxHeartbeats 4000000 in
set_option maxRecDepth 100000 in
/-- unloadCarts -/
theorem c_X2_unloadCarts (l : Launch) (D : va_G) (cy : Nat → ClassId) (ad : Nat → Nat) (nS nB : Nat) (st bk : Nat → Iu) (gate nu : Iu) (p0 : Int32) (hcap : nS ≤ 4) : xM l D cy yX2_unloadCarts wsX2_unloadCarts ({ frames := 2, cells := 0, slots := 0, locals := 60 } : Room) [.ref (ad 0), .int p0] (tw cy ad nS nB st bk gate nu) (fun _ : Unit => none) (fun _ => True) (fun _ => tw cy ad nS nB (hCart nS p0 (st, bk, nu)).1 (hCart nS p0 (st, bk, nu)).2.1 gate (hCart nS p0 (st, bk, nu)).2.2) := by
  refine xM.of cX2_unloadCarts 3 none RX2 (by decide +kernel) rfl rfl (Nat.le_of_ble_eq_true rfl) ?_
  intro p e s m below meth c A ls hx hb hr hts hown hlocks hml hin hK hA hP hD hS hl
  have hl : lv_has ls 3 [(0, .ref (ad 0)), (1, .int p0)] := hl
  have hinX2 : ∀ w ∈ wsX20, w ∈ wsX2_unloadCarts := fun _ h => List.mem_cons_of_mem _ (List.mem_append_left _ (List.mem_append_right _ h))
  refine lv_aload_n hx hb dX2_unloadCarts_0 rfl (lv_at hl 0 rfl) ?_
  refine xcV (As := []) (rest := []) ⟨hx, hb, hml, hown, hts⟩ (c_X2_emptiestStore l D cy ad nS nB st bk gate nu (by omega)) (cwV 0 hts gX2_unloadCarts_X2_emptiestStore rfl rfl rfl (by decide +kernel) ⟨Nat.le_of_ble_eq_true rfl, Nat.le_of_ble_eq_true rfl⟩) hK hP hD hS hA rfl rfl rfl (xE_all) rfl hl.1 rfl (Nat.le_of_ble_eq_true rfl) dX2_unloadCarts_1 ⟨Nat.le_of_ble_eq_true rfl, Nat.le_of_ble_eq_true rfl⟩ (fun _ H locs _ hP hD hS => ?_)
  have hP : va_P D vwCl (tw cy ad nS nB st bk gate nu) H := hP
  have hD : va_D A (tw cy ad nS nB st bk gate nu) := hD
  refine W.eq (g2 := F0 m 4 ls [va_rf (if nS = 0 then none else some (ad (4 + emp st nS)))]) rfl ?_
  rcases Nat.eq_zero_or_pos nS with h0 | h0
  · refine W.eq (g2 := F0 m 4 ls [.null]) (by rw [if_pos h0]; rfl) ?_
    refine lv_astore_nN (lv' := [(2, .null), (0, .ref (ad 0)), (1, .int p0)]) hx hb dX2_unloadCarts_4 rfl hl (by decide) rfl (fun ls hl => ?_)
    refine lv_aload_nN hx hb dX2_unloadCarts_5 rfl (lv_at hl 0 rfl) ?_
    refine lv_ifnullN (tgt := 23) hx hb dX2_unloadCarts_6 (by decide) ?_
    have e : hCart nS p0 (st, bk, nu) = (st, bk, nu) := if_pos h0
    exact xrv () hx hb hr hlocks hS (Nat.le_of_ble_eq_true rfl) (Nat.le_of_ble_eq_true rfl) dX2_unloadCarts_23 (by rw [e]; exact hP) (by rw [e]; exact hD) rfl trivial
  · have hem := emp_lt (st := st) h0
    refine W.eq (g2 := F0 m 4 ls [.ref (ad (4 + emp st nS))]) (by rw [if_neg (by omega)]; rfl) ?_
    refine lv_astore_n (lv' := [(2, .ref (ad (4 + emp st nS))), (0, .ref (ad 0)), (1, .int p0)]) hx hb dX2_unloadCarts_4 rfl hl (by decide) rfl (fun ls hl => ?_)
    refine lv_aload_n hx hb dX2_unloadCarts_5 rfl (lv_at hl 0 rfl) ?_
    refine lv_ifnull hx hb dX2_unloadCarts_6 ?_
    refine lv_aload_n hx hb dX2_unloadCarts_9 rfl (lv_at hl 1 rfl) ?_
    refine lv_dup hx hb dX2_unloadCarts_10 rfl ?_
    refine va_get (D := D) (ci := 2) (v := .int (nu 5)) (C := RX2) (T := TX2) (N := 9) hx hb hts hinX2 hown hK.1 hP 0 rfl rfl 8 (by decide) (hts (.fieldLink RX2 43 "LoafMarks$Town" "lost" "I") (List.mem_of_getElem? (i := 1) rfl)) (fun _ h9 => h9) rfl dX2_unloadCarts_11 ?_
    refine lv_aload_n hx hb dX2_unloadCarts_14 rfl (lv_at hl 0 rfl) ?_
    refine lv_iload_n hx hb dX2_unloadCarts_15 rfl (lv_at hl 2 rfl) ?_
    refine xcV (As := [.int p0]) (rest := [.int (nu 5), .ref (ad 0)]) ⟨hx, hb, hml, hown, hts⟩ (c_X1_takeIn l D cy (ad (4 + emp st nS)) (st (emp st nS)) p0) (cwV 1 hts gX2_unloadCarts_X1_takeIn rfl rfl rfl (by decide +kernel) ⟨Nat.le_of_ble_eq_true rfl, Nat.le_of_ble_eq_true rfl⟩) hK hP hD hS hA rfl rfl rfl (xE_st (sTake (st (emp st nS)) p0) hem) rfl hl.1 rfl (Nat.le_of_ble_eq_true rfl) dX2_unloadCarts_16 ⟨Nat.le_of_ble_eq_true rfl, Nat.le_of_ble_eq_true rfl⟩ (fun _ H locs _ hP hD hS => ?_)
    have hP : va_P D vwCl (tw cy ad nS nB (va_up st (emp st nS) (sTake (st (emp st nS)) p0)) bk gate nu) H := hP
    have hD : va_D A (tw cy ad nS nB (va_up st (emp st nS) (sTake (st (emp st nS)) p0)) bk gate nu) := hD
    refine W.eq (g2 := F0 m 19 ls [.int (p0 - mn p0 (900 - (st (emp st nS)) 0)), .int (nu 5), .ref (ad 0)]) rfl ?_
    refine lv_iadd hx hb dX2_unloadCarts_19 ?_
    refine va_put (D := D) (ci := 2) (v := .int ((nu 5) + (p0 - mn p0 (900 - (st (emp st nS)) 0)))) (ty := .int) (C := RX2) (T := TX2) (N := 9) hx hb hts hinX2 tyX2 tyX2_ok nmX2 hown hK.1 hP hD hS 0 rfl rfl 8 (by decide) (hts (.fieldLink RX2 43 "LoafMarks$Town" "lost" "I") (List.mem_of_getElem? (i := 1) rfl)) (fun _ h9 => h9) rfl (by decide +kernel) rfl rfl (Nat.le_of_ble_eq_true rfl) dX2_unloadCarts_20 (fun H locs hP hD hS => ?_)
    have hP : va_P D vwCl (tw cy ad nS nB (va_up st (emp st nS) (sTake (st (emp st nS)) p0)) bk gate (upd nu 5 ((nu 5) + (p0 - mn p0 (900 - (st (emp st nS)) 0))))) H := hP
    have hD : va_D A (tw cy ad nS nB (va_up st (emp st nS) (sTake (st (emp st nS)) p0)) bk gate (upd nu 5 ((nu 5) + (p0 - mn p0 (900 - (st (emp st nS)) 0))))) := hD
    have e : hCart nS p0 (st, bk, nu) = (va_up st (emp st nS) (sTake (st (emp st nS)) p0), bk, upd nu 5 (nu 5 + (p0 - mn p0 (900 - st (emp st nS) 0)))) := if_neg (by omega)
    exact xrv () hx hb hr hlocks hS (Nat.le_of_ble_eq_true rfl) (Nat.le_of_ble_eq_true rfl) dX2_unloadCarts_23 (by rw [e]; exact hP) (by rw [e]; exact hD) rfl trivial
