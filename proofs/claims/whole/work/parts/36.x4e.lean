/-! ===== the reference: looking ahead (laid by gen36.py) ===== -/
section XAA
variable {p : Program} {l : Launch} {e : Env} {R : Room} {s : State} {m : MethodId} {args : Array Value} {below : List Frame} {meth : Method} {c : Code} {H H0 : Heap} {locs : List Loc} {cells slots : Nat} {Q : State → Prop} {cc : ByteArray} {pc : Nat} {ls : Array Slot} {rest : List Value} {D : va_G} {cy : Nat → ClassId} {A : Nat → Prop} {ws : va_W} {a n : Nat}
theorem xnewAA (hx : p.tables.exec = Jvm.exec) (hb : c.code = cc) {own : String} {index : Nat} (hown : s.vm.findClass own = some m.cls) (hclink : (Cond.classLink own index "[I").before args s = true) (hK : XK D cy s) (hP : va_P D vwCl ws H) (hD : va_D A ws) (hS : va_S A H0 H locs) (hA : ∀ q : Nat, H0.size ≤ q → A q) {N : Nat} {i : Int32} (hn : ¬ i < 0) (hN : i.toNatClampNeg = N) (hbytes : N * 4 ≤ 536870912) (hcells : cells + 1 ≤ R.cells) (hslots : slots + N ≤ R.slots) (hdg : decode cc pc = .ok (.anewarray index, 3))
    (kk : ∀ (q : Nat) (H1 : Heap), va_P D vwCl (ws ++ [(q, .inl (cy 3, N, .inr (.inr (.inr (.inr (fun _ => none))))))]) H1 → va_D A (ws ++ [(q, .inl (cy 3, N, .inr (.inr (.inr (.inr (fun _ => none))))))]) → va_S A H0 H1 locs →
      W p l e R s m args below meth c H1 locs (cells + 1) (slots + N) Q (F0 m (pc + 3) ls (.ref q :: rest))) : W p l e R s m args below meth c H locs cells slots Q (F0 m pc ls (.int i :: rest)) := by
  subst hN
  refine W.anewA (t := .int) hx hb hown hclink hK.2.2.2.1 rfl hdg rfl hn hbytes hcells hslots fun cA kA comp f1 f2 f3 f4 => ?_
  have hr : s.vm.findClass ("[" ++ (FieldType.array .int).toString) = some (cy 3) := (hK.1.2 3 (cy 3, .array .int) rfl).2
  cases f1.symm.trans hr
  generalize hH1 : H.push ({ cls := cy 3, slots := Array.replicate i.toNatClampNeg .null, vm := .none } : Cell) = H1
  have z1 : H1.size = H.size + 1 := by rw [← hH1, Array.size_push]
  have e1 : H1[H.size]? = some (arrV (cy 3) i.toNatClampNeg (fun _ => .null)) := by rw [← hH1, Array.getElem?_push_size, ← arrV_new]
  have o1 : ∀ q : Nat, q < H.size → H1[q]? = H[q]? := fun q hq => by rw [← hH1, Array.getElem?_push, if_neg (Nat.ne_of_lt hq)]
  have hk : ∀ (k : Nat) (x : Nat × va_E), ws[k]? = some x → H1[x.1]? = H[x.1]? := fun k x hx => o1 x.1 ((hP k x hx).lt)
  refine kk H.size H1 ((hP.kept hk).app (fun k x hx => ?_)) (hD.push hP rfl (hA _ hS.1)) ⟨Nat.le_trans hS.1 (by omega), fun x h1 h2 => (o1 x (Nat.lt_of_lt_of_le h1 hS.1)).trans (hS.2.1 x h1 h2), hS.2.2⟩
  have hz : k < 1 := (List.getElem?_eq_some_iff.mp hx).1
  rw [show k = 0 by omega] at hx
  cases hx
  show H1[H.size]? = some (vp_cell _ _)
  rw [vp_cell_q]
  exact e1
theorem xaldAA (hx : p.tables.exec = Jvm.exec) (hb : c.code = cc) (hK : XK D cy s) (hP : va_P D vwCl ws H) (q0 : Nat) {f : Nat → Option Nat} (ha : ws[q0]? = some (a, .inl (cy 3, n, .inr (.inr (.inr (.inr f)))))) (j : Nat) {i : Int32} (hi : i = nI j) (hj : j < n) (hn : n < 2 ^ 31) (hdg : decode cc pc = .ok (.aaload, 1))
    (kk : W p l e R s m args below meth c H locs cells slots Q (F0 m (pc + 1) ls (va_rf (f j) :: rest))) : W p l e R s m args below meth c H locs cells slots Q (F0 m pc ls (.int i :: .ref a :: rest)) := by
  subst hi
  have hin : vp_in (nI j) n := vp_in_nI hj hn
  have e := nI_clamp (n := j) (by omega)
  exact W.aald (v := va_rf (f j)) (ty := .array .int) hx hb (hP q0 _ ha) ((hK.1.2 3 _ rfl).1 n (fun j => va_rf (f j))) rfl (fun q => by cases q) (by show ¬ (nI j < 0 ∨ (arrV _ _ _).slots.size ≤ _); rw [arrV_size]; exact hin) (by show (arrV _ _ _).slots[_]? = _; rw [e, arrV_read _ _ hj]) rfl rfl hdg kk
theorem xastAA (hx : p.tables.exec = Jvm.exec) (hb : c.code = cc) (hK : XK D cy s) (hP : va_P D vwCl ws H) (hD : va_D A ws) (hS : va_S A H0 H locs) (q0 qk : Nat) {v : Nat} {x : vp_A} {f : Nat → Option Nat} (ha : ws[q0]? = some (a, .inl (cy 3, n, .inr (.inr (.inr (.inr f)))))) (hv : ws[qk]? = some (v, .inl (cy 0, x))) (j : Nat) {i : Int32} (hi : i = nI j) (hj : j < n) (hn : n < 2 ^ 31) (hdg : decode cc pc = .ok (.aastore, 1))
    (kk : ∀ (H1 : Heap) (locs1 : List Loc), va_P D vwCl (ws.set q0 (a, .inl (cy 3, n, .inr (.inr (.inr (.inr (va_up f j (some v)))))))) H1 → va_D A (ws.set q0 (a, .inl (cy 3, n, .inr (.inr (.inr (.inr (va_up f j (some v)))))))) → va_S A H0 H1 locs1 → W p l e R s m args below meth c H1 locs1 cells slots Q (F0 m (pc + 1) ls rest)) : W p l e R s m args below meth c H locs cells slots Q (F0 m pc ls (.ref v :: .int i :: .ref a :: rest)) := by
  subst hi
  have hin : vp_in (nI j) n := vp_in_nI hj hn
  have e0 := nI_clamp (n := j) (by omega)
  have hlt : (nI j).toNatClampNeg < n := by rw [e0]; exact hj
  have h0 : ¬ nI j < 0 := fun q => hin (Or.inl q)
  have hvm0 : (vp_cell (cy 0) x).vm = .none := by
    obtain ⟨n, f | f | f | f | f⟩ := x <;> rfl
  have hcl0 : (vp_cell (cy 0) x).cls = cy 0 := by
    obtain ⟨n, f | f | f | f | f⟩ := x <;> rfl
  have hr : s.vm.findClass ("[" ++ (FieldType.array .int).toString) = some (cy 3) := (hK.1.2 3 (cy 3, .array .int) rfl).2
  have hr0 : s.vm.findClass ("[" ++ FieldType.int.toString) = some (cy 0) := (hK.1.2 0 (cy 0, .int) rfl).2
  obtain ⟨comp, cA, kA, g1, -, g3, g4, g5⟩ := arrayOverA_spec hK.2.2.2.1
  cases g5.symm.trans hr
  have g1' : s.vm.findClass ("[" ++ FieldType.int.toString) = some comp := g1
  cases g1'.symm.trans hr0
  obtain ⟨-, k0, hk0, -⟩ := (hK.1.2 0 (cy 0, .int) rfl).1 0 (fun _ => .null)
  refine W.aast hx hb (hP q0 _ ha) (fun q h => by cases h) (fun h => by cases h) g3 g4 rfl hk0 ⟨h0, by show _ < (arrV _ _ _).slots.size; rw [arrV_size]; exact hlt⟩ (hP qk _ hv) (fun q h => by rw [hvm0] at h; cases h) (by rw [hcl0]; exact hk0) (by rw [hcl0]; exact va_asg _ _) rfl rfl hdg fun H1 e z oq => ?_
  refine kk H1 _ (hP.set hD ha ?_ oq) (hD.set ha) (hS.put z oq (hD.2 q0 _ ha))
  show H1[a]? = some (vp_cell _ _)
  rw [e]
  rw [vp_cell_q, vp_cell_q, arrV_store, e0]
  congr 2
  funext q
  by_cases hq : q = j
  · subst hq
    simp [updV, va_up, va_rf]
  · simp [updV, va_up, hq]
end XAA
theorem xfit {cA : ClassId} {n : Nat} {f : Iu} : ∀ (i : Nat) (v : Value), (vp_cell cA (n, .inl f)).slots[i]? = some v → fits .int v = true := by
  intro i v hv
  rw [vp_cell_i] at hv
  have hlt := (List.getElem?_eq_some_iff.mp (by simpa using hv) : ∃ h : i < (arrV cA n (fun j => .int (f j))).slots.toList.length, _).1
  have hlt : i < n := by simpa [arrV_size] using hlt
  rw [arrV_read _ _ hlt] at hv
  cases hv
  rfl
theorem xP_cong {D : va_G} {ws : va_W} {H : Heap} {k a n : Nat} {cA : ClassId} {f g : Iu} (h : ∀ j, j < n → f j = g j) (hP : va_P D vwCl (ws.set k (a, .inl (cA, n, .inl f))) H) : va_P D vwCl (ws.set k (a, .inl (cA, n, .inl g))) H := by
  intro i q hq
  rcases Decidable.em (i = k) with hi | hi
  · subst hi
    rcases Nat.lt_or_ge i ws.length with hl | hl
    · rw [List.getElem?_set_self hl] at hq
      have e : q = (a, .inl (cA, n, .inl g)) := (Option.some.inj hq).symm
      subst e
      have h1 := hP i (a, .inl (cA, n, .inl f)) (by rw [List.getElem?_set_self hl])
      show H[a]? = some (vp_cell cA (n, .inl g))
      rw [← vp_cell_cong h]
      exact h1
    · rw [List.getElem?_eq_none (by rw [List.length_set]; exact hl)] at hq
      cases hq
  · refine hP i q ?_
    rw [List.getElem?_set_ne (Ne.symm hi)] at hq ⊢
    exact hq
theorem xD_cong {A : Nat → Prop} {ws : va_W} {k a : Nat} {x y : va_E} (hD : va_D A (ws.set k (a, x))) : va_D A (ws.set k (a, y)) := by
  rw [xD_iff] at hD ⊢
  rw [List.map_set] at hD ⊢
  refine ⟨hD.1, fun q hq => ?_⟩
  have hm : q.1 ∈ (ws.set k (a, y)).map Prod.fst := List.mem_map.mpr ⟨q, hq, rfl⟩
  have hm2 : q.1 ∈ (ws.set k (a, x)).map Prod.fst := by rw [List.map_set] at hm ⊢; exact hm
  obtain ⟨q2, h2, e2⟩ := List.mem_map.mp hm2
  rw [← e2]
  exact hD.2 q2 h2
theorem cpy_all {f g : Iu} {n : Nat} : ∀ j, j < n → va_cpy f g 0 0 n j = f j := by
  intro j hj
  unfold va_cpy
  rw [if_pos ⟨Nat.zero_le _, by omega⟩, Nat.zero_add, Nat.sub_zero]
/-- what is kept: three rows of numbers, and the row of them -/
def kw (cy : Nat → ClassId) (ka : Nat → Nat) (st bk : Nat → Iu) (nu : Iu) : va_W := [(ka 0, .inl (cy 3, 3, .inr (.inr (.inr (.inr (va_up (va_up (va_up (fun _ => none) 0 (some (ka 1))) 1 (some (ka 2))) 2 (some (ka 3)))))))), (ka 1, .inl (cy 0, 12, .inl (fS st))), (ka 2, .inl (cy 0, 48, .inl (fB bk))), (ka 3, .inl (cy 0, 5, .inl (fN nu)))]
theorem add_eq_l {a b : Int32} (h : a + b = a) : b = 0 := by
  have e := add_sub_l a b
  rw [h, Int32.sub_self] at e
  exact e.symm
/-- advise's best ration and fewest hungry, behind k rations -/
def aB (F : Nat → Int32) : Nat → Int32
  | 0 => -1
  | k + 1 => nI (10 * (advN F k).1)
def aL (x : Int32) (F : Nat → Int32) : Nat → Int32
  | 0 => 0
  | k + 1 => x + (advN F k).2
theorem advN_le (F : Nat → Int32) : ∀ k, (advN F k).1 ≤ k ∧ (advN F k).2 = F (advN F k).1
  | 0 => ⟨Nat.le_refl _, rfl⟩
  | k + 1 => by
    have h := advN_le F k
    show (if F (k + 1) < (advN F k).2 then (k + 1, F (k + 1)) else advN F k).1 ≤ k + 1 ∧ (if F (k + 1) < (advN F k).2 then (k + 1, F (k + 1)) else advN F k).2 = F (if F (k + 1) < (advN F k).2 then (k + 1, F (k + 1)) else advN F k).1
    split
    · exact ⟨Nat.le_refl _, rfl⟩
    · exact ⟨by omega, h.2⟩
theorem hour1_1 (nS nB k : Nat) (gate : Iu) (u : TS) : (hour1 nS nB k gate u).2.2 1 = u.2.2 1 := by
  refine (upd_ne (f := (hSale nS nB k gate u).2.2) (k := 0) (j := 1) (x := (hSale nS nB k gate u).2.2 0 + 1) (by decide)).trans ?_
  unfold hSale
  split
  · rw [hNoon_nu _ _ (by decide), slN_nu _ (by decide) (by decide)]
    exact hMorn_nu _ _ _ _ _ (by decide)
  · exact hMorn_nu _ _ _ _ _ (by decide)
theorem hrs_1 (nS nB h : Nat) (gate : Iu) (u : TS) : ∀ n, (hrs nS nB h gate u n).2.2 1 = u.2.2 1
  | 0 => rfl
  | n + 1 => (hour1_1 _ _ _ _ _).trans (hrs_1 nS nB h gate u n)
set_option maxHeartbeats 4000000 in
set_option maxRecDepth 100000 in
/-- kept -/
theorem c_X4_kept (l : Launch) (D : va_G) (cy : Nat → ClassId) (b : Nat) (am : Nat → Nat) (thr : Int32) (nS nB : Nat) (st bk : Nat → Iu) (gate nu : Iu)  : xM l D cy yX4_kept wsX4_kept ({ frames := 1, cells := 4, slots := 68, locals := 30 } : Room) [.ref b] (mw cy b am thr nS nB st bk gate nu) (fun a : Nat → Nat => some (.ref (a 0))) (fun _ => True) (fun a => mw cy b am thr nS nB st bk gate nu ++ kw cy a st bk nu) := by
  refine xM.of cX4_kept 1 (some (.array (.array .int))) RX4 (by decide +kernel) rfl rfl (Nat.le_of_ble_eq_true rfl) ?_
  intro p e s m below meth c A ls hx hb hr hts hown hlocks hml hin hK hA hP hD hS hl
  have hl : lv_has ls 1 [(0, .ref b)] := hl
  have hinX4 : ∀ w ∈ wsX40, w ∈ wsX4_kept := fun _ h => List.mem_cons_of_mem _ (List.mem_append_right _ h)
  refine lv_iconst (v := 3) hx hb dX4_kept_0 (by decide) ?_
  refine xnewAA hx hb hown (hts (.classLink RX4 109 "[I") (List.mem_of_getElem? (i := 1) rfl)) hK hP hD hS hA (by decide) (N := 3) (by decide) (by decide) (Nat.le_of_ble_eq_true rfl) (Nat.le_of_ble_eq_true rfl) dX4_kept_1 (fun q1 H hP hD hS => ?_)
  have hP : va_P D vwCl ((mw cy b am thr nS nB st bk gate nu) ++ [(q1, .inl (cy 3, 3, .inr (.inr (.inr (.inr (fun _ => none))))))]) H := hP
  have hD : va_D A ((mw cy b am thr nS nB st bk gate nu) ++ [(q1, .inl (cy 3, 3, .inr (.inr (.inr (.inr (fun _ => none))))))]) := hD
  refine lv_dup hx hb dX4_kept_4 rfl ?_
  refine lv_iconst (v := 0) hx hb dX4_kept_5 (by decide) ?_
  refine lv_aload_n hx hb dX4_kept_6 rfl (lv_at hl 0 rfl) ?_
  refine va_get (D := D) (ci := 4) (v := .ref (am 1)) (C := RX4) (T := TX4) (N := 8) hx hb hts hinX4 hown hK.1 hP 0 rfl rfl 5 (by decide) (hts (.fieldLink RX4 17 "LoafMarksModel" "barns" "[I") (List.mem_of_getElem? (i := 2) rfl)) (fun _ h9 => h9) rfl dX4_kept_7 ?_
  refine va_clone hx hb (hml.trans hl.1.symm) hown (hts (.methodLink RX4 110 ⟨"[I", "clone", "()Ljava/lang/Object;"⟩) (List.mem_of_getElem? (i := 3) rfl)) (hts (.sameMethod "[I" "java/lang/Object" "clone" "()Ljava/lang/Object;") (List.mem_of_getElem? (i := 4) rfl)) (hts (.native ⟨"java/lang/Object", "clone", "()Ljava/lang/Object;"⟩) (List.mem_of_getElem? (i := 5) rfl)) (hts (.instanceMethod ⟨"java/lang/Object", "clone", "()Ljava/lang/Object;"⟩) (List.mem_of_getElem? (i := 6) rfl)) (hts (.selects "[I" ⟨"[I", "clone", "()Ljava/lang/Object;"⟩ ⟨"java/lang/Object", "clone", "()Ljava/lang/Object;"⟩) (List.mem_of_getElem? (i := 7) rfl)) hK.2.2.2.2 hK.1 hP hD hS hA 2 0 (x := (12, .inl (fS st))) rfl rfl (hK.1.2 0 (cy 0, .int) rfl).2 xfit (Nat.le_of_ble_eq_true rfl) (Nat.le_of_ble_eq_true rfl) (Nat.le_of_ble_eq_true rfl) (Nat.le_of_ble_eq_true rfl) dX4_kept_10 (fun q10 H _ hP hD hS => ?_)
  have hP : va_P D vwCl (((mw cy b am thr nS nB st bk gate nu) ++ [(q1, .inl (cy 3, 3, .inr (.inr (.inr (.inr (fun _ => none))))))]) ++ [(q10, .inl (cy 0, 12, .inl (fS st)))]) H := hP
  have hD : va_D A (((mw cy b am thr nS nB st bk gate nu) ++ [(q1, .inl (cy 3, 3, .inr (.inr (.inr (.inr (fun _ => none))))))]) ++ [(q10, .inl (cy 0, 12, .inl (fS st)))]) := hD
  refine va_castA hx hb hown (hts (.classLink RX4 109 "[I") (List.mem_of_getElem? (i := 1) rfl)) hP 6 rfl (hK.1.2 0 (cy 0, .int) rfl).2 dX4_kept_13 ?_
  refine xastAA hx hb hK hP hD hS 5 6 rfl rfl 0 rfl (by decide) (by decide) dX4_kept_16 (fun H locs hP hD hS => ?_)
  have hP : va_P D vwCl (((mw cy b am thr nS nB st bk gate nu) ++ [(q1, .inl (cy 3, 3, .inr (.inr (.inr (.inr (va_up (fun _ => none) 0 (some q10)))))))]) ++ [(q10, .inl (cy 0, 12, .inl (fS st)))]) H := hP
  have hD : va_D A (((mw cy b am thr nS nB st bk gate nu) ++ [(q1, .inl (cy 3, 3, .inr (.inr (.inr (.inr (va_up (fun _ => none) 0 (some q10)))))))]) ++ [(q10, .inl (cy 0, 12, .inl (fS st)))]) := hD
  refine lv_dup hx hb dX4_kept_17 rfl ?_
  refine lv_iconst (v := 1) hx hb dX4_kept_18 (by decide) ?_
  refine lv_aload_n hx hb dX4_kept_19 rfl (lv_at hl 0 rfl) ?_
  refine va_get (D := D) (ci := 4) (v := .ref (am 2)) (C := RX4) (T := TX4) (N := 8) hx hb hts hinX4 hown hK.1 hP 0 rfl rfl 6 (by decide) (hts (.fieldLink RX4 20 "LoafMarksModel" "shops" "[I") (List.mem_of_getElem? (i := 8) rfl)) (fun _ h9 => h9) rfl dX4_kept_20 ?_
  refine va_clone hx hb (hml.trans hl.1.symm) hown (hts (.methodLink RX4 110 ⟨"[I", "clone", "()Ljava/lang/Object;"⟩) (List.mem_of_getElem? (i := 3) rfl)) (hts (.sameMethod "[I" "java/lang/Object" "clone" "()Ljava/lang/Object;") (List.mem_of_getElem? (i := 4) rfl)) (hts (.native ⟨"java/lang/Object", "clone", "()Ljava/lang/Object;"⟩) (List.mem_of_getElem? (i := 5) rfl)) (hts (.instanceMethod ⟨"java/lang/Object", "clone", "()Ljava/lang/Object;"⟩) (List.mem_of_getElem? (i := 6) rfl)) (hts (.selects "[I" ⟨"[I", "clone", "()Ljava/lang/Object;"⟩ ⟨"java/lang/Object", "clone", "()Ljava/lang/Object;"⟩) (List.mem_of_getElem? (i := 7) rfl)) hK.2.2.2.2 hK.1 hP hD hS hA 3 0 (x := (48, .inl (fB bk))) rfl rfl (hK.1.2 0 (cy 0, .int) rfl).2 xfit (Nat.le_of_ble_eq_true rfl) (Nat.le_of_ble_eq_true rfl) (Nat.le_of_ble_eq_true rfl) (Nat.le_of_ble_eq_true rfl) dX4_kept_23 (fun q23 H _ hP hD hS => ?_)
  have hP : va_P D vwCl ((((mw cy b am thr nS nB st bk gate nu) ++ [(q1, .inl (cy 3, 3, .inr (.inr (.inr (.inr (va_up (fun _ => none) 0 (some q10)))))))]) ++ [(q10, .inl (cy 0, 12, .inl (fS st)))]) ++ [(q23, .inl (cy 0, 48, .inl (fB bk)))]) H := hP
  have hD : va_D A ((((mw cy b am thr nS nB st bk gate nu) ++ [(q1, .inl (cy 3, 3, .inr (.inr (.inr (.inr (va_up (fun _ => none) 0 (some q10)))))))]) ++ [(q10, .inl (cy 0, 12, .inl (fS st)))]) ++ [(q23, .inl (cy 0, 48, .inl (fB bk)))]) := hD
  refine va_castA hx hb hown (hts (.classLink RX4 109 "[I") (List.mem_of_getElem? (i := 1) rfl)) hP 7 rfl (hK.1.2 0 (cy 0, .int) rfl).2 dX4_kept_26 ?_
  refine xastAA hx hb hK hP hD hS 5 7 rfl rfl 1 rfl (by decide) (by decide) dX4_kept_29 (fun H locs hP hD hS => ?_)
  have hP : va_P D vwCl ((((mw cy b am thr nS nB st bk gate nu) ++ [(q1, .inl (cy 3, 3, .inr (.inr (.inr (.inr (va_up (va_up (fun _ => none) 0 (some q10)) 1 (some q23)))))))]) ++ [(q10, .inl (cy 0, 12, .inl (fS st)))]) ++ [(q23, .inl (cy 0, 48, .inl (fB bk)))]) H := hP
  have hD : va_D A ((((mw cy b am thr nS nB st bk gate nu) ++ [(q1, .inl (cy 3, 3, .inr (.inr (.inr (.inr (va_up (va_up (fun _ => none) 0 (some q10)) 1 (some q23)))))))]) ++ [(q10, .inl (cy 0, 12, .inl (fS st)))]) ++ [(q23, .inl (cy 0, 48, .inl (fB bk)))]) := hD
  refine lv_dup hx hb dX4_kept_30 rfl ?_
  refine lv_iconst (v := 2) hx hb dX4_kept_31 (by decide) ?_
  refine lv_aload_n hx hb dX4_kept_32 rfl (lv_at hl 0 rfl) ?_
  refine va_get (D := D) (ci := 4) (v := .ref (am 3)) (C := RX4) (T := TX4) (N := 8) hx hb hts hinX4 hown hK.1 hP 0 rfl rfl 7 (by decide) (hts (.fieldLink RX4 23 "LoafMarksModel" "numbers" "[I") (List.mem_of_getElem? (i := 9) rfl)) (fun _ h9 => h9) rfl dX4_kept_33 ?_
  refine va_clone hx hb (hml.trans hl.1.symm) hown (hts (.methodLink RX4 110 ⟨"[I", "clone", "()Ljava/lang/Object;"⟩) (List.mem_of_getElem? (i := 3) rfl)) (hts (.sameMethod "[I" "java/lang/Object" "clone" "()Ljava/lang/Object;") (List.mem_of_getElem? (i := 4) rfl)) (hts (.native ⟨"java/lang/Object", "clone", "()Ljava/lang/Object;"⟩) (List.mem_of_getElem? (i := 5) rfl)) (hts (.instanceMethod ⟨"java/lang/Object", "clone", "()Ljava/lang/Object;"⟩) (List.mem_of_getElem? (i := 6) rfl)) (hts (.selects "[I" ⟨"[I", "clone", "()Ljava/lang/Object;"⟩ ⟨"java/lang/Object", "clone", "()Ljava/lang/Object;"⟩) (List.mem_of_getElem? (i := 7) rfl)) hK.2.2.2.2 hK.1 hP hD hS hA 4 0 (x := (5, .inl (fN nu))) rfl rfl (hK.1.2 0 (cy 0, .int) rfl).2 xfit (Nat.le_of_ble_eq_true rfl) (Nat.le_of_ble_eq_true rfl) (Nat.le_of_ble_eq_true rfl) (Nat.le_of_ble_eq_true rfl) dX4_kept_36 (fun q36 H _ hP hD hS => ?_)
  have hP : va_P D vwCl (((((mw cy b am thr nS nB st bk gate nu) ++ [(q1, .inl (cy 3, 3, .inr (.inr (.inr (.inr (va_up (va_up (fun _ => none) 0 (some q10)) 1 (some q23)))))))]) ++ [(q10, .inl (cy 0, 12, .inl (fS st)))]) ++ [(q23, .inl (cy 0, 48, .inl (fB bk)))]) ++ [(q36, .inl (cy 0, 5, .inl (fN nu)))]) H := hP
  have hD : va_D A (((((mw cy b am thr nS nB st bk gate nu) ++ [(q1, .inl (cy 3, 3, .inr (.inr (.inr (.inr (va_up (va_up (fun _ => none) 0 (some q10)) 1 (some q23)))))))]) ++ [(q10, .inl (cy 0, 12, .inl (fS st)))]) ++ [(q23, .inl (cy 0, 48, .inl (fB bk)))]) ++ [(q36, .inl (cy 0, 5, .inl (fN nu)))]) := hD
  refine va_castA hx hb hown (hts (.classLink RX4 109 "[I") (List.mem_of_getElem? (i := 1) rfl)) hP 8 rfl (hK.1.2 0 (cy 0, .int) rfl).2 dX4_kept_39 ?_
  refine xastAA hx hb hK hP hD hS 5 8 rfl rfl 2 rfl (by decide) (by decide) dX4_kept_42 (fun H locs hP hD hS => ?_)
  have hP : va_P D vwCl (((((mw cy b am thr nS nB st bk gate nu) ++ [(q1, .inl (cy 3, 3, .inr (.inr (.inr (.inr (va_up (va_up (va_up (fun _ => none) 0 (some q10)) 1 (some q23)) 2 (some q36)))))))]) ++ [(q10, .inl (cy 0, 12, .inl (fS st)))]) ++ [(q23, .inl (cy 0, 48, .inl (fB bk)))]) ++ [(q36, .inl (cy 0, 5, .inl (fN nu)))]) H := hP
  have hD : va_D A (((((mw cy b am thr nS nB st bk gate nu) ++ [(q1, .inl (cy 3, 3, .inr (.inr (.inr (.inr (va_up (va_up (va_up (fun _ => none) 0 (some q10)) 1 (some q23)) 2 (some q36)))))))]) ++ [(q10, .inl (cy 0, 12, .inl (fS st)))]) ++ [(q23, .inl (cy 0, 48, .inl (fB bk)))]) ++ [(q36, .inl (cy 0, 5, .inl (fN nu)))]) := hD
  exact xra (adT q1 q10 q23 q36) hx hb hr (Or.inr ⟨_, rfl⟩) (Or.inr ⟨_, rfl⟩) hlocks hS (Nat.le_of_ble_eq_true rfl) (Nat.le_of_ble_eq_true rfl) dX4_kept_43 hP hD rfl trivial

set_option maxHeartbeats 4000000 in
set_option maxRecDepth 100000 in
/-- bringBack -/
theorem c_X4_bringBack (l : Launch) (D : va_G) (cy : Nat → ClassId) (b : Nat) (am : Nat → Nat) (thr : Int32) (nS nB : Nat) (st bk : Nat → Iu) (gate nu : Iu) (ka : Nat → Nat) (sk bz : Nat → Iu) (nk : Iu) (hpe : nu 1 = nk 1) : xM l D cy yX4_bringBack wsX4_bringBack ({ frames := 1, cells := 0, slots := 0, locals := 60 } : Room) [.ref b, .ref (ka 0)] (mw cy b am thr nS nB st bk gate nu ++ kw cy ka sk bz nk) (fun _ : Unit => none) (fun _ => True) (fun _ => mw cy b am thr nS nB sk bz gate nk ++ kw cy ka sk bz nk) := by
  refine xM.of cX4_bringBack 2 none RX4 (by decide +kernel) rfl rfl (Nat.le_of_ble_eq_true rfl) ?_
  intro p e s m below meth c A ls hx hb hr hts hown hlocks hml hin hK hA hP hD hS hl
  have hl : lv_has ls 2 [(0, .ref b), (1, .ref (ka 0))] := hl
  have hinX4 : ∀ w ∈ wsX40, w ∈ wsX4_bringBack := fun _ h => List.mem_cons_of_mem _ (List.mem_append_right _ h)
  refine lv_aload_n hx hb dX4_bringBack_0 rfl (lv_at hl 1 rfl) ?_
  refine lv_iconst (v := 0) hx hb dX4_bringBack_1 (by decide) ?_
  refine xaldAA hx hb hK hP 5 rfl 0 rfl (by decide) (by decide) dX4_bringBack_2 ?_
  refine W.eq (g2 := F0 m 3 ls [.ref (ka 1)]) rfl ?_
  refine lv_iconst (v := 0) hx hb dX4_bringBack_3 (by decide) ?_
  refine lv_aload_n hx hb dX4_bringBack_4 rfl (lv_at hl 0 rfl) ?_
  refine va_get (D := D) (ci := 4) (v := .ref (am 1)) (C := RX4) (T := TX4) (N := 8) hx hb hts hinX4 hown hK.1 hP 0 rfl rfl 5 (by decide) (hts (.fieldLink RX4 17 "LoafMarksModel" "barns" "[I") (List.mem_of_getElem? (i := 1) rfl)) (fun _ h9 => h9) rfl dX4_bringBack_5 ?_
  refine lv_iconst (v := 0) hx hb dX4_bringBack_8 (by decide) ?_
  refine lv_aload_n hx hb dX4_bringBack_9 rfl (lv_at hl 0 rfl) ?_
  refine va_get (D := D) (ci := 4) (v := .ref (am 1)) (C := RX4) (T := TX4) (N := 8) hx hb hts hinX4 hown hK.1 hP 0 rfl rfl 5 (by decide) (hts (.fieldLink RX4 17 "LoafMarksModel" "barns" "[I") (List.mem_of_getElem? (i := 1) rfl)) (fun _ h9 => h9) rfl dX4_bringBack_10 ?_
  refine va_alen hx hb hK.1 hP 2 0 rfl rfl (v := 12) rfl dX4_bringBack_13 ?_
  refine va_copyi hx hb (hml.trans hl.1.symm) hown (hts (.methodLink RX4 43 arraycopyName) (List.mem_of_getElem? (i := 2) rfl)) (hts (.native arraycopyName) (List.mem_of_getElem? (i := 3) rfl)) (hts (.static arraycopyName) (List.mem_of_getElem? (i := 4) rfl)) (hts (.initialized "java/lang/System") (List.mem_of_getElem? (i := 5) rfl)) hK.1 hP hD hS 6 2 0 0 rfl rfl rfl rfl rfl (by decide) (by decide) (by decide) (by decide) (by decide) (fun _ _ => rfl) (Nat.le_of_ble_eq_true rfl) (Nat.le_of_ble_eq_true rfl) dX4_bringBack_14 (fun H locs hP hD hS => ?_)
  have hP := xP_cong (ws := mw cy b am thr nS nB st bk gate nu ++ kw cy ka sk bz nk) (k := 2) (a := am 1) (n := 12) (cA := cy 0) (g := fS sk) (cpy_all (f := fS sk) (g := fS st) (n := 12)) hP
  have hD := xD_cong (ws := mw cy b am thr nS nB st bk gate nu ++ kw cy ka sk bz nk) (k := 2) (a := am 1) (y := .inl (cy 0, 12, .inl (fS sk))) hD
  have hP : va_P D vwCl (mw cy b am thr nS nB sk bk gate nu ++ kw cy ka sk bz nk) H := hP
  have hD : va_D A (mw cy b am thr nS nB sk bk gate nu ++ kw cy ka sk bz nk) := hD
  refine lv_aload_n hx hb dX4_bringBack_17 rfl (lv_at hl 1 rfl) ?_
  refine lv_iconst (v := 1) hx hb dX4_bringBack_18 (by decide) ?_
  refine xaldAA hx hb hK hP 5 rfl 1 rfl (by decide) (by decide) dX4_bringBack_19 ?_
  refine W.eq (g2 := F0 m 20 ls [.ref (ka 2)]) rfl ?_
  refine lv_iconst (v := 0) hx hb dX4_bringBack_20 (by decide) ?_
  refine lv_aload_n hx hb dX4_bringBack_21 rfl (lv_at hl 0 rfl) ?_
  refine va_get (D := D) (ci := 4) (v := .ref (am 2)) (C := RX4) (T := TX4) (N := 8) hx hb hts hinX4 hown hK.1 hP 0 rfl rfl 6 (by decide) (hts (.fieldLink RX4 20 "LoafMarksModel" "shops" "[I") (List.mem_of_getElem? (i := 6) rfl)) (fun _ h9 => h9) rfl dX4_bringBack_22 ?_
  refine lv_iconst (v := 0) hx hb dX4_bringBack_25 (by decide) ?_
  refine lv_aload_n hx hb dX4_bringBack_26 rfl (lv_at hl 0 rfl) ?_
  refine va_get (D := D) (ci := 4) (v := .ref (am 2)) (C := RX4) (T := TX4) (N := 8) hx hb hts hinX4 hown hK.1 hP 0 rfl rfl 6 (by decide) (hts (.fieldLink RX4 20 "LoafMarksModel" "shops" "[I") (List.mem_of_getElem? (i := 6) rfl)) (fun _ h9 => h9) rfl dX4_bringBack_27 ?_
  refine va_alen hx hb hK.1 hP 3 0 rfl rfl (v := 48) rfl dX4_bringBack_30 ?_
  refine va_copyi hx hb (hml.trans hl.1.symm) hown (hts (.methodLink RX4 43 arraycopyName) (List.mem_of_getElem? (i := 2) rfl)) (hts (.native arraycopyName) (List.mem_of_getElem? (i := 3) rfl)) (hts (.static arraycopyName) (List.mem_of_getElem? (i := 4) rfl)) (hts (.initialized "java/lang/System") (List.mem_of_getElem? (i := 5) rfl)) hK.1 hP hD hS 7 3 0 0 rfl rfl rfl rfl rfl (by decide) (by decide) (by decide) (by decide) (by decide) (fun _ _ => rfl) (Nat.le_of_ble_eq_true rfl) (Nat.le_of_ble_eq_true rfl) dX4_bringBack_31 (fun H locs hP hD hS => ?_)
  have hP := xP_cong (ws := mw cy b am thr nS nB sk bk gate nu ++ kw cy ka sk bz nk) (k := 3) (a := am 2) (n := 48) (cA := cy 0) (g := fB bz) (cpy_all (f := fB bz) (g := fB bk) (n := 48)) hP
  have hD := xD_cong (ws := mw cy b am thr nS nB sk bk gate nu ++ kw cy ka sk bz nk) (k := 3) (a := am 2) (y := .inl (cy 0, 48, .inl (fB bz))) hD
  have hP : va_P D vwCl (mw cy b am thr nS nB sk bz gate nu ++ kw cy ka sk bz nk) H := hP
  have hD : va_D A (mw cy b am thr nS nB sk bz gate nu ++ kw cy ka sk bz nk) := hD
  refine lv_aload_n hx hb dX4_bringBack_34 rfl (lv_at hl 1 rfl) ?_
  refine lv_iconst (v := 2) hx hb dX4_bringBack_35 (by decide) ?_
  refine xaldAA hx hb hK hP 5 rfl 2 rfl (by decide) (by decide) dX4_bringBack_36 ?_
  refine W.eq (g2 := F0 m 37 ls [.ref (ka 3)]) rfl ?_
  refine lv_iconst (v := 0) hx hb dX4_bringBack_37 (by decide) ?_
  refine lv_aload_n hx hb dX4_bringBack_38 rfl (lv_at hl 0 rfl) ?_
  refine va_get (D := D) (ci := 4) (v := .ref (am 3)) (C := RX4) (T := TX4) (N := 8) hx hb hts hinX4 hown hK.1 hP 0 rfl rfl 7 (by decide) (hts (.fieldLink RX4 23 "LoafMarksModel" "numbers" "[I") (List.mem_of_getElem? (i := 7) rfl)) (fun _ h9 => h9) rfl dX4_bringBack_39 ?_
  refine lv_iconst (v := 0) hx hb dX4_bringBack_42 (by decide) ?_
  refine lv_aload_n hx hb dX4_bringBack_43 rfl (lv_at hl 0 rfl) ?_
  refine va_get (D := D) (ci := 4) (v := .ref (am 3)) (C := RX4) (T := TX4) (N := 8) hx hb hts hinX4 hown hK.1 hP 0 rfl rfl 7 (by decide) (hts (.fieldLink RX4 23 "LoafMarksModel" "numbers" "[I") (List.mem_of_getElem? (i := 7) rfl)) (fun _ h9 => h9) rfl dX4_bringBack_44 ?_
  refine va_alen hx hb hK.1 hP 4 0 rfl rfl (v := 5) rfl dX4_bringBack_47 ?_
  refine va_copyi hx hb (hml.trans hl.1.symm) hown (hts (.methodLink RX4 43 arraycopyName) (List.mem_of_getElem? (i := 2) rfl)) (hts (.native arraycopyName) (List.mem_of_getElem? (i := 3) rfl)) (hts (.static arraycopyName) (List.mem_of_getElem? (i := 4) rfl)) (hts (.initialized "java/lang/System") (List.mem_of_getElem? (i := 5) rfl)) hK.1 hP hD hS 8 4 0 0 rfl rfl rfl rfl rfl (by decide) (by decide) (by decide) (by decide) (by decide) (fun _ _ => rfl) (Nat.le_of_ble_eq_true rfl) (Nat.le_of_ble_eq_true rfl) dX4_bringBack_48 (fun H locs hP hD hS => ?_)
  have hP := xP_cong (ws := mw cy b am thr nS nB sk bz gate nu ++ kw cy ka sk bz nk) (k := 4) (a := am 3) (n := 5) (cA := cy 0) (g := fN nk) (cpy_all (f := fN nk) (g := fN nu) (n := 5)) hP
  have hD := xD_cong (ws := mw cy b am thr nS nB sk bz gate nu ++ kw cy ka sk bz nk) (k := 4) (a := am 3) (y := .inl (cy 0, 5, .inl (fN nk))) hD
  have hP : va_P D vwCl (mw cy b am thr nS nB sk bz gate nk ++ kw cy ka sk bz nk) H := by unfold mw; rw [← hpe]; exact hP
  have hD : va_D A (mw cy b am thr nS nB sk bz gate nk ++ kw cy ka sk bz nk) := by unfold mw; rw [← hpe]; exact hD
  exact xrv () hx hb hr hlocks hS (Nat.le_of_ble_eq_true rfl) (Nat.le_of_ble_eq_true rfl) dX4_bringBack_51 hP hD rfl trivial

set_option maxHeartbeats 4000000 in
set_option maxRecDepth 100000 in
/-- lasts -/
theorem c_X4_lasts (l : Launch) (D : va_G) (cy : Nat → ClassId) (b : Nat) (am : Nat → Nat) (thr : Int32) (nS nB : Nat) (st bk : Nat → Iu) (gate nu : Iu) (hq : Nat) (eh : nu 0 = nI hq) (hh : hq + 480 < 2 ^ 31) (hcS : nS ≤ 4) (hcB : nB ≤ 6) (ok : ∀ i, i < 480 → okH nS nB gate (hrs nS nB hq gate (st, bk, nu) i)) (hnn : ∀ i, i < 480 → 0 ≤ hUnfed nS nB ((hq + i) % 24) gate (hrs nS nB hq gate (st, bk, nu) i)) : xM l D cy yX4_lasts wsX4_lasts ({ frames := 4, cells := 4, slots := 68, locals := 130 } : Room) [.ref b] (mw cy b am thr nS nB st bk gate nu) (fun _ : Unit => some (.int (lastN nS nB hq gate (st, bk, nu) 480 0))) (fun _ => True) (fun _ => mw cy b am 0 nS nB st bk gate nu) := by
  refine xM.of cX4_lasts 4 (some .int) RX4 (by decide +kernel) rfl rfl (Nat.le_of_ble_eq_true rfl) ?_
  intro p e s m below meth c A ls hx hb hr hts hown hlocks hml hin hK hA hP hD hS hl
  have hl : lv_has ls 4 [(0, .ref b)] := hl
  have hinX4 : ∀ w ∈ wsX40, w ∈ wsX4_lasts := fun _ h => List.mem_cons_of_mem _ (List.mem_append_right _ h)
  refine lv_aload_n hx hb dX4_lasts_0 rfl (lv_at hl 0 rfl) ?_
  refine lv_iconst (v := 0) hx hb dX4_lasts_1 (by decide) ?_
  refine va_put (D := D) (ci := 4) (v := .int 0) (ty := .int) (C := RX4) (T := TX4) (N := 8) hx hb hts hinX4 tyX4 tyX4_ok nmX4 hown hK.1 hP hD hS 0 rfl rfl 0 (by decide) (hts (.fieldLink RX4 26 "LoafMarksModel" "thrown" "I") (List.mem_of_getElem? (i := 1) rfl)) (fun _ h9 => h9) rfl (by decide +kernel) rfl rfl (Nat.le_of_ble_eq_true rfl) dX4_lasts_2 (fun H locs hP hD hS => ?_)
  have hP : va_P D vwCl (mw cy b am 0 nS nB st bk gate nu) H := hP
  have hD : va_D A (mw cy b am 0 nS nB st bk gate nu) := hD
  refine lv_aload_n hx hb dX4_lasts_5 rfl (lv_at hl 0 rfl) ?_
  refine xcV (As := []) (rest := []) ⟨hx, hb, hml, hown, hts⟩ (c_X4_kept l D cy b am 0 nS nB st bk gate nu) (cwV 0 hts gX4_lasts_X4_kept rfl rfl rfl (by decide +kernel) ⟨Nat.le_of_ble_eq_true rfl, Nat.le_of_ble_eq_true rfl⟩) hK hP hD hS hA rfl rfl rfl (xE_all) rfl hl.1 rfl (Nat.le_of_ble_eq_true rfl) dX4_lasts_6 ⟨Nat.le_of_ble_eq_true rfl, Nat.le_of_ble_eq_true rfl⟩ (fun ka H locs _ hP hD hS => ?_)
  have hP : va_P D vwCl (mw cy b am 0 nS nB st bk gate nu ++ kw cy ka st bk nu) H := hP
  have hD : va_D A (mw cy b am 0 nS nB st bk gate nu ++ kw cy ka st bk nu) := hD
  refine W.eq (g2 := F0 m 9 ls [.ref (ka 0)]) rfl ?_
  refine lv_astore_n (lv' := [(1, .ref (ka 0)), (0, .ref b)]) hx hb dX4_lasts_9 rfl hl (by decide) rfl (fun ls hl => ?_)
  refine lv_aload_n hx hb dX4_lasts_10 rfl (lv_at hl 1 rfl) ?_
  refine va_get (D := D) (ci := 4) (v := .ref (am 3)) (C := RX4) (T := TX4) (N := 8) hx hb hts hinX4 hown hK.1 hP 0 rfl rfl 7 (by decide) (hts (.fieldLink RX4 23 "LoafMarksModel" "numbers" "[I") (List.mem_of_getElem? (i := 2) rfl)) (fun _ h9 => h9) rfl dX4_lasts_11 ?_
  refine lv_iconst (v := 3) hx hb dX4_lasts_14 (by decide) ?_
  refine xiald hx hb hK hP 4 rfl 3 (by decide) (by decide) (by decide) dX4_lasts_15 ?_
  refine W.eq (g2 := F0 m 16 ls [.int (nu 4)]) rfl ?_
  refine lv_istore_n (lv' := [(2, .int (nu 4)), (1, .ref (ka 0)), (0, .ref b)]) hx hb dX4_lasts_16 rfl hl (by decide) rfl (fun ls hl => ?_)
  refine lv_iconst (v := 0) hx hb dX4_lasts_17 (by decide) ?_
  refine lv_istore_n (lv' := [(3, .int 0), (2, .int (nu 4)), (1, .ref (ka 0)), (0, .ref b)]) hx hb dX4_lasts_18 rfl hl (by decide) rfl (fun ls hl => ?_)
  have loop : ∀ (n i : Nat)  (H : Heap) (locs : List Loc) (ls : Array Slot), i + n = 480 → ((unf nS nB hq gate (st, bk, nu) i = 0 ∧ lastN nS nB hq gate (st, bk, nu) 480 0 = lastN nS nB hq gate (st, bk, nu) n i) ∨ (¬ unf nS nB hq gate (st, bk, nu) i = 0 ∧ lastN nS nB hq gate (st, bk, nu) 480 0 = nI i)) → va_P D vwCl (mw cy b am 0 nS nB ((hrs nS nB hq gate (st, bk, nu) i).1) ((hrs nS nB hq gate (st, bk, nu) i).2.1) gate ((hrs nS nB hq gate (st, bk, nu) i).2.2) ++ kw cy ka st bk nu) H → va_D A (mw cy b am 0 nS nB ((hrs nS nB hq gate (st, bk, nu) i).1) ((hrs nS nB hq gate (st, bk, nu) i).2.1) gate ((hrs nS nB hq gate (st, bk, nu) i).2.2) ++ kw cy ka st bk nu) → va_S A s.heap H locs → lv_has ls 4 [(0, .ref b), (1, .ref (ka 0)), (2, .int (nu 4)), (3, .int (nI i))] → W p l e ({ frames := 4, cells := 4, slots := 68, locals := 130 } : Room) s m ([.ref b] : List Value).toArray below meth c H locs 4 68 (MQ below (xQ D A (fun _ : Unit => some (.int (lastN nS nB hq gate (st, bk, nu) 480 0))) (fun _ => True) (fun _ => mw cy b am 0 nS nB st bk gate nu)) ([.ref b] : List Value).toArray s 4 68 A) (F0 m 19 ls []) := by
    intro n
    induction n with
    | zero =>
      intro i  H locs ls hns hinv hP hD hS hl
      have hii : i = 480 := by omega
      refine lv_iload_n hx hb dX4_lasts_19 rfl (lv_at hl 3 rfl) ?_
      refine lv_sipush (v := 480) hx hb dX4_lasts_20 (by decide) ?_
      refine lv_icmp_ge (tgt := 46) hx hb dX4_lasts_23 (by decide) (fun _ => ?_) (fun h => absurd (by rw [hii]; exact Int32.le_refl _) h)
      refine lv_aload_n hx hb dX4_lasts_46 rfl (lv_at hl 0 rfl) ?_
      refine va_get (D := D) (ci := 4) (v := .ref (am 3)) (C := RX4) (T := TX4) (N := 8) hx hb hts hinX4 hown hK.1 hP 0 rfl rfl 7 (by decide) (hts (.fieldLink RX4 23 "LoafMarksModel" "numbers" "[I") (List.mem_of_getElem? (i := 2) rfl)) (fun _ h9 => h9) rfl dX4_lasts_47 ?_
      refine lv_iconst (v := 3) hx hb dX4_lasts_50 (by decide) ?_
      refine xiald hx hb hK hP 4 rfl 3 (by decide) (by decide) (by decide) dX4_lasts_51 ?_
      refine W.eq (g2 := F0 m 52 ls [.int (((hrs nS nB hq gate (st, bk, nu) i).2.2) 4)]) rfl ?_
      refine lv_iload_n hx hb dX4_lasts_52 rfl (lv_at hl 2 rfl) ?_
      refine lv_icmp_ne (tgt := 58) hx hb dX4_lasts_53 (by decide) (fun c53 => ?_) (fun c53 => ?_)
      · refine lv_aload_n hx hb dX4_lasts_58 rfl (lv_at hl 0 rfl) ?_
        refine lv_aload_n hx hb dX4_lasts_59 rfl (lv_at hl 1 rfl) ?_
        refine xcV (As := [.ref (ka 0)]) (rest := []) ⟨hx, hb, hml, hown, hts⟩ (c_X4_bringBack l D cy b am 0 nS nB ((hrs nS nB hq gate (st, bk, nu) i).1) ((hrs nS nB hq gate (st, bk, nu) i).2.1) gate ((hrs nS nB hq gate (st, bk, nu) i).2.2) ka st bk nu (hrs_1 nS nB hq gate (st, bk, nu) i)) (cwV 1 hts gX4_lasts_X4_bringBack rfl rfl rfl (by decide +kernel) ⟨Nat.le_of_ble_eq_true rfl, Nat.le_of_ble_eq_true rfl⟩) hK hP hD hS hA rfl rfl rfl (xE_all) rfl hl.1 rfl (Nat.le_of_ble_eq_true rfl) dX4_lasts_60 ⟨Nat.le_of_ble_eq_true rfl, Nat.le_of_ble_eq_true rfl⟩ (fun _ H locs _ hP hD hS => ?_)
        have hP : va_P D vwCl (mw cy b am 0 nS nB st bk gate nu ++ kw cy ka st bk nu) H := hP
        have hD : va_D A (mw cy b am 0 nS nB st bk gate nu ++ kw cy ka st bk nu) := hD
        refine W.eq (g2 := F0 m 63 ls []) rfl ?_
        refine lv_iload_n hx hb dX4_lasts_63 rfl (lv_at hl 3 rfl) ?_
        exact xri () hx hb hr hlocks hS (Nat.le_of_ble_eq_true rfl) (Nat.le_of_ble_eq_true rfl) dX4_lasts_64 ((xP_app (w1 := mw cy b am 0 nS nB st bk gate nu)).mp hP).1 (mD_app (w1 := mw cy b am 0 nS nB st bk gate nu) hD) (by show some (Value.int (lastN nS nB hq gate (st, bk, nu) 480 0)) = _; rw [hinv.elim (fun z => absurd (show (hrs nS nB hq gate (st, bk, nu) i).2.2 4 = nu 4 by rw [hrs_4, z.1, Int32.add_zero]) c53) (fun z => z.2)]) trivial
      · refine lv_iconst (v := (-1)) hx hb dX4_lasts_56 (by decide) ?_
        refine lv_istore_n (lv' := [(3, .int (-1)), (0, .ref b), (1, .ref (ka 0)), (2, .int (nu 4))]) hx hb dX4_lasts_57 rfl hl (by decide) rfl (fun ls hl => ?_)
        refine lv_aload_n hx hb dX4_lasts_58 rfl (lv_at hl 1 rfl) ?_
        refine lv_aload_n hx hb dX4_lasts_59 rfl (lv_at hl 2 rfl) ?_
        refine xcV (As := [.ref (ka 0)]) (rest := []) ⟨hx, hb, hml, hown, hts⟩ (c_X4_bringBack l D cy b am 0 nS nB ((hrs nS nB hq gate (st, bk, nu) i).1) ((hrs nS nB hq gate (st, bk, nu) i).2.1) gate ((hrs nS nB hq gate (st, bk, nu) i).2.2) ka st bk nu (hrs_1 nS nB hq gate (st, bk, nu) i)) (cwV 1 hts gX4_lasts_X4_bringBack rfl rfl rfl (by decide +kernel) ⟨Nat.le_of_ble_eq_true rfl, Nat.le_of_ble_eq_true rfl⟩) hK hP hD hS hA rfl rfl rfl (xE_all) rfl hl.1 rfl (Nat.le_of_ble_eq_true rfl) dX4_lasts_60 ⟨Nat.le_of_ble_eq_true rfl, Nat.le_of_ble_eq_true rfl⟩ (fun _ H locs _ hP hD hS => ?_)
        have hP : va_P D vwCl (mw cy b am 0 nS nB st bk gate nu ++ kw cy ka st bk nu) H := hP
        have hD : va_D A (mw cy b am 0 nS nB st bk gate nu ++ kw cy ka st bk nu) := hD
        refine W.eq (g2 := F0 m 63 ls []) rfl ?_
        refine lv_iload_n hx hb dX4_lasts_63 rfl (lv_at hl 0 rfl) ?_
        exact xri () hx hb hr hlocks hS (Nat.le_of_ble_eq_true rfl) (Nat.le_of_ble_eq_true rfl) dX4_lasts_64 ((xP_app (w1 := mw cy b am 0 nS nB st bk gate nu)).mp hP).1 (mD_app (w1 := mw cy b am 0 nS nB st bk gate nu) hD) (by have h0 : unf nS nB hq gate (st, bk, nu) i = 0 := add_eq_l ((hrs_4 nS nB hq gate (st, bk, nu) i).symm.trans c53); show some (Value.int (lastN nS nB hq gate (st, bk, nu) 480 0)) = _; rw [hinv.elim (fun z => z.2) (fun z => absurd h0 z.1)]; rfl) trivial
    | succ n ih =>
      intro i  H locs ls hns hinv hP hD hS hl
      have hlt : i < 480 := by omega
      refine lv_iload_n hx hb dX4_lasts_19 rfl (lv_at hl 3 rfl) ?_
      refine lv_sipush (v := 480) hx hb dX4_lasts_20 (by decide) ?_
      refine lv_icmp_ge (tgt := 46) hx hb dX4_lasts_23 (by decide) (fun h => absurd h (nI_ge (b := 480) hlt (by omega))) (fun _ => ?_)
      refine lv_aload_n hx hb dX4_lasts_26 rfl (lv_at hl 0 rfl) ?_
      refine va_get (D := D) (ci := 4) (v := .ref (am 3)) (C := RX4) (T := TX4) (N := 8) hx hb hts hinX4 hown hK.1 hP 0 rfl rfl 7 (by decide) (hts (.fieldLink RX4 23 "LoafMarksModel" "numbers" "[I") (List.mem_of_getElem? (i := 2) rfl)) (fun _ h9 => h9) rfl dX4_lasts_27 ?_
      refine lv_iconst (v := 3) hx hb dX4_lasts_30 (by decide) ?_
      refine xiald hx hb hK hP 4 rfl 3 (by decide) (by decide) (by decide) dX4_lasts_31 ?_
      refine W.eq (g2 := F0 m 32 ls [.int (((hrs nS nB hq gate (st, bk, nu) i).2.2) 4)]) rfl ?_
      refine lv_iload_n hx hb dX4_lasts_32 rfl (lv_at hl 2 rfl) ?_
      refine lv_icmp_ne (tgt := 46) hx hb dX4_lasts_33 (by decide) (fun c33 => ?_) (fun c33 => ?_)
      · refine lv_aload_n hx hb dX4_lasts_46 rfl (lv_at hl 0 rfl) ?_
        refine va_get (D := D) (ci := 4) (v := .ref (am 3)) (C := RX4) (T := TX4) (N := 8) hx hb hts hinX4 hown hK.1 hP 0 rfl rfl 7 (by decide) (hts (.fieldLink RX4 23 "LoafMarksModel" "numbers" "[I") (List.mem_of_getElem? (i := 2) rfl)) (fun _ h9 => h9) rfl dX4_lasts_47 ?_
        refine lv_iconst (v := 3) hx hb dX4_lasts_50 (by decide) ?_
        refine xiald hx hb hK hP 4 rfl 3 (by decide) (by decide) (by decide) dX4_lasts_51 ?_
        refine W.eq (g2 := F0 m 52 ls [.int (((hrs nS nB hq gate (st, bk, nu) i).2.2) 4)]) rfl ?_
        refine lv_iload_n hx hb dX4_lasts_52 rfl (lv_at hl 2 rfl) ?_
        refine lv_icmp_ne (tgt := 58) hx hb dX4_lasts_53 (by decide) (fun _ => ?_) (fun z => absurd z c33)
        refine lv_aload_n hx hb dX4_lasts_58 rfl (lv_at hl 0 rfl) ?_
        refine lv_aload_n hx hb dX4_lasts_59 rfl (lv_at hl 1 rfl) ?_
        refine xcV (As := [.ref (ka 0)]) (rest := []) ⟨hx, hb, hml, hown, hts⟩ (c_X4_bringBack l D cy b am 0 nS nB ((hrs nS nB hq gate (st, bk, nu) i).1) ((hrs nS nB hq gate (st, bk, nu) i).2.1) gate ((hrs nS nB hq gate (st, bk, nu) i).2.2) ka st bk nu (hrs_1 nS nB hq gate (st, bk, nu) i)) (cwV 1 hts gX4_lasts_X4_bringBack rfl rfl rfl (by decide +kernel) ⟨Nat.le_of_ble_eq_true rfl, Nat.le_of_ble_eq_true rfl⟩) hK hP hD hS hA rfl rfl rfl (xE_all) rfl hl.1 rfl (Nat.le_of_ble_eq_true rfl) dX4_lasts_60 ⟨Nat.le_of_ble_eq_true rfl, Nat.le_of_ble_eq_true rfl⟩ (fun _ H locs _ hP hD hS => ?_)
        have hP : va_P D vwCl (mw cy b am 0 nS nB st bk gate nu ++ kw cy ka st bk nu) H := hP
        have hD : va_D A (mw cy b am 0 nS nB st bk gate nu ++ kw cy ka st bk nu) := hD
        refine W.eq (g2 := F0 m 63 ls []) rfl ?_
        refine lv_iload_n hx hb dX4_lasts_63 rfl (lv_at hl 3 rfl) ?_
        exact xri () hx hb hr hlocks hS (Nat.le_of_ble_eq_true rfl) (Nat.le_of_ble_eq_true rfl) dX4_lasts_64 ((xP_app (w1 := mw cy b am 0 nS nB st bk gate nu)).mp hP).1 (mD_app (w1 := mw cy b am 0 nS nB st bk gate nu) hD) (by show some (Value.int (lastN nS nB hq gate (st, bk, nu) 480 0)) = _; rw [hinv.elim (fun z => absurd (show (hrs nS nB hq gate (st, bk, nu) i).2.2 4 = nu 4 by rw [hrs_4, z.1, Int32.add_zero]) c33) (fun z => z.2)]) trivial
      · refine lv_aload_n hx hb dX4_lasts_36 rfl (lv_at hl 0 rfl) ?_
        refine xcV (As := []) (rest := []) ⟨hx, hb, hml, hown, hts⟩ (c_X4_hourOn l D cy b am 0 nS nB (hrs nS nB hq gate (st, bk, nu) i) gate (hq + i) ((hq + i) % 24) (hrs_hour nS nB hq gate (st, bk, nu) eh i) (by omega) rfl hcS hcB (ok i (by omega))) (cwV 0 hts gX4_lasts_X4_hourOn rfl rfl rfl (by decide +kernel) ⟨Nat.le_of_ble_eq_true rfl, Nat.le_of_ble_eq_true rfl⟩) hK hP hD hS hA rfl rfl rfl (xE_l) rfl hl.1 rfl (Nat.le_of_ble_eq_true rfl) dX4_lasts_37 ⟨Nat.le_of_ble_eq_true rfl, Nat.le_of_ble_eq_true rfl⟩ (fun _ H locs _ hP hD hS => ?_)
        have hP : va_P D vwCl (mw cy b am 0 nS nB ((hrs nS nB hq gate (st, bk, nu) (i + 1)).1) ((hrs nS nB hq gate (st, bk, nu) (i + 1)).2.1) gate ((hrs nS nB hq gate (st, bk, nu) (i + 1)).2.2) ++ kw cy ka st bk nu) H := hP
        have hD : va_D A (mw cy b am 0 nS nB ((hrs nS nB hq gate (st, bk, nu) (i + 1)).1) ((hrs nS nB hq gate (st, bk, nu) (i + 1)).2.1) gate ((hrs nS nB hq gate (st, bk, nu) (i + 1)).2.2) ++ kw cy ka st bk nu) := hD
        refine W.eq (g2 := F0 m 40 ls []) rfl ?_
        refine lv_iinc (v := (nI (i + 1))) (lv' := [(3, .int (nI (i + 1))), (0, .ref b), (1, .ref (ka 0)), (2, .int (nu 4))]) hx hb dX4_lasts_40 hl (k := 3) rfl ((nI_1 i)) (by decide) rfl (fun ls hl => ?_)
        refine lv_goto (tgt := 19) hx hb dX4_lasts_43 (by decide) ?_
        have h0 : unf nS nB hq gate (st, bk, nu) i = 0 := add_eq_l ((hrs_4 nS nB hq gate (st, bk, nu) i).symm.trans c33)
        have hl1 : lastN nS nB hq gate (st, bk, nu) 480 0 = lastN nS nB hq gate (st, bk, nu) (n + 1) i := hinv.elim (fun z => z.2) (fun z => absurd h0 z.1)
        have hu1 : unf nS nB hq gate (st, bk, nu) (i + 1) = hUnfed nS nB ((hq + i) % 24) gate (hrs nS nB hq gate (st, bk, nu) i) := by show unf nS nB hq gate (st, bk, nu) i + _ = _; rw [h0, Int32.zero_add]
        have hinv2 : (unf nS nB hq gate (st, bk, nu) (i + 1) = 0 ∧ lastN nS nB hq gate (st, bk, nu) 480 0 = lastN nS nB hq gate (st, bk, nu) n (i + 1)) ∨ (¬ unf nS nB hq gate (st, bk, nu) (i + 1) = 0 ∧ lastN nS nB hq gate (st, bk, nu) 480 0 = nI (i + 1)) := by
          rcases Decidable.em (0 < hUnfed nS nB ((hq + i) % 24) gate (hrs nS nB hq gate (st, bk, nu) i)) with hz | hz
          · exact Or.inr ⟨by rw [hu1]; exact fun z => absurd hz (by rw [z]; decide), hl1.trans (if_pos hz)⟩
          · exact Or.inl ⟨by rw [hu1]; exact Int32.le_antisymm (Int32.not_lt.mp hz) (hnn i (by omega)), hl1.trans (if_neg hz)⟩
        exact ih (i + 1)  _ _ _ (by omega) hinv2 hP hD hS (lv_sub hl [1, 2, 3, 0] rfl)
  exact loop 480 0  _ _ _ (by omega) (Or.inl ⟨rfl, rfl⟩) hP hD hS (lv_sub hl [3, 2, 1, 0] rfl)

set_option maxHeartbeats 4000000 in
set_option maxRecDepth 100000 in
/-- foresee -/
theorem c_X4_foresee (l : Launch) (D : va_G) (cy : Nat → ClassId) (b : Nat) (am : Nat → Nat) (thr : Int32) (nS nB : Nat) (st bk : Nat → Iu) (gate nu : Iu) (hq n k : Nat) (eh : nu 0 = nI hq) (hn1 : 1 ≤ n) (hn2 : n ≤ 240) (hh : hq + n < 2 ^ 31) (hk : k < 4) (hcS : nS ≤ 4) (hcB : nB ≤ 6) (ok : ∀ i, i < n → okH nS nB gate (hrs nS nB hq gate (st, bk, nu) i)) : xM l D cy yX4_foresee wsX4_foresee ({ frames := 4, cells := 4, slots := 68, locals := 130 } : Room) [.ref b, .int (nI n), .int (nI k)] (mw cy b am thr nS nB st bk gate nu) (fun _ : Unit => some (.int (fsF nS nB (unf nS nB hq gate (st, bk, nu) n) (hrs nS nB hq gate (st, bk, nu) n) k))) (fun _ => True) (fun _ => mw cy b am 0 nS nB st bk gate nu) := by
  refine xM.of cX4_foresee 6 (some .int) RX4 (by decide +kernel) rfl rfl (Nat.le_of_ble_eq_true rfl) ?_
  intro p e s m below meth c A ls hx hb hr hts hown hlocks hml hin hK hA hP hD hS hl
  have hl : lv_has ls 6 [(0, .ref b), (1, .int (nI n)), (2, .int (nI k))] := hl
  have hinX4 : ∀ w ∈ wsX40, w ∈ wsX4_foresee := fun _ h => List.mem_cons_of_mem _ (List.mem_append_right _ h)
  refine lv_aload_n hx hb dX4_foresee_0 rfl (lv_at hl 0 rfl) ?_
  refine lv_iconst (v := 0) hx hb dX4_foresee_1 (by decide) ?_
  refine va_put (D := D) (ci := 4) (v := .int 0) (ty := .int) (C := RX4) (T := TX4) (N := 8) hx hb hts hinX4 tyX4 tyX4_ok nmX4 hown hK.1 hP hD hS 0 rfl rfl 0 (by decide) (hts (.fieldLink RX4 26 "LoafMarksModel" "thrown" "I") (List.mem_of_getElem? (i := 1) rfl)) (fun _ h9 => h9) rfl (by decide +kernel) rfl rfl (Nat.le_of_ble_eq_true rfl) dX4_foresee_2 (fun H locs hP hD hS => ?_)
  have hP : va_P D vwCl (mw cy b am 0 nS nB st bk gate nu) H := hP
  have hD : va_D A (mw cy b am 0 nS nB st bk gate nu) := hD
  refine lv_iload_n hx hb dX4_foresee_5 rfl (lv_at hl 1 rfl) ?_
  refine lv_iconst (v := 1) hx hb dX4_foresee_6 (by decide) ?_
  refine lv_sipush (v := 240) hx hb dX4_foresee_7 (by decide) ?_
  refine xcS (As := [.int (nI n), .int 1, .int 240]) (rest := []) ⟨hx, hb, hml, hown, hts⟩ (c_X4_isIn l D cy (nI n) 1 240) (va_cwS 3 hts gX4_foresee_X4_isIn rfl rfl rfl (by decide +kernel) ⟨Nat.le_of_ble_eq_true rfl, Nat.le_of_ble_eq_true rfl⟩) hK hP hD hS hA (xE_nil) rfl hl.1 rfl (Nat.le_of_ble_eq_true rfl) dX4_foresee_10 ⟨Nat.le_of_ble_eq_true rfl, Nat.le_of_ble_eq_true rfl⟩ (fun _ H locs _ hP hD hS => ?_)
  have hP : va_P D vwCl (mw cy b am 0 nS nB st bk gate nu) H := hP
  have hD : va_D A (mw cy b am 0 nS nB st bk gate nu) := hD
  refine W.eq (g2 := F0 m 13 ls [.int (wi (nI n) 1 240)]) rfl ?_
  refine lv_if_ne (tgt := 22) hx hb dX4_foresee_13 (by decide) (fun _ => ?_) (fun z => absurd z (wi_ok ⟨nI_le (a := 1) (b := n) (by omega) (by omega), nI_le (a := n) (b := 240) (by omega) (by decide)⟩))
  refine lv_iload_n hx hb dX4_foresee_22 rfl (lv_at hl 2 rfl) ?_
  refine lv_iconst (v := 0) hx hb dX4_foresee_23 (by decide) ?_
  refine lv_iconst (v := 3) hx hb dX4_foresee_24 (by decide) ?_
  refine xcS (As := [.int (nI k), .int 0, .int 3]) (rest := []) ⟨hx, hb, hml, hown, hts⟩ (c_X4_isIn l D cy (nI k) 0 3) (va_cwS 3 hts gX4_foresee_X4_isIn rfl rfl rfl (by decide +kernel) ⟨Nat.le_of_ble_eq_true rfl, Nat.le_of_ble_eq_true rfl⟩) hK hP hD hS hA (xE_nil) rfl hl.1 rfl (Nat.le_of_ble_eq_true rfl) dX4_foresee_25 ⟨Nat.le_of_ble_eq_true rfl, Nat.le_of_ble_eq_true rfl⟩ (fun _ H locs _ hP hD hS => ?_)
  have hP : va_P D vwCl (mw cy b am 0 nS nB st bk gate nu) H := hP
  have hD : va_D A (mw cy b am 0 nS nB st bk gate nu) := hD
  refine W.eq (g2 := F0 m 28 ls [.int (wi (nI k) 0 3)]) rfl ?_
  refine lv_if_ne (tgt := 37) hx hb dX4_foresee_28 (by decide) (fun _ => ?_) (fun z => absurd z (wi_ok ⟨nI_pos' (n := k) (by omega), nI_le (a := k) (b := 3) (by omega) (by decide)⟩))
  refine lv_aload_n hx hb dX4_foresee_37 rfl (lv_at hl 0 rfl) ?_
  refine xcV (As := []) (rest := []) ⟨hx, hb, hml, hown, hts⟩ (c_X4_kept l D cy b am 0 nS nB st bk gate nu) (cwV 0 hts gX4_foresee_X4_kept rfl rfl rfl (by decide +kernel) ⟨Nat.le_of_ble_eq_true rfl, Nat.le_of_ble_eq_true rfl⟩) hK hP hD hS hA rfl rfl rfl (xE_all) rfl hl.1 rfl (Nat.le_of_ble_eq_true rfl) dX4_foresee_38 ⟨Nat.le_of_ble_eq_true rfl, Nat.le_of_ble_eq_true rfl⟩ (fun ka H locs _ hP hD hS => ?_)
  have hP : va_P D vwCl (mw cy b am 0 nS nB st bk gate nu ++ kw cy ka st bk nu) H := hP
  have hD : va_D A (mw cy b am 0 nS nB st bk gate nu ++ kw cy ka st bk nu) := hD
  refine W.eq (g2 := F0 m 41 ls [.ref (ka 0)]) rfl ?_
  refine lv_astore_n (lv' := [(3, .ref (ka 0)), (0, .ref b), (1, .int (nI n)), (2, .int (nI k))]) hx hb dX4_foresee_41 rfl hl (by decide) rfl (fun ls hl => ?_)
  refine lv_aload_n hx hb dX4_foresee_42 rfl (lv_at hl 1 rfl) ?_
  refine va_get (D := D) (ci := 4) (v := .ref (am 3)) (C := RX4) (T := TX4) (N := 8) hx hb hts hinX4 hown hK.1 hP 0 rfl rfl 7 (by decide) (hts (.fieldLink RX4 23 "LoafMarksModel" "numbers" "[I") (List.mem_of_getElem? (i := 2) rfl)) (fun _ h9 => h9) rfl dX4_foresee_43 ?_
  refine lv_iconst (v := 3) hx hb dX4_foresee_46 (by decide) ?_
  refine xiald hx hb hK hP 4 rfl 3 (by decide) (by decide) (by decide) dX4_foresee_47 ?_
  refine W.eq (g2 := F0 m 48 ls [.int (nu 4)]) rfl ?_
  refine lv_istore (lv' := [(4, .int (nu 4)), (3, .ref (ka 0)), (0, .ref b), (1, .int (nI n)), (2, .int (nI k))]) hx hb dX4_foresee_48 hl (by decide) rfl (fun ls hl => ?_)
  refine lv_aload_n hx hb dX4_foresee_50 rfl (lv_at hl 2 rfl) ?_
  refine lv_iload_n hx hb dX4_foresee_51 rfl (lv_at hl 3 rfl) ?_
  refine xcV (As := [.int (nI n)]) (rest := []) ⟨hx, hb, hml, hown, hts⟩ (c_X4_hoursOn l D cy b am 0 nS nB (st, bk, nu) gate hq n eh hh hcS hcB ok) (cwV 1 hts gX4_foresee_X4_hoursOn rfl rfl rfl (by decide +kernel) ⟨Nat.le_of_ble_eq_true rfl, Nat.le_of_ble_eq_true rfl⟩) hK hP hD hS hA rfl rfl rfl (xE_l) rfl hl.1 rfl (Nat.le_of_ble_eq_true rfl) dX4_foresee_52 ⟨Nat.le_of_ble_eq_true rfl, Nat.le_of_ble_eq_true rfl⟩ (fun _ H locs _ hP hD hS => ?_)
  have hP : va_P D vwCl (mw cy b am 0 nS nB ((hrs nS nB hq gate (st, bk, nu) n).1) ((hrs nS nB hq gate (st, bk, nu) n).2.1) gate ((hrs nS nB hq gate (st, bk, nu) n).2.2) ++ kw cy ka st bk nu) H := hP
  have hD : va_D A (mw cy b am 0 nS nB ((hrs nS nB hq gate (st, bk, nu) n).1) ((hrs nS nB hq gate (st, bk, nu) n).2.1) gate ((hrs nS nB hq gate (st, bk, nu) n).2.2) ++ kw cy ka st bk nu) := hD
  refine W.eq (g2 := F0 m 55 ls []) rfl ?_
  have hcase : k = 0 ∨ k = 1 ∨ k = 2 ∨ k = 3 := by omega
  rcases hcase with rfl | rfl | rfl | rfl
  · refine lv_iload_n hx hb dX4_foresee_55 rfl (lv_at hl 4 rfl) ?_
    refine lv_if_ne (tgt := 71) hx hb dX4_foresee_56 (by decide) (fun z => absurd rfl z) (fun _ => ?_)
    refine lv_aload_n hx hb dX4_foresee_59 rfl (lv_at hl 2 rfl) ?_
    refine va_get (D := D) (ci := 4) (v := .ref (am 3)) (C := RX4) (T := TX4) (N := 8) hx hb hts hinX4 hown hK.1 hP 0 rfl rfl 7 (by decide) (hts (.fieldLink RX4 23 "LoafMarksModel" "numbers" "[I") (List.mem_of_getElem? (i := 2) rfl)) (fun _ h9 => h9) rfl dX4_foresee_60 ?_
    refine lv_iconst (v := 3) hx hb dX4_foresee_63 (by decide) ?_
    refine xiald hx hb hK hP 4 rfl 3 (by decide) (by decide) (by decide) dX4_foresee_64 ?_
    refine W.eq (g2 := F0 m 65 ls [.int (((hrs nS nB hq gate (st, bk, nu) n).2.2) 4)]) rfl ?_
    refine lv_iload hx hb dX4_foresee_65 (lv_at hl 0 rfl) ?_
    refine lv_isub hx hb dX4_foresee_67 ?_
    refine lv_goto (tgt := 98) hx hb dX4_foresee_68 (by decide) ?_
    refine lv_istore (lv' := [(5, .int ((((hrs nS nB hq gate (st, bk, nu) n).2.2) 4) - (nu 4))), (4, .int (nu 4)), (3, .ref (ka 0)), (0, .ref b), (1, .int (nI n)), (2, .int (nI 0))]) hx hb dX4_foresee_98 hl (by decide) rfl (fun ls hl => ?_)
    refine lv_aload_n hx hb dX4_foresee_100 rfl (lv_at hl 3 rfl) ?_
    refine lv_aload_n hx hb dX4_foresee_101 rfl (lv_at hl 2 rfl) ?_
    refine xcV (As := [.ref (ka 0)]) (rest := []) ⟨hx, hb, hml, hown, hts⟩ (c_X4_bringBack l D cy b am 0 nS nB ((hrs nS nB hq gate (st, bk, nu) n).1) ((hrs nS nB hq gate (st, bk, nu) n).2.1) gate ((hrs nS nB hq gate (st, bk, nu) n).2.2) ka st bk nu (hrs_1 nS nB hq gate (st, bk, nu) n)) (cwV 1 hts gX4_foresee_X4_bringBack rfl rfl rfl (by decide +kernel) ⟨Nat.le_of_ble_eq_true rfl, Nat.le_of_ble_eq_true rfl⟩) hK hP hD hS hA rfl rfl rfl (xE_all) rfl hl.1 rfl (Nat.le_of_ble_eq_true rfl) dX4_foresee_102 ⟨Nat.le_of_ble_eq_true rfl, Nat.le_of_ble_eq_true rfl⟩ (fun _ H locs _ hP hD hS => ?_)
    have hP : va_P D vwCl (mw cy b am 0 nS nB st bk gate nu ++ kw cy ka st bk nu) H := hP
    have hD : va_D A (mw cy b am 0 nS nB st bk gate nu ++ kw cy ka st bk nu) := hD
    refine W.eq (g2 := F0 m 105 ls []) rfl ?_
    refine lv_iload hx hb dX4_foresee_105 (lv_at hl 0 rfl) ?_
    exact xri () hx hb hr hlocks hS (Nat.le_of_ble_eq_true rfl) (Nat.le_of_ble_eq_true rfl) dX4_foresee_107 ((xP_app (w1 := mw cy b am 0 nS nB st bk gate nu)).mp hP).1 (mD_app (w1 := mw cy b am 0 nS nB st bk gate nu) hD) (by show some (Value.int (unf nS nB hq gate (st, bk, nu) n)) = some (Value.int ((hrs nS nB hq gate (st, bk, nu) n).2.2 4 - nu 4)); rw [hrs_4]; exact congrArg (fun z => some (Value.int z)) (add_sub_l _ _).symm) trivial
  · refine lv_iload_n hx hb dX4_foresee_55 rfl (lv_at hl 4 rfl) ?_
    refine lv_if_ne (tgt := 71) hx hb dX4_foresee_56 (by decide) (fun _ => ?_) (fun z => absurd z (by decide))
    refine lv_iload_n hx hb dX4_foresee_71 rfl (lv_at hl 4 rfl) ?_
    refine lv_iconst (v := 2) hx hb dX4_foresee_72 (by decide) ?_
    refine lv_icmp_ne (tgt := 84) hx hb dX4_foresee_73 (by decide) (fun _ => ?_) (fun z => absurd z (by decide))
    refine lv_aload_n hx hb dX4_foresee_84 rfl (lv_at hl 2 rfl) ?_
    refine lv_iload_n hx hb dX4_foresee_85 rfl (lv_at hl 4 rfl) ?_
    refine lv_iconst (v := 1) hx hb dX4_foresee_86 (by decide) ?_
    refine lv_icmp_ne (tgt := 94) hx hb dX4_foresee_87 (by decide) (fun z => absurd rfl z) (fun _ => ?_)
    refine lv_iconst (v := 0) hx hb dX4_foresee_90 (by decide) ?_
    refine lv_goto (tgt := 95) hx hb dX4_foresee_91 (by decide) ?_
    refine xcV (As := [.int 0]) (rest := []) ⟨hx, hb, hml, hown, hts⟩ (c_X4_allStores l D cy b am 0 nS nB ((hrs nS nB hq gate (st, bk, nu) n).1) ((hrs nS nB hq gate (st, bk, nu) n).2.1) gate ((hrs nS nB hq gate (st, bk, nu) n).2.2) 0 (by decide) hcS) (cwV 1 hts gX4_foresee_X4_allStores rfl rfl rfl (by decide +kernel) ⟨Nat.le_of_ble_eq_true rfl, Nat.le_of_ble_eq_true rfl⟩) hK hP hD hS hA rfl rfl rfl (xE_l) rfl hl.1 rfl (Nat.le_of_ble_eq_true rfl) dX4_foresee_95 ⟨Nat.le_of_ble_eq_true rfl, Nat.le_of_ble_eq_true rfl⟩ (fun _ H locs _ hP hD hS => ?_)
    have hP : va_P D vwCl (mw cy b am 0 nS nB ((hrs nS nB hq gate (st, bk, nu) n).1) ((hrs nS nB hq gate (st, bk, nu) n).2.1) gate ((hrs nS nB hq gate (st, bk, nu) n).2.2) ++ kw cy ka st bk nu) H := hP
    have hD : va_D A (mw cy b am 0 nS nB ((hrs nS nB hq gate (st, bk, nu) n).1) ((hrs nS nB hq gate (st, bk, nu) n).2.1) gate ((hrs nS nB hq gate (st, bk, nu) n).2.2) ++ kw cy ka st bk nu) := hD
    refine W.eq (g2 := F0 m 98 ls [.int (sm (fun i => ((hrs nS nB hq gate (st, bk, nu) n).1) i 0) nS)]) rfl ?_
    refine lv_istore (lv' := [(5, .int (sm (fun i => ((hrs nS nB hq gate (st, bk, nu) n).1) i 0) nS)), (4, .int (nu 4)), (3, .ref (ka 0)), (0, .ref b), (1, .int (nI n)), (2, .int (nI 1))]) hx hb dX4_foresee_98 hl (by decide) rfl (fun ls hl => ?_)
    refine lv_aload_n hx hb dX4_foresee_100 rfl (lv_at hl 3 rfl) ?_
    refine lv_aload_n hx hb dX4_foresee_101 rfl (lv_at hl 2 rfl) ?_
    refine xcV (As := [.ref (ka 0)]) (rest := []) ⟨hx, hb, hml, hown, hts⟩ (c_X4_bringBack l D cy b am 0 nS nB ((hrs nS nB hq gate (st, bk, nu) n).1) ((hrs nS nB hq gate (st, bk, nu) n).2.1) gate ((hrs nS nB hq gate (st, bk, nu) n).2.2) ka st bk nu (hrs_1 nS nB hq gate (st, bk, nu) n)) (cwV 1 hts gX4_foresee_X4_bringBack rfl rfl rfl (by decide +kernel) ⟨Nat.le_of_ble_eq_true rfl, Nat.le_of_ble_eq_true rfl⟩) hK hP hD hS hA rfl rfl rfl (xE_all) rfl hl.1 rfl (Nat.le_of_ble_eq_true rfl) dX4_foresee_102 ⟨Nat.le_of_ble_eq_true rfl, Nat.le_of_ble_eq_true rfl⟩ (fun _ H locs _ hP hD hS => ?_)
    have hP : va_P D vwCl (mw cy b am 0 nS nB st bk gate nu ++ kw cy ka st bk nu) H := hP
    have hD : va_D A (mw cy b am 0 nS nB st bk gate nu ++ kw cy ka st bk nu) := hD
    refine W.eq (g2 := F0 m 105 ls []) rfl ?_
    refine lv_iload hx hb dX4_foresee_105 (lv_at hl 0 rfl) ?_
    exact xri () hx hb hr hlocks hS (Nat.le_of_ble_eq_true rfl) (Nat.le_of_ble_eq_true rfl) dX4_foresee_107 ((xP_app (w1 := mw cy b am 0 nS nB st bk gate nu)).mp hP).1 (mD_app (w1 := mw cy b am 0 nS nB st bk gate nu) hD) rfl trivial
  · refine lv_iload_n hx hb dX4_foresee_55 rfl (lv_at hl 4 rfl) ?_
    refine lv_if_ne (tgt := 71) hx hb dX4_foresee_56 (by decide) (fun _ => ?_) (fun z => absurd z (by decide))
    refine lv_iload_n hx hb dX4_foresee_71 rfl (lv_at hl 4 rfl) ?_
    refine lv_iconst (v := 2) hx hb dX4_foresee_72 (by decide) ?_
    refine lv_icmp_ne (tgt := 84) hx hb dX4_foresee_73 (by decide) (fun z => absurd rfl z) (fun _ => ?_)
    refine lv_aload_n hx hb dX4_foresee_76 rfl (lv_at hl 2 rfl) ?_
    refine lv_iconst (v := 5) hx hb dX4_foresee_77 (by decide) ?_
    refine xcV (As := [.int 5]) (rest := []) ⟨hx, hb, hml, hown, hts⟩ (c_X4_allBakers l D cy b am 0 nS nB ((hrs nS nB hq gate (st, bk, nu) n).1) ((hrs nS nB hq gate (st, bk, nu) n).2.1) gate ((hrs nS nB hq gate (st, bk, nu) n).2.2) 5 (by decide) hcB) (cwV 1 hts gX4_foresee_X4_allBakers rfl rfl rfl (by decide +kernel) ⟨Nat.le_of_ble_eq_true rfl, Nat.le_of_ble_eq_true rfl⟩) hK hP hD hS hA rfl rfl rfl (xE_l) rfl hl.1 rfl (Nat.le_of_ble_eq_true rfl) dX4_foresee_78 ⟨Nat.le_of_ble_eq_true rfl, Nat.le_of_ble_eq_true rfl⟩ (fun _ H locs _ hP hD hS => ?_)
    have hP : va_P D vwCl (mw cy b am 0 nS nB ((hrs nS nB hq gate (st, bk, nu) n).1) ((hrs nS nB hq gate (st, bk, nu) n).2.1) gate ((hrs nS nB hq gate (st, bk, nu) n).2.2) ++ kw cy ka st bk nu) H := hP
    have hD : va_D A (mw cy b am 0 nS nB ((hrs nS nB hq gate (st, bk, nu) n).1) ((hrs nS nB hq gate (st, bk, nu) n).2.1) gate ((hrs nS nB hq gate (st, bk, nu) n).2.2) ++ kw cy ka st bk nu) := hD
    refine W.eq (g2 := F0 m 81 ls [.int (sm (fun i => ((hrs nS nB hq gate (st, bk, nu) n).2.1) i 5) nB)]) rfl ?_
    refine lv_goto (tgt := 98) hx hb dX4_foresee_81 (by decide) ?_
    refine lv_istore (lv' := [(5, .int (sm (fun i => ((hrs nS nB hq gate (st, bk, nu) n).2.1) i 5) nB)), (4, .int (nu 4)), (3, .ref (ka 0)), (0, .ref b), (1, .int (nI n)), (2, .int (nI 2))]) hx hb dX4_foresee_98 hl (by decide) rfl (fun ls hl => ?_)
    refine lv_aload_n hx hb dX4_foresee_100 rfl (lv_at hl 3 rfl) ?_
    refine lv_aload_n hx hb dX4_foresee_101 rfl (lv_at hl 2 rfl) ?_
    refine xcV (As := [.ref (ka 0)]) (rest := []) ⟨hx, hb, hml, hown, hts⟩ (c_X4_bringBack l D cy b am 0 nS nB ((hrs nS nB hq gate (st, bk, nu) n).1) ((hrs nS nB hq gate (st, bk, nu) n).2.1) gate ((hrs nS nB hq gate (st, bk, nu) n).2.2) ka st bk nu (hrs_1 nS nB hq gate (st, bk, nu) n)) (cwV 1 hts gX4_foresee_X4_bringBack rfl rfl rfl (by decide +kernel) ⟨Nat.le_of_ble_eq_true rfl, Nat.le_of_ble_eq_true rfl⟩) hK hP hD hS hA rfl rfl rfl (xE_all) rfl hl.1 rfl (Nat.le_of_ble_eq_true rfl) dX4_foresee_102 ⟨Nat.le_of_ble_eq_true rfl, Nat.le_of_ble_eq_true rfl⟩ (fun _ H locs _ hP hD hS => ?_)
    have hP : va_P D vwCl (mw cy b am 0 nS nB st bk gate nu ++ kw cy ka st bk nu) H := hP
    have hD : va_D A (mw cy b am 0 nS nB st bk gate nu ++ kw cy ka st bk nu) := hD
    refine W.eq (g2 := F0 m 105 ls []) rfl ?_
    refine lv_iload hx hb dX4_foresee_105 (lv_at hl 0 rfl) ?_
    exact xri () hx hb hr hlocks hS (Nat.le_of_ble_eq_true rfl) (Nat.le_of_ble_eq_true rfl) dX4_foresee_107 ((xP_app (w1 := mw cy b am 0 nS nB st bk gate nu)).mp hP).1 (mD_app (w1 := mw cy b am 0 nS nB st bk gate nu) hD) rfl trivial
  · refine lv_iload_n hx hb dX4_foresee_55 rfl (lv_at hl 4 rfl) ?_
    refine lv_if_ne (tgt := 71) hx hb dX4_foresee_56 (by decide) (fun _ => ?_) (fun z => absurd z (by decide))
    refine lv_iload_n hx hb dX4_foresee_71 rfl (lv_at hl 4 rfl) ?_
    refine lv_iconst (v := 2) hx hb dX4_foresee_72 (by decide) ?_
    refine lv_icmp_ne (tgt := 84) hx hb dX4_foresee_73 (by decide) (fun _ => ?_) (fun z => absurd z (by decide))
    refine lv_aload_n hx hb dX4_foresee_84 rfl (lv_at hl 2 rfl) ?_
    refine lv_iload_n hx hb dX4_foresee_85 rfl (lv_at hl 4 rfl) ?_
    refine lv_iconst (v := 1) hx hb dX4_foresee_86 (by decide) ?_
    refine lv_icmp_ne (tgt := 94) hx hb dX4_foresee_87 (by decide) (fun _ => ?_) (fun z => absurd z (by decide))
    refine lv_iconst (v := 1) hx hb dX4_foresee_94 (by decide) ?_
    refine xcV (As := [.int 1]) (rest := []) ⟨hx, hb, hml, hown, hts⟩ (c_X4_allStores l D cy b am 0 nS nB ((hrs nS nB hq gate (st, bk, nu) n).1) ((hrs nS nB hq gate (st, bk, nu) n).2.1) gate ((hrs nS nB hq gate (st, bk, nu) n).2.2) 1 (by decide) hcS) (cwV 1 hts gX4_foresee_X4_allStores rfl rfl rfl (by decide +kernel) ⟨Nat.le_of_ble_eq_true rfl, Nat.le_of_ble_eq_true rfl⟩) hK hP hD hS hA rfl rfl rfl (xE_l) rfl hl.1 rfl (Nat.le_of_ble_eq_true rfl) dX4_foresee_95 ⟨Nat.le_of_ble_eq_true rfl, Nat.le_of_ble_eq_true rfl⟩ (fun _ H locs _ hP hD hS => ?_)
    have hP : va_P D vwCl (mw cy b am 0 nS nB ((hrs nS nB hq gate (st, bk, nu) n).1) ((hrs nS nB hq gate (st, bk, nu) n).2.1) gate ((hrs nS nB hq gate (st, bk, nu) n).2.2) ++ kw cy ka st bk nu) H := hP
    have hD : va_D A (mw cy b am 0 nS nB ((hrs nS nB hq gate (st, bk, nu) n).1) ((hrs nS nB hq gate (st, bk, nu) n).2.1) gate ((hrs nS nB hq gate (st, bk, nu) n).2.2) ++ kw cy ka st bk nu) := hD
    refine W.eq (g2 := F0 m 98 ls [.int (sm (fun i => ((hrs nS nB hq gate (st, bk, nu) n).1) i 1) nS)]) rfl ?_
    refine lv_istore (lv' := [(5, .int (sm (fun i => ((hrs nS nB hq gate (st, bk, nu) n).1) i 1) nS)), (4, .int (nu 4)), (3, .ref (ka 0)), (0, .ref b), (1, .int (nI n)), (2, .int (nI 3))]) hx hb dX4_foresee_98 hl (by decide) rfl (fun ls hl => ?_)
    refine lv_aload_n hx hb dX4_foresee_100 rfl (lv_at hl 3 rfl) ?_
    refine lv_aload_n hx hb dX4_foresee_101 rfl (lv_at hl 2 rfl) ?_
    refine xcV (As := [.ref (ka 0)]) (rest := []) ⟨hx, hb, hml, hown, hts⟩ (c_X4_bringBack l D cy b am 0 nS nB ((hrs nS nB hq gate (st, bk, nu) n).1) ((hrs nS nB hq gate (st, bk, nu) n).2.1) gate ((hrs nS nB hq gate (st, bk, nu) n).2.2) ka st bk nu (hrs_1 nS nB hq gate (st, bk, nu) n)) (cwV 1 hts gX4_foresee_X4_bringBack rfl rfl rfl (by decide +kernel) ⟨Nat.le_of_ble_eq_true rfl, Nat.le_of_ble_eq_true rfl⟩) hK hP hD hS hA rfl rfl rfl (xE_all) rfl hl.1 rfl (Nat.le_of_ble_eq_true rfl) dX4_foresee_102 ⟨Nat.le_of_ble_eq_true rfl, Nat.le_of_ble_eq_true rfl⟩ (fun _ H locs _ hP hD hS => ?_)
    have hP : va_P D vwCl (mw cy b am 0 nS nB st bk gate nu ++ kw cy ka st bk nu) H := hP
    have hD : va_D A (mw cy b am 0 nS nB st bk gate nu ++ kw cy ka st bk nu) := hD
    refine W.eq (g2 := F0 m 105 ls []) rfl ?_
    refine lv_iload hx hb dX4_foresee_105 (lv_at hl 0 rfl) ?_
    exact xri () hx hb hr hlocks hS (Nat.le_of_ble_eq_true rfl) (Nat.le_of_ble_eq_true rfl) dX4_foresee_107 ((xP_app (w1 := mw cy b am 0 nS nB st bk gate nu)).mp hP).1 (mD_app (w1 := mw cy b am 0 nS nB st bk gate nu) hD) rfl trivial

set_option maxHeartbeats 4000000 in
set_option maxRecDepth 100000 in
/-- foresee, refused -/
theorem c_X4_foresee_1 (l : Launch) (D : va_G) (cy : Nat → ClassId) (b : Nat) (am : Nat → Nat) (thr : Int32) (nS nB : Nat) (st bk : Nat → Iu) (gate nu : Iu) (p0 p1 : Int32) (h1 : ¬ ((1 : Int32) ≤ p0 ∧ p0 ≤ 240)) : xM l D cy yX4_foresee wsX4_foresee ({ frames := 4, cells := 4, slots := 68, locals := 130 } : Room) [.ref b, .int p0, .int p1] (mw cy b am thr nS nB st bk gate nu) (fun _ : Unit => some (.int 0)) (fun _ => True) (fun _ => mw cy b am 1 nS nB st bk gate nu) := by
  refine xM.of cX4_foresee 6 (some .int) RX4 (by decide +kernel) rfl rfl (Nat.le_of_ble_eq_true rfl) ?_
  intro p e s m below meth c A ls hx hb hr hts hown hlocks hml hin hK hA hP hD hS hl
  have hl : lv_has ls 6 [(0, .ref b), (1, .int p0), (2, .int p1)] := hl
  have hinX4 : ∀ w ∈ wsX40, w ∈ wsX4_foresee := fun _ h => List.mem_cons_of_mem _ (List.mem_append_right _ h)
  refine lv_aload_n hx hb dX4_foresee_0 rfl (lv_at hl 0 rfl) ?_
  refine lv_iconst (v := 0) hx hb dX4_foresee_1 (by decide) ?_
  refine va_put (D := D) (ci := 4) (v := .int 0) (ty := .int) (C := RX4) (T := TX4) (N := 8) hx hb hts hinX4 tyX4 tyX4_ok nmX4 hown hK.1 hP hD hS 0 rfl rfl 0 (by decide) (hts (.fieldLink RX4 26 "LoafMarksModel" "thrown" "I") (List.mem_of_getElem? (i := 1) rfl)) (fun _ h9 => h9) rfl (by decide +kernel) rfl rfl (Nat.le_of_ble_eq_true rfl) dX4_foresee_2 (fun H locs hP hD hS => ?_)
  have hP : va_P D vwCl (mw cy b am 0 nS nB st bk gate nu) H := hP
  have hD : va_D A (mw cy b am 0 nS nB st bk gate nu) := hD
  refine lv_iload_n hx hb dX4_foresee_5 rfl (lv_at hl 1 rfl) ?_
  refine lv_iconst (v := 1) hx hb dX4_foresee_6 (by decide) ?_
  refine lv_sipush (v := 240) hx hb dX4_foresee_7 (by decide) ?_
  refine xcS (As := [.int p0, .int 1, .int 240]) (rest := []) ⟨hx, hb, hml, hown, hts⟩ (c_X4_isIn l D cy p0 1 240) (va_cwS 3 hts gX4_foresee_X4_isIn rfl rfl rfl (by decide +kernel) ⟨Nat.le_of_ble_eq_true rfl, Nat.le_of_ble_eq_true rfl⟩) hK hP hD hS hA (xE_nil) rfl hl.1 rfl (Nat.le_of_ble_eq_true rfl) dX4_foresee_10 ⟨Nat.le_of_ble_eq_true rfl, Nat.le_of_ble_eq_true rfl⟩ (fun _ H locs _ hP hD hS => ?_)
  have hP : va_P D vwCl (mw cy b am 0 nS nB st bk gate nu) H := hP
  have hD : va_D A (mw cy b am 0 nS nB st bk gate nu) := hD
  refine W.eq (g2 := F0 m 13 ls [.int (wi p0 1 240)]) rfl ?_
  refine lv_if_ne (tgt := 22) hx hb dX4_foresee_13 (by decide) (fun z => absurd (wi_no h1) z) (fun _ => ?_)
  refine lv_aload_n hx hb dX4_foresee_16 rfl (lv_at hl 0 rfl) ?_
  refine lv_iconst (v := 1) hx hb dX4_foresee_17 (by decide) ?_
  refine xcV (As := [.int 1]) (rest := []) ⟨hx, hb, hml, hown, hts⟩ (c_X4_fail l D cy b am 0 nS nB st bk gate nu 1) (cwV 1 hts gX4_foresee_X4_fail rfl rfl rfl (by decide +kernel) ⟨Nat.le_of_ble_eq_true rfl, Nat.le_of_ble_eq_true rfl⟩) hK hP hD hS hA rfl rfl rfl (xE_all) rfl hl.1 rfl (Nat.le_of_ble_eq_true rfl) dX4_foresee_18 ⟨Nat.le_of_ble_eq_true rfl, Nat.le_of_ble_eq_true rfl⟩ (fun _ H locs _ hP hD hS => ?_)
  have hP : va_P D vwCl (mw cy b am 1 nS nB st bk gate nu) H := hP
  have hD : va_D A (mw cy b am 1 nS nB st bk gate nu) := hD
  refine W.eq (g2 := F0 m 21 ls [.int 0]) rfl ?_
  exact xri () hx hb hr hlocks hS (Nat.le_of_ble_eq_true rfl) (Nat.le_of_ble_eq_true rfl) dX4_foresee_21 hP hD rfl trivial

set_option maxHeartbeats 4000000 in
set_option maxRecDepth 100000 in
/-- foresee, refused -/
theorem c_X4_foresee_2 (l : Launch) (D : va_G) (cy : Nat → ClassId) (b : Nat) (am : Nat → Nat) (thr : Int32) (nS nB : Nat) (st bk : Nat → Iu) (gate nu : Iu) (p0 p1 : Int32) (h1 : (1 : Int32) ≤ p0 ∧ p0 ≤ 240) (h2 : ¬ ((0 : Int32) ≤ p1 ∧ p1 ≤ 3)) : xM l D cy yX4_foresee wsX4_foresee ({ frames := 4, cells := 4, slots := 68, locals := 130 } : Room) [.ref b, .int p0, .int p1] (mw cy b am thr nS nB st bk gate nu) (fun _ : Unit => some (.int 0)) (fun _ => True) (fun _ => mw cy b am 2 nS nB st bk gate nu) := by
  refine xM.of cX4_foresee 6 (some .int) RX4 (by decide +kernel) rfl rfl (Nat.le_of_ble_eq_true rfl) ?_
  intro p e s m below meth c A ls hx hb hr hts hown hlocks hml hin hK hA hP hD hS hl
  have hl : lv_has ls 6 [(0, .ref b), (1, .int p0), (2, .int p1)] := hl
  have hinX4 : ∀ w ∈ wsX40, w ∈ wsX4_foresee := fun _ h => List.mem_cons_of_mem _ (List.mem_append_right _ h)
  refine lv_aload_n hx hb dX4_foresee_0 rfl (lv_at hl 0 rfl) ?_
  refine lv_iconst (v := 0) hx hb dX4_foresee_1 (by decide) ?_
  refine va_put (D := D) (ci := 4) (v := .int 0) (ty := .int) (C := RX4) (T := TX4) (N := 8) hx hb hts hinX4 tyX4 tyX4_ok nmX4 hown hK.1 hP hD hS 0 rfl rfl 0 (by decide) (hts (.fieldLink RX4 26 "LoafMarksModel" "thrown" "I") (List.mem_of_getElem? (i := 1) rfl)) (fun _ h9 => h9) rfl (by decide +kernel) rfl rfl (Nat.le_of_ble_eq_true rfl) dX4_foresee_2 (fun H locs hP hD hS => ?_)
  have hP : va_P D vwCl (mw cy b am 0 nS nB st bk gate nu) H := hP
  have hD : va_D A (mw cy b am 0 nS nB st bk gate nu) := hD
  refine lv_iload_n hx hb dX4_foresee_5 rfl (lv_at hl 1 rfl) ?_
  refine lv_iconst (v := 1) hx hb dX4_foresee_6 (by decide) ?_
  refine lv_sipush (v := 240) hx hb dX4_foresee_7 (by decide) ?_
  refine xcS (As := [.int p0, .int 1, .int 240]) (rest := []) ⟨hx, hb, hml, hown, hts⟩ (c_X4_isIn l D cy p0 1 240) (va_cwS 3 hts gX4_foresee_X4_isIn rfl rfl rfl (by decide +kernel) ⟨Nat.le_of_ble_eq_true rfl, Nat.le_of_ble_eq_true rfl⟩) hK hP hD hS hA (xE_nil) rfl hl.1 rfl (Nat.le_of_ble_eq_true rfl) dX4_foresee_10 ⟨Nat.le_of_ble_eq_true rfl, Nat.le_of_ble_eq_true rfl⟩ (fun _ H locs _ hP hD hS => ?_)
  have hP : va_P D vwCl (mw cy b am 0 nS nB st bk gate nu) H := hP
  have hD : va_D A (mw cy b am 0 nS nB st bk gate nu) := hD
  refine W.eq (g2 := F0 m 13 ls [.int (wi p0 1 240)]) rfl ?_
  refine lv_if_ne (tgt := 22) hx hb dX4_foresee_13 (by decide) (fun _ => ?_) (fun z => absurd z (wi_ok h1))
  refine lv_iload_n hx hb dX4_foresee_22 rfl (lv_at hl 2 rfl) ?_
  refine lv_iconst (v := 0) hx hb dX4_foresee_23 (by decide) ?_
  refine lv_iconst (v := 3) hx hb dX4_foresee_24 (by decide) ?_
  refine xcS (As := [.int p1, .int 0, .int 3]) (rest := []) ⟨hx, hb, hml, hown, hts⟩ (c_X4_isIn l D cy p1 0 3) (va_cwS 3 hts gX4_foresee_X4_isIn rfl rfl rfl (by decide +kernel) ⟨Nat.le_of_ble_eq_true rfl, Nat.le_of_ble_eq_true rfl⟩) hK hP hD hS hA (xE_nil) rfl hl.1 rfl (Nat.le_of_ble_eq_true rfl) dX4_foresee_25 ⟨Nat.le_of_ble_eq_true rfl, Nat.le_of_ble_eq_true rfl⟩ (fun _ H locs _ hP hD hS => ?_)
  have hP : va_P D vwCl (mw cy b am 0 nS nB st bk gate nu) H := hP
  have hD : va_D A (mw cy b am 0 nS nB st bk gate nu) := hD
  refine W.eq (g2 := F0 m 28 ls [.int (wi p1 0 3)]) rfl ?_
  refine lv_if_ne (tgt := 37) hx hb dX4_foresee_28 (by decide) (fun z => absurd (wi_no h2) z) (fun _ => ?_)
  refine lv_aload_n hx hb dX4_foresee_31 rfl (lv_at hl 0 rfl) ?_
  refine lv_iconst (v := 2) hx hb dX4_foresee_32 (by decide) ?_
  refine xcV (As := [.int 2]) (rest := []) ⟨hx, hb, hml, hown, hts⟩ (c_X4_fail l D cy b am 0 nS nB st bk gate nu 2) (cwV 1 hts gX4_foresee_X4_fail rfl rfl rfl (by decide +kernel) ⟨Nat.le_of_ble_eq_true rfl, Nat.le_of_ble_eq_true rfl⟩) hK hP hD hS hA rfl rfl rfl (xE_all) rfl hl.1 rfl (Nat.le_of_ble_eq_true rfl) dX4_foresee_33 ⟨Nat.le_of_ble_eq_true rfl, Nat.le_of_ble_eq_true rfl⟩ (fun _ H locs _ hP hD hS => ?_)
  have hP : va_P D vwCl (mw cy b am 2 nS nB st bk gate nu) H := hP
  have hD : va_D A (mw cy b am 2 nS nB st bk gate nu) := hD
  refine W.eq (g2 := F0 m 36 ls [.int 0]) rfl ?_
  exact xri () hx hb hr hlocks hS (Nat.le_of_ble_eq_true rfl) (Nat.le_of_ble_eq_true rfl) dX4_foresee_36 hP hD rfl trivial

set_option maxHeartbeats 4000000 in
set_option maxRecDepth 100000 in
/-- advise -/
theorem c_X4_advise (l : Launch) (D : va_G) (cy : Nat → ClassId) (b : Nat) (am : Nat → Nat) (thr : Int32) (nS nB : Nat) (st bk : Nat → Iu) (gate nu : Iu) (hq n j : Nat) (eh : nu 0 = nI hq) (hn1 : 1 ≤ n) (hn2 : n ≤ 96) (hh : hq + n < 2 ^ 31) (hj : j < nB) (hcS : nS ≤ 4) (hcB : nB ≤ 6) (ok : ∀ k i, k ≤ 9 → i < n → okH nS nB gate (hrs nS nB hq gate (st, rat bk j k, nu) i)) (hlt9 : ∀ x y, x ≤ 9 → y ≤ 9 → (nu 4 + (fun k => unf nS nB hq gate (st, rat bk j k, nu) n) x < nu 4 + (fun k => unf nS nB hq gate (st, rat bk j k, nu) n) y ↔ (fun k => unf nS nB hq gate (st, rat bk j k, nu) n) x < (fun k => unf nS nB hq gate (st, rat bk j k, nu) n) y)) : xM l D cy yX4_advise wsX4_advise ({ frames := 4, cells := 4, slots := 68, locals := 130 } : Room) [.ref b, .int (nI j), .int (nI n)] (mw cy b am thr nS nB st bk gate nu) (fun _ : Unit => some (.int (nI (10 * (advN (fun k => unf nS nB hq gate (st, rat bk j k, nu) n) 9).1)))) (fun _ => True) (fun _ => mw cy b am 0 nS nB st bk gate nu) := by
  refine xM.of cX4_advise 8 (some .int) RX4 (by decide +kernel) rfl rfl (Nat.le_of_ble_eq_true rfl) ?_
  intro p e s m below meth c A ls hx hb hr hts hown hlocks hml hin hK hA hP hD hS hl
  have hl : lv_has ls 8 [(0, .ref b), (1, .int (nI j)), (2, .int (nI n))] := hl
  have hinX4 : ∀ w ∈ wsX40, w ∈ wsX4_advise := fun _ h => List.mem_cons_of_mem _ (List.mem_append_right _ h)
  refine lv_aload_n hx hb dX4_advise_0 rfl (lv_at hl 0 rfl) ?_
  refine lv_iconst (v := 0) hx hb dX4_advise_1 (by decide) ?_
  refine va_put (D := D) (ci := 4) (v := .int 0) (ty := .int) (C := RX4) (T := TX4) (N := 8) hx hb hts hinX4 tyX4 tyX4_ok nmX4 hown hK.1 hP hD hS 0 rfl rfl 0 (by decide) (hts (.fieldLink RX4 26 "LoafMarksModel" "thrown" "I") (List.mem_of_getElem? (i := 1) rfl)) (fun _ h9 => h9) rfl (by decide +kernel) rfl rfl (Nat.le_of_ble_eq_true rfl) dX4_advise_2 (fun H locs hP hD hS => ?_)
  have hP : va_P D vwCl (mw cy b am 0 nS nB st bk gate nu) H := hP
  have hD : va_D A (mw cy b am 0 nS nB st bk gate nu) := hD
  refine lv_aload_n hx hb dX4_advise_5 rfl (lv_at hl 0 rfl) ?_
  refine lv_iload_n hx hb dX4_advise_6 rfl (lv_at hl 1 rfl) ?_
  refine xcV (As := [.int (nI j)]) (rest := []) ⟨hx, hb, hml, hown, hts⟩ (c_X4_isBaker l D cy b am 0 nS nB st bk gate nu (nI j)) (cwV 1 hts gX4_advise_X4_isBaker rfl rfl rfl (by decide +kernel) ⟨Nat.le_of_ble_eq_true rfl, Nat.le_of_ble_eq_true rfl⟩) hK hP hD hS hA rfl rfl rfl (xE_all) rfl hl.1 rfl (Nat.le_of_ble_eq_true rfl) dX4_advise_7 ⟨Nat.le_of_ble_eq_true rfl, Nat.le_of_ble_eq_true rfl⟩ (fun _ H locs _ hP hD hS => ?_)
  have hP : va_P D vwCl (mw cy b am 0 nS nB st bk gate nu) H := hP
  have hD : va_D A (mw cy b am 0 nS nB st bk gate nu) := hD
  refine W.eq (g2 := F0 m 10 ls [.int (inN (nI j) nB)]) rfl ?_
  refine lv_if_ne (tgt := 19) hx hb dX4_advise_10 (by decide) (fun _ => ?_) (fun z => absurd z (inN_ok hj (by omega)))
  refine lv_iload_n hx hb dX4_advise_19 rfl (lv_at hl 2 rfl) ?_
  refine lv_iconst (v := 1) hx hb dX4_advise_20 (by decide) ?_
  refine lv_bipush (v := 96) hx hb dX4_advise_21 (by decide) ?_
  refine xcS (As := [.int (nI n), .int 1, .int 96]) (rest := []) ⟨hx, hb, hml, hown, hts⟩ (c_X4_isIn l D cy (nI n) 1 96) (va_cwS 3 hts gX4_advise_X4_isIn rfl rfl rfl (by decide +kernel) ⟨Nat.le_of_ble_eq_true rfl, Nat.le_of_ble_eq_true rfl⟩) hK hP hD hS hA (xE_nil) rfl hl.1 rfl (Nat.le_of_ble_eq_true rfl) dX4_advise_23 ⟨Nat.le_of_ble_eq_true rfl, Nat.le_of_ble_eq_true rfl⟩ (fun _ H locs _ hP hD hS => ?_)
  have hP : va_P D vwCl (mw cy b am 0 nS nB st bk gate nu) H := hP
  have hD : va_D A (mw cy b am 0 nS nB st bk gate nu) := hD
  refine W.eq (g2 := F0 m 26 ls [.int (wi (nI n) 1 96)]) rfl ?_
  refine lv_if_ne (tgt := 35) hx hb dX4_advise_26 (by decide) (fun _ => ?_) (fun z => absurd z (wi_ok ⟨nI_le (a := 1) (b := n) (by omega) (by omega), nI_le (a := n) (b := 96) (by omega) (by decide)⟩))
  refine lv_aload_n hx hb dX4_advise_35 rfl (lv_at hl 0 rfl) ?_
  refine xcV (As := []) (rest := []) ⟨hx, hb, hml, hown, hts⟩ (c_X4_kept l D cy b am 0 nS nB st bk gate nu) (cwV 0 hts gX4_advise_X4_kept rfl rfl rfl (by decide +kernel) ⟨Nat.le_of_ble_eq_true rfl, Nat.le_of_ble_eq_true rfl⟩) hK hP hD hS hA rfl rfl rfl (xE_all) rfl hl.1 rfl (Nat.le_of_ble_eq_true rfl) dX4_advise_36 ⟨Nat.le_of_ble_eq_true rfl, Nat.le_of_ble_eq_true rfl⟩ (fun ka H locs _ hP hD hS => ?_)
  have hP : va_P D vwCl (mw cy b am 0 nS nB st bk gate nu ++ kw cy ka st bk nu) H := hP
  have hD : va_D A (mw cy b am 0 nS nB st bk gate nu ++ kw cy ka st bk nu) := hD
  refine W.eq (g2 := F0 m 39 ls [.ref (ka 0)]) rfl ?_
  refine lv_astore_n (lv' := [(3, .ref (ka 0)), (0, .ref b), (1, .int (nI j)), (2, .int (nI n))]) hx hb dX4_advise_39 rfl hl (by decide) rfl (fun ls hl => ?_)
  refine lv_iconst (v := (-1)) hx hb dX4_advise_40 (by decide) ?_
  refine lv_istore (lv' := [(4, .int (-1)), (3, .ref (ka 0)), (0, .ref b), (1, .int (nI j)), (2, .int (nI n))]) hx hb dX4_advise_41 hl (by decide) rfl (fun ls hl => ?_)
  refine lv_iconst (v := 0) hx hb dX4_advise_43 (by decide) ?_
  refine lv_istore (lv' := [(5, .int 0), (4, .int (-1)), (3, .ref (ka 0)), (0, .ref b), (1, .int (nI j)), (2, .int (nI n))]) hx hb dX4_advise_44 hl (by decide) rfl (fun ls hl => ?_)
  refine lv_iconst (v := 0) hx hb dX4_advise_46 (by decide) ?_
  refine lv_istore (lv' := [(6, .int 0), (5, .int 0), (4, .int (-1)), (3, .ref (ka 0)), (0, .ref b), (1, .int (nI j)), (2, .int (nI n))]) hx hb dX4_advise_47 hl (by decide) rfl (fun ls hl => ?_)
  have loop : ∀ (z k : Nat)  (H : Heap) (locs : List Loc) (ls : Array Slot), k + z = 10 → va_P D vwCl (mw cy b am 0 nS nB st bk gate nu ++ kw cy ka st bk nu) H → va_D A (mw cy b am 0 nS nB st bk gate nu ++ kw cy ka st bk nu) → va_S A s.heap H locs → lv_has ls 8 [(0, .ref b), (1, .int (nI j)), (2, .int (nI n)), (3, .ref (ka 0)), (4, .int (aB (fun k => unf nS nB hq gate (st, rat bk j k, nu) n) k)), (5, .int (aL (nu 4) (fun k => unf nS nB hq gate (st, rat bk j k, nu) n) k)), (6, .int (nI (10 * k)))] → W p l e ({ frames := 4, cells := 4, slots := 68, locals := 130 } : Room) s m ([.ref b, .int (nI j), .int (nI n)] : List Value).toArray below meth c H locs 4 68 (MQ below (xQ D A (fun _ : Unit => some (.int (nI (10 * (advN (fun k => unf nS nB hq gate (st, rat bk j k, nu) n) 9).1)))) (fun _ => True) (fun _ => mw cy b am 0 nS nB st bk gate nu)) ([.ref b, .int (nI j), .int (nI n)] : List Value).toArray s 4 68 A) (F0 m 49 ls []) := by
    intro z
    induction z with
    | zero =>
      intro k  H locs ls hns hP hD hS hl
      have hik : k = 10 := by omega
      refine lv_iload hx hb dX4_advise_49 (lv_at hl 6 rfl) ?_
      refine lv_bipush (v := 90) hx hb dX4_advise_51 (by decide) ?_
      refine lv_icmp_gt (tgt := 112) hx hb dX4_advise_53 (by decide) (fun _ => ?_) (fun h => absurd (by rw [hik]; decide) h)
      refine lv_iload hx hb dX4_advise_112 (lv_at hl 4 rfl) ?_
      exact xri () hx hb hr hlocks hS (Nat.le_of_ble_eq_true rfl) (Nat.le_of_ble_eq_true rfl) dX4_advise_114 ((xP_app (w1 := mw cy b am 0 nS nB st bk gate nu)).mp hP).1 (mD_app (w1 := mw cy b am 0 nS nB st bk gate nu) hD) (by rw [hik]; rfl) trivial
    | succ z ih =>
      intro k  H locs ls hns hP hD hS hl
      have hlt : k < 10 := by omega
      refine lv_iload hx hb dX4_advise_49 (lv_at hl 6 rfl) ?_
      refine lv_bipush (v := 90) hx hb dX4_advise_51 (by decide) ?_
      refine lv_icmp_gt (tgt := 112) hx hb dX4_advise_53 (by decide) (fun h => absurd h (fun z => absurd z (nI_nlt (b := 10 * k) (a := 90) (by omega) (by decide)))) (fun _ => ?_)
      refine lv_aload_n hx hb dX4_advise_56 rfl (lv_at hl 0 rfl) ?_
      refine lv_iload_n hx hb dX4_advise_57 rfl (lv_at hl 1 rfl) ?_
      refine lv_iconst (v := 2) hx hb dX4_advise_58 (by decide) ?_
      refine lv_iload hx hb dX4_advise_59 (lv_at hl 6 rfl) ?_
      refine xcV (As := [.int (nI j), .int 2, .int (nI (10 * k))]) (rest := []) ⟨hx, hb, hml, hown, hts⟩ (c_X4_put l D cy b am 0 nS nB st bk gate nu j 2 (nI (10 * k)) (by omega) (by omega)) (cwV 3 hts gX4_advise_X4_put rfl rfl rfl (by decide +kernel) ⟨Nat.le_of_ble_eq_true rfl, Nat.le_of_ble_eq_true rfl⟩) hK hP hD hS hA rfl rfl rfl (xE_l) rfl hl.1 rfl (Nat.le_of_ble_eq_true rfl) dX4_advise_61 ⟨Nat.le_of_ble_eq_true rfl, Nat.le_of_ble_eq_true rfl⟩ (fun _ H locs _ hP hD hS => ?_)
      have hP : va_P D vwCl (mw cy b am 0 nS nB st (rat bk j k) gate nu ++ kw cy ka st bk nu) H := hP
      have hD : va_D A (mw cy b am 0 nS nB st (rat bk j k) gate nu ++ kw cy ka st bk nu) := hD
      refine W.eq (g2 := F0 m 64 ls []) rfl ?_
      refine lv_aload_n hx hb dX4_advise_64 rfl (lv_at hl 0 rfl) ?_
      refine lv_iload_n hx hb dX4_advise_65 rfl (lv_at hl 2 rfl) ?_
      refine xcV (As := [.int (nI n)]) (rest := []) ⟨hx, hb, hml, hown, hts⟩ (c_X4_hoursOn l D cy b am 0 nS nB (st, rat bk j k, nu) gate hq n eh hh hcS hcB (fun i hi => ok k i (by omega) hi)) (cwV 1 hts gX4_advise_X4_hoursOn rfl rfl rfl (by decide +kernel) ⟨Nat.le_of_ble_eq_true rfl, Nat.le_of_ble_eq_true rfl⟩) hK hP hD hS hA rfl rfl rfl (xE_l) rfl hl.1 rfl (Nat.le_of_ble_eq_true rfl) dX4_advise_66 ⟨Nat.le_of_ble_eq_true rfl, Nat.le_of_ble_eq_true rfl⟩ (fun _ H locs _ hP hD hS => ?_)
      have hP : va_P D vwCl (mw cy b am 0 nS nB ((hrs nS nB hq gate (st, rat bk j k, nu) n).1) ((hrs nS nB hq gate (st, rat bk j k, nu) n).2.1) gate ((hrs nS nB hq gate (st, rat bk j k, nu) n).2.2) ++ kw cy ka st bk nu) H := hP
      have hD : va_D A (mw cy b am 0 nS nB ((hrs nS nB hq gate (st, rat bk j k, nu) n).1) ((hrs nS nB hq gate (st, rat bk j k, nu) n).2.1) gate ((hrs nS nB hq gate (st, rat bk j k, nu) n).2.2) ++ kw cy ka st bk nu) := hD
      refine W.eq (g2 := F0 m 69 ls []) rfl ?_
      refine lv_aload_n hx hb dX4_advise_69 rfl (lv_at hl 0 rfl) ?_
      refine va_get (D := D) (ci := 4) (v := .ref (am 3)) (C := RX4) (T := TX4) (N := 8) hx hb hts hinX4 hown hK.1 hP 0 rfl rfl 7 (by decide) (hts (.fieldLink RX4 23 "LoafMarksModel" "numbers" "[I") (List.mem_of_getElem? (i := 2) rfl)) (fun _ h9 => h9) rfl dX4_advise_70 ?_
      refine lv_iconst (v := 3) hx hb dX4_advise_73 (by decide) ?_
      refine xiald hx hb hK hP 4 rfl 3 (by decide) (by decide) (by decide) dX4_advise_74 ?_
      refine W.eq (g2 := F0 m 75 ls [.int (((hrs nS nB hq gate (st, rat bk j k, nu) n).2.2) 4)]) rfl ?_
      refine W.eq (g2 := F0 m 75 ls [.int (nu 4 + (fun k => unf nS nB hq gate (st, rat bk j k, nu) n) k)]) (by rw [hrs_4]) ?_
      refine lv_istore (lv' := [(7, .int (nu 4 + (fun k => unf nS nB hq gate (st, rat bk j k, nu) n) k)), (0, .ref b), (1, .int (nI j)), (2, .int (nI n)), (3, .ref (ka 0)), (4, .int (aB (fun k => unf nS nB hq gate (st, rat bk j k, nu) n) k)), (5, .int (aL (nu 4) (fun k => unf nS nB hq gate (st, rat bk j k, nu) n) k)), (6, .int (nI (10 * k)))]) hx hb dX4_advise_75 hl (by decide) rfl (fun ls hl => ?_)
      refine lv_aload_n hx hb dX4_advise_77 rfl (lv_at hl 1 rfl) ?_
      refine lv_aload_n hx hb dX4_advise_78 rfl (lv_at hl 4 rfl) ?_
      refine xcV (As := [.ref (ka 0)]) (rest := []) ⟨hx, hb, hml, hown, hts⟩ (c_X4_bringBack l D cy b am 0 nS nB ((hrs nS nB hq gate (st, rat bk j k, nu) n).1) ((hrs nS nB hq gate (st, rat bk j k, nu) n).2.1) gate ((hrs nS nB hq gate (st, rat bk j k, nu) n).2.2) ka st bk nu (hrs_1 nS nB hq gate (st, rat bk j k, nu) n)) (cwV 1 hts gX4_advise_X4_bringBack rfl rfl rfl (by decide +kernel) ⟨Nat.le_of_ble_eq_true rfl, Nat.le_of_ble_eq_true rfl⟩) hK hP hD hS hA rfl rfl rfl (xE_all) rfl hl.1 rfl (Nat.le_of_ble_eq_true rfl) dX4_advise_79 ⟨Nat.le_of_ble_eq_true rfl, Nat.le_of_ble_eq_true rfl⟩ (fun _ H locs _ hP hD hS => ?_)
      have hP : va_P D vwCl (mw cy b am 0 nS nB st bk gate nu ++ kw cy ka st bk nu) H := hP
      have hD : va_D A (mw cy b am 0 nS nB st bk gate nu ++ kw cy ka st bk nu) := hD
      refine W.eq (g2 := F0 m 82 ls []) rfl ?_
      refine lv_iload hx hb dX4_advise_82 (lv_at hl 5 rfl) ?_
      refine lv_iconst (v := (-1)) hx hb dX4_advise_84 (by decide) ?_
      refine lv_icmp_eq (tgt := 98) hx hb dX4_advise_85 (by decide) (fun c85 => ?_) (fun c85 => ?_)
      · have k0 : k = 0 := by
          rcases Nat.eq_zero_or_pos k with hz | hz
          · exact hz
          · obtain ⟨z, rfl⟩ : ∃ z, k = z + 1 := ⟨k - 1, by omega⟩
            have hle := (advN_le (fun k => unf nS nB hq gate (st, rat bk j k, nu) n) z).1
            exact absurd (show nI (10 * (advN (fun k => unf nS nB hq gate (st, rat bk j k, nu) n) z).1) = -1 from c85) (fun h => absurd (show nI (10 * (advN (fun k => unf nS nB hq gate (st, rat bk j k, nu) n) z).1) < 0 by rw [h]; decide) (nI_pos (by omega)))
        have ea : aB (fun k => unf nS nB hq gate (st, rat bk j k, nu) n) (k + 1) = nI (10 * k) := by subst k0; rfl
        have el : aL (nu 4) (fun k => unf nS nB hq gate (st, rat bk j k, nu) n) (k + 1) = nu 4 + (fun k => unf nS nB hq gate (st, rat bk j k, nu) n) k := by subst k0; rfl
        refine lv_iload hx hb dX4_advise_98 (lv_at hl 7 rfl) ?_
        refine lv_istore (lv' := [(4, .int (nI (10 * k))), (7, .int (nu 4 + (fun k => unf nS nB hq gate (st, rat bk j k, nu) n) k)), (0, .ref b), (1, .int (nI j)), (2, .int (nI n)), (3, .ref (ka 0)), (5, .int (aL (nu 4) (fun k => unf nS nB hq gate (st, rat bk j k, nu) n) k)), (6, .int (nI (10 * k)))]) hx hb dX4_advise_100 hl (by decide) rfl (fun ls hl => ?_)
        refine lv_iload hx hb dX4_advise_102 (lv_at hl 1 rfl) ?_
        refine lv_istore (lv' := [(5, .int (nu 4 + (fun k => unf nS nB hq gate (st, rat bk j k, nu) n) k)), (4, .int (nI (10 * k))), (7, .int (nu 4 + (fun k => unf nS nB hq gate (st, rat bk j k, nu) n) k)), (0, .ref b), (1, .int (nI j)), (2, .int (nI n)), (3, .ref (ka 0)), (6, .int (nI (10 * k)))]) hx hb dX4_advise_104 hl (by decide) rfl (fun ls hl => ?_)
        refine lv_iinc (v := (nI (10 * (k + 1)))) (lv' := [(6, .int (nI (10 * (k + 1)))), (5, .int (nu 4 + (fun k => unf nS nB hq gate (st, rat bk j k, nu) n) k)), (4, .int (nI (10 * k))), (7, .int (nu 4 + (fun k => unf nS nB hq gate (st, rat bk j k, nu) n) k)), (0, .ref b), (1, .int (nI j)), (2, .int (nI n)), (3, .ref (ka 0))]) hx hb dX4_advise_106 hl (k := 7) rfl ((nI_10 _)) (by decide) rfl (fun ls hl => ?_)
        refine lv_goto (tgt := 49) hx hb dX4_advise_109 (by decide) ?_
        exact ih (k + 1)  _ _ _ (by omega) hP hD hS (lv_sub hl [4, 5, 6, 7, 2, 1, 0] (by rw [ea, el]; rfl))
      · have kz : ∃ z, k = z + 1 := ⟨k - 1, by rcases Nat.eq_zero_or_pos k with hz | hz; exact (c85 (by rw [hz]; rfl)).elim; omega⟩
        have hst : aL (nu 4) (fun k => unf nS nB hq gate (st, rat bk j k, nu) n) k = nu 4 + (advN (fun k => unf nS nB hq gate (st, rat bk j k, nu) n) (k - 1)).2 := by obtain ⟨z, e⟩ := kz; subst e; rfl
        have hbt : aB (fun k => unf nS nB hq gate (st, rat bk j k, nu) n) k = nI (10 * (advN (fun k => unf nS nB hq gate (st, rat bk j k, nu) n) (k - 1)).1) := by obtain ⟨z, e⟩ := kz; subst e; rfl
        have hstep : advN (fun k => unf nS nB hq gate (st, rat bk j k, nu) n) k = if (fun k => unf nS nB hq gate (st, rat bk j k, nu) n) k < (advN (fun k => unf nS nB hq gate (st, rat bk j k, nu) n) (k - 1)).2 then (k, (fun k => unf nS nB hq gate (st, rat bk j k, nu) n) k) else advN (fun k => unf nS nB hq gate (st, rat bk j k, nu) n) (k - 1) := by obtain ⟨z, e⟩ := kz; subst e; rfl
        have hle := advN_le (fun k => unf nS nB hq gate (st, rat bk j k, nu) n) (k - 1)
        have hiff : nu 4 + (fun k => unf nS nB hq gate (st, rat bk j k, nu) n) k < aL (nu 4) (fun k => unf nS nB hq gate (st, rat bk j k, nu) n) k ↔ (fun k => unf nS nB hq gate (st, rat bk j k, nu) n) k < (advN (fun k => unf nS nB hq gate (st, rat bk j k, nu) n) (k - 1)).2 := by rw [hst, hle.2]; exact hlt9 k _ (by omega) (by omega)
        refine lv_iload hx hb dX4_advise_88 (lv_at hl 0 rfl) ?_
        refine lv_iload hx hb dX4_advise_90 (lv_at hl 6 rfl) ?_
        refine lv_icmp_lt (tgt := 98) hx hb dX4_advise_92 (by decide) (fun c92 => ?_) (fun c92 => ?_)
        · have hs2 := hstep.trans (if_pos (hiff.mp c92))
          have ea : aB (fun k => unf nS nB hq gate (st, rat bk j k, nu) n) (k + 1) = nI (10 * k) := by show nI (10 * (advN (fun k => unf nS nB hq gate (st, rat bk j k, nu) n) k).1) = _; rw [hs2]
          have el : aL (nu 4) (fun k => unf nS nB hq gate (st, rat bk j k, nu) n) (k + 1) = nu 4 + (fun k => unf nS nB hq gate (st, rat bk j k, nu) n) k := by show nu 4 + (advN (fun k => unf nS nB hq gate (st, rat bk j k, nu) n) k).2 = _; rw [hs2]
          refine lv_iload hx hb dX4_advise_98 (lv_at hl 7 rfl) ?_
          refine lv_istore (lv' := [(4, .int (nI (10 * k))), (7, .int (nu 4 + (fun k => unf nS nB hq gate (st, rat bk j k, nu) n) k)), (0, .ref b), (1, .int (nI j)), (2, .int (nI n)), (3, .ref (ka 0)), (5, .int (aL (nu 4) (fun k => unf nS nB hq gate (st, rat bk j k, nu) n) k)), (6, .int (nI (10 * k)))]) hx hb dX4_advise_100 hl (by decide) rfl (fun ls hl => ?_)
          refine lv_iload hx hb dX4_advise_102 (lv_at hl 1 rfl) ?_
          refine lv_istore (lv' := [(5, .int (nu 4 + (fun k => unf nS nB hq gate (st, rat bk j k, nu) n) k)), (4, .int (nI (10 * k))), (7, .int (nu 4 + (fun k => unf nS nB hq gate (st, rat bk j k, nu) n) k)), (0, .ref b), (1, .int (nI j)), (2, .int (nI n)), (3, .ref (ka 0)), (6, .int (nI (10 * k)))]) hx hb dX4_advise_104 hl (by decide) rfl (fun ls hl => ?_)
          refine lv_iinc (v := (nI (10 * (k + 1)))) (lv' := [(6, .int (nI (10 * (k + 1)))), (5, .int (nu 4 + (fun k => unf nS nB hq gate (st, rat bk j k, nu) n) k)), (4, .int (nI (10 * k))), (7, .int (nu 4 + (fun k => unf nS nB hq gate (st, rat bk j k, nu) n) k)), (0, .ref b), (1, .int (nI j)), (2, .int (nI n)), (3, .ref (ka 0))]) hx hb dX4_advise_106 hl (k := 7) rfl ((nI_10 _)) (by decide) rfl (fun ls hl => ?_)
          refine lv_goto (tgt := 49) hx hb dX4_advise_109 (by decide) ?_
          exact ih (k + 1)  _ _ _ (by omega) hP hD hS (lv_sub hl [4, 5, 6, 7, 2, 1, 0] (by rw [ea, el]; rfl))
        · have hs2 := hstep.trans (if_neg (fun z => c92 (hiff.mpr z)))
          have ea : aB (fun k => unf nS nB hq gate (st, rat bk j k, nu) n) (k + 1) = aB (fun k => unf nS nB hq gate (st, rat bk j k, nu) n) k := by show nI (10 * (advN (fun k => unf nS nB hq gate (st, rat bk j k, nu) n) k).1) = _; rw [hs2, hbt]
          have el : aL (nu 4) (fun k => unf nS nB hq gate (st, rat bk j k, nu) n) (k + 1) = aL (nu 4) (fun k => unf nS nB hq gate (st, rat bk j k, nu) n) k := by show nu 4 + (advN (fun k => unf nS nB hq gate (st, rat bk j k, nu) n) k).2 = _; rw [hs2, hst]
          refine lv_goto (tgt := 106) hx hb dX4_advise_95 (by decide) ?_
          refine lv_iinc (v := (nI (10 * (k + 1)))) (lv' := [(6, .int (nI (10 * (k + 1)))), (7, .int (nu 4 + (fun k => unf nS nB hq gate (st, rat bk j k, nu) n) k)), (0, .ref b), (1, .int (nI j)), (2, .int (nI n)), (3, .ref (ka 0)), (4, .int (aB (fun k => unf nS nB hq gate (st, rat bk j k, nu) n) k)), (5, .int (aL (nu 4) (fun k => unf nS nB hq gate (st, rat bk j k, nu) n) k))]) hx hb dX4_advise_106 hl (k := 7) rfl ((nI_10 _)) (by decide) rfl (fun ls hl => ?_)
          refine lv_goto (tgt := 49) hx hb dX4_advise_109 (by decide) ?_
          exact ih (k + 1)  _ _ _ (by omega) hP hD hS (lv_sub hl [2, 3, 4, 5, 6, 7, 0] (by rw [ea, el]; rfl))
  exact loop 10 0  _ _ _ (by omega) hP hD hS (lv_sub hl [4, 5, 6, 3, 2, 1, 0] rfl)

set_option maxHeartbeats 4000000 in
set_option maxRecDepth 100000 in
/-- advise, refused -/
theorem c_X4_advise_1 (l : Launch) (D : va_G) (cy : Nat → ClassId) (b : Nat) (am : Nat → Nat) (thr : Int32) (nS nB : Nat) (st bk : Nat → Iu) (gate nu : Iu) (p0 p1 : Int32) (hv : ¬ vp_in p0 nB) (hcB : nB ≤ 6) : xM l D cy yX4_advise wsX4_advise ({ frames := 4, cells := 4, slots := 68, locals := 130 } : Room) [.ref b, .int p0, .int p1] (mw cy b am thr nS nB st bk gate nu) (fun _ : Unit => some (.int 0)) (fun _ => True) (fun _ => mw cy b am 1 nS nB st bk gate nu) := by
  refine xM.of cX4_advise 8 (some .int) RX4 (by decide +kernel) rfl rfl (Nat.le_of_ble_eq_true rfl) ?_
  intro p e s m below meth c A ls hx hb hr hts hown hlocks hml hin hK hA hP hD hS hl
  have hl : lv_has ls 8 [(0, .ref b), (1, .int p0), (2, .int p1)] := hl
  have hinX4 : ∀ w ∈ wsX40, w ∈ wsX4_advise := fun _ h => List.mem_cons_of_mem _ (List.mem_append_right _ h)
  refine lv_aload_n hx hb dX4_advise_0 rfl (lv_at hl 0 rfl) ?_
  refine lv_iconst (v := 0) hx hb dX4_advise_1 (by decide) ?_
  refine va_put (D := D) (ci := 4) (v := .int 0) (ty := .int) (C := RX4) (T := TX4) (N := 8) hx hb hts hinX4 tyX4 tyX4_ok nmX4 hown hK.1 hP hD hS 0 rfl rfl 0 (by decide) (hts (.fieldLink RX4 26 "LoafMarksModel" "thrown" "I") (List.mem_of_getElem? (i := 1) rfl)) (fun _ h9 => h9) rfl (by decide +kernel) rfl rfl (Nat.le_of_ble_eq_true rfl) dX4_advise_2 (fun H locs hP hD hS => ?_)
  have hP : va_P D vwCl (mw cy b am 0 nS nB st bk gate nu) H := hP
  have hD : va_D A (mw cy b am 0 nS nB st bk gate nu) := hD
  refine lv_aload_n hx hb dX4_advise_5 rfl (lv_at hl 0 rfl) ?_
  refine lv_iload_n hx hb dX4_advise_6 rfl (lv_at hl 1 rfl) ?_
  refine xcV (As := [.int p0]) (rest := []) ⟨hx, hb, hml, hown, hts⟩ (c_X4_isBaker l D cy b am 0 nS nB st bk gate nu p0) (cwV 1 hts gX4_advise_X4_isBaker rfl rfl rfl (by decide +kernel) ⟨Nat.le_of_ble_eq_true rfl, Nat.le_of_ble_eq_true rfl⟩) hK hP hD hS hA rfl rfl rfl (xE_all) rfl hl.1 rfl (Nat.le_of_ble_eq_true rfl) dX4_advise_7 ⟨Nat.le_of_ble_eq_true rfl, Nat.le_of_ble_eq_true rfl⟩ (fun _ H locs _ hP hD hS => ?_)
  have hP : va_P D vwCl (mw cy b am 0 nS nB st bk gate nu) H := hP
  have hD : va_D A (mw cy b am 0 nS nB st bk gate nu) := hD
  refine W.eq (g2 := F0 m 10 ls [.int (inN p0 nB)]) rfl ?_
  refine lv_if_ne (tgt := 19) hx hb dX4_advise_10 (by decide) (fun z => absurd (inN_no hv (by omega)) z) (fun _ => ?_)
  refine lv_aload_n hx hb dX4_advise_13 rfl (lv_at hl 0 rfl) ?_
  refine lv_iconst (v := 1) hx hb dX4_advise_14 (by decide) ?_
  refine xcV (As := [.int 1]) (rest := []) ⟨hx, hb, hml, hown, hts⟩ (c_X4_fail l D cy b am 0 nS nB st bk gate nu 1) (cwV 1 hts gX4_advise_X4_fail rfl rfl rfl (by decide +kernel) ⟨Nat.le_of_ble_eq_true rfl, Nat.le_of_ble_eq_true rfl⟩) hK hP hD hS hA rfl rfl rfl (xE_all) rfl hl.1 rfl (Nat.le_of_ble_eq_true rfl) dX4_advise_15 ⟨Nat.le_of_ble_eq_true rfl, Nat.le_of_ble_eq_true rfl⟩ (fun _ H locs _ hP hD hS => ?_)
  have hP : va_P D vwCl (mw cy b am 1 nS nB st bk gate nu) H := hP
  have hD : va_D A (mw cy b am 1 nS nB st bk gate nu) := hD
  refine W.eq (g2 := F0 m 18 ls [.int 0]) rfl ?_
  exact xri () hx hb hr hlocks hS (Nat.le_of_ble_eq_true rfl) (Nat.le_of_ble_eq_true rfl) dX4_advise_18 hP hD rfl trivial

set_option maxHeartbeats 4000000 in
set_option maxRecDepth 100000 in
/-- advise, refused -/
theorem c_X4_advise_2 (l : Launch) (D : va_G) (cy : Nat → ClassId) (b : Nat) (am : Nat → Nat) (thr : Int32) (nS nB : Nat) (st bk : Nat → Iu) (gate nu : Iu) (j : Nat) (hj : j < nB) (p1 : Int32) (h2 : ¬ ((1 : Int32) ≤ p1 ∧ p1 ≤ 96)) (hcB : nB ≤ 6) : xM l D cy yX4_advise wsX4_advise ({ frames := 4, cells := 4, slots := 68, locals := 130 } : Room) [.ref b, .int (nI j), .int p1] (mw cy b am thr nS nB st bk gate nu) (fun _ : Unit => some (.int 0)) (fun _ => True) (fun _ => mw cy b am 2 nS nB st bk gate nu) := by
  refine xM.of cX4_advise 8 (some .int) RX4 (by decide +kernel) rfl rfl (Nat.le_of_ble_eq_true rfl) ?_
  intro p e s m below meth c A ls hx hb hr hts hown hlocks hml hin hK hA hP hD hS hl
  have hl : lv_has ls 8 [(0, .ref b), (1, .int (nI j)), (2, .int p1)] := hl
  have hinX4 : ∀ w ∈ wsX40, w ∈ wsX4_advise := fun _ h => List.mem_cons_of_mem _ (List.mem_append_right _ h)
  refine lv_aload_n hx hb dX4_advise_0 rfl (lv_at hl 0 rfl) ?_
  refine lv_iconst (v := 0) hx hb dX4_advise_1 (by decide) ?_
  refine va_put (D := D) (ci := 4) (v := .int 0) (ty := .int) (C := RX4) (T := TX4) (N := 8) hx hb hts hinX4 tyX4 tyX4_ok nmX4 hown hK.1 hP hD hS 0 rfl rfl 0 (by decide) (hts (.fieldLink RX4 26 "LoafMarksModel" "thrown" "I") (List.mem_of_getElem? (i := 1) rfl)) (fun _ h9 => h9) rfl (by decide +kernel) rfl rfl (Nat.le_of_ble_eq_true rfl) dX4_advise_2 (fun H locs hP hD hS => ?_)
  have hP : va_P D vwCl (mw cy b am 0 nS nB st bk gate nu) H := hP
  have hD : va_D A (mw cy b am 0 nS nB st bk gate nu) := hD
  refine lv_aload_n hx hb dX4_advise_5 rfl (lv_at hl 0 rfl) ?_
  refine lv_iload_n hx hb dX4_advise_6 rfl (lv_at hl 1 rfl) ?_
  refine xcV (As := [.int (nI j)]) (rest := []) ⟨hx, hb, hml, hown, hts⟩ (c_X4_isBaker l D cy b am 0 nS nB st bk gate nu (nI j)) (cwV 1 hts gX4_advise_X4_isBaker rfl rfl rfl (by decide +kernel) ⟨Nat.le_of_ble_eq_true rfl, Nat.le_of_ble_eq_true rfl⟩) hK hP hD hS hA rfl rfl rfl (xE_all) rfl hl.1 rfl (Nat.le_of_ble_eq_true rfl) dX4_advise_7 ⟨Nat.le_of_ble_eq_true rfl, Nat.le_of_ble_eq_true rfl⟩ (fun _ H locs _ hP hD hS => ?_)
  have hP : va_P D vwCl (mw cy b am 0 nS nB st bk gate nu) H := hP
  have hD : va_D A (mw cy b am 0 nS nB st bk gate nu) := hD
  refine W.eq (g2 := F0 m 10 ls [.int (inN (nI j) nB)]) rfl ?_
  refine lv_if_ne (tgt := 19) hx hb dX4_advise_10 (by decide) (fun _ => ?_) (fun z => absurd z (inN_ok hj (by omega)))
  refine lv_iload_n hx hb dX4_advise_19 rfl (lv_at hl 2 rfl) ?_
  refine lv_iconst (v := 1) hx hb dX4_advise_20 (by decide) ?_
  refine lv_bipush (v := 96) hx hb dX4_advise_21 (by decide) ?_
  refine xcS (As := [.int p1, .int 1, .int 96]) (rest := []) ⟨hx, hb, hml, hown, hts⟩ (c_X4_isIn l D cy p1 1 96) (va_cwS 3 hts gX4_advise_X4_isIn rfl rfl rfl (by decide +kernel) ⟨Nat.le_of_ble_eq_true rfl, Nat.le_of_ble_eq_true rfl⟩) hK hP hD hS hA (xE_nil) rfl hl.1 rfl (Nat.le_of_ble_eq_true rfl) dX4_advise_23 ⟨Nat.le_of_ble_eq_true rfl, Nat.le_of_ble_eq_true rfl⟩ (fun _ H locs _ hP hD hS => ?_)
  have hP : va_P D vwCl (mw cy b am 0 nS nB st bk gate nu) H := hP
  have hD : va_D A (mw cy b am 0 nS nB st bk gate nu) := hD
  refine W.eq (g2 := F0 m 26 ls [.int (wi p1 1 96)]) rfl ?_
  refine lv_if_ne (tgt := 35) hx hb dX4_advise_26 (by decide) (fun z => absurd (wi_no h2) z) (fun _ => ?_)
  refine lv_aload_n hx hb dX4_advise_29 rfl (lv_at hl 0 rfl) ?_
  refine lv_iconst (v := 2) hx hb dX4_advise_30 (by decide) ?_
  refine xcV (As := [.int 2]) (rest := []) ⟨hx, hb, hml, hown, hts⟩ (c_X4_fail l D cy b am 0 nS nB st bk gate nu 2) (cwV 1 hts gX4_advise_X4_fail rfl rfl rfl (by decide +kernel) ⟨Nat.le_of_ble_eq_true rfl, Nat.le_of_ble_eq_true rfl⟩) hK hP hD hS hA rfl rfl rfl (xE_all) rfl hl.1 rfl (Nat.le_of_ble_eq_true rfl) dX4_advise_31 ⟨Nat.le_of_ble_eq_true rfl, Nat.le_of_ble_eq_true rfl⟩ (fun _ H locs _ hP hD hS => ?_)
  have hP : va_P D vwCl (mw cy b am 2 nS nB st bk gate nu) H := hP
  have hD : va_D A (mw cy b am 2 nS nB st bk gate nu) := hD
  refine W.eq (g2 := F0 m 34 ls [.int 0]) rfl ?_
  exact xri () hx hb hr hlocks hS (Nat.le_of_ble_eq_true rfl) (Nat.le_of_ble_eq_true rfl) dX4_advise_34 hP hD rfl trivial
