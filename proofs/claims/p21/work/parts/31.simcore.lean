/-! ===== the law's own town (Sim): its world, rows of numbers ===== -/
section XAA
variable {p : Program} {l : Launch} {e : Env} {R : Room} {s : State} {m : MethodId} {args : Array Value} {below : List Frame} {meth : Method} {c : Code} {H H0 : Heap} {locs : List Loc} {cells slots : Nat} {Q : State → Prop} {cc : ByteArray} {pc : Nat} {ls : Array Slot} {rest : List Value} {D : va_G} {cy : Nat → ClassId} {A : Nat → Prop} {ws : va_W} {a n : Nat}
theorem xnewAA (hx : p.tables.exec = Jvm.exec) (hb : c.code = cc) {own : String} {index : Nat} (hown : s.vm.findClass own = some m.cls) (hclink : (Cond.classLink own index "[I").before args s = true) (hK : XK D cy s) (hP : va_P D vwCl ws H) (hD : va_D A ws) (hS : va_S A H0 H locs) (hA : ∀ q : Nat, H0.size ≤ q → A q) {N : Nat} {i : Int32} (hn : ¬ i < 0) (hN : i.toNatClampNeg = N) (hbytes : N * 4 ≤ 536870912) (hcells : cells + 1 ≤ R.cells) (hslots : slots + N ≤ R.slots) (hdg : decode cc pc = .ok (.anewarray index, 3))
    (kk : ∀ (q : Nat) (H1 : Heap), va_P D vwCl (ws ++ [(q, .inl (cy 3, N, .inr (.inr (.inr (.inr (fun _ => none))))))]) H1 → va_D A (ws ++ [(q, .inl (cy 3, N, .inr (.inr (.inr (.inr (fun _ => none))))))]) → va_S A H0 H1 locs →
      W p l e R s m args below meth c H1 locs (cells + 1) (slots + N) Q (F0 m (pc + 3) ls (.ref q :: rest))) : W p l e R s m args below meth c H locs cells slots Q (F0 m pc ls (.int i :: rest)) := by
  subst hN
  refine W.anewA (t := .int) hx hb hown hclink hK.2.2.2.1 rfl hdg rfl hn hbytes hcells hslots fun cA kA comp f1 f2 f3 f4 => ?_
  have hr : s.vm.findClass ("[" ++ (FieldType.array .int).toString) = some (cy 3) := (hK.1.2 3 (cy 3, .array .int) rfl).2
  cases f1.symm.trans hr
  generalize hH1 : H.push ({ cls := cy 3, slots := Array.replicate i.toNatClampNeg .null, vm := .none } : Cell) = H1
  have z1 : H1.size = H.size + 1 := by rw [← hH1, Array.size_push]
  have e1 : H1[H.size]? = some (arrV (cy 3) i.toNatClampNeg (fun _ => .null)) := by rw [← hH1, Array.getElem?_push_size, ← arrV_new]
  have o1 : ∀ q : Nat, q < H.size → H1[q]? = H[q]? := fun q hq => by rw [← hH1, Array.getElem?_push, if_neg (Nat.ne_of_lt hq)]
  have hk : ∀ (k : Nat) (x : Nat × va_E), ws[k]? = some x → H1[x.1]? = H[x.1]? := fun k x hx => o1 x.1 ((hP k x hx).lt)
  refine kk H.size H1 ((hP.kept hk).app (fun k x hx => ?_)) (hD.push hP rfl (hA _ hS.1)) ⟨Nat.le_trans hS.1 (by omega), fun x h1 h2 => (o1 x (Nat.lt_of_lt_of_le h1 hS.1)).trans (hS.2.1 x h1 h2), hS.2.2⟩
  have hz : k < 1 := (List.getElem?_eq_some_iff.mp hx).1
  rw [show k = 0 by omega] at hx
  cases hx
  show H1[H.size]? = some (vp_cell _ _)
  rw [vp_cell_q]
  exact e1
theorem xaldAA (hx : p.tables.exec = Jvm.exec) (hb : c.code = cc) (hK : XK D cy s) (hP : va_P D vwCl ws H) (q0 : Nat) {f : Nat → Option Nat} (ha : ws[q0]? = some (a, .inl (cy 3, n, .inr (.inr (.inr (.inr f)))))) (j : Nat) {i : Int32} (hi : i = nI j) (hj : j < n) (hn : n < 2 ^ 31) (hdg : decode cc pc = .ok (.aaload, 1))
    (kk : W p l e R s m args below meth c H locs cells slots Q (F0 m (pc + 1) ls (va_rf (f j) :: rest))) : W p l e R s m args below meth c H locs cells slots Q (F0 m pc ls (.int i :: .ref a :: rest)) := by
  subst hi
  have hin : vp_in (nI j) n := vp_in_nI hj hn
  have e := nI_clamp (n := j) (by omega)
  exact W.aald (v := va_rf (f j)) (ty := .array .int) hx hb (hP q0 _ ha) ((hK.1.2 3 _ rfl).1 n (fun j => va_rf (f j))) rfl (fun q => by cases q) (by show ¬ (nI j < 0 ∨ (arrV _ _ _).slots.size ≤ _); rw [arrV_size]; exact hin) (by show (arrV _ _ _).slots[_]? = _; rw [e, arrV_read _ _ hj]) rfl rfl hdg kk
theorem xastAA (hx : p.tables.exec = Jvm.exec) (hb : c.code = cc) (hK : XK D cy s) (hP : va_P D vwCl ws H) (hD : va_D A ws) (hS : va_S A H0 H locs) (q0 qk : Nat) {v : Nat} {x : vp_A} {f : Nat → Option Nat} (ha : ws[q0]? = some (a, .inl (cy 3, n, .inr (.inr (.inr (.inr f)))))) (hv : ws[qk]? = some (v, .inl (cy 0, x))) (j : Nat) {i : Int32} (hi : i = nI j) (hj : j < n) (hn : n < 2 ^ 31) (hdg : decode cc pc = .ok (.aastore, 1))
    (kk : ∀ (H1 : Heap) (locs1 : List Loc), va_P D vwCl (ws.set q0 (a, .inl (cy 3, n, .inr (.inr (.inr (.inr (va_up f j (some v)))))))) H1 → va_D A (ws.set q0 (a, .inl (cy 3, n, .inr (.inr (.inr (.inr (va_up f j (some v)))))))) → va_S A H0 H1 locs1 → W p l e R s m args below meth c H1 locs1 cells slots Q (F0 m (pc + 1) ls rest)) : W p l e R s m args below meth c H locs cells slots Q (F0 m pc ls (.ref v :: .int i :: .ref a :: rest)) := by
  subst hi
  have hin : vp_in (nI j) n := vp_in_nI hj hn
  have e0 := nI_clamp (n := j) (by omega)
  have hlt : (nI j).toNatClampNeg < n := by rw [e0]; exact hj
  have h0 : ¬ nI j < 0 := fun q => hin (Or.inl q)
  have hvm0 : (vp_cell (cy 0) x).vm = .none := by
    obtain ⟨n, f | f | f | f | f⟩ := x <;> rfl
  have hcl0 : (vp_cell (cy 0) x).cls = cy 0 := by
    obtain ⟨n, f | f | f | f | f⟩ := x <;> rfl
  have hr : s.vm.findClass ("[" ++ (FieldType.array .int).toString) = some (cy 3) := (hK.1.2 3 (cy 3, .array .int) rfl).2
  have hr0 : s.vm.findClass ("[" ++ FieldType.int.toString) = some (cy 0) := (hK.1.2 0 (cy 0, .int) rfl).2
  obtain ⟨comp, cA, kA, g1, -, g3, g4, g5⟩ := arrayOverA_spec hK.2.2.2.1
  cases g5.symm.trans hr
  have g1' : s.vm.findClass ("[" ++ FieldType.int.toString) = some comp := g1
  cases g1'.symm.trans hr0
  obtain ⟨-, k0, hk0, -⟩ := (hK.1.2 0 (cy 0, .int) rfl).1 0 (fun _ => .null)
  refine W.aast hx hb (hP q0 _ ha) (fun q h => by cases h) (fun h => by cases h) g3 g4 rfl hk0 ⟨h0, by show _ < (arrV _ _ _).slots.size; rw [arrV_size]; exact hlt⟩ (hP qk _ hv) (fun q h => by rw [hvm0] at h; cases h) (by rw [hcl0]; exact hk0) (by rw [hcl0]; exact va_asg _ _) rfl rfl hdg fun H1 e z oq => ?_
  refine kk H1 _ (hP.set hD ha ?_ oq) (hD.set ha) (hS.put z oq (hD.2 q0 _ ha))
  show H1[a]? = some (vp_cell _ _)
  rw [e]
  rw [vp_cell_q, vp_cell_q, arrV_store, e0]
  congr 2
  funext q
  by_cases hq : q = j
  · subst hq
    simp [updV, va_up, va_rf]
  · simp [updV, va_up, hq]
/-- a row of the stores' array -/
theorem xaldS (hx : p.tables.exec = Jvm.exec) (hb : c.code = cc) (hK : XK D cy s) (hP : va_P D vwCl ws H) (q0 : Nat) {am : Nat → Nat} (ha : ws[q0]? = some (a, .inl (cy 3, n, .inr (.inr (.inr (.inr (rS am n))))))) (j : Nat) {i : Int32} (hi : i = nI j) (hj : j < n) (hn : n ≤ 4) (hdg : decode cc pc = .ok (.aaload, 1))
    (kk : W p l e R s m args below meth c H locs cells slots Q (F0 m (pc + 1) ls (.ref (am (4 + j)) :: rest))) : W p l e R s m args below meth c H locs cells slots Q (F0 m pc ls (.int i :: .ref a :: rest)) := by
  refine xaldAA hx hb hK hP q0 ha j hi hj (by omega) hdg ?_
  rw [rS_lt hj]
  exact kk
/-- a row of the bakers' array -/
theorem xaldB (hx : p.tables.exec = Jvm.exec) (hb : c.code = cc) (hK : XK D cy s) (hP : va_P D vwCl ws H) (q0 : Nat) {am : Nat → Nat} (ha : ws[q0]? = some (a, .inl (cy 3, n, .inr (.inr (.inr (.inr (rB am n))))))) (j : Nat) {i : Int32} (hi : i = nI j) (hj : j < n) (hn : n ≤ 6) (hdg : decode cc pc = .ok (.aaload, 1))
    (kk : W p l e R s m args below meth c H locs cells slots Q (F0 m (pc + 1) ls (.ref (am (8 + j)) :: rest))) : W p l e R s m args below meth c H locs cells slots Q (F0 m pc ls (.int i :: .ref a :: rest)) := by
  refine xaldAA hx hb hK hP q0 ha j hi hj (by omega) hdg ?_
  rw [rB_lt hj]
  exact kk
end XAA
def yS (cy : Nat → ClassId) (am : Nat → Nat) (n : Nat) (st : Nat → Iu) : va_W := (List.range n).map fun i => (am (4 + i), .inl (cy 0, 3, .inl (st i)))
def yB (cy : Nat → ClassId) (am : Nat → Nat) (n : Nat) (bk : Nat → Iu) : va_W := (List.range n).map fun i => (am (8 + i), .inl (cy 0, 8, .inl (bk i)))
abbrev sw4 (cy : Nat → ClassId) (am : Nat → Nat) (nS nB : Nat) (gate nu : Iu) : va_W := [(am 0, .inr (4, [.int (nu 1), .ref (am 1), .ref (am 2), .ref (am 3), .int (nu 0), .int (nu 2), .int (nu 3), .int (nu 4), .int (nu 5)])), (am 1, .inl (cy 0, 24, .inl gate)), (am 2, .inl (cy 3, nS, .inr (.inr (.inr (.inr (rS am nS)))))), (am 3, .inl (cy 3, nB, .inr (.inr (.inr (.inr (rB am nB))))))]
/-- the world of a Sim: itself, its arrays and rows; and what lies beside -/
def sw (cy : Nat → ClassId) (am : Nat → Nat) (nS nB : Nat) (st bk : Nat → Iu) (gate nu : Iu) (wr : va_W) : va_W := sw4 cy am nS nB gate nu ++ (yS cy am nS st ++ (yB cy am nB bk ++ wr))
theorem yS_len {cy : Nat → ClassId} {am : Nat → Nat} {n : Nat} {st : Nat → Iu} : (yS cy am n st).length = n := by simp [yS]
theorem yB_len {cy : Nat → ClassId} {am : Nat → Nat} {n : Nat} {bk : Nat → Iu} : (yB cy am n bk).length = n := by simp [yB]
theorem yS_at {cy : Nat → ClassId} {am : Nat → Nat} {n i : Nat} {st : Nat → Iu} (h : i < n) : (yS cy am n st)[i]? = some (am (4 + i), .inl (cy 0, 3, .inl (st i))) := by simp [yS, h]
theorem yB_at {cy : Nat → ClassId} {am : Nat → Nat} {n i : Nat} {bk : Nat → Iu} (h : i < n) : (yB cy am n bk)[i]? = some (am (8 + i), .inl (cy 0, 8, .inl (bk i))) := by simp [yB, h]
theorem yS_set {cy : Nat → ClassId} {am : Nat → Nat} {n i : Nat} {st : Nat → Iu} {x : Iu} (h : i < n) : (yS cy am n st).set i (am (4 + i), .inl (cy 0, 3, .inl x)) = yS cy am n (va_up st i x) := by
  apply List.ext_getElem?
  intro k
  by_cases hk : k = i
  · subst hk
    rw [List.getElem?_set_self (by rw [yS_len]; exact h), yS_at h]
    simp [va_up]
  · rw [List.getElem?_set_ne (Ne.symm hk)]
    by_cases hn : k < n
    · rw [yS_at hn, yS_at hn]; simp [va_up, hk]
    · rw [List.getElem?_eq_none (by rw [yS_len]; omega), List.getElem?_eq_none (by rw [yS_len]; omega)]
theorem yB_set {cy : Nat → ClassId} {am : Nat → Nat} {n i : Nat} {bk : Nat → Iu} {x : Iu} (h : i < n) : (yB cy am n bk).set i (am (8 + i), .inl (cy 0, 8, .inl x)) = yB cy am n (va_up bk i x) := by
  apply List.ext_getElem?
  intro k
  by_cases hk : k = i
  · subst hk
    rw [List.getElem?_set_self (by rw [yB_len]; exact h), yB_at h]
    simp [va_up]
  · rw [List.getElem?_set_ne (Ne.symm hk)]
    by_cases hn : k < n
    · rw [yB_at hn, yB_at hn]; simp [va_up, hk]
    · rw [List.getElem?_eq_none (by rw [yB_len]; omega), List.getElem?_eq_none (by rw [yB_len]; omega)]
section SW
variable {S : Type} {D : va_G} {A : Nat → Prop} {H : Heap} {cy : Nat → ClassId} {am : Nat → Nat} {nS nB : Nat} {st bk st' bk' : Nat → Iu} {gate nu gate' nu' : Iu} {wr : va_W} {w1 : S → va_W}
theorem ww_st {i : Nat} (h : i < nS) : (sw cy am nS nB st bk gate nu wr)[4 + i]? = some (am (4 + i), .inl (cy 0, 3, .inl (st i))) := by
  unfold sw
  rw [List.getElem?_append_right (by simp), List.getElem?_append_left (by simp [yS_len]; omega)]
  simpa using yS_at h
theorem ww_bk {j : Nat} (h : j < nB) : (sw cy am nS nB st bk gate nu wr)[4 + nS + j]? = some (am (8 + j), .inl (cy 0, 8, .inl (bk j))) := by
  unfold sw
  rw [List.getElem?_append_right (by simp; omega), List.getElem?_append_right (by simp [yS_len]; omega), List.getElem?_append_left (by simp [yS_len, yB_len]; omega)]
  have e : 4 + nS + j - (sw4 cy am nS nB gate nu).length - (yS cy am nS st).length = j := by simp [yS_len]; omega
  rw [e]
  exact yB_at h
theorem ww_set_st {i : Nat} {x : Iu} (h : i < nS) : (sw cy am nS nB st bk gate nu wr).set (4 + i) (am (4 + i), .inl (cy 0, 3, .inl x)) = sw cy am nS nB (va_up st i x) bk gate nu wr := by
  unfold sw
  rw [List.set_append_right _ _ (by simp), List.set_append_left _ _ (by simp [yS_len]; omega)]
  have e : 4 + i - (sw4 cy am nS nB gate nu).length = i := by simp
  rw [e, yS_set h]
theorem ww_set_bk {j : Nat} {x : Iu} (h : j < nB) : (sw cy am nS nB st bk gate nu wr).set (4 + nS + j) (am (8 + j), .inl (cy 0, 8, .inl x)) = sw cy am nS nB st (va_up bk j x) gate nu wr := by
  unfold sw
  rw [List.set_append_right _ _ (by simp; omega), List.set_append_right _ _ (by simp [yS_len]; omega), List.set_append_left _ _ (by simp [yS_len, yB_len]; omega)]
  have e : 4 + nS + j - (sw4 cy am nS nB gate nu).length - (yS cy am nS st).length = j := by simp [yS_len]; omega
  rw [e, yB_set h]
theorem sw_app : sw cy am nS nB st bk gate nu wr = sw cy am nS nB st bk gate nu [] ++ wr := by
  unfold sw
  rw [List.append_nil, List.append_assoc, List.append_assoc]
theorem ww_wr {k : Nat} {q : Nat × va_E} (h : wr[k]? = some q) : (sw cy am nS nB st bk gate nu wr)[4 + nS + nB + k]? = some q := by
  unfold sw
  rw [List.getElem?_append_right (by simp; omega), List.getElem?_append_right (by simp [yS_len]; omega), List.getElem?_append_right (by simp [yS_len, yB_len]; omega)]
  have e : 4 + nS + nB + k - (sw4 cy am nS nB gate nu).length - (yS cy am nS st).length - (yB cy am nB bk).length = k := by simp [yS_len, yB_len]; omega
  rw [e]
  exact h
theorem ww_set_wr {k : Nat} {x : Nat × va_E} : (sw cy am nS nB st bk gate nu wr).set (4 + nS + nB + k) x = sw cy am nS nB st bk gate nu (wr.set k x) := by
  unfold sw
  rw [List.set_append_right _ _ (by simp; omega), List.set_append_right _ _ (by simp [yS_len]; omega), List.set_append_right _ _ (by simp [yS_len, yB_len]; omega)]
  have e : 4 + nS + nB + k - (sw4 cy am nS nB gate nu).length - (yS cy am nS st).length - (yB cy am nB bk).length = k := by simp [yS_len, yB_len]; omega
  rw [e]
/-- a call on the Sim alone -/
theorem xE_sw {a' : S → Nat → Nat} {n1 n2 : S → Nat} {s' b' : S → Nat → Iu} {g' u' : S → Iu} : xE (sw cy am nS nB st bk gate nu wr) (sw cy am nS nB st bk gate nu []) (fun u => sw cy (a' u) (n1 u) (n2 u) (s' u) (b' u) (g' u) (u' u) []) (fun u => sw cy (a' u) (n1 u) (n2 u) (s' u) (b' u) (g' u) (u' u) wr) := by
  refine ⟨wr, by rw [sw_app], fun u => ?_⟩
  show List.Perm (sw cy (a' u) (n1 u) (n2 u) (s' u) (b' u) (g' u) (u' u) [] ++ wr) (sw cy (a' u) (n1 u) (n2 u) (s' u) (b' u) (g' u) (u' u) wr)
  rw [← sw_app]
/-- a call on what lies beside -/
theorem xE_wr : xE (sw cy am nS nB st bk gate nu wr) wr w1 (fun u => sw cy am nS nB st bk gate nu (w1 u)) := by
  refine ⟨sw cy am nS nB st bk gate nu [], ?_, fun u => ?_⟩
  · rw [sw_app]; exact List.perm_append_comm
  · show List.Perm (w1 u ++ sw cy am nS nB st bk gate nu []) (sw cy am nS nB st bk gate nu (w1 u))
    rw [sw_app (wr := w1 u)]
    exact List.perm_append_comm
theorem sw_cong (hs : ∀ i, i < nS → ∀ k, k < 3 → st i k = st' i k) (hb : ∀ j, j < nB → ∀ k, k < 8 → bk j k = bk' j k) (hg : ∀ k, k < 24 → gate k = gate' k) (hn : ∀ k, k < 6 → nu k = nu' k) (hP : va_P D vwCl (sw cy am nS nB st bk gate nu wr) H) : va_P D vwCl (sw cy am nS nB st' bk' gate' nu' wr) H := by
  have h0 := hP 0 _ rfl
  have h1' := hP 1 _ rfl
  have h2' := hP 2 _ rfl
  have h3' := hP 3 _ rfl
  rw [xP_iff] at hP ⊢
  intro q hq
  have e1 : ∀ i, i < nS → vp_cell (cy 0) (3, .inl (st' i)) = vp_cell (cy 0) (3, .inl (st i)) := fun i hi => (vp_cell_cong (hs i hi)).symm
  have e2 : ∀ j, j < nB → vp_cell (cy 0) (8, .inl (bk' j)) = vp_cell (cy 0) (8, .inl (bk j)) := fun j hj => (vp_cell_cong (hb j hj)).symm
  have e3 : vp_cell (cy 0) (24, .inl gate') = vp_cell (cy 0) (24, .inl gate) := (vp_cell_cong hg).symm
  unfold sw at hq hP
  rcases List.mem_append.mp hq with h | h
  · simp only [sw4, List.mem_cons, List.not_mem_nil, or_false] at h
    rcases h with rfl | rfl | rfl | rfl
    · rw [hn 0 (by decide), hn 1 (by decide), hn 2 (by decide), hn 3 (by decide), hn 4 (by decide), hn 5 (by decide)] at h0
      exact h0
    · show H[am 1]? = some (vp_cell _ _)
      rw [e3]
      exact h1'
    · exact h2'
    · exact h3'
  · rcases List.mem_append.mp h with h | h
    · obtain ⟨i, hi, rfl⟩ := List.mem_map.mp h
      have hi := List.mem_range.mp hi
      have h1 := hP (am (4 + i), .inl (cy 0, 3, .inl (st i))) (List.mem_append_right _ (List.mem_append_left _ (List.mem_map.mpr ⟨i, List.mem_range.mpr hi, rfl⟩)))
      show H[am (4 + i)]? = some (vp_cell _ _)
      rw [e1 i hi]
      exact h1
    · rcases List.mem_append.mp h with h | h
      · obtain ⟨j, hj, rfl⟩ := List.mem_map.mp h
        have hj := List.mem_range.mp hj
        have h1 := hP (am (8 + j), .inl (cy 0, 8, .inl (bk j))) (List.mem_append_right _ (List.mem_append_right _ (List.mem_append_left _ (List.mem_map.mpr ⟨j, List.mem_range.mpr hj, rfl⟩))))
        show H[am (8 + j)]? = some (vp_cell _ _)
        rw [e2 j hj]
        exact h1
      · exact hP q (List.mem_append_right _ (List.mem_append_right _ (List.mem_append_right _ h)))
theorem sw_fst : (sw cy am nS nB st bk gate nu wr).map Prod.fst = [am 0, am 1, am 2, am 3] ++ ((List.range nS).map (fun i => am (4 + i)) ++ ((List.range nB).map (fun i => am (8 + i)) ++ wr.map Prod.fst)) := by
  unfold sw yS yB
  simp [List.map_append, List.map_map, Function.comp_def]
theorem sw_congD (hD : va_D A (sw cy am nS nB st bk gate nu wr)) : va_D A (sw cy am nS nB st' bk' gate' nu' wr) := by
  rw [xD_iff] at hD ⊢
  rw [sw_fst] at hD ⊢
  refine ⟨hD.1, fun q hq => ?_⟩
  have hm : q.1 ∈ (sw cy am nS nB st' bk' gate' nu' wr).map Prod.fst := List.mem_map.mpr ⟨q, hq, rfl⟩
  rw [sw_fst, ← sw_fst (cy := cy) (st := st) (bk := bk) (gate := gate) (nu := nu)] at hm
  obtain ⟨q2, h2, e2⟩ := List.mem_map.mp hm
  rw [← e2]
  exact hD.2 q2 h2
end SW
