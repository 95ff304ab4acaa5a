/-! ===== the words of this proof: worlds as lists up to their order, contracts, calls ===== -/
abbrev Iu : Type := Nat → Int32
/-- the array classes of the system: int, Store, Baker, int[], long -/
def xt (cy : Nat → ClassId) : List (ClassId × FieldType) := [(cy 0, .int), (cy 1, .object RX1), (cy 2, .object RX0), (cy 3, .array .int), (cy 4, .byte)]
/-- what is known of the tables in every state -/
def XK (D : va_G) (cy : Nat → ClassId) (U : State) : Prop := va_K D vwCl (xt cy) U ∧ va_AO RX1 U ∧ va_AO RX0 U ∧ (Cond.arrayOver (.array .int)).before #[] U = true ∧ True
theorem XK.warmed {D : va_G} {cy : Nat → ClassId} {s U : State} (hW : s.WarmedH U.vm) (h : XK D cy s) : XK D cy U :=
  ⟨va_K.moved hW.alike h.1, va_AO.moved hW.alike h.2.1, va_AO.moved hW.alike h.2.2.1, over_moved hW.alike h.2.2.2.1, trivial⟩
theorem XK.same {D : va_G} {cy : Nat → ClassId} {s U : State} (e : s.vm = U.vm) (h : XK D cy s) : XK D cy U := by
  have al : s.vm.Alike U.vm := by rw [e]; exact Vm.Alike.refl _
  exact ⟨va_K.moved al h.1, va_AO.moved al h.2.1, va_AO.moved al h.2.2.1, over_moved al h.2.2.2.1, trivial⟩
theorem xP_iff {D : va_G} {cl : List vw_C} {ws : va_W} {H : Heap} : va_P D cl ws H ↔ ∀ q ∈ ws, va_at D cl q H :=
  ⟨fun h q hq => (List.getElem?_of_mem hq).elim fun k hk => h k q hk, fun h k q hk => h q (List.mem_of_getElem? hk)⟩
theorem xD_iff {A : Nat → Prop} {ws : va_W} : va_D A ws ↔ (ws.map Prod.fst).Nodup ∧ ∀ q ∈ ws, A q.1 := by
  constructor
  · rintro ⟨h1, h2⟩
    refine ⟨?_, fun q hq => ?_⟩
    · rw [List.nodup_iff_pairwise_ne, List.pairwise_iff_getElem]
      intro i j hi hj hij he
      simp only [List.length_map] at hi hj
      simp only [List.getElem_map] at he
      have := h1 i j ws[i] ws[j] (List.getElem?_eq_getElem hi) (List.getElem?_eq_getElem hj) he
      omega
    · obtain ⟨k, hk⟩ := List.getElem?_of_mem hq
      exact h2 k q hk
  · rintro ⟨h1, h2⟩
    refine ⟨fun i j p q hi hj he => ?_, fun k q hk => h2 q (List.mem_of_getElem? hk)⟩
    rw [List.nodup_iff_pairwise_ne, List.pairwise_iff_getElem] at h1
    obtain ⟨hi1, hi2⟩ := List.getElem?_eq_some_iff.mp hi
    obtain ⟨hj1, hj2⟩ := List.getElem?_eq_some_iff.mp hj
    rcases Nat.lt_trichotomy i j with h | h | h
    · exact (h1 i j (by simpa using hi1) (by simpa using hj1) h (by rw [List.getElem_map, List.getElem_map, hi2, hj2]; exact he)).elim
    · exact h
    · exact (h1 j i (by simpa using hj1) (by simpa using hi1) h (by rw [List.getElem_map, List.getElem_map, hi2, hj2]; exact he.symm)).elim
theorem xP_perm {D : va_G} {cl : List vw_C} {ws ws' : va_W} {H : Heap} (hp : List.Perm ws ws') (h : va_P D cl ws H) : va_P D cl ws' H :=
  xP_iff.mpr fun q hq => xP_iff.mp h q (hp.mem_iff.mpr hq)
theorem xD_perm {A : Nat → Prop} {ws ws' : va_W} (hp : List.Perm ws ws') (h : va_D A ws) : va_D A ws' := by
  rw [xD_iff] at h ⊢
  exact ⟨(hp.map Prod.fst).nodup h.1, fun q hq => h.2 q (hp.mem_iff.mpr hq)⟩
theorem xP_app {D : va_G} {cl : List vw_C} {w1 w2 : va_W} {H : Heap} : va_P D cl (w1 ++ w2) H ↔ va_P D cl w1 H ∧ va_P D cl w2 H := by
  simp only [xP_iff, List.mem_append]
  exact ⟨fun h => ⟨fun q hq => h q (Or.inl hq), fun q hq => h q (Or.inr hq)⟩, fun h q hq => hq.elim (h.1 q) (h.2 q)⟩
theorem xA_mem {ws : va_W} {sz q : Nat} : va_A ws sz q ↔ (∃ e, (q, e) ∈ ws) ∨ sz ≤ q := by
  unfold va_A
  constructor
  · rintro (⟨k, e, h⟩ | h)
    · exact Or.inl ⟨e, List.mem_of_getElem? h⟩
    · exact Or.inr h
  · rintro (⟨e, h⟩ | h)
    · obtain ⟨k, hk⟩ := List.getElem?_of_mem h
      exact Or.inl ⟨k, e, hk⟩
    · exact Or.inr h
/-- behind a call: what came back of the callee's world, beside the rest, unchanged -/
theorem xjoin {A : Nat → Prop} {D : va_G} {cl : List vw_C} {ws w0 wr w1 : va_W} {H H1 : Heap} (hP : va_P D cl ws H) (hD : va_D A ws) (hp : List.Perm ws (w0 ++ wr))
    (hk : ∀ q : Nat, q < H.size → ¬ va_A w0 H.size q → H1[q]? = H[q]?) (hA : ∀ q : Nat, H.size ≤ q → A q) (hP1 : va_P D cl w1 H1) (hD1 : va_D (va_A w0 H.size) w1) : va_P D cl (w1 ++ wr) H1 ∧ va_D A (w1 ++ wr) := by
  have hP := xP_perm hp hP
  have hD := xD_perm hp hD
  obtain ⟨hPw, hPr⟩ := xP_app.mp hP
  rw [xD_iff] at hD hD1
  obtain ⟨hn, hAw⟩ := hD
  rw [List.map_append, List.nodup_append] at hn
  have apart : ∀ q ∈ wr, q.1 < H.size ∧ ¬ va_A w0 H.size q.1 := by
    intro q hq
    have hl := (xP_iff.mp hPr q hq).lt
    refine ⟨hl, fun h => ?_⟩
    rcases xA_mem.mp h with ⟨e, h⟩ | h
    · exact hn.2.2 q.1 (List.mem_map.mpr ⟨_, h, rfl⟩) q.1 (List.mem_map.mpr ⟨q, hq, rfl⟩) rfl
    · omega
  refine ⟨xP_app.mpr ⟨hP1, xP_iff.mpr fun q hq => (xP_iff.mp hPr q hq).kept (hk q.1 (apart q hq).1 (apart q hq).2)⟩, xD_iff.mpr ⟨?_, fun q hq => ?_⟩⟩
  · rw [List.map_append, List.nodup_append]
    refine ⟨hD1.1, hn.2.1, fun a ha b hb hab => ?_⟩
    obtain ⟨x, hx, rfl⟩ := List.mem_map.mp ha
    obtain ⟨y, hy, rfl⟩ := List.mem_map.mp hb
    exact (apart y hy).2 (hab ▸ hD1.2 x hx)
  · rcases List.mem_append.mp hq with h | h
    · rcases xA_mem.mp (hD1.2 q h) with ⟨e, g⟩ | g
      · exact hAw (q.1, e) (List.mem_append_left _ g)
      · exact hA q.1 g
    · exact hAw q (List.mem_append_right _ h)
/-- a callee's world w0 within the caller's ws; out: the caller's world behind the call -/
def xE {S : Type} (ws w0 : va_W) (w1 out : S → va_W) : Prop := ∃ wr : va_W, List.Perm ws (w0 ++ wr) ∧ ∀ u, List.Perm (w1 u ++ wr) (out u)
theorem xE_all {S : Type} {w0 : va_W} {w1 : S → va_W} : xE w0 w0 w1 w1 := ⟨[], by simp, fun u => by simp⟩
theorem xE_nil {S : Type} {ws : va_W} : xE ws [] (fun _ : S => []) (fun _ => ws) := ⟨ws, by simp, fun u => by simp⟩
theorem xE_app {S : Type} {w0 : va_W} {w1 : S → va_W} (pre post : va_W) : xE (pre ++ (w0 ++ post)) w0 w1 (fun u => pre ++ (w1 u ++ post)) :=
  ⟨pre ++ post, (List.perm_append_comm_assoc pre w0 post), fun u => (List.perm_append_comm_assoc pre (w1 u) post).symm⟩
theorem xset_perm {ws : va_W} {k : Nat} {q : Nat × va_E} (h : ws[k]? = some q) : ∃ wr : va_W, List.Perm ws (q :: wr) ∧ ∀ x, List.Perm (x :: wr) (ws.set k x) := by
  obtain ⟨hk, hq⟩ := List.getElem?_eq_some_iff.mp h
  refine ⟨ws.take k ++ ws.drop (k + 1), ?_, fun x => ?_⟩
  · have e : ws = ws.take k ++ q :: ws.drop (k + 1) := by
      conv => lhs; rw [← List.take_append_drop k ws, List.drop_eq_getElem_cons hk, hq]
    conv => lhs; rw [e]
    exact List.perm_middle
  · rw [List.set_eq_take_append_cons_drop, if_pos hk]
    exact List.perm_middle.symm
theorem xE_one {S : Type} {ws : va_W} {a : Nat} {e : va_E} {e1 : S → va_E} (k : Nat) (h : ws[k]? = some (a, e)) : xE ws [(a, e)] (fun u => [(a, e1 u)]) (fun u => ws.set k (a, e1 u)) := by
  obtain ⟨wr, h1, h2⟩ := xset_perm h
  exact ⟨wr, h1, fun u => h2 _⟩
/-- two cells, the second stays -/
theorem xE_two {S : Type} {ws : va_W} {a b : Nat} {e f : va_E} {e1 : S → va_E} (k j : Nat) (hkj : k ≠ j) (h : ws[k]? = some (a, e)) (hj : ws[j]? = some (b, f)) : xE ws [(a, e), (b, f)] (fun u => [(a, e1 u), (b, f)]) (fun u => ws.set k (a, e1 u)) := by
  obtain ⟨wr, h1, h2⟩ := xset_perm h
  have hm : (b, f) ∈ wr ∨ (b, f) = (a, e) := by
    rcases List.mem_cons.mp (h1.mem_iff.mp (List.mem_of_getElem? hj)) with g | g
    · exact Or.inr g
    · exact Or.inl g
  obtain ⟨hk1, hq⟩ := List.getElem?_eq_some_iff.mp h
  have hm : (b, f) ∈ wr := by
    have h3 := h2 (a, .inr (9, []))
    have h4 : (ws.set k (a, .inr (9, [])))[j]? = some (b, f) := by rw [List.getElem?_set_ne hkj]; exact hj
    rcases List.mem_cons.mp (h3.mem_iff.mpr (List.mem_of_getElem? h4)) with g | g
    · rcases hm with hm | hm
      · exact hm
      · have := hm.symm.trans g
        injection this with _ e2
        have h5 := h2 (a, .inr (8, []))
        have h6 : (ws.set k (a, .inr (8, [])))[j]? = some (b, f) := by rw [List.getElem?_set_ne hkj]; exact hj
        rcases List.mem_cons.mp (h5.mem_iff.mpr (List.mem_of_getElem? h6)) with g2 | g2
        · have := hm.symm.trans g2
          injection this with _ e3
          rw [e2] at e3
          injection e3 with e3
          injection e3 with e3
          exact absurd e3 (by decide)
        · exact g2
    · exact g
  obtain ⟨i, hi⟩ := List.getElem?_of_mem hm
  obtain ⟨wr2, g1, g2⟩ := xset_perm hi
  refine ⟨wr2, h1.trans (g1.cons _), fun u => ?_⟩
  refine List.Perm.trans ?_ (h2 (a, e1 u))
  exact (g1.symm).cons _
theorem xE_perm {S : Type} {ws ws' w0 : va_W} {w1 out out' : S → va_W} (h : xE ws w0 w1 out) (hp : List.Perm ws' ws) (ho : ∀ u, List.Perm (out u) (out' u)) : xE ws' w0 w1 out' := by
  obtain ⟨wr, h1, h2⟩ := h
  exact ⟨wr, hp.trans h1, fun u => (h2 u).trans (ho u)⟩
/-- a world ahead of a call -/
def xPre (D : va_G) (cy : Nat → ClassId) (w0 : va_W) (sz : Nat) : State → Prop := fun U => U.heap.size = sz ∧ va_P D vwCl w0 U.heap ∧ XK D cy U ∧ va_D (fun _ => True) w0
/-- behind it: the answer, the world, the frame -/
def xQ {S : Type} (D : va_G) (A : Nat → Prop) (rv : S → Option Value) (P : S → Prop) (w1 : S → va_W) : Array Value → State → Outcome → State → Prop := fun _ st oc t =>
  (∃ u : S, oc = .returned (rv u) ∧ P u ∧ va_P D vwCl (w1 u) t.heap ∧ va_D A (w1 u)) ∧ va_F A st t
def xM {S : Type} (l : Launch) (D : va_G) (cy : Nat → ClassId) (y : MethodName) (wd : List Cond) (rm : Room) (av : List Value) (w0 : va_W) (rv : S → Option Value) (P : S → Prop) (w1 : S → va_W) : Prop :=
  ∀ sz : Nat, Met l y wd rm (va_Pc av (xPre D cy w0 sz)) (xQ D (va_A w0 sz) rv P w1) rm.cells rm.slots (va_A w0 sz)
theorem xM.of {S : Type} {l : Launch} {D : va_G} {cy : Nat → ClassId} {y : MethodName} {wd wd' : List Cond} {rm : Room} {av : List Value} {w0 : va_W} {rv : S → Option Value} {P : S → Prop} {w1 : S → va_W} (cc : ByteArray) (maxL : Nat) (ret : Option FieldType) (own : String)
    (hy : plainName y.cls = true) (ho : y.cls = own) (hw : wd = .code y cc maxL ret :: wd') (hlen : (lg_sl av).length ≤ maxL)
    (body : ∀ (p : Program) (e : Env) (s : State) (m : MethodId) (below : List Frame) (meth : Method) (c : Code) (A : Nat → Prop) (ls : Array Slot), p.tables.exec = Jvm.exec → c.code = cc → meth.sig.returnType = ret → (∀ w ∈ wd, w.before av.toArray s = true) → s.vm.findClass own = some m.cls → meth.locks = false → c.maxLocals = maxL → meth.name = y.name → XK D cy s →
      (∀ q : Nat, s.heap.size ≤ q → A q) → va_P D vwCl w0 s.heap → va_D A w0 → va_S A s.heap s.heap [] → lv_has ls maxL (lv_args 0 av) →
      W p l e rm s m av.toArray below meth c s.heap [] 0 0 (MQ below (xQ D A rv P w1) av.toArray s rm.cells rm.slots A) (F0 m 0 ls [])) : xM l D cy y wd rm av w0 rv P w1 := by
  intro sz
  refine Met.ofW (cc := cc) (maxL := maxL) (ret := ret) hy hw ?_
  intro p e s m args below meth c s₁ B hml hv
  obtain ⟨rfl, hsz, hP, hK, hD0⟩ := hv
  subst hsz
  have hts := atoms_spec (ws := wd) B.pre
  have hl := lv_entry av hlen
  rw [lg_entry_eq]
  exact body p e s m below meth c (va_A w0 s.heap.size) _ B.exec B.bytes B.returns hts (by rw [← ho]; exact findClass_of_methodNamed B.named) B.notSynchronized hml (name_of_methodNamed B.named B.method).1 hK (fun q h => Or.inr h) hP hD0.self va_S.rf hl
section XEND
variable {S : Type} {p : Program} {l : Launch} {e : Env} {R : Room} {s : State} {m : MethodId} {args : Array Value} {below : List Frame} {meth : Method} {c : Code} {H : Heap} {locs : List Loc} {cells slots mc ms : Nat} {cc : ByteArray} {pc : Nat} {ls : Array Slot} {D : va_G} {A : Nat → Prop} {rv : S → Option Value} {P : S → Prop} {w1 : S → va_W}
theorem xri (u : S) {v : Int32} (hx : p.tables.exec = Jvm.exec) (hb : c.code = cc) (hr : meth.sig.returnType = some .int) (hlocks : meth.locks = false) (hS : va_S A s.heap H locs) (hc : cells ≤ mc) (hs : slots ≤ ms) (hdg : decode cc pc = .ok (.ireturn, 1)) (hP : va_P D vwCl (w1 u) H) (hD : va_D A (w1 u)) (hv : rv u = some (.int v)) (hu : P u) :
    W p l e R s m args below meth c H locs cells slots (MQ below (xQ D A rv P w1) args s mc ms A) (F0 m pc ls [.int v]) :=
  W.widen hc hs (W.iret (v := v) hx hb hr (fun t ht hW => ⟨⟨u, by rw [hv], hu, by rw [ht]; exact hP, hD⟩, hS.F ht⟩) hS.2.2 hdg hlocks)
theorem xrz (u : S) {v : Int32} (hx : p.tables.exec = Jvm.exec) (hb : c.code = cc) (hr : meth.sig.returnType = some .boolean) (hlocks : meth.locks = false) (hS : va_S A s.heap H locs) (hc : cells ≤ mc) (hs : slots ≤ ms) (hdg : decode cc pc = .ok (.ireturn, 1)) (hn : narrow .boolean (.int v) = .int v) (hP : va_P D vwCl (w1 u) H) (hD : va_D A (w1 u)) (hv : rv u = some (.int v)) (hu : P u) :
    W p l e R s m args below meth c H locs cells slots (MQ below (xQ D A rv P w1) args s mc ms A) (F0 m pc ls [.int v]) :=
  W.widen hc hs (W.zret (v := v) hx hb hr hn (fun t ht hW => ⟨⟨u, by rw [hv], hu, by rw [ht]; exact hP, hD⟩, hS.F ht⟩) hS.2.2 hdg hlocks)
theorem xrl (u : S) {v : Int64} (hx : p.tables.exec = Jvm.exec) (hb : c.code = cc) (hr : meth.sig.returnType = some .long) (hlocks : meth.locks = false) (hS : va_S A s.heap H locs) (hc : cells ≤ mc) (hs : slots ≤ ms) (hdg : decode cc pc = .ok (.lreturn, 1)) (hP : va_P D vwCl (w1 u) H) (hD : va_D A (w1 u)) (hv : rv u = some (.long v)) (hu : P u) :
    W p l e R s m args below meth c H locs cells slots (MQ below (xQ D A rv P w1) args s mc ms A) (F0 m pc ls [.long v]) :=
  W.widen hc hs (W.lret (v := v) hx hb hr (fun t ht hW => ⟨⟨u, by rw [hv], hu, by rw [ht]; exact hP, hD⟩, hS.F ht⟩) hS.2.2 hdg hlocks)
theorem xra (u : S) {v : Value} {rt : FieldType} (hx : p.tables.exec = Jvm.exec) (hb : c.code = cc) (hr : meth.sig.returnType = some rt) (hrt : (∃ n, rt = .object n) ∨ ∃ t, rt = .array t) (hva : v = .null ∨ ∃ a, v = .ref a) (hlocks : meth.locks = false) (hS : va_S A s.heap H locs) (hc : cells ≤ mc) (hs : slots ≤ ms) (hdg : decode cc pc = .ok (.areturn, 1)) (hP : va_P D vwCl (w1 u) H) (hD : va_D A (w1 u)) (hv : rv u = some v) (hu : P u) :
    W p l e R s m args below meth c H locs cells slots (MQ below (xQ D A rv P w1) args s mc ms A) (F0 m pc ls [v]) :=
  W.widen hc hs (W.aret (v := v) hx hb hr hrt hva (fun t ht hW => ⟨⟨u, by rw [hv], hu, by rw [ht]; exact hP, hD⟩, hS.F ht⟩) hS.2.2 hdg hlocks)
theorem xrv (u : S) (hx : p.tables.exec = Jvm.exec) (hb : c.code = cc) (hr : meth.sig.returnType = none) (hlocks : meth.locks = false) (hS : va_S A s.heap H locs) (hc : cells ≤ mc) (hs : slots ≤ ms) (hdg : decode cc pc = .ok (.return_, 1)) (hP : va_P D vwCl (w1 u) H) (hD : va_D A (w1 u)) (hv : rv u = none) (hu : P u) :
    W p l e R s m args below meth c H locs cells slots (MQ below (xQ D A rv P w1) args s mc ms A) (F0 m pc ls []) :=
  W.widen hc hs (W.vret hx hb hr (fun t ht hW => ⟨⟨u, by rw [hv], hu, by rw [ht]; exact hP, hD⟩, hS.F ht⟩) hS.2.2 hdg hlocks)
end XEND
section XCALL
variable {S : Type} {p : Program} {l : Launch} {e : Env} {R : Room} {s : State} {m : MethodId} {args : Array Value} {below : List Frame} {meth : Method} {c : Code} {H H0 : Heap} {locs : List Loc} {cells slots : Nat} {Q : State → Prop} {cc : ByteArray} {pc : Nat} {ls : Array Slot} {D : va_G} {cy : Nat → ClassId} {A : Nat → Prop} {rv : S → Option Value} {P : S → Prop} {w0 ws : va_W} {w1 out : S → va_W} {rm : Room}
theorem xgo {mc ms : Nat} {rest st0 : List Value} {a : Array Value} (hr : va_Run p l e R s m args below meth c H locs cells slots mc ms (F0 m pc ls st0) rest (xQ D (va_A w0 H.size) rv P w1 a) (va_A w0 H.size)) (hP : va_P D vwCl ws H) (hD : va_D A ws) (hS : va_S A H0 H locs) (hA : ∀ q : Nat, H0.size ≤ q → A q) (hE : xE ws w0 w1 out)
    (kk : ∀ (u : S) (H1 : Heap) (locs1 : List Loc), P u → va_P D vwCl (out u) H1 → va_D A (out u) → va_S A H0 H1 locs1 → W p l e R s m args below meth c H1 locs1 (cells + mc) (slots + ms) Q (F0 m (pc + 3) ls ((rv u).toList ++ rest))) : W p l e R s m args below meth c H locs cells slots Q (F0 m pc ls st0) := by
  intro T hT X
  obtain ⟨v, st₀, t, T', L, h0, X', hL, e1, e2, ⟨⟨u, hv, hp, hPb, hDb⟩, hz, hk⟩, st⟩ := hr T hT X
  cases hv
  rw [h0] at hz hk
  obtain ⟨wr, g1, g2⟩ := hE
  have hAH : ∀ q : Nat, H.size ≤ q → A q := fun q h => hA q (Nat.le_trans hS.1 h)
  have hF : ∀ q, va_A w0 H.size q → A q := by
    intro q h
    rcases xA_mem.mp h with ⟨x, h⟩ | h
    · exact (xD_iff.mp hD).2 (q, x) (g1.mem_iff.mpr (List.mem_append_left _ h))
    · exact hAH q h
  obtain ⟨j1, j2⟩ := xjoin hP hD g1 hk hAH hPb hDb
  obtain ⟨t2, a1, b1⟩ := kk u T'.heap (locs ++ L) hp (by rw [e1]; exact xP_perm (g2 u) j1) (xD_perm (g2 u) j2)
    ⟨Nat.le_trans hS.1 (by rw [e1]; exact hz), fun q h1 h2 => by rw [e1, hk q (Nat.lt_of_lt_of_le h1 hS.1) (fun z => h2 (hF q z))]; exact hS.2.1 q h1 h2, fun q hq => by
      rcases List.mem_append.mp hq with h | h
      · exact hS.2.2 q h
      · exact hF _ (hL q h)⟩ T' rfl X'
  exact ⟨t2, st t2 a1, b1⟩
variable {Ts wd : List Cond} {own C : String} {y : MethodName} {nL maxL index n : Nat} {bytes : ByteArray} {ret : Option FieldType} {b : Addr} {As rest st : List Value}
theorem xblind {av : List Value} {sz : Nat} : FrameBlind (va_Pc av (xPre D cy w0 sz)) := fun a U g mk q => by
  obtain ⟨q0, q1, qP, qK, qD⟩ := q
  exact ⟨q0, q1, qP, XK.same rfl qK, qD⟩
theorem xcV {ci : Nat} {fs : List Value} {qc : vw_C} (F : CallFix p m c cc nL s args Ts own) (hM : xM l D cy y wd rm (.ref b :: As) w0 rv P w1) (cw : CallW R s args own C index y bytes maxL ret wd rm rm.cells rm.slots n)
    (hK : XK D cy s) (hP : va_P D vwCl ws H) (hD : va_D A ws) (hS : va_S A H0 H locs) (hA : ∀ q : Nat, H0.size ≤ q → A q) (hrec : w0[0]? = some (b, .inr (ci, fs))) (hci : vwCl[ci]? = some qc) (hC : qc.1 = C) (hE : xE ws w0 w1 out)
    (hn : As.length = n) (hsize : ls.size = nL) (hst : st = As.reverse ++ .ref b :: rest) (hrest : (rest.map fun v => v.category).sum ≤ 8) (hdg : decode cc pc = .ok (.invokevirtual index, 3)) (hf : cells + rm.cells ≤ R.cells ∧ slots + rm.slots ≤ R.slots)
    (kk : ∀ (u : S) (H1 : Heap) (locs1 : List Loc), P u → va_P D vwCl (out u) H1 → va_D A (out u) → va_S A H0 H1 locs1 → W p l e R s m args below meth c H1 locs1 (cells + rm.cells) (slots + rm.slots) Q (F0 m (pc + 3) ls ((rv u).toList ++ rest))) : W p l e R s m args below meth c H locs cells slots Q (F0 m pc ls st) := by
  subst hst
  subst hC
  have hPw : va_P D vwCl w0 H := by
    obtain ⟨wr, g1, -⟩ := hE
    exact (xP_app.mp (xP_perm g1 hP)).1
  have hDw : va_D (fun _ => True) w0 := by
    obtain ⟨wr, g1, -⟩ := hE
    have h := xD_iff.mp (xD_perm g1 hD)
    rw [List.map_append, List.nodup_append] at h
    exact xD_iff.mpr ⟨h.1.1, fun _ _ => trivial⟩
  refine xgo (va_runV (As := As) (rest := rest) F (hM H.size) cw ⟨xblind, va_recv hK.1 hPw hci hrec, fun U hU hW => ⟨rfl, by rw [hU], by rw [hU]; exact hPw, hK.warmed hW, hDw⟩⟩ rfl hn hsize rfl (lv_room hrest) hdg hf) hP hD hS hA hE kk
theorem xcS (F : CallFix p m c cc nL s args Ts own) (hM : xM l D cy y wd rm As w0 rv P w1) (cw : CallB R s args own index y bytes maxL ret wd rm rm.cells rm.slots n ∧ (Cond.static y).before args s = true)
    (hK : XK D cy s) (hP : va_P D vwCl ws H) (hD : va_D A ws) (hS : va_S A H0 H locs) (hA : ∀ q : Nat, H0.size ≤ q → A q) (hE : xE ws w0 w1 out)
    (hn : As.length = n) (hsize : ls.size = nL) (hst : st = As.reverse ++ rest) (hrest : (rest.map fun v => v.category).sum ≤ 8) (hdg : decode cc pc = .ok (.invokestatic index, 3)) (hf : cells + rm.cells ≤ R.cells ∧ slots + rm.slots ≤ R.slots)
    (kk : ∀ (u : S) (H1 : Heap) (locs1 : List Loc), P u → va_P D vwCl (out u) H1 → va_D A (out u) → va_S A H0 H1 locs1 → W p l e R s m args below meth c H1 locs1 (cells + rm.cells) (slots + rm.slots) Q (F0 m (pc + 3) ls ((rv u).toList ++ rest))) : W p l e R s m args below meth c H locs cells slots Q (F0 m pc ls st) := by
  subst hst
  have hPw : va_P D vwCl w0 H := by
    obtain ⟨wr, g1, -⟩ := hE
    exact (xP_app.mp (xP_perm g1 hP)).1
  have hDw : va_D (fun _ => True) w0 := by
    obtain ⟨wr, g1, -⟩ := hE
    have h := xD_iff.mp (xD_perm g1 hD)
    rw [List.map_append, List.nodup_append] at h
    exact xD_iff.mpr ⟨h.1.1, fun _ _ => trivial⟩
  refine xgo (va_runS (As := As) (rest := rest) F (hM H.size) cw ⟨xblind, fun U hU hW => ⟨rfl, by rw [hU], by rw [hU]; exact hPw, hK.warmed hW, hDw⟩⟩ rfl hn hsize rfl (lv_room hrest) hdg hf) hP hD hS hA hE kk
theorem xcI (F : CallFix p m c cc nL s args Ts own) (hM : xM l D cy y wd rm (.ref b :: As) w0 rv P w1) (cw : CallB R s args own index y bytes maxL none wd rm rm.cells rm.slots n ∧ y.name = "<init>" ∧ (Cond.instanceMethod y).before args s = true)
    (hK : XK D cy s) (hP : va_P D vwCl ws H) (hD : va_D A ws) (hS : va_S A H0 H locs) (hA : ∀ q : Nat, H0.size ≤ q → A q) (hE : xE ws w0 w1 out)
    (hn : As.length = n) (hsize : ls.size = nL) (hst : st = As.reverse ++ .ref b :: rest) (hrest : (rest.map fun v => v.category).sum ≤ 8) (hdg : decode cc pc = .ok (.invokespecial index, 3)) (hf : cells + rm.cells ≤ R.cells ∧ slots + rm.slots ≤ R.slots)
    (kk : ∀ (u : S) (H1 : Heap) (locs1 : List Loc), P u → va_P D vwCl (out u) H1 → va_D A (out u) → va_S A H0 H1 locs1 → W p l e R s m args below meth c H1 locs1 (cells + rm.cells) (slots + rm.slots) Q (F0 m (pc + 3) ls ((rv u).toList ++ rest))) : W p l e R s m args below meth c H locs cells slots Q (F0 m pc ls st) := by
  subst hst
  have hPw : va_P D vwCl w0 H := by
    obtain ⟨wr, g1, -⟩ := hE
    exact (xP_app.mp (xP_perm g1 hP)).1
  have hDw : va_D (fun _ => True) w0 := by
    obtain ⟨wr, g1, -⟩ := hE
    have h := xD_iff.mp (xD_perm g1 hD)
    rw [List.map_append, List.nodup_append] at h
    exact xD_iff.mpr ⟨h.1.1, fun _ _ => trivial⟩
  refine xgo (va_runI (As := As) (rest := rest) F (hM H.size) cw ⟨xblind, fun U hU hW => ⟨rfl, by rw [hU], by rw [hU]; exact hPw, hK.warmed hW, hDw⟩⟩ rfl hn hsize rfl (lv_room hrest) hdg hf) hP hD hS hA hE kk
end XCALL
