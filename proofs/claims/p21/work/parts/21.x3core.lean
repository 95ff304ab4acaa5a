/-! ===== LoafMarks' world; methods that throw ===== -/
abbrev E_A : String := "java/lang/IllegalArgumentException"
abbrev E_S : String := "java/lang/IllegalStateException"
abbrev E_I : String := "java/lang/IndexOutOfBoundsException"
abbrev xSup : List String := ["java/lang/RuntimeException", "java/lang/Exception"]
def xBw : List Cond := [.declares ⟨"java/lang/RuntimeException", "<init>", "(Ljava/lang/String;)V"⟩, .declares ⟨"java/lang/Exception", "<init>", "(Ljava/lang/String;)V"⟩, .declares ⟨"java/lang/Throwable", "<init>", "(Ljava/lang/String;)V"⟩, .castable E_A E_A, .castable E_S E_S, .castable E_I E_I]
/-- the texts of the class's exceptions, by their places in its pool -/
def xTx : List (Nat × String) := [(25, "people is not 0 to 500"), (36, "hour is not 0 to 23"), (39, "flour is not 0 to 99"), (45, "flour is not 0 to 900"), (47, "weevils is not 0 to 50"), (54, "there are 4 stores"), (61, "there is no such store"), (69, "mark is not 0 to 25"), (71, "weight is not 5 to 12"), (73, "ration is not 0 to 90"), (79, "another baker has this mark"), (85, "there are 6 bakers"), (91, "there is no such baker"), (101, "there is no loaf on the shelf"), (110, "what is not 0 to 3"), (115, "what is not 0 to 7"), (120, "what is not 0 to 9"), (123, "hours is not 1 to 240"), (144, "hours is not 1 to 96")]
/-- what the throws want of every state -/
def XV (sa : Nat → Nat) (U : State) : Prop := (∀ w ∈ xBw, va_Nw w U) ∧ ∀ q ∈ xTx, vk_R RX3 q.1 q.2 (sa q.1) U
theorem XV.warmed {sa : Nat → Nat} {s U : State} (hW : s.WarmedH U.vm) (h : XV sa s) : XV sa U := by
  refine ⟨fun w hw => ?_, fun q hq => vk_R.warm hW (h.2 q hq)⟩
  have h1 := h.1 w hw
  simp only [xBw, List.mem_cons, List.not_mem_nil, or_false] at hw
  rcases hw with rfl | rfl | rfl | rfl | rfl | rfl
  · exact va_Nw.warmD hW h1
  · exact va_Nw.warmD hW h1
  · exact va_Nw.warmD hW h1
  · exact va_Nw.warmC hW h1
  · exact va_Nw.warmC hW h1
  · exact va_Nw.warmC hW h1
theorem XV.same {sa : Nat → Nat} {s U : State} (e : s.vm = U.vm) (h : XV sa s) : XV sa U := by
  refine ⟨fun w hw => ?_, fun q hq => vk_R.same e.symm (h.2 q hq)⟩
  have h1 := h.1 w hw
  simp only [xBw, List.mem_cons, List.not_mem_nil, or_false] at hw
  rcases hw with rfl | rfl | rfl | rfl | rfl | rfl <;> exact va_Nw.same rfl e h1
/-- the two static fields that a new exception reads lie outside A -/
def xZ (A : Nat → Prop) (U : State) (H : Heap) : Prop := vx_Zq Bundle.tN "UNASSIGNED_STACK" Bundle.steD A U H ∧ vx_Zq Bundle.tN "SUPPRESSED_SENTINEL" Bundle.listD A U H
theorem xZ.moved {A : Nat → Prop} {u U : State} {H : Heap} (hvm : u.vm.Alike U.vm) (h : xZ A u H) : xZ A U H := ⟨vx_Zq.moved hvm h.1, vx_Zq.moved hvm h.2⟩
theorem xZ.narrow {A B : Nat → Prop} {U : State} {H : Heap} (h : xZ A U H) (hAB : ∀ q, B q → A q) : xZ B U H := ⟨vx_Zq.narrow h.1 hAB, vx_Zq.narrow h.2 hAB⟩
theorem xZ.kept {A : Nat → Prop} {U : State} {H H1 : Heap} (h : xZ A U H) (hq : ∀ a : Nat, a < H.size → ¬ A a → H1[a]? = H[a]?) : xZ A U H1 := ⟨vx_Zq.kept h.1 hq, vx_Zq.kept h.2 hq⟩
def xPreT (D : va_G) (cy : Nat → ClassId) (sa : Nat → Nat) (w0 : va_W) (sz : Nat) : State → Prop := fun U => xPre D cy w0 sz U ∧ XV sa U ∧ xZ (va_A w0 sz) U U.heap
/-- a call that always throws an E, its world as it was -/
def xTX (D : va_G) (A : Nat → Prop) (w0 : va_W) (E : String) : String → State → State → Prop := fun E' st t => E' = E ∧ va_P D vwCl w0 t.heap ∧ va_F A st t
abbrev xNo : Array Value → State → Outcome → State → Prop := fun _ _ _ _ => False
def xT (l : Launch) (D : va_G) (cy : Nat → ClassId) (sa : Nat → Nat) (y : MethodName) (wd : List Cond) (rm : Room) (av : List Value) (w0 : va_W) (E : String) : Prop :=
  ∀ sz : Nat, vx_Met l y wd rm (va_Pc av (xPreT D cy sa w0 sz)) xNo (xTX D (va_A w0 sz) w0 E) rm.cells rm.slots (va_A w0 sz)
theorem xT.of {l : Launch} {D : va_G} {cy : Nat → ClassId} {sa : Nat → Nat} {y : MethodName} {wd wd' : List Cond} {rm : Room} {av : List Value} {w0 : va_W} {E : String} (cc : ByteArray) (maxL : Nat) (ret : Option FieldType) (own : String)
    (hy : plainName y.cls = true) (ho : y.cls = own) (hw : wd = .code y cc maxL ret :: wd') (hlen : (lg_sl av).length ≤ maxL)
    (body : ∀ (p : Program) (e : Env) (s : State) (m : MethodId) (below : List Frame) (meth : Method) (c : Code) (A : Nat → Prop) (ls : Array Slot), p.tables.exec = Jvm.exec → c.code = cc → meth.sig.returnType = ret → (∀ w ∈ wd, w.before av.toArray s = true) → s.vm.findClass own = some m.cls → meth.locks = false → c.maxLocals = maxL → meth.name = y.name → XK D cy s →
      (∀ q : Nat, s.heap.size ≤ q → A q) → va_P D vwCl w0 s.heap → va_D A w0 → va_S A s.heap s.heap [] → XV sa s → xZ A s s.heap → (∀ x ∈ c.exceptionTable.toList, False) → lv_has ls maxL (lv_args 0 av) →
      W p l e rm s m av.toArray below meth c s.heap [] 0 0 (vx_MQ below xNo (xTX D A w0 E) av.toArray s rm.cells rm.slots A) (F0 m 0 ls [])) : xT l D cy sa y wd rm av w0 E := by
  intro sz
  refine vx_ofW (cc := cc) (maxL := maxL) (ret := ret) hy hw ?_
  intro p e s m args below meth c s₁ B hml htb hv
  obtain ⟨rfl, ⟨hsz, hP, hK, hD0⟩, hV, hZ⟩ := hv
  subst hsz
  have hts := atoms_spec (ws := wd) B.pre
  have hl := lv_entry av hlen
  rw [lg_entry_eq]
  exact body p e s m below meth c (va_A w0 s.heap.size) _ B.exec B.bytes B.returns hts (by rw [← ho]; exact findClass_of_methodNamed B.named) B.notSynchronized hml (name_of_methodNamed B.named B.method).1 hK (fun q h => Or.inr h) hP hD0.self va_S.rf hV hZ htb hl
/-- what may not be told by a method's own words: by the state -/
theorem xcovA : ∀ w ∈ (vx_atS RX3 27 E_A xSup).filter (fun w => !goodWord w), w ∈ xBw := by decide +kernel
theorem xcovI : ∀ w ∈ (vx_atS RX3 38 E_I xSup).filter (fun w => !goodWord w), w ∈ xBw := by decide +kernel
theorem xcovS : ∀ w ∈ (vx_atS RX3 56 E_S xSup).filter (fun w => !goodWord w), w ∈ xBw := by decide +kernel
theorem xotA : ∀ w ∈ Cond.classLink RX3 23 E_A :: Cond.initialized E_A :: vx_atS RX3 27 E_A xSup, vx_ot w = true := by decide +kernel
theorem xotI : ∀ w ∈ Cond.classLink RX3 34 E_I :: Cond.initialized E_I :: vx_atS RX3 38 E_I xSup, vx_ot w = true := by decide +kernel
theorem xotS : ∀ w ∈ Cond.classLink RX3 52 E_S :: Cond.initialized E_S :: vx_atS RX3 56 E_S xSup, vx_ot w = true := by decide +kernel
theorem xBw_at {sa : Nat → Nat} {args : Array Value} {s : State} (h : XV sa s) : ∀ w ∈ xBw, w.before args s = true := by
  intro w hw
  have h1 := h.1 w hw
  simp only [xBw, List.mem_cons, List.not_mem_nil, or_false] at hw
  rcases hw with rfl | rfl | rfl | rfl | rfl | rfl <;> exact va_Nw.use rfl h1
section XTHROW
variable {p : Program} {l : Launch} {e : Env} {R : Room} {s : State} {m : MethodId} {args : Array Value} {below : List Frame} {meth : Method} {c : Code} {H : Heap} {locs : List Loc} {cells slots mc ms : Nat} {cc : ByteArray} {pc : Nat} {ls : Array Slot} {D : va_G} {A : Nat → Prop} {w0 : va_W} {sa : Nat → Nat} {cls text : String} {ik is ic : Nat}
/-- new E(text); throw -/
theorem xthrow (hx : p.tables.exec = Jvm.exec) (hb : c.code = cc) (hst : l.stackTraces = false) (hown : s.vm.findClass RX3 = some m.cls) (hcls : Bundle.fit cls = true) (hk : (Cond.classLink RX3 ik cls).before args s = true) (hini : (Cond.initialized cls).before args s = true)
    (htx : (is, text) ∈ xTx) (hV : XV sa s) (hZ : xZ A s s.heap) (hat : ∀ w ∈ (vx_atS RX3 ic cls xSup).filter goodWord, w.before args s = true) (hcov : ∀ w ∈ (vx_atS RX3 ic cls xSup).filter (fun w => !goodWord w), w ∈ xBw) (hot : ∀ w ∈ Cond.classLink RX3 ik cls :: Cond.initialized cls :: vx_atS RX3 ic cls xSup, vx_ot w = true)
    (hS : va_S A s.heap H locs) (hP : va_P D vwCl w0 H) (hsize : ls.size = c.maxLocals)
    (d0 : decode cc pc = .ok (.new ik, 3)) (d3 : decode cc (pc + 3) = .ok (.dup, 1)) (d4 : decode cc (pc + 4) = .ok (.ldc is, 2)) (d6 : decode cc (pc + 6) = .ok (.invokespecial ic, 3)) (d9 : decode cc (pc + 9) = .ok (.athrow, 1))
    (htb : ∀ x ∈ c.exceptionTable.toList, False) (hlocks : meth.locks = false) (hRf : 6 ≤ R.frames) (hRl : 82 ≤ R.locals) (hRc : cells + 1 ≤ R.cells) (hRs : slots + 6 ≤ R.slots) (hc : cells + 1 ≤ mc) (hs : slots + 6 ≤ ms) :
    W p l e R s m args below meth c H locs cells slots (vx_MQ below xNo (xTX D A w0 cls) args s mc ms A) (F0 m pc ls []) := by
  refine vx_throwS (names := xSup) (sa := sa is) (A := A) hx hb hst hown hcls (by decide +kernel) hk hini (hV.2 (is, text) htx) (vx_hat hat hcov (xBw_at hV)) hot hZ.1 hZ.2 hS hsize d0 d3 d4 d6 d9 (fun x h => (htb x h).elim) (by show 2 + 3 < _; omega) (by show 0 + (13 * (2 + 1) + 43) ≤ _; omega) hRc hRs hlocks (fun t hal hz hq => ⟨rfl, va_P.kept hP (fun k q hk => hq q.1 (hP k q hk).lt), ⟨Nat.le_trans hS.1 hz, fun q h1 h2 => by rw [hq q (Nat.lt_of_lt_of_le h1 hS.1)]; exact hS.2.1 q h1 h2⟩⟩) hS.2.2 hc hs
end XTHROW
/-- the world of a LoafMarks: itself, its town, and what its trial has -/
def xw (cy : Nat → ClassId) (h : Nat) (ad : Nat → Nat) (nS nB : Nat) (st bk : Nat → Iu) (gate nu : Iu) (bt : Nat) (wt : va_W) : va_W := (h, .inr (3, [.ref (ad 0), .ref bt])) :: (tw cy ad nS nB st bk gate nu ++ wt)
section XW
variable {S : Type} {cy : Nat → ClassId} {h : Nat} {ad : Nat → Nat} {nS nB : Nat} {st bk : Nat → Iu} {gate nu : Iu} {bt : Nat} {wt : va_W}
theorem xw_at {k : Nat} {q : Nat × va_E} (hk : (tw cy ad nS nB st bk gate nu)[k]? = some q) : (xw cy h ad nS nB st bk gate nu bt wt)[k + 1]? = some q := by
  unfold xw
  rw [List.getElem?_cons_succ]
  exact at_l hk
theorem xw_set_st {i : Nat} {x : Iu} (hi : i < nS) : (xw cy h ad nS nB st bk gate nu bt wt).set (4 + i + 1) (ad (4 + i), cSt x) = xw cy h ad nS nB (va_up st i x) bk gate nu bt wt := by
  unfold xw
  rw [List.set_cons_succ, set_l (tw_st hi), tw_set_st hi]
theorem xw_set_bk {j : Nat} {x : Iu} (hj : j < nB) : (xw cy h ad nS nB st bk gate nu bt wt).set (4 + nS + j + 1) (ad (8 + j), cBk x) = xw cy h ad nS nB st (va_up bk j x) gate nu bt wt := by
  unfold xw
  rw [List.set_cons_succ, set_l (tw_bk hj), tw_set_bk hj]
theorem xE_xst {i : Nat} (x : Iu) (hi : i < nS) : xE (xw cy h ad nS nB st bk gate nu bt wt) [(ad (4 + i), cSt (st i))] (fun _ : Unit => [(ad (4 + i), cSt x)]) (fun _ => xw cy h ad nS nB (va_up st i x) bk gate nu bt wt) := by
  rw [← xw_set_st hi]
  exact xE_one (4 + i + 1) (xw_at (tw_st hi))
theorem xE_xbk {j : Nat} (x : Iu) (hj : j < nB) : xE (xw cy h ad nS nB st bk gate nu bt wt) [(ad (8 + j), cBk (bk j))] (fun _ : Unit => [(ad (8 + j), cBk x)]) (fun _ => xw cy h ad nS nB st (va_up bk j x) gate nu bt wt) := by
  rw [← xw_set_bk hj]
  exact xE_one (4 + nS + j + 1) (xw_at (tw_bk hj))
theorem xE_town {w1 : S → va_W} : xE (xw cy h ad nS nB st bk gate nu bt wt) (tw cy ad nS nB st bk gate nu) w1 (fun u => (h, .inr (3, [.ref (ad 0), .ref bt])) :: (w1 u ++ wt)) := by
  unfold xw
  exact xE_app (w0 := tw cy ad nS nB st bk gate nu) (w1 := w1) [(h, .inr (3, [.ref (ad 0), .ref bt]))] wt
theorem xE_trial {w1 : S → va_W} : xE (xw cy h ad nS nB st bk gate nu bt wt) wt w1 (fun u => xw cy h ad nS nB st bk gate nu bt (w1 u)) := by
  refine ⟨(h, .inr (3, [.ref (ad 0), .ref bt])) :: tw cy ad nS nB st bk gate nu, ?_, fun u => ?_⟩
  · exact List.perm_append_comm (l₁ := (h, .inr (3, [.ref (ad 0), .ref bt])) :: tw cy ad nS nB st bk gate nu) (l₂ := wt)
  · exact List.perm_append_comm (l₁ := w1 u) (l₂ := (h, .inr (3, [.ref (ad 0), .ref bt])) :: tw cy ad nS nB st bk gate nu)
theorem xE_both {w1 : S → va_W} : xE (xw cy h ad nS nB st bk gate nu bt wt) (wt ++ tw cy ad nS nB st bk gate nu) (fun u => w1 u ++ tw cy ad nS nB st bk gate nu) (fun u => xw cy h ad nS nB st bk gate nu bt (w1 u)) := by
  refine ⟨[(h, .inr (3, [.ref (ad 0), .ref bt]))], ?_, fun u => ?_⟩
  · exact (List.perm_append_comm (l₁ := [(h, .inr (3, [.ref (ad 0), .ref bt]))]) (l₂ := tw cy ad nS nB st bk gate nu ++ wt)).trans (List.perm_append_comm.append_right _)
  · exact ((List.perm_append_comm (l₁ := w1 u) (l₂ := tw cy ad nS nB st bk gate nu)).append_right _).trans (List.perm_append_comm (l₁ := tw cy ad nS nB st bk gate nu ++ w1 u) (l₂ := [(h, .inr (3, [.ref (ad 0), .ref bt]))]))
end XW
def wi (n a b : Int32) : Int32 := if a ≤ n ∧ n ≤ b then 1 else 0
theorem wi_ok {n a b : Int32} (h : a ≤ n ∧ n ≤ b) : ¬ wi n a b = 0 := by unfold wi; rw [if_pos h]; decide
theorem wi_no {n a b : Int32} (h : ¬ (a ≤ n ∧ n ≤ b)) : wi n a b = 0 := by unfold wi; rw [if_neg h]
def dgN (f : Nat → Int32) : Nat → Int64 → Int64
  | 0, d => d
  | n + 1, d => dgN f n d * 31 + (f n).toInt64
def dgS (st bk : Nat → Iu) (nB : Nat) : Nat → Int64 → Int64
  | 0, d => d
  | n + 1, d => dgN (stFact st bk nB n) 4 (dgS st bk nB n d)
def dgB (bk : Nat → Iu) : Nat → Int64 → Int64
  | 0, d => d
  | n + 1, d => dgN (bFact (bk n)) 8 (dgB bk n d)
def lastN (nS nB h : Nat) (gate : Iu) (u : TS) : Nat → Nat → Int32
  | 0, _ => -1
  | n + 1, i => if 0 < hUnfed nS nB ((h + i) % 24) gate (hrs nS nB h gate u i) then nI (i + 1) else lastN nS nB h gate u n (i + 1)
def advN (f : Nat → Int32) : Nat → Nat × Int32
  | 0 => (0, f 0)
  | k + 1 => if f (k + 1) < (advN f k).2 then (k + 1, f (k + 1)) else advN f k
/-- the bakers with another ration for one -/
def rat (bk : Nat → Iu) (j k : Nat) : Nat → Iu := va_up bk j (upd (bk j) 2 (nI (10 * k)))
