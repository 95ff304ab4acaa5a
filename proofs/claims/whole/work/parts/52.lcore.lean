/-! ===== the law: its worlds, its calls ===== -/
section XLC
variable {S : Type} {p : Program} {l : Launch} {e : Env} {R : Room} {s : State} {m : MethodId} {args : Array Value} {below : List Frame} {meth : Method} {c : Code} {H : Heap} {locs : List Loc} {cells slots : Nat} {Q : State → Prop} {cc : ByteArray} {pc : Nat} {ls : Array Slot} {D : va_G} {cy : Nat → ClassId} {sa : Nat → Nat} {A : Nat → Prop} {rv : S → Option Value} {P : S → Prop} {w0 ws : va_W} {w1 out : S → va_W} {rm : Room}
variable {Ts wd : List Cond} {own C : String} {y : MethodName} {nL maxL index n : Nat} {bytes : ByteArray} {ret : Option FieldType} {hh : List (Nat × Nat × Nat × Nat)} {b : Addr} {As rest st : List Value}
theorem xblindL {av : List Value} {sz : Nat} : FrameBlind (va_Pc av (xPreL D cy sa w0 sz)) := fun a U g mk q => by
  obtain ⟨q0, ⟨⟨q1, qP, qK, qD⟩, qV, qZ⟩, qN⟩ := q
  exact ⟨q0, ⟨⟨q1, qP, XK.same rfl qK, qD⟩, XV.same (s := U) rfl qV, xZ.moved (Vm.Alike.refl _) qZ⟩, qN.moved (Vm.Alike.refl _)⟩
theorem xE_fr (hE : xE ws w0 w1 out) (hP : va_P D vwCl ws H) (hD : va_D A ws) : va_P D vwCl w0 H ∧ va_D (fun _ => True) w0 := by
  obtain ⟨wr, g1, -⟩ := hE
  refine ⟨(xP_app.mp (xP_perm g1 hP)).1, ?_⟩
  have h := xD_iff.mp (xD_perm g1 hD)
  rw [List.map_append, List.nodup_append] at h
  exact xD_iff.mpr ⟨h.1.1, fun _ _ => trivial⟩
theorem xE_in {H0 : Heap} (hE : xE ws w0 w1 out) (hD : va_D A ws) (hS : va_S A H0 H locs) (hA : ∀ q : Nat, H0.size ≤ q → A q) : ∀ q, va_A w0 H.size q → A q := by
  obtain ⟨wr, g1, -⟩ := hE
  intro q h
  rcases xA_mem.mp h with ⟨x, h⟩ | h
  · exact (xD_iff.mp hD).2 (q, x) (g1.mem_iff.mpr (List.mem_append_left _ h))
  · exact hA q (Nat.le_trans hS.1 h)
theorem xcL (F : CallFix p m c cc nL s args Ts own) (hM : xL l D cy sa y wd rm As w0 rv P w1) (cw : vx_CSW R s args own index y bytes maxL ret hh wd rm rm.cells rm.slots n)
    (hK : XK D cy s) (hV : XV sa s) (hZ : xZ A s s.heap) (hNc : xNcs s) (hP : va_P D vwCl ws H) (hD : va_D A ws) (hS : va_S A s.heap H locs) (hA : ∀ q : Nat, s.heap.size ≤ q → A q) (hE : xE ws w0 w1 out)
    (hn : As.length = n) (hsize : ls.size = nL) (hst : st = As.reverse ++ rest) (hrest : (rest.map fun v => v.category).sum ≤ 8) (hdg : decode cc pc = .ok (.invokestatic index, 3)) (hf : cells + rm.cells ≤ R.cells ∧ slots + rm.slots ≤ R.slots)
    (kk : ∀ (u : S) (H1 : Heap) (locs1 : List Loc), P u → va_P D vwCl (out u) H1 → va_D A (out u) → va_S A s.heap H1 locs1 → W p l e R s m args below meth c H1 locs1 (cells + rm.cells) (slots + rm.slots) Q (F0 m (pc + 3) ls ((rv u).toList ++ rest))) : W p l e R s m args below meth c H locs cells slots Q (F0 m pc ls st) := by
  subst hst
  obtain ⟨hPw, hDw⟩ := xE_fr hE hP hD
  have hF := xE_in hE hD hS hA
  have hZH : xZ A s H := hZ.kept hS.2.1
  refine xgo (vx_runSW (As := As) (rest := rest) F (hM H.size) cw ⟨xblindL, fun U hU hW => ⟨rfl, ⟨⟨by rw [hU], by rw [hU]; exact hPw, hK.warmed hW, hDw⟩, hV.warmed hW, by rw [hU]; exact (hZH.moved hW.alike).narrow hF⟩, hNc.moved hW.alike⟩⟩ rfl hn hsize rfl (lv_room hrest) hdg hf) hP hD hS hA hE kk
/-- a call that may draw -/
theorem xcVD {d0 : Drawn} {ci : Nat} {fs : List Value} {qc : vw_C} (hd0 : s.drawn.sameBut d0 lw_cs) (F : CallFix p m c cc nL (s.setDrawn d0) args Ts own) (hM : xMD l D cy y wd rm (.ref b :: As) w0 rv P w1) (cw : CallW R (s.setDrawn d0) args own C index y bytes maxL ret wd rm rm.cells rm.slots n)
    (hK : XK D cy (s.setDrawn d0)) (hP : va_P D vwCl ws H) (hD : va_D A ws) (hS : va_S A s.heap H locs) (hA : ∀ q : Nat, s.heap.size ≤ q → A q) (hrec : w0[0]? = some (b, .inr (ci, fs))) (hci : vwCl[ci]? = some qc) (hC : qc.1 = C) (hE : xE ws w0 w1 out)
    (hn : As.length = n) (hsize : ls.size = nL) (hst : st = As.reverse ++ .ref b :: rest) (hrest : (rest.map fun v => v.category).sum ≤ 8) (hdg : decode cc pc = .ok (.invokevirtual index, 3)) (hf : cells + rm.cells ≤ R.cells ∧ slots + rm.slots ≤ R.slots)
    (kk : ∀ (u : S) (H1 : Heap) (locs1 : List Loc) (d1 : Drawn), s.drawn.sameBut d1 lw_cs → P u → va_P D vwCl (out u) H1 → va_D A (out u) → va_S A s.heap H1 locs1 → W p l e R (s.setDrawn d1) m args below meth c H1 locs1 (cells + rm.cells) (slots + rm.slots) Q (F0 m (pc + 3) ls ((rv u).toList ++ rest))) : W p l e R (s.setDrawn d0) m args below meth c H locs cells slots Q (F0 m pc ls st) := by
  subst hst
  subst hC
  obtain ⟨hPw, hDw⟩ := xE_fr hE hP hD
  have hF := xE_in hE hD hS hA
  have hr := va_runV_D (e := e) (below := below) (meth := meth) (locs := locs) (cs := lw_cs) (As := As) (rest := rest) (g := F0 m pc ls (As.reverse ++ .ref b :: rest)) F (hM H.size) cw ⟨xblind, va_recv hK.1 hPw hci hrec, fun U hU hW => ⟨rfl, by rw [hU], by rw [hU]; exact hPw, hK.warmed hW, hDw⟩⟩ rfl hn hsize rfl (lv_room hrest) hdg hf
  intro T hT X
  obtain ⟨v, st₀, t, T', L, d', hd', h0, X', hL, e1, e2, ⟨⟨u, hv, hp, hPb, hDb⟩, hz, hk⟩, st⟩ := hr T hT X
  cases hv
  rw [h0] at hz hk
  obtain ⟨wr, g1, g2⟩ := hE
  obtain ⟨j1, j2⟩ := xjoin hP hD g1 hk (fun q h => hA q (Nat.le_trans hS.1 h)) hPb hDb
  obtain ⟨t2, a1, b1⟩ := kk u T'.heap (locs ++ L) d' (hd0.trans hd') hp (by rw [e1]; exact xP_perm (g2 u) j1) (xD_perm (g2 u) j2)
    ⟨Nat.le_trans hS.1 (by rw [e1]; exact hz), fun q h1 h2 => by rw [e1, hk q (Nat.lt_of_lt_of_le h1 hS.1) (fun z => h2 (hF q z))]; exact hS.2.1 q h1 h2, fun q hq => by
      rcases List.mem_append.mp hq with h | h
      · exact hS.2.2 q h
      · exact hF _ (hL q h)⟩ T' rfl X'
  exact ⟨t2, st t2 a1, b1⟩
end XLC
theorem xE_ll {S : Type} {w0 a c : va_W} {w1 : S → va_W} : xE ((w0 ++ a) ++ c) w0 w1 (fun u => (w1 u ++ a) ++ c) := ⟨a ++ c, by rw [List.append_assoc], fun u => by show List.Perm (w1 u ++ (a ++ c)) ((w1 u ++ a) ++ c); rw [List.append_assoc]⟩
theorem lg_same (x : Int64) : lg_cmp x x = 0 := by simp [lg_cmp]
/-- the law's world: x, out, m -/
def WW (cy : Nat → ClassId) (h o mb : Nat) (ad av am : Nat → Nat) (thr : Int32) (nS nB tS tB : Nat) (st bk ts tb : Nat → Iu) (gate nu tg tn : Iu) (g : Nat → Int64) : va_W := (xw cy h ad nS nB st bk gate nu (av 0) (tw cy av tS tB ts tb tg tn) ++ [(o, .inl (cy 4, 1, .inr (.inl g)))]) ++ mw cy mb am thr nS nB st bk gate nu
/-- what stands throughout the law -/
def lwC (p : Program) (l : Launch) (s : State) (m : MethodId) (meth : Method) (c : Code) (b L : Nat) (xs : Nat → Int32) (D : va_G) (cy : Nat → ClassId) (sa : Nat → Nat) : Prop := l.stackTraces = false ∧ lw_At p s m meth c b L xs ∧ XK D cy s ∧ XV sa s ∧ xZ (fun q : Nat => s.heap.size ≤ q) s s.heap ∧ xNcs s ∧ L ≤ 2560
/-- the law goes on to its end from pc, i calls made, the room of k calls used -/
def lwS (p : Program) (l : Launch) (e : Env) (s : State) (m : MethodId) (below : List Frame) (meth : Method) (c : Code) (b : Nat) (D : va_G) (cy : Nat → ClassId) (h o mb : Nat) (pc i k : Nat) : Prop :=
  ∀ (ad av am : Nat → Nat) (thr : Int32) (nS nB tS tB : Nat) (st bk ts tb : Nat → Iu) (gate nu tg tn : Iu) (g : Nat → Int64) (hq : Nat) (d0 : Drawn) (H : Heap) (locs : List Loc) (ls : Array Slot), s.drawn.sameBut d0 lw_cs → nS ≤ 4 → nB ≤ 6 → tS ≤ nS → tB ≤ nB → hq ≤ 240 * k → tInv nS nB gate hq (st, bk, nu) →
    va_P D vwCl (WW cy h o mb ad av am thr nS nB tS tB st bk ts tb gate nu tg tn g) H → va_D (fun q : Nat => s.heap.size ≤ q) (WW cy h o mb ad av am thr nS nB tS tB st bk ts tb gate nu tg tn g) → va_S (fun q : Nat => s.heap.size ≤ q) s.heap H locs → lv_has ls 9 [(0, .ref b), (1, .ref h), (2, .ref mb), (3, .ref o), (4, .int (nI (5 * i)))] →
    W p l e room_1 (s.setDrawn d0) m #[Value.ref b] below meth c H locs (15 + 120 * k) (187 + 700 * k) (lw_Z below #[Value.ref b] s) (F0 m pc ls [])
theorem rg5 {x : Int32} (h : (0 : Int32) ≤ x ∧ x ≤ 500) : rgI 0 500 x := rg_of (a := 0) (b := 500) (by decide) (by decide) h
theorem rg99 {x : Int32} (h : (0 : Int32) ≤ x ∧ x ≤ 99) : rgI 0 99 x := rg_of (a := 0) (b := 99) (by decide) (by decide) h
theorem rg900 {x : Int32} (h : (0 : Int32) ≤ x ∧ x ≤ 900) : rgI 0 900 x := rg_of (a := 0) (b := 900) (by decide) (by decide) h
theorem rg50 {x : Int32} (h : (0 : Int32) ≤ x ∧ x ≤ 50) : rgI 0 50 x := rg_of (a := 0) (b := 50) (by decide) (by decide) h
theorem rg90 {x : Int32} (h : (0 : Int32) ≤ x ∧ x ≤ 90) : rgI 0 90 x := rg_of (a := 0) (b := 90) (by decide) (by decide) h
theorem rg12 {x : Int32} (h : (5 : Int32) ≤ x ∧ x ≤ 12) : rgI 5 12 x := rg_of (a := 5) (b := 12) (by decide) (by decide) h
/-- a number between two, as a natural number -/
theorem nat_of {x : Int32} {a b : Nat} (hb : b < 2 ^ 31) (h : Int32.ofNat a ≤ x ∧ x ≤ Int32.ofNat b) (ha : a ≤ b) : ∃ k, a ≤ k ∧ k ≤ b ∧ x = nI k := by
  have r := rg_of (by omega) hb h
  have h0 : ¬ x < 0 := fun z => by
    have := Int32.lt_iff_toInt_lt.mp z
    have o : (0 : Int32).toInt = 0 := rfl
    have := r.1
    omega
  obtain ⟨k, hk, rfl⟩ := nI_of h0
  have e := i_c k hk
  have r1 := r.1
  have r2 := r.2
  unfold nI at r1 r2
  rw [e] at r1 r2
  exact ⟨k, by omega, by omega, rfl⟩
theorem pos_iff {S : Int} {x : Int32} (h : rgI 0 S x) : (0 < x ↔ ¬ x = 0) := by
  have r := h.1
  have o : (0 : Int32).toInt = 0 := rfl
  constructor
  · intro z e
    subst e
    exact absurd z (by decide)
  · intro z
    refine Int32.lt_iff_toInt_lt.mpr ?_
    have : x.toInt ≠ 0 := fun e => z (Int32.toInt_inj.mp (by rw [e, o]))
    omega
