/-! ===== the town's world; the hour in numbers ===== -/
def zS (ad : Nat → Nat) (n : Nat) (st : Nat → Iu) : va_W := (List.range n).map fun i => (ad (4 + i), cSt (st i))
def zB (ad : Nat → Nat) (n : Nat) (bk : Nat → Iu) : va_W := (List.range n).map fun i => (ad (8 + i), cBk (bk i))
def rS (ad : Nat → Nat) (n : Nat) : Nat → Option Nat := fun i => if i < n then some (ad (4 + i)) else none
def rB (ad : Nat → Nat) (n : Nat) : Nat → Option Nat := fun i => if i < n then some (ad (8 + i)) else none
-- numbers: 0 hour, 1 people, 2 bought, 3 light, 4 hungry, 5 lost
abbrev cTn (ad : Nat → Nat) (nu : Iu) : va_E := .inr (2, [.ref (ad 1), .ref (ad 2), .ref (ad 3), .int (nu 0), .int (nu 1), .int (nu 2), .int (nu 3), .int (nu 4), .int (nu 5)])
abbrev tw4 (cy : Nat → ClassId) (ad : Nat → Nat) (nS nB : Nat) (gate nu : Iu) : va_W := [(ad 0, cTn ad nu), (ad 1, .inl (cy 0, 24, .inl gate)), (ad 2, .inl (cy 1, 4, .inr (.inr (.inr (.inr (rS ad nS)))))), (ad 3, .inl (cy 2, 6, .inr (.inr (.inr (.inr (rB ad nB))))))]
/-- the world of a town: addresses ad, nS stores st, nB bakers bk, the gate, the numbers nu -/
def tw (cy : Nat → ClassId) (ad : Nat → Nat) (nS nB : Nat) (st bk : Nat → Iu) (gate nu : Iu) : va_W := tw4 cy ad nS nB gate nu ++ (zS ad nS st ++ zB ad nB bk)
theorem rS_lt {ad : Nat → Nat} {n i : Nat} (h : i < n) : va_rf (rS ad n i) = .ref (ad (4 + i)) := by simp [rS, h, va_rf]
theorem rS_ge {ad : Nat → Nat} {n i : Nat} (h : n ≤ i) : va_rf (rS ad n i) = .null := by simp [rS, Nat.not_lt.mpr h, va_rf]
theorem rB_lt {ad : Nat → Nat} {n i : Nat} (h : i < n) : va_rf (rB ad n i) = .ref (ad (8 + i)) := by simp [rB, h, va_rf]
theorem rB_ge {ad : Nat → Nat} {n i : Nat} (h : n ≤ i) : va_rf (rB ad n i) = .null := by simp [rB, Nat.not_lt.mpr h, va_rf]
theorem zS_len {ad : Nat → Nat} {n : Nat} {st : Nat → Iu} : (zS ad n st).length = n := by simp [zS]
theorem zB_len {ad : Nat → Nat} {n : Nat} {bk : Nat → Iu} : (zB ad n bk).length = n := by simp [zB]
theorem zS_at {ad : Nat → Nat} {n i : Nat} {st : Nat → Iu} (h : i < n) : (zS ad n st)[i]? = some (ad (4 + i), cSt (st i)) := by simp [zS, h]
theorem zB_at {ad : Nat → Nat} {n i : Nat} {bk : Nat → Iu} (h : i < n) : (zB ad n bk)[i]? = some (ad (8 + i), cBk (bk i)) := by simp [zB, h]
theorem zS_set {ad : Nat → Nat} {n i : Nat} {st : Nat → Iu} {x : Iu} (h : i < n) : (zS ad n st).set i (ad (4 + i), cSt x) = zS ad n (va_up st i x) := by
  apply List.ext_getElem?
  intro k
  by_cases hk : k = i
  · subst hk
    rw [List.getElem?_set_self (by rw [zS_len]; exact h), zS_at h]
    simp [va_up]
  · rw [List.getElem?_set_ne (Ne.symm hk)]
    by_cases hn : k < n
    · rw [zS_at hn, zS_at hn]; simp [va_up, hk]
    · rw [List.getElem?_eq_none (by rw [zS_len]; omega), List.getElem?_eq_none (by rw [zS_len]; omega)]
theorem zB_set {ad : Nat → Nat} {n i : Nat} {bk : Nat → Iu} {x : Iu} (h : i < n) : (zB ad n bk).set i (ad (8 + i), cBk x) = zB ad n (va_up bk i x) := by
  apply List.ext_getElem?
  intro k
  by_cases hk : k = i
  · subst hk
    rw [List.getElem?_set_self (by rw [zB_len]; exact h), zB_at h]
    simp [va_up]
  · rw [List.getElem?_set_ne (Ne.symm hk)]
    by_cases hn : k < n
    · rw [zB_at hn, zB_at hn]; simp [va_up, hk]
    · rw [List.getElem?_eq_none (by rw [zB_len]; omega), List.getElem?_eq_none (by rw [zB_len]; omega)]
section TW
variable {cy : Nat → ClassId} {ad : Nat → Nat} {nS nB : Nat} {st bk : Nat → Iu} {gate nu : Iu}
theorem tw_st {i : Nat} (h : i < nS) : (tw cy ad nS nB st bk gate nu)[4 + i]? = some (ad (4 + i), cSt (st i)) := by
  unfold tw
  rw [List.getElem?_append_right (by simp), List.getElem?_append_left (by simp [zS_len]; omega)]
  simpa using zS_at h
theorem tw_bk {j : Nat} (h : j < nB) : (tw cy ad nS nB st bk gate nu)[4 + nS + j]? = some (ad (8 + j), cBk (bk j)) := by
  unfold tw
  rw [List.getElem?_append_right (by simp; omega), List.getElem?_append_right (by simp [zS_len]; omega)]
  have e : 4 + nS + j - (tw4 cy ad nS nB gate nu).length - (zS ad nS st).length = j := by simp [zS_len]; omega
  rw [e]
  exact zB_at h
theorem tw_set_st {i : Nat} {x : Iu} (h : i < nS) : (tw cy ad nS nB st bk gate nu).set (4 + i) (ad (4 + i), cSt x) = tw cy ad nS nB (va_up st i x) bk gate nu := by
  unfold tw
  rw [List.set_append_right _ _ (by simp), List.set_append_left _ _ (by simp [zS_len]; omega)]
  have e : 4 + i - (tw4 cy ad nS nB gate nu).length = i := by simp
  rw [e, zS_set h]
theorem tw_set_bk {j : Nat} {x : Iu} (h : j < nB) : (tw cy ad nS nB st bk gate nu).set (4 + nS + j) (ad (8 + j), cBk x) = tw cy ad nS nB st (va_up bk j x) gate nu := by
  unfold tw
  rw [List.set_append_right _ _ (by simp; omega), List.set_append_right _ _ (by simp [zS_len]; omega)]
  have e : 4 + nS + j - (tw4 cy ad nS nB gate nu).length - (zS ad nS st).length = j := by simp [zS_len]; omega
  rw [e, zB_set h]
theorem xE_st {i : Nat} (x : Iu) (h : i < nS) : xE (tw cy ad nS nB st bk gate nu) [(ad (4 + i), cSt (st i))] (fun _ : Unit => [(ad (4 + i), cSt x)]) (fun _ => tw cy ad nS nB (va_up st i x) bk gate nu) := by
  rw [← tw_set_st h]
  exact xE_one (4 + i) (tw_st h)
theorem xE_bk {j : Nat} (x : Iu) (h : j < nB) : xE (tw cy ad nS nB st bk gate nu) [(ad (8 + j), cBk (bk j))] (fun _ : Unit => [(ad (8 + j), cBk x)]) (fun _ => tw cy ad nS nB st (va_up bk j x) gate nu) := by
  rw [← tw_set_bk h]
  exact xE_one (4 + nS + j) (tw_bk h)
end TW
theorem up_self {α : Type} (f : Nat → α) (k : Nat) : va_up f k (f k) = f := by funext j; unfold va_up; split <;> simp_all
theorem up_at {α : Type} {f : Nat → α} {k : Nat} {v : α} : va_up f k v k = v := if_pos rfl
theorem up_ne {α : Type} {f : Nat → α} {k j : Nat} {v : α} (h : j ≠ k) : va_up f k v j = f j := if_neg h
-- arrays by a number for the place
section XARR
variable {p : Program} {l : Launch} {e : Env} {R : Room} {s : State} {m : MethodId} {args : Array Value} {below : List Frame} {meth : Method} {c : Code} {H H0 : Heap} {locs : List Loc} {cells slots : Nat} {Q : State → Prop} {cc : ByteArray} {pc : Nat} {ls : Array Slot} {rest : List Value} {D : va_G} {cy : Nat → ClassId} {A : Nat → Prop} {ws : va_W} {a n : Nat}
theorem xiald (hx : p.tables.exec = Jvm.exec) (hb : c.code = cc) (hK : XK D cy s) (hP : va_P D vwCl ws H) (q0 : Nat) {f : Iu} (ha : ws[q0]? = some (a, .inl (cy 0, n, .inl f))) (j : Nat) {i : Int32} (hi : i = nI j) (hj : j < n) (hn : n < 2 ^ 31) (hdg : decode cc pc = .ok (.iaload, 1))
    (kk : W p l e R s m args below meth c H locs cells slots Q (F0 m (pc + 1) ls (.int (f j) :: rest))) : W p l e R s m args below meth c H locs cells slots Q (F0 m pc ls (.int i :: .ref a :: rest)) := by
  subst hi
  refine va_iald hx hb hK.1 hP q0 0 ha rfl (vp_in_nI hj hn) hdg ?_
  rw [nI_clamp (by omega)]
  exact kk
theorem xaldq (hx : p.tables.exec = Jvm.exec) (hb : c.code = cc) (hK : XK D cy s) (hP : va_P D vwCl ws H) (q0 t0 : Nat) {cA : ClassId} {C : String} {f : Nat → Option Nat} (ha : ws[q0]? = some (a, .inl (cA, n, .inr (.inr (.inr (.inr f)))))) (ht : (xt cy)[t0]? = some (cA, .object C)) (j : Nat) {i : Int32} (hi : i = nI j) (hj : j < n) (hn : n < 2 ^ 31) (hdg : decode cc pc = .ok (.aaload, 1))
    (kk : W p l e R s m args below meth c H locs cells slots Q (F0 m (pc + 1) ls (va_rf (f j) :: rest))) : W p l e R s m args below meth c H locs cells slots Q (F0 m pc ls (.int i :: .ref a :: rest)) := by
  subst hi
  refine va_aldq hx hb hK.1 hP q0 t0 ha ht (vp_in_nI hj hn) hdg ?_
  rw [nI_clamp (by omega)]
  exact kk
theorem xiast (hx : p.tables.exec = Jvm.exec) (hb : c.code = cc) (hK : XK D cy s) (hP : va_P D vwCl ws H) (hD : va_D A ws) (hS : va_S A H0 H locs) (q0 : Nat) {f : Iu} (ha : ws[q0]? = some (a, .inl (cy 0, n, .inl f))) (j : Nat) {i x : Int32} (hi : i = nI j) (hj : j < n) (hn : n < 2 ^ 31) (hdg : decode cc pc = .ok (.iastore, 1))
    (kk : ∀ (H1 : Heap) (locs1 : List Loc), va_P D vwCl (ws.set q0 (a, .inl (cy 0, n, .inl (upd f j x)))) H1 → va_D A (ws.set q0 (a, .inl (cy 0, n, .inl (upd f j x)))) → va_S A H0 H1 locs1 → W p l e R s m args below meth c H1 locs1 cells slots Q (F0 m (pc + 1) ls rest)) : W p l e R s m args below meth c H locs cells slots Q (F0 m pc ls (.int x :: .int i :: .ref a :: rest)) := by
  subst hi
  refine va_iast hx hb hK.1 hP hD hS q0 0 ha rfl (vp_in_nI hj hn) hdg ?_
  rw [nI_clamp (by omega)]
  exact kk
end XARR
-- the hour in numbers
def sm (g : Nat → Int32) : Nat → Int32
  | 0 => 0
  | n + 1 => sm g n + g n
def sAt (ad : Nat → Nat) (nS : Nat) (x : Int32) : Option Nat := if x < 0 then none else rS ad nS x.toNatClampNeg
def bAt (ad : Nat → Nat) (nB : Nat) (x : Int32) : Option Nat := if x < 0 then none else rB ad nB x.toNatClampNeg
def ownF (bk : Nat → Iu) (mk : Int32) : Nat → Nat → Int32
  | 0, _ => -1
  | n + 1, i => if bk i 1 = mk then nI i else ownF bk mk n (i + 1)
/-- the place of the store with the least flour among the first n -/
def emp (st : Nat → Iu) : Nat → Nat
  | 0 => 0
  | n + 1 => if n = 0 then 0 else if st n 0 < st (emp st n) 0 then n else emp st n
def feedN (st : Nat → Iu) : Nat → (Nat → Iu)
  | 0 => st
  | n + 1 => va_up (feedN st n) n (sFeed (feedN st n n))
def bakeN (bk : Nat → Iu) : Nat → (Nat → Iu)
  | 0 => bk
  | n + 1 => va_up (bakeN bk n) n (bBake (bakeN bk n n))
abbrev T2 : Type := (Nat → Iu) × (Nat → Iu)
def dlStep (u : T2) (j s : Nat) : T2 := if u.2 j 7 = 0 then (va_up u.1 s (sGive (u.1 s) (u.2 j 2)), va_up u.2 j (upd (u.2 j) 3 (u.2 j 3 + mn (u.2 j 2) (u.1 s 0)))) else u
def dlN (u : T2) : Nat → T2
  | 0 => u
  | n + 1 => dlStep (dlN u n) n (((dlN u n).2 n 0).toNatClampNeg)
abbrev TL : Type := Int32 × (Nat → Iu) × Iu
def slStep (u : TL) (j : Nat) : TL := (u.1 - mn u.1 (u.2.1 j 5), va_up u.2.1 j (bSell (u.2.1 j) u.1), if u.2.1 j 4 < 10 then upd (upd u.2.2 2 (u.2.2 2 + mn u.1 (u.2.1 j 5))) 3 (u.2.2 3 + mn u.1 (u.2.1 j 5)) else upd u.2.2 2 (u.2.2 2 + mn u.1 (u.2.1 j 5)))
def slN (u : TL) : Nat → TL
  | 0 => u
  | n + 1 => slStep (slN u n) n
/-- a town's state: stores, bakers, numbers -/
abbrev TS : Type := (Nat → Iu) × (Nat → Iu) × Iu
def hCart (nS : Nat) (load : Int32) (u : TS) : TS := if nS = 0 then u else (va_up u.1 (emp u.1 nS) (sTake (u.1 (emp u.1 nS)) load), u.2.1, upd u.2.2 5 (u.2.2 5 + (load - mn load (900 - u.1 (emp u.1 nS) 0))))
def hNight (nS nB : Nat) (u : TS) : TS := (feedN (dlN (u.1, u.2.1) nB).1 nS, (dlN (u.1, u.2.1) nB).2, u.2.2)
def hBake (nB : Nat) (u : TS) : TS := (u.1, bakeN u.2.1 nB, u.2.2)
def hLeft (nB : Nat) (u : TS) : Int32 := (slN (u.2.2 1, u.2.1, u.2.2) nB).1
def hNoon (nB : Nat) (u : TS) : TS := (u.1, (slN (u.2.2 1, u.2.1, u.2.2) nB).2.1, upd (slN (u.2.2 1, u.2.1, u.2.2) nB).2.2 4 ((slN (u.2.2 1, u.2.1, u.2.2) nB).2.2 4 + hLeft nB u))
/-- the hour up to noon's sale, in the hour k of the day -/
def hMorn (nS nB k : Nat) (gate : Iu) (u : TS) : TS := hBake nB (if k = 0 then hNight nS nB (hCart nS (gate k) u) else hCart nS (gate k) u)
def hUnfed (nS nB k : Nat) (gate : Iu) (u : TS) : Int32 := if k = 12 then hLeft nB (hMorn nS nB k gate u) else 0
def hSale (nS nB k : Nat) (gate : Iu) (u : TS) : TS := if k = 12 then hNoon nB (hMorn nS nB k gate u) else hMorn nS nB k gate u
def hTick (u : TS) : TS := (u.1, u.2.1, upd u.2.2 0 (u.2.2 0 + 1))
def hour1 (nS nB k : Nat) (gate : Iu) (u : TS) : TS := hTick (hSale nS nB k gate u)
/-- n hours from the hour h -/
def hrs (nS nB h : Nat) (gate : Iu) (u : TS) : Nat → TS
  | 0 => u
  | n + 1 => hour1 nS nB ((h + n) % 24) gate (hrs nS nB h gate u n)
def unf (nS nB h : Nat) (gate : Iu) (u : TS) : Nat → Int32
  | 0 => 0
  | n + 1 => unf nS nB h gate u n + hUnfed nS nB ((h + n) % 24) gate (hrs nS nB h gate u n)
