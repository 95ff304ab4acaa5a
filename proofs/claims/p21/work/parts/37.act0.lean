/-! ===== the law's steps: what they keep; a row more ===== -/
def jInv (nS nB : Nat) (gate : Iu) (hq : Nat) (u : TS) : Prop := tInv nS nB gate hq u ∧ (∀ j, j < nB → rgI 0 25 (u.2.1 j 1)) ∧ (∀ i j, i < nB → j < nB → u.2.1 i 1 = u.2.1 j 1 → i = j)
theorem jinv_same {nS nB hq hq' : Nat} {gate gate' : Iu} {u u' : TS} (h : jInv nS nB gate hq u) (t : tInv nS nB gate' hq' u') (e : ∀ j, j < nB → u'.2.1 j 1 = u.2.1 j 1) : jInv nS nB gate' hq' u' :=
  ⟨t, fun j hj => by rw [e j hj]; exact h.2.1 j hj, fun i j hi hj z => h.2.2 i j hi hj (by rw [← e i hi, ← e j hj]; exact z)⟩
theorem ownF_none {bk : Nat → Iu} {mk : Int32} : ∀ {n i : Nat}, n + i < 2 ^ 31 → ownF bk mk n i < 0 → ∀ j, i ≤ j → j < i + n → ¬ bk j 1 = mk
  | 0, i, _, _, j, h1, h2 => absurd h1 (by omega)
  | n + 1, i, hb, h, j, h1, h2 => by
    have e : ownF bk mk (n + 1) i = if bk i 1 = mk then nI i else ownF bk mk n (i + 1) := rfl
    rw [e] at h
    split at h
    · exact absurd h (nI_pos (by omega))
    · rename_i hc
      rcases Decidable.em (j = i) with z | z
      · subst z; exact hc
      · exact ownF_none (n := n) (i := i + 1) (by omega) h j (by omega) (by omega)
theorem ownF_at {bk : Nat → Iu} {j : Nat} : ∀ {n i : Nat}, i ≤ j → j < i + n → (∀ q, i ≤ q → q < j → ¬ bk q 1 = bk j 1) → ownF bk (bk j 1) n i = nI j
  | 0, i, h1, h2, _ => absurd h1 (by omega)
  | n + 1, i, h1, h2, h3 => by
    have e : ownF bk (bk j 1) (n + 1) i = if bk i 1 = bk j 1 then nI i else ownF bk (bk j 1) n (i + 1) := rfl
    rw [e]
    rcases Decidable.em (i = j) with z | z
    · subst z; rw [if_pos rfl]
    · rw [if_neg (h3 i (Nat.le_refl _) (by omega))]
      exact ownF_at (n := n) (i := i + 1) (by omega) (by omega) (fun q q1 q2 => h3 q (by omega) q2)
theorem jinv_open {nS nB hq : Nat} {gate : Iu} {u : TS} {p0 p1 : Int32} (h : jInv nS nB gate hq u) (g0 : rgI 0 900 p0) (g1 : rgI 0 50 p1) : jInv (nS + 1) nB gate hq (va_up u.1 nS (newS p0 p1), u.2.1, u.2.2) :=
  ⟨inv_open h.1 g0 g1, h.2.1, h.2.2⟩
theorem jinv_swear {nS nB hq i : Nat} {gate : Iu} {u : TS} {p1 p2 p3 : Int32} (h : jInv nS nB gate hq u) (hi : i < nS) (hB : nB < 2 ^ 31) (g1 : rgI 0 25 p1) (g2 : rgI 5 12 p2) (g3 : rgI 0 90 p3) (hno : ownF u.2.1 p1 nB 0 < 0) : jInv nS (nB + 1) gate hq (u.1, va_up u.2.1 nB (newB (nI i) p1 p2 p3), u.2.2) := by
  have hn := ownF_none (n := nB) (i := 0) (by omega) hno
  have e1 : newB (nI i) p1 p2 p3 1 = p1 := rfl
  refine ⟨inv_swear h.1 hi g2 g3, fun j hj => ?_, fun a b ha hb z => ?_⟩
  · show rgI 0 25 (va_up u.2.1 nB _ j 1)
    rcases Decidable.em (j = nB) with z | z
    · subst z; rw [up_at, e1]; exact g1
    · rw [up_ne z]; exact h.2.1 j (by omega)
  · have z : va_up u.2.1 nB (newB (nI i) p1 p2 p3) a 1 = va_up u.2.1 nB (newB (nI i) p1 p2 p3) b 1 := z
    rcases Decidable.em (a = nB) with za | za
    · rcases Decidable.em (b = nB) with zb | zb
      · omega
      · subst za
        rw [up_at, up_ne zb, e1] at z
        exact absurd z.symm (hn b (by omega) (by omega))
    · rcases Decidable.em (b = nB) with zb | zb
      · subst zb
        rw [up_at, up_ne za, e1] at z
        exact absurd z (hn a (by omega) (by omega))
      · rw [up_ne za, up_ne zb] at z
        exact h.2.2 a b (by omega) (by omega) z
theorem upd_same {f : Iu} {k : Nat} {v : Int32} (h : f k = v) : upd f k v = f := by
  subst h
  exact upd_self f k
theorem newS_eq (f w : Int32) : upd (upd (upd (fun _ => 0) 0 f) 1 w) 2 0 = newS f w := upd_same rfl
theorem newB_eq (s k g r : Int32) : upd (upd (upd (upd (upd (upd (upd (upd (fun _ => 0) 0 s) 1 k) 2 r) 3 0) 4 g) 5 0) 6 0) 7 0 = newB s k g r := by
  rw [upd_same (k := 7) (v := 0) rfl, upd_same (k := 6) (v := 0) rfl, upd_same (k := 5) (v := 0) rfl]
  rw [upd_same (f := upd (upd (upd (fun _ => 0) 0 s) 1 k) 2 r) (k := 3) (v := 0) rfl]
  unfold newB
  funext j
  rcases Decidable.em (j = 4) with h | h
  · subst h; rw [upd_at, upd_ne (by decide), upd_at]
  · rw [upd_ne h]
    rcases Decidable.em (j = 2) with h2 | h2
    · subst h2; rw [upd_at, upd_at]
    · rw [upd_ne h2, upd_ne h2, upd_ne h]
/-- the Sim's addresses behind a new store, a new baker -/
def grS (am : Nat → Nat) (nS q r : Nat) : Nat → Nat := va_up (va_up am 2 q) (4 + nS) r
def grB (am : Nat → Nat) (nB q r : Nat) : Nat → Nat := va_up (va_up am 3 q) (8 + nB) r
theorem perm_of_count {l1 l2 : va_W} (h : ∀ (B : BEq (Nat × va_E)) (L : @LawfulBEq (Nat × va_E) B) (x : Nat × va_E), @List.count _ B x l1 = @List.count _ B x l2) : List.Perm l1 l2 :=
  (@List.perm_iff_count _ (@instBEqOfDecidableEq _ (fun a b => Classical.propDecidable (a = b))) (by infer_instance) _ _).mpr (h _ (by infer_instance))
theorem rowsS_perm {a0 a1 a2 a3 r : Nat × va_E} {Y Z : va_W} : List.Perm ((a0 :: a1 :: a2 :: a3 :: (Y ++ Z)) ++ [r]) ((a2 :: r :: Y) ++ (a0 :: a1 :: a3 :: Z)) := by
  refine perm_of_count fun B L x => ?_
  simp only [List.count_append, List.count_cons, List.count_nil, List.cons_append]
  omega
theorem rowsB_perm {a0 a1 a2 a3 r : Nat × va_E} {Y Z w : va_W} : List.Perm ((a0 :: a1 :: a2 :: a3 :: (Y ++ (Z ++ w))) ++ [r]) ((a3 :: r :: Z) ++ (a0 :: a1 :: a2 :: (Y ++ w))) := by
  refine perm_of_count fun B L x => ?_
  simp only [List.count_append, List.count_cons, List.count_nil, List.cons_append]
  omega
theorem putS_perm {a0 a1 a2 a3 r q : Nat × va_E} {Y Z : va_W} : List.Perm (((a0 :: a1 :: a2 :: a3 :: (Y ++ Z)) ++ [r]) ++ [q]) ((a0 :: a1 :: q :: a3 :: ((Y ++ [r]) ++ Z)) ++ [a2]) := by
  refine perm_of_count fun B L x => ?_
  simp only [List.count_append, List.count_cons, List.count_nil, List.cons_append]
  omega
theorem putB_perm {a0 a1 a2 a3 r q : Nat × va_E} {Y Z w : va_W} : List.Perm (((a0 :: a1 :: a2 :: a3 :: (Y ++ (Z ++ w))) ++ [r]) ++ [q]) ((a0 :: a1 :: a2 :: q :: (Y ++ ((Z ++ [r]) ++ w))) ++ [a3]) := by
  refine perm_of_count fun B L x => ?_
  simp only [List.count_append, List.count_cons, List.count_nil, List.cons_append]
  omega
theorem last_perm {M w : va_W} {q : Nat × va_E} : List.Perm ((M ++ [q]) ++ w) ((M ++ w) ++ [q]) := by
  rw [List.append_assoc, List.append_assoc]
  exact List.perm_append_comm.append_left _
section GROW
variable {D : va_G} {A : Nat → Prop} {H : Heap} {cy : Nat → ClassId} {am : Nat → Nat} {nS nB : Nat} {st bk : Nat → Iu} {gate nu x : Iu} {wr : va_W} {q r : Nat}
theorem xE_moreS : xE (sw cy am nS nB st bk gate nu wr ++ [(r, .inl (cy 0, 3, .inl x))]) (mo cy (am 2) nS 3 (fun i => am (4 + i)) st r x) (fun q : Nat => mo cy (am 2) nS 3 (fun i => am (4 + i)) st r x ++ [(q, .inl (cy 3, nS + 1, .inr (.inr (.inr (.inr (fun i => if i < nS + 1 then some (va_up (fun i => am (4 + i)) nS r i) else none))))))]) (fun q => (sw cy am nS nB st bk gate nu wr ++ [(r, .inl (cy 0, 3, .inl x))]) ++ [(q, .inl (cy 3, nS + 1, .inr (.inr (.inr (.inr (fun i => if i < nS + 1 then some (va_up (fun i => am (4 + i)) nS r i) else none))))))]) := by
  have h : List.Perm (sw cy am nS nB st bk gate nu wr ++ [(r, .inl (cy 0, 3, .inl x))]) (mo cy (am 2) nS 3 (fun i => am (4 + i)) st r x ++ ((am 0, .inr (4, [.int (nu 1), .ref (am 1), .ref (am 2), .ref (am 3), .int (nu 0), .int (nu 2), .int (nu 3), .int (nu 4), .int (nu 5)])) :: (am 1, .inl (cy 0, 24, .inl gate)) :: (am 3, .inl (cy 3, nB, .inr (.inr (.inr (.inr (rB am nB)))))) :: (yB cy am nB bk ++ wr))) :=
    rowsS_perm (Y := yS cy am nS st) (Z := yB cy am nB bk ++ wr)
  exact ⟨_, h, fun q => last_perm.trans (h.symm.append_right _)⟩
theorem xE_moreB : xE (sw cy am nS nB st bk gate nu wr ++ [(r, .inl (cy 0, 8, .inl x))]) (mo cy (am 3) nB 8 (fun i => am (8 + i)) bk r x) (fun q : Nat => mo cy (am 3) nB 8 (fun i => am (8 + i)) bk r x ++ [(q, .inl (cy 3, nB + 1, .inr (.inr (.inr (.inr (fun i => if i < nB + 1 then some (va_up (fun i => am (8 + i)) nB r i) else none))))))]) (fun q => (sw cy am nS nB st bk gate nu wr ++ [(r, .inl (cy 0, 8, .inl x))]) ++ [(q, .inl (cy 3, nB + 1, .inr (.inr (.inr (.inr (fun i => if i < nB + 1 then some (va_up (fun i => am (8 + i)) nB r i) else none))))))]) := by
  have h : List.Perm (sw cy am nS nB st bk gate nu wr ++ [(r, .inl (cy 0, 8, .inl x))]) (mo cy (am 3) nB 8 (fun i => am (8 + i)) bk r x ++ ((am 0, .inr (4, [.int (nu 1), .ref (am 1), .ref (am 2), .ref (am 3), .int (nu 0), .int (nu 2), .int (nu 3), .int (nu 4), .int (nu 5)])) :: (am 1, .inl (cy 0, 24, .inl gate)) :: (am 2, .inl (cy 3, nS, .inr (.inr (.inr (.inr (rS am nS)))))) :: (yS cy am nS st ++ wr))) :=
    rowsB_perm (Y := yS cy am nS st) (Z := yB cy am nB bk) (w := wr)
  exact ⟨_, h, fun q => last_perm.trans (h.symm.append_right _)⟩
theorem grS_eq (h4 : nS < 4) : sw cy (grS am nS q r) (nS + 1) nB (va_up st nS x) bk gate nu wr = (am 0, .inr (4, [.int (nu 1), .ref (am 1), .ref q, .ref (am 3), .int (nu 0), .int (nu 2), .int (nu 3), .int (nu 4), .int (nu 5)])) :: (am 1, .inl (cy 0, 24, .inl gate)) :: (q, .inl (cy 3, nS + 1, .inr (.inr (.inr (.inr (fun i => if i < nS + 1 then some (va_up (fun i => am (4 + i)) nS r i) else none)))))) :: (am 3, .inl (cy 3, nB, .inr (.inr (.inr (.inr (rB am nB)))))) :: ((yS cy am nS st ++ [(r, .inl (cy 0, 3, .inl x))]) ++ (yB cy am nB bk ++ wr)) := by
  have e0 : grS am nS q r 0 = am 0 := by unfold grS; rw [up_ne (by omega), up_ne (by omega)]
  have e1 : grS am nS q r 1 = am 1 := by unfold grS; rw [up_ne (by omega), up_ne (by omega)]
  have e2 : grS am nS q r 2 = q := by unfold grS; rw [up_ne (by omega), up_at]
  have e3 : grS am nS q r 3 = am 3 := by unfold grS; rw [up_ne (by omega), up_ne (by omega)]
  have e8 : ∀ j, grS am nS q r (8 + j) = am (8 + j) := fun j => by unfold grS; rw [up_ne (by omega), up_ne (by omega)]
  have e4 : ∀ i, i < nS → grS am nS q r (4 + i) = am (4 + i) := fun i hi => by unfold grS; rw [up_ne (by omega), up_ne (by omega)]
  have e5 : grS am nS q r (4 + nS) = r := by unfold grS; rw [up_at]
  have eR : rS (grS am nS q r) (nS + 1) = fun i => if i < nS + 1 then some (va_up (fun i => am (4 + i)) nS r i) else none := by
    funext i
    unfold rS
    split
    · rename_i hi
      rcases Decidable.em (i = nS) with z | z
      · subst z; rw [e5, up_at]
      · rw [e4 i (by omega), up_ne z]
    · rfl
  have eB : rB (grS am nS q r) nB = rB am nB := by funext j; unfold rB; rw [e8]
  have eY : yS cy (grS am nS q r) (nS + 1) (va_up st nS x) = yS cy am nS st ++ [(r, .inl (cy 0, 3, .inl x))] := by
    unfold yS
    rw [List.range_succ, List.map_append]
    congr 1
    · refine List.map_congr_left fun i hi => ?_
      have hi := List.mem_range.mp hi
      rw [e4 i hi, up_ne (by omega)]
    · show [(grS am nS q r (4 + nS), _)] = _
      rw [e5, up_at]
  have eZ : yB cy (grS am nS q r) nB bk = yB cy am nB bk := by unfold yB; exact List.map_congr_left fun j _ => by rw [e8]
  unfold sw
  rw [eY, eZ]
  show (grS am nS q r 0, _) :: (grS am nS q r 1, _) :: (grS am nS q r 2, _) :: (grS am nS q r 3, _) :: _ = _
  rw [e0, e1, e2, e3, eR, eB]
  rfl
theorem grB_eq (hcS : nS ≤ 4) : sw cy (grB am nB q r) nS (nB + 1) st (va_up bk nB x) gate nu wr = (am 0, .inr (4, [.int (nu 1), .ref (am 1), .ref (am 2), .ref q, .int (nu 0), .int (nu 2), .int (nu 3), .int (nu 4), .int (nu 5)])) :: (am 1, .inl (cy 0, 24, .inl gate)) :: (am 2, .inl (cy 3, nS, .inr (.inr (.inr (.inr (rS am nS)))))) :: (q, .inl (cy 3, nB + 1, .inr (.inr (.inr (.inr (fun i => if i < nB + 1 then some (va_up (fun i => am (8 + i)) nB r i) else none)))))) :: (yS cy am nS st ++ ((yB cy am nB bk ++ [(r, .inl (cy 0, 8, .inl x))]) ++ wr)) := by
  have e0 : grB am nB q r 0 = am 0 := by unfold grB; rw [up_ne (by omega), up_ne (by omega)]
  have e1 : grB am nB q r 1 = am 1 := by unfold grB; rw [up_ne (by omega), up_ne (by omega)]
  have e2 : grB am nB q r 2 = am 2 := by unfold grB; rw [up_ne (by omega), up_ne (by omega)]
  have e3 : grB am nB q r 3 = q := by unfold grB; rw [up_ne (by omega), up_at]
  have e8 : ∀ j, j < nB → grB am nB q r (8 + j) = am (8 + j) := fun j hj => by unfold grB; rw [up_ne (by omega), up_ne (by omega)]
  have e5 : grB am nB q r (8 + nB) = r := by unfold grB; rw [up_at]
  have eR : rB (grB am nB q r) (nB + 1) = fun i => if i < nB + 1 then some (va_up (fun i => am (8 + i)) nB r i) else none := by
    funext i
    unfold rB
    split
    · rename_i hi
      rcases Decidable.em (i = nB) with z | z
      · subst z; rw [e5, up_at]
      · rw [e8 i (by omega), up_ne z]
    · rfl
  have eZ : yB cy (grB am nB q r) (nB + 1) (va_up bk nB x) = yB cy am nB bk ++ [(r, .inl (cy 0, 8, .inl x))] := by
    unfold yB
    rw [List.range_succ, List.map_append]
    congr 1
    · refine List.map_congr_left fun i hi => ?_
      have hi := List.mem_range.mp hi
      rw [e8 i hi, up_ne (by omega)]
    · show [(grB am nB q r (8 + nB), _)] = _
      rw [e5, up_at]
  have e4 : ∀ i, i < nS → grB am nB q r (4 + i) = am (4 + i) := fun i hi => by unfold grB; rw [up_ne (by omega), up_ne (by omega)]
  have eS : rS (grB am nB q r) nS = rS am nS := by
    funext i
    unfold rS
    split
    · rename_i hi
      rw [e4 i hi]
    · rfl
  have eY : yS cy (grB am nB q r) nS st = yS cy am nS st := by
    unfold yS
    refine List.map_congr_left fun i hi => ?_
    rw [e4 i (List.mem_range.mp hi)]
  unfold sw
  rw [eZ, eY]
  show (grB am nB q r 0, _) :: (grB am nB q r 1, _) :: (grB am nB q r 2, _) :: (grB am nB q r 3, _) :: _ = _
  rw [e0, e1, e2, e3, eR, eS]
  rfl
theorem grS_P (h4 : nS < 4) (hP : va_P D vwCl (List.set ((sw cy am nS nB st bk gate nu wr ++ [(r, .inl (cy 0, 3, .inl x))]) ++ [(q, .inl (cy 3, nS + 1, .inr (.inr (.inr (.inr (fun i => if i < nS + 1 then some (va_up (fun i => am (4 + i)) nS r i) else none))))))] : va_W) 0 (am 0, .inr (4, [.int (nu 1), .ref (am 1), .ref q, .ref (am 3), .int (nu 0), .int (nu 2), .int (nu 3), .int (nu 4), .int (nu 5)]))) H) : va_P D vwCl (sw cy (grS am nS q r) (nS + 1) nB (va_up st nS x) bk gate nu wr) H := by
  rw [grS_eq h4]
  exact (xP_app.mp (xP_perm (putS_perm (Y := yS cy am nS st) (Z := yB cy am nB bk ++ wr)) hP)).1
theorem grS_D (h4 : nS < 4) (hD : va_D A (List.set ((sw cy am nS nB st bk gate nu wr ++ [(r, .inl (cy 0, 3, .inl x))]) ++ [(q, .inl (cy 3, nS + 1, .inr (.inr (.inr (.inr (fun i => if i < nS + 1 then some (va_up (fun i => am (4 + i)) nS r i) else none))))))] : va_W) 0 (am 0, .inr (4, [.int (nu 1), .ref (am 1), .ref q, .ref (am 3), .int (nu 0), .int (nu 2), .int (nu 3), .int (nu 4), .int (nu 5)])))) : va_D A (sw cy (grS am nS q r) (nS + 1) nB (va_up st nS x) bk gate nu wr) := by
  rw [grS_eq h4]
  exact mD_app (xD_perm (putS_perm (Y := yS cy am nS st) (Z := yB cy am nB bk ++ wr)) hD)
theorem grB_P (hcS : nS ≤ 4) (hP : va_P D vwCl (List.set ((sw cy am nS nB st bk gate nu wr ++ [(r, .inl (cy 0, 8, .inl x))]) ++ [(q, .inl (cy 3, nB + 1, .inr (.inr (.inr (.inr (fun i => if i < nB + 1 then some (va_up (fun i => am (8 + i)) nB r i) else none))))))] : va_W) 0 (am 0, .inr (4, [.int (nu 1), .ref (am 1), .ref (am 2), .ref q, .int (nu 0), .int (nu 2), .int (nu 3), .int (nu 4), .int (nu 5)]))) H) : va_P D vwCl (sw cy (grB am nB q r) nS (nB + 1) st (va_up bk nB x) gate nu wr) H := by
  rw [grB_eq hcS]
  exact (xP_app.mp (xP_perm (putB_perm (Y := yS cy am nS st) (Z := yB cy am nB bk) (w := wr)) hP)).1
theorem grB_D (hcS : nS ≤ 4) (hD : va_D A (List.set ((sw cy am nS nB st bk gate nu wr ++ [(r, .inl (cy 0, 8, .inl x))]) ++ [(q, .inl (cy 3, nB + 1, .inr (.inr (.inr (.inr (fun i => if i < nB + 1 then some (va_up (fun i => am (8 + i)) nB r i) else none))))))] : va_W) 0 (am 0, .inr (4, [.int (nu 1), .ref (am 1), .ref (am 2), .ref q, .int (nu 0), .int (nu 2), .int (nu 3), .int (nu 4), .int (nu 5)])))) : va_D A (sw cy (grB am nB q r) nS (nB + 1) st (va_up bk nB x) gate nu wr) := by
  rw [grB_eq hcS]
  exact mD_app (xD_perm (putB_perm (Y := yS cy am nS st) (Z := yB cy am nB bk) (w := wr)) hD)
end GROW
