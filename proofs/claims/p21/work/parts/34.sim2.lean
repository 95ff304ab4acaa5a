/-! ===== the law: a new Sim, a row more (laid by g34.py) ===== -/
theorem rS_0 (am : Nat → Nat) : rS am 0 = fun _ => none := funext fun i => if_neg (Nat.not_lt_zero i)
theorem rB_0 (am : Nat → Nat) : rB am 0 = fun _ => none := funext fun i => if_neg (Nat.not_lt_zero i)
def adS (a b c d : Nat) : Nat → Nat := fun k => if k = 0 then a else if k = 1 then b else if k = 2 then c else d
/-- the rows of an array of rows, one added -/
theorem rows_up {f : Nat → Nat} {n r : Nat} : (fun i => if i < n + 1 then some (va_up f n r i) else none) = va_up (fun i => if i < n then some (f i) else none) n (some r) := by
  funext i
  rcases Nat.lt_trichotomy i n with h | h | h
  · rw [if_pos (by omega), up_ne (by omega), up_ne (by omega), if_pos h]
  · subst h; rw [if_pos (by omega), up_at, up_at]
  · rw [if_neg (by omega), up_ne (by omega), if_neg (by omega)]
set_option maxHeartbeats 4000000 in
set_option maxRecDepth 100000 in
/-- Sim() -/
theorem c_X4_init (l : Launch) (D : va_G) (cy : Nat → ClassId) (b : Nat) : xM l D cy yX4_init wsX4_init ({ frames := 1, cells := 3, slots := 24, locals := 12 } : Room) [.ref b] ([(b, .inr (4, [.int 0, .null, .null, .null, .int 0, .int 0, .int 0, .int 0, .int 0]))]) (fun _ : Nat → Nat => none) (fun am => am 0 = b) (fun am => sw cy am 0 0 (fun _ _ => 0) (fun _ _ => 0) (fun _ => 0) nu0 []) := by
  refine xM.of cX4_init 1 none RX4 (by decide +kernel) rfl rfl (Nat.le_of_ble_eq_true rfl) ?_
  intro p e s m below meth c A ls hx hb hr hts hown hlocks hml hin hK hA hP hD hS hl
  have hl : lv_has ls 1 [(0, .ref b)] := hl
  have hinX4 : ∀ w ∈ wsX40, w ∈ wsX4_init := fun _ h => List.mem_cons_of_mem _ (List.mem_append_right _ h)
  refine lv_aload_n hx hb dX4_init_0 rfl (lv_at hl 0 rfl) ?_
  refine W.objInit hx hb hown (hts (.methodLink RX4 1 objectInit) (List.mem_of_getElem? (i := 1) rfl)) (hts (.instanceMethod objectInit) (List.mem_of_getElem? (i := 2) rfl)) (hts (.code objectInit ⟨#[0xb1]⟩ 1 none) (List.mem_of_getElem? (i := 3) rfl)) rfl (by rw [hml]; exact hl.1) rfl dX4_init_1 (Nat.le_of_ble_eq_true rfl) (Nat.le_of_ble_eq_true rfl) ?_
  refine W.eq (g2 := F0 m 4 ls []) rfl ?_
  refine lv_aload_n hx hb dX4_init_4 rfl (lv_at hl 0 rfl) ?_
  refine lv_bipush (v := 20) hx hb dX4_init_5 (by decide) ?_
  refine va_put (D := D) (ci := 4) (v := .int 20) (ty := .int) (C := RX4) (T := TX4) (N := 9) hx hb hts hinX4 tyX4 tyX4_ok nmX4 hown hK.1 hP hD hS 0 rfl rfl 0 (by decide) (hts (.fieldLink RX4 7 "LoafMarksLaw$Sim" "people" "I") (List.mem_of_getElem? (i := 4) rfl)) (fun _ h9 => h9) rfl (by decide +kernel) rfl rfl (Nat.le_of_ble_eq_true rfl) dX4_init_7 (fun H locs hP hD hS => ?_)
  have hP : va_P D vwCl ([(b, .inr (4, [.int 20, .null, .null, .null, .int 0, .int 0, .int 0, .int 0, .int 0]))]) H := hP
  have hD : va_D A ([(b, .inr (4, [.int 20, .null, .null, .null, .int 0, .int 0, .int 0, .int 0, .int 0]))]) := hD
  refine lv_aload_n hx hb dX4_init_10 rfl (lv_at hl 0 rfl) ?_
  refine lv_bipush (v := 24) hx hb dX4_init_11 (by decide) ?_
  refine va_newa (atype := .int) (N' := 24) (a0 := (24, .inl (fun _ => 0))) hx hb (hts (.arrayClass .int) (List.mem_of_getElem? (i := 5) rfl)) rfl hK.1 hP hD hS hA (fun _ => rfl) (by decide) (by decide) (by decide) (Nat.le_of_ble_eq_true rfl) (Nat.le_of_ble_eq_true rfl) dX4_init_13 (fun q13 cA H hK1 hP hD hS => ?_)
  obtain rfl : cA = cy 0 := x_cA hK.1 hK1 (i := 0) rfl rfl
  have hP : va_P D vwCl (([(b, .inr (4, [.int 20, .null, .null, .null, .int 0, .int 0, .int 0, .int 0, .int 0]))]) ++ [(q13, .inl (cy 0, 24, .inl (fun _ => 0)))]) H := hP
  have hD : va_D A (([(b, .inr (4, [.int 20, .null, .null, .null, .int 0, .int 0, .int 0, .int 0, .int 0]))]) ++ [(q13, .inl (cy 0, 24, .inl (fun _ => 0)))]) := hD
  refine va_put (D := D) (ci := 4) (v := .ref q13) (ty := .array .int) (C := RX4) (T := TX4) (N := 9) hx hb hts hinX4 tyX4 tyX4_ok nmX4 hown hK.1 hP hD hS 0 rfl rfl 1 (by decide) (hts (.fieldLink RX4 13 "LoafMarksLaw$Sim" "gate" "[I") (List.mem_of_getElem? (i := 6) rfl)) (fun _ h9 => h9) rfl (by decide +kernel) rfl rfl (Nat.le_of_ble_eq_true rfl) dX4_init_15 (fun H locs hP hD hS => ?_)
  have hP : va_P D vwCl (([(b, .inr (4, [.int 20, .ref q13, .null, .null, .int 0, .int 0, .int 0, .int 0, .int 0]))]) ++ [(q13, .inl (cy 0, 24, .inl (fun _ => 0)))]) H := hP
  have hD : va_D A (([(b, .inr (4, [.int 20, .ref q13, .null, .null, .int 0, .int 0, .int 0, .int 0, .int 0]))]) ++ [(q13, .inl (cy 0, 24, .inl (fun _ => 0)))]) := hD
  refine lv_aload_n hx hb dX4_init_18 rfl (lv_at hl 0 rfl) ?_
  refine lv_iconst (v := 0) hx hb dX4_init_19 (by decide) ?_
  refine xnewAA hx hb hown (hts (.classLink RX4 17 "[I") (List.mem_of_getElem? (i := 7) rfl)) hK hP hD hS hA (by decide) (N := 0) (by decide) (by decide) (Nat.le_of_ble_eq_true rfl) (Nat.le_of_ble_eq_true rfl) dX4_init_20 (fun q20 H hP hD hS => ?_)
  have hP : va_P D vwCl ((([(b, .inr (4, [.int 20, .ref q13, .null, .null, .int 0, .int 0, .int 0, .int 0, .int 0]))]) ++ [(q13, .inl (cy 0, 24, .inl (fun _ => 0)))]) ++ [(q20, .inl (cy 3, 0, .inr (.inr (.inr (.inr (fun _ => none))))))]) H := hP
  have hD : va_D A ((([(b, .inr (4, [.int 20, .ref q13, .null, .null, .int 0, .int 0, .int 0, .int 0, .int 0]))]) ++ [(q13, .inl (cy 0, 24, .inl (fun _ => 0)))]) ++ [(q20, .inl (cy 3, 0, .inr (.inr (.inr (.inr (fun _ => none))))))]) := hD
  refine va_put (D := D) (ci := 4) (v := .ref q20) (ty := .array (.array .int)) (C := RX4) (T := TX4) (N := 9) hx hb hts hinX4 tyX4 tyX4_ok nmX4 hown hK.1 hP hD hS 0 rfl rfl 2 (by decide) (hts (.fieldLink RX4 18 "LoafMarksLaw$Sim" "stores" "[[I") (List.mem_of_getElem? (i := 8) rfl)) (fun _ h9 => h9) rfl (by decide +kernel) rfl rfl (Nat.le_of_ble_eq_true rfl) dX4_init_23 (fun H locs hP hD hS => ?_)
  have hP : va_P D vwCl ((([(b, .inr (4, [.int 20, .ref q13, .ref q20, .null, .int 0, .int 0, .int 0, .int 0, .int 0]))]) ++ [(q13, .inl (cy 0, 24, .inl (fun _ => 0)))]) ++ [(q20, .inl (cy 3, 0, .inr (.inr (.inr (.inr (fun _ => none))))))]) H := hP
  have hD : va_D A ((([(b, .inr (4, [.int 20, .ref q13, .ref q20, .null, .int 0, .int 0, .int 0, .int 0, .int 0]))]) ++ [(q13, .inl (cy 0, 24, .inl (fun _ => 0)))]) ++ [(q20, .inl (cy 3, 0, .inr (.inr (.inr (.inr (fun _ => none))))))]) := hD
  refine lv_aload_n hx hb dX4_init_26 rfl (lv_at hl 0 rfl) ?_
  refine lv_iconst (v := 0) hx hb dX4_init_27 (by decide) ?_
  refine xnewAA hx hb hown (hts (.classLink RX4 17 "[I") (List.mem_of_getElem? (i := 7) rfl)) hK hP hD hS hA (by decide) (N := 0) (by decide) (by decide) (Nat.le_of_ble_eq_true rfl) (Nat.le_of_ble_eq_true rfl) dX4_init_28 (fun q28 H hP hD hS => ?_)
  have hP : va_P D vwCl (((([(b, .inr (4, [.int 20, .ref q13, .ref q20, .null, .int 0, .int 0, .int 0, .int 0, .int 0]))]) ++ [(q13, .inl (cy 0, 24, .inl (fun _ => 0)))]) ++ [(q20, .inl (cy 3, 0, .inr (.inr (.inr (.inr (fun _ => none))))))]) ++ [(q28, .inl (cy 3, 0, .inr (.inr (.inr (.inr (fun _ => none))))))]) H := hP
  have hD : va_D A (((([(b, .inr (4, [.int 20, .ref q13, .ref q20, .null, .int 0, .int 0, .int 0, .int 0, .int 0]))]) ++ [(q13, .inl (cy 0, 24, .inl (fun _ => 0)))]) ++ [(q20, .inl (cy 3, 0, .inr (.inr (.inr (.inr (fun _ => none))))))]) ++ [(q28, .inl (cy 3, 0, .inr (.inr (.inr (.inr (fun _ => none))))))]) := hD
  refine va_put (D := D) (ci := 4) (v := .ref q28) (ty := .array (.array .int)) (C := RX4) (T := TX4) (N := 9) hx hb hts hinX4 tyX4 tyX4_ok nmX4 hown hK.1 hP hD hS 0 rfl rfl 3 (by decide) (hts (.fieldLink RX4 22 "LoafMarksLaw$Sim" "bakers" "[[I") (List.mem_of_getElem? (i := 9) rfl)) (fun _ h9 => h9) rfl (by decide +kernel) rfl rfl (Nat.le_of_ble_eq_true rfl) dX4_init_31 (fun H locs hP hD hS => ?_)
  have hP : va_P D vwCl (((([(b, .inr (4, [.int 20, .ref q13, .ref q20, .ref q28, .int 0, .int 0, .int 0, .int 0, .int 0]))]) ++ [(q13, .inl (cy 0, 24, .inl (fun _ => 0)))]) ++ [(q20, .inl (cy 3, 0, .inr (.inr (.inr (.inr (fun _ => none))))))]) ++ [(q28, .inl (cy 3, 0, .inr (.inr (.inr (.inr (fun _ => none))))))]) H := hP
  have hD : va_D A (((([(b, .inr (4, [.int 20, .ref q13, .ref q20, .ref q28, .int 0, .int 0, .int 0, .int 0, .int 0]))]) ++ [(q13, .inl (cy 0, 24, .inl (fun _ => 0)))]) ++ [(q20, .inl (cy 3, 0, .inr (.inr (.inr (.inr (fun _ => none))))))]) ++ [(q28, .inl (cy 3, 0, .inr (.inr (.inr (.inr (fun _ => none))))))]) := hD
  exact xrv (adS b q13 q20 q28) hx hb hr hlocks hS (Nat.le_of_ble_eq_true rfl) (Nat.le_of_ble_eq_true rfl) dX4_init_34 (by unfold sw sw4 yS yB; rw [rS_0, rB_0]; exact hP) (by unfold sw sw4 yS yB; rw [rS_0, rB_0]; exact hD) rfl rfl


/-- an array of n rows of k numbers, one row beside -/
def mo (cy : Nat → ClassId) (a n k : Nat) (g : Nat → Nat) (h : Nat → Iu) (r : Nat) (x : Iu) : va_W := (a, .inl (cy 3, n, .inr (.inr (.inr (.inr (fun i => if i < n then some (g i) else none)))))) :: (r, .inl (cy 0, k, .inl x)) :: (List.range n).map fun i => (g i, .inl (cy 0, k, .inl (h i)))
section MO
variable {cy : Nat → ClassId} {a n k r : Nat} {g : Nat → Nat} {h : Nat → Iu} {x : Iu} {ws : va_W}
theorem mo_a : (mo cy a n k g h r x)[0]? = some (a, .inl (cy 3, n, .inr (.inr (.inr (.inr (fun i => if i < n then some (g i) else none)))))) := rfl
theorem mo_len : (mo cy a n k g h r x).length = n + 2 := by simp [mo]
theorem mo_g {i : Nat} (hi : i < n) : (mo cy a n k g h r x)[i + 2]? = some (g i, .inl (cy 0, k, .inl (h i))) := by simp [mo, hi]
theorem mo_last {q : Nat × va_E} : (mo cy a n k g h r x ++ [q])[n + 2]? = some q := by rw [List.getElem?_append_right (by rw [mo_len]; omega), mo_len]; simp
theorem mo_set {q q' : Nat × va_E} : (mo cy a n k g h r x ++ [q]).set (n + 2) q' = mo cy a n k g h r x ++ [q'] := by
  rw [List.set_append_right _ _ (by rw [mo_len]; omega), mo_len]; simp
theorem mo_at {i : Nat} {q : Nat × va_E} (hi : i < n) : (mo cy a n k g h r x ++ [q])[i + 2]? = some (g i, .inl (cy 0, k, .inl (h i))) := by
  rw [List.getElem?_append_left (by rw [mo_len]; omega)]; exact mo_g hi
/-- the first i of the rows -/
def fst (g : Nat → Nat) (i : Nat) : Nat → Option Nat := fun j => if j < i then some (g j) else none
theorem fst_0 : fst g 0 = fun _ => none := funext fun j => if_neg (Nat.not_lt_zero j)
theorem fst_s {i : Nat} : va_up (fst g i) i (some (g i)) = fst g (i + 1) := by
  funext j
  unfold fst
  rcases Nat.lt_trichotomy j i with h | h | h
  · rw [up_ne (by omega), if_pos h, if_pos (by omega)]
  · subst h; rw [up_at, if_pos (by omega)]
  · rw [up_ne (by omega), if_neg (by omega), if_neg (by omega)]
end MO

set_option maxHeartbeats 4000000 in
set_option maxRecDepth 100000 in
/-- more -/
theorem c_X4_more (l : Launch) (D : va_G) (cy : Nat → ClassId) (a nn k : Nat) (g : Nat → Nat) (h : Nat → Iu) (r : Nat) (x : Iu) (hn : nn < 7) : xM l D cy yX4_more wsX4_more ({ frames := 0, cells := 1, slots := 7, locals := 12 } : Room) [.ref a, .ref r] (mo cy a nn k g h r x) (fun q : Nat => some (.ref q)) (fun _ => True) (fun q => mo cy a nn k g h r x ++ [(q, .inl (cy 3, nn + 1, .inr (.inr (.inr (.inr (fun i => if i < nn + 1 then some (va_up g nn r i) else none))))))]) := by
  refine xM.of cX4_more 4 (some (.array (.array .int))) RX4 (by decide +kernel) rfl rfl (Nat.le_of_ble_eq_true rfl) ?_
  intro p e s m below meth c A ls hx hb hr hts hown hlocks hml hin hK hA hP hD hS hl
  have hl : lv_has ls 4 [(0, .ref a), (1, .ref r)] := hl
  refine lv_aload_n hx hb dX4_more_0 rfl (lv_at hl 0 rfl) ?_
  refine va_alen hx hb hK.1 hP 0 3 rfl rfl (v := nI nn) rfl dX4_more_1 ?_
  refine lv_iconst (v := 1) hx hb dX4_more_2 (by decide) ?_
  refine lv_iadd hx hb dX4_more_3 ?_
  refine W.eq (g2 := F0 m 4 ls [.int (nI (nn + 1))]) (by first | (rw [nI_1]; done) | (rw [nI_1]; rfl)) ?_
  refine xnewAA hx hb hown (hts (.classLink RX4 17 "[I") (List.mem_of_getElem? (i := 1) rfl)) hK hP hD hS hA (nI_pos (by omega)) (N := nn + 1) (nI_clamp (by omega)) (by omega) (Nat.le_of_ble_eq_true rfl) (by show 0 + (nn + 1) ≤ 7; omega) dX4_more_4 (fun q H hP hD hS => ?_)
  rw [← fst_0 (g := g)] at hP hD
  have hP : va_P D vwCl (mo cy a nn k g h r x ++ [(q, .inl (cy 3, nn + 1, .inr (.inr (.inr (.inr (fst g 0))))))]) H := hP
  have hD : va_D A (mo cy a nn k g h r x ++ [(q, .inl (cy 3, nn + 1, .inr (.inr (.inr (.inr (fst g 0))))))]) := hD
  refine W.widen (k := 1) (n := 7) (Nat.le_of_ble_eq_true rfl) (by omega) ?_
  refine lv_astore_n (lv' := [(2, .ref q), (0, .ref a), (1, .ref r)]) hx hb dX4_more_7 rfl hl (by decide) rfl (fun ls hl => ?_)
  refine lv_iconst (v := 0) hx hb dX4_more_8 (by decide) ?_
  refine lv_istore_n (lv' := [(3, .int 0), (2, .ref q), (0, .ref a), (1, .ref r)]) hx hb dX4_more_9 rfl hl (by decide) rfl (fun ls hl => ?_)
  have loop : ∀ (n i : Nat)  (H : Heap) (locs : List Loc) (ls : Array Slot), i + n = nn → va_P D vwCl (mo cy a nn k g h r x ++ [(q, .inl (cy 3, nn + 1, .inr (.inr (.inr (.inr (fst g i))))))]) H → va_D A (mo cy a nn k g h r x ++ [(q, .inl (cy 3, nn + 1, .inr (.inr (.inr (.inr (fst g i))))))]) → va_S A s.heap H locs → lv_has ls 4 [(0, .ref a), (1, .ref r), (2, .ref q), (3, .int (nI i))] → W p l e ({ frames := 0, cells := 1, slots := 7, locals := 12 } : Room) s m ([.ref a, .ref r] : List Value).toArray below meth c H locs 1 7 (MQ below (xQ D A (fun q : Nat => some (.ref q)) (fun _ => True) (fun q => mo cy a nn k g h r x ++ [(q, .inl (cy 3, nn + 1, .inr (.inr (.inr (.inr (fun i => if i < nn + 1 then some (va_up g nn r i) else none))))))])) ([.ref a, .ref r] : List Value).toArray s 1 7 A) (F0 m 10 ls []) := by
    intro n
    induction n with
    | zero =>
      intro i  H locs ls hns hP hD hS hl
      have hii : i = nn := by omega
      refine lv_iload_n hx hb dX4_more_10 rfl (lv_at hl 3 rfl) ?_
      refine lv_aload_n hx hb dX4_more_11 rfl (lv_at hl 0 rfl) ?_
      refine va_alen hx hb hK.1 hP 0 3 rfl rfl (v := nI nn) rfl dX4_more_12 ?_
      refine lv_icmp_ge (tgt := 28) hx hb dX4_more_13 (by decide) (fun _ => ?_) (fun h => absurd (by rw [hii]; exact Int32.le_refl _) h)
      rw [hii] at hP hD
      refine lv_aload_n hx hb dX4_more_28 rfl (lv_at hl 2 rfl) ?_
      refine lv_aload_n hx hb dX4_more_29 rfl (lv_at hl 0 rfl) ?_
      refine va_alen hx hb hK.1 hP 0 3 rfl rfl (v := nI nn) rfl dX4_more_30 ?_
      refine lv_aload_n hx hb dX4_more_31 rfl (lv_at hl 1 rfl) ?_
      refine xastAA hx hb hK hP hD hS (nn + 2) 1 mo_last rfl nn rfl (by omega) (by omega) dX4_more_32 (fun H locs hP hD hS => ?_)
      have hP : va_P D vwCl (mo cy a nn k g h r x ++ [(q, .inl (cy 3, nn + 1, .inr (.inr (.inr (.inr (va_up (fst g nn) nn (some r)))))))]) H := by rw [mo_set] at hP; exact hP
      have hD : va_D A (mo cy a nn k g h r x ++ [(q, .inl (cy 3, nn + 1, .inr (.inr (.inr (.inr (va_up (fst g nn) nn (some r)))))))]) := by rw [mo_set] at hD; exact hD
      refine lv_aload_n hx hb dX4_more_33 rfl (lv_at hl 2 rfl) ?_
      exact xra q hx hb hr (Or.inr ⟨_, rfl⟩) (Or.inr ⟨_, rfl⟩) hlocks hS (Nat.le_of_ble_eq_true rfl) (Nat.le_of_ble_eq_true rfl) dX4_more_34 (by rw [rows_up]; exact hP) (by rw [rows_up]; exact hD) rfl trivial
    | succ n ih =>
      intro i  H locs ls hns hP hD hS hl
      have hlt : i < nn := by omega
      refine lv_iload_n hx hb dX4_more_10 rfl (lv_at hl 3 rfl) ?_
      refine lv_aload_n hx hb dX4_more_11 rfl (lv_at hl 0 rfl) ?_
      refine va_alen hx hb hK.1 hP 0 3 rfl rfl (v := nI nn) rfl dX4_more_12 ?_
      refine lv_icmp_ge (tgt := 28) hx hb dX4_more_13 (by decide) (fun h => absurd h (nI_ge (b := nn) hlt (by omega))) (fun _ => ?_)
      refine lv_aload_n hx hb dX4_more_16 rfl (lv_at hl 2 rfl) ?_
      refine lv_iload_n hx hb dX4_more_17 rfl (lv_at hl 3 rfl) ?_
      refine lv_aload_n hx hb dX4_more_18 rfl (lv_at hl 0 rfl) ?_
      refine lv_iload_n hx hb dX4_more_19 rfl (lv_at hl 3 rfl) ?_
      refine xaldAA hx hb hK hP 0 rfl i rfl hlt (by omega) dX4_more_20 ?_
      refine W.eq (g2 := F0 m 21 ls [.ref (g i), .int (nI i), .ref q]) (by rw [if_pos hlt]; rfl) ?_
      refine xastAA hx hb hK hP hD hS (nn + 2) (i + 2) mo_last (mo_at hlt) i rfl (by omega) (by omega) dX4_more_21 (fun H locs hP hD hS => ?_)
      have hP : va_P D vwCl (mo cy a nn k g h r x ++ [(q, .inl (cy 3, nn + 1, .inr (.inr (.inr (.inr (fst g (i + 1)))))))]) H := by rw [mo_set, fst_s] at hP; exact hP
      have hD : va_D A (mo cy a nn k g h r x ++ [(q, .inl (cy 3, nn + 1, .inr (.inr (.inr (.inr (fst g (i + 1)))))))]) := by rw [mo_set, fst_s] at hD; exact hD
      refine lv_iinc (v := (nI (i + 1))) (lv' := [(3, .int (nI (i + 1))), (0, .ref a), (1, .ref r), (2, .ref q)]) hx hb dX4_more_22 hl (k := 3) rfl ((nI_1 i)) (by decide) rfl (fun ls hl => ?_)
      refine lv_goto (tgt := 10) hx hb dX4_more_25 (by decide) ?_
      exact ih (i + 1)  _ _ _ (by omega) hP hD hS (lv_sub hl [1, 2, 3, 0] rfl)
  exact loop nn 0  _ _ _ (by omega) hP hD hS (lv_sub hl [2, 3, 1, 0] rfl)
